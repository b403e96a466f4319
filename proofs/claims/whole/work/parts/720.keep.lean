/-! ===== keep and again ===== -/
def Kept (h : Int) (x : XSt) (m : MSt) : Prop := X_isKept x = M_isKept m ∧ (¬ X_isKept x = 0 → ∃ e, Wf h e ∧ RelC (X_kept x) e ∧ RelD (M_kept m) e)
theorem Kept.mono {h h' : Int} {x : XSt} {m : MSt} (n : Kept h x m) (q : h ≤ h') : Kept h' x m := by
  refine ⟨n.1, fun z => ?_⟩
  obtain ⟨e, w, r⟩ := n.2 z
  exact ⟨e, w.mono q, r⟩
theorem M_keepL_ok {e : Gh} {post : Int32 → MSt → Prop} : ∀ (n k : Nat) (m : MSt), RelD (M_d m) e → (∀ j, j < k → M_kept m j = iI (e j)) → k ≤ 67 → 67 - k < n → (∀ f, RelD f e → post 1 (M_isKept_ (M_kept_ m f) 1)) → w_M_keep_2 post n m (nI k) := by
  intro n
  induction n with
  | zero => intro k m _ _ _ hn; omega
  | succ n ih =>
    intro k m hr hk hk2 hn hp
    rw [w_M_keep_2]
    refine t_le (a := 67) (b := k) rfl rfl (fun z => ?_) (fun z => ?_)
    · have : k = 67 := by omega
      subst this
      exact hp (M_kept m) hk
    · refine ⟨vp_in_nI (by omega) (by omega), vp_in_nI (by omega) (by omega), ?_⟩
      intro y hy
      rw [hy, nI_1, nI_clamp (by omega)]
      refine ih (k + 1) _ hr (fun j hj => ?_) (by omega) (by omega) hp
      show upd (M_kept m) k (M_d m k) j = _
      by_cases g : j = k
      · subst g
        rw [upd_s]
        exact hr j (by omega)
      · rw [upd_n g]
        exact hk j (by omega)
theorem M_againL_ok {e : Gh} {post : Int32 → MSt → Prop} : ∀ (n k : Nat) (m : MSt), RelD (M_kept m) e → (∀ j, j < k → M_d m j = iI (e j)) → k ≤ 67 → 67 - k < n → (∀ f, RelD f e → post (iI (e 4)) (M_d_ m f)) → w_M_again_12 post n m (nI k) := by
  intro n
  induction n with
  | zero => intro k m _ _ _ hn; omega
  | succ n ih =>
    intro k m hr hk hk2 hn hp
    rw [w_M_again_12]
    refine t_le (a := 67) (b := k) rfl rfl (fun z => ?_) (fun z => ?_)
    · have : k = 67 := by omega
      subst this
      rw [hk 4 (by omega)]
      exact hp (M_d m) hk
    · refine ⟨vp_in_nI (by omega) (by omega), vp_in_nI (by omega) (by omega), ?_⟩
      intro y hy
      rw [hy, nI_1, nI_clamp (by omega)]
      refine ih (k + 1) _ hr (fun j hj => ?_) (by omega) (by omega) hp
      show upd (M_d m) k (M_kept m k) j = _
      by_cases g : j = k
      · subst g
        rw [upd_s]
        exact hr j (by omega)
      · rw [upd_n g]
        exact hk j (by omega)
theorem l_keep {h : Int} {x : XSt} {m : MSt} {a1 a2 a3 a4 : Int32} {K : XSt → MSt → Prop} (n : Now h x m) (hK : ∀ x' m', Now h x' m' → Kept h x' m' → x'.2.2.2.2 = x.2.2.2.2 → m'.2.2.2.2 = m.2.2.2.2 → K x' m') : wpl_keep x m a1 a2 a3 a4 K := by
  obtain ⟨e, w, r, s, q, t⟩ := n
  unfold wpl_keep wp_X_keep
  refine C_copy_ok r w (fun c1 r1 s1 => ?_)
  unfold wp_M_keep
  refine M_keepL_ok 2000 0 m q (fun j hj => by omega) (by omega) (by omega) (fun f qf => ⟨rfl, ?_⟩)
  exact hK _ _ ⟨e, w, r, s, q, t⟩ ⟨rfl, fun _ => ⟨e, w, r1, qf⟩⟩ rfl rfl
theorem l_again {h : Int} {x : XSt} {m : MSt} {a1 a2 a3 a4 : Int32} {K : XSt → MSt → Prop} (n : Now h x m) (kp : Kept h x m) (hK : ∀ x' m', Now h x' m' → x'.2.2 = x.2.2 → m'.2.2 = m.2.2 → K x' m') : wpl_again x m a1 a2 a3 a4 K := by
  have k0 : K x m := hK x m n rfl rfl
  obtain ⟨e0, w0, r0, s0, q0, t⟩ := n
  obtain ⟨k1, k2⟩ := kp
  unfold wpl_again wp_X_again
  refine ⟨fun z => ?_, fun z => ?_⟩
  · unfold wp_M_again
    exact ifp (by rw [← k1]; exact z) ⟨rfl, k0⟩
  · obtain ⟨e, w, r, q⟩ := k2 z
    refine C_copy_ok r w (fun c1 r1 s1 => ?_)
    unfold wp_M_again
    refine ifn (by rw [← k1]; exact z) ?_
    refine M_againL_ok 2000 0 m q (fun j hj => by omega) (by omega) (by omega) (fun f qf => ⟨r1.2.2.2.1, ?_⟩)
    exact hK _ _ ⟨e, w, r1, s1, qf, t⟩ rfl rfl
