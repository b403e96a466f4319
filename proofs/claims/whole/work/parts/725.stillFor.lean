def sfV (e : Gh) (b N i : Nat) : Int := hoursE (-1) N (uE e (7 + i) 0) (35 + b)
def sfE (e : Gh) (b N : Nat) : Nat → Nat → Int → Int → Int
  | 0, _, _, k => k
  | f + 1, i, v, k => if sfV e b N i ≤ v then sfE e b N f (i + 1) v k else sfE e b N f (i + 1) (sfV e b N i) i
theorem sfE_s (e : Gh) (b N f i : Nat) (v k : Int) : sfE e b N (f + 1) i v k = if sfV e b N i ≤ v then sfE e b N f (i + 1) v k else sfE e b N f (i + 1) (sfV e b N i) i := rfl
theorem hrs_b {h : Int} {e : Gh} {b N : Nat} (w : Wf h e) (hb : (b : Int) < e 4) : 0 ≤ hoursE (-1) N e (35 + b) ∧ hoursE (-1) N e (35 + b) ≤ 99 := by
  obtain ⟨w2, w3, _⟩ := Wf.hours (s := -1) N w
  exact (w2.2.2.2.2.2.2.2.2 b (by rw [w3]; exact hb)).2.1
theorem X_stillForL_ok {x : XSt} {e : Gh} {h : Int} {b N : Nat} {post : Int32 → XSt → Prop} (r : RelC (X_now x) e) (w : Wf h e) (hh : h ≤ 900000) (hb : (b : Int) < e 4) (hN : N ≤ 60) : ∀ (n f i : Nat) (v k : Int) (c : CSt), f + i = 10 → f < n → -1 ≤ v ∧ v ≤ 99 → (∀ c', post (iI (sfE e b N f i v k)) (X_tried_ x c')) → w_X_stillFor_46 post n (X_tried_ x c) (nI b) (nI N) (iI v) (iI k) (nI i) := by
  intro n
  have w4 := w.1
  induction n with
  | zero => intro f i v k c _ hn; omega
  | succ n ih =>
    intro f i v k c hf hn hv hp
    rw [w_X_stillFor_46]
    refine t_le (a := 10) (b := i) rfl rfl (fun g => ?_) (fun g => ?_)
    · have : f = 0 := by omega
      subst this
      exact hp c
    obtain ⟨g2, rfl⟩ : ∃ g, f = g + 1 := ⟨f - 1, by omega⟩
    rw [sfE_s] at hp
    have w1 := w.noise (l := i) (by omega) (v := 0) (by omega)
    have vb : 0 ≤ sfV e b N i ∧ sfV e b N i ≤ 99 := hrs_b w1 (by rw [uE_n (by omega)]; exact hb)
    refine C_copy_ok (p := (X_tried (X_tried_ x c), X_now (X_tried_ x c))) r w (fun c1 r1 s1 => ?_)
    refine ⟨vp_in_nI (by omega) (by omega), ?_⟩
    rw [nI_clamp (by omega)]
    refine X_triedFreight_ok (x := X_tried_ x (C_noise_ c1 (upd (C_noise c1) i 0))) (h := h) (s := -1) (e := uE e (7 + i) 0) (e0 := e) (by omega) (by omega) s1 (by omega) (r1.noise (by omega) w4.2 0) w1 r w (by rw [uE_n (by omega)]; exact hb) (by rw [uE_n (by omega)]) (fun c2 => ?_)
    refine t_le (a := sfV e b N i) (b := v) rfl rfl (fun l => ?_) (fun l => ?_)
    · intro y hy
      rw [if_pos l] at hp
      rw [hy, nI_1]
      exact ih g2 (i + 1) v k c2 (by omega) (by omega) hv hp
    · intro y hy
      rw [if_neg (by omega)] at hp
      rw [hy, nI_1]
      exact ih g2 (i + 1) (sfV e b N i) i c2 (by omega) (by omega) (by omega) hp
theorem M_stillForL_ok {m : MSt} {e : Gh} {h : Int} {b N : Nat} {post : Int32 → MSt → Prop} (t : M_still m = iI (-1)) (ha : RelD (M_aside m) e) (w : Wf h e) (hh : h ≤ 900000) (hb : (b : Int) < e 4) (hN : N ≤ 60) : ∀ (n f i : Nat) (v k : Int) (d : Nat → Int32), RelD d e → f + i = 10 → f < n → -1 ≤ v ∧ v ≤ 99 → (∀ d', RelD d' e → post (iI (sfE e b N f i v k)) (M_d_ m d')) → w_M_stillFor_38 post n (M_d_ m d) (nI b) (nI N) (iI k) (iI v) (nI i) := by
  intro n
  have w4 := w.1
  induction n with
  | zero => intro f i v k d _ _ hn; omega
  | succ n ih =>
    intro f i v k d q hf hn hv hp
    rw [w_M_stillFor_38]
    refine t_le (a := 10) (b := i) rfl rfl (fun g => ?_) (fun g => ?_)
    · have : f = 0 := by omega
      subst this
      exact hp d q
    obtain ⟨g2, rfl⟩ : ∃ g, f = g + 1 := ⟨f - 1, by omega⟩
    rw [sfE_s] at hp
    have w1 := w.noise (l := i) (by omega) (v := 0) (by omega)
    have vb : 0 ≤ sfV e b N i ∧ sfV e b N i ≤ 99 := hrs_b w1 (by rw [uE_n (by omega)]; exact hb)
    intro y8 h8
    rw [show (7 : Int32) = nI 7 from rfl, nI_add] at h8
    rw [h8]
    refine ⟨vp_in_nI (by omega) (by omega), ?_⟩
    rw [nI_clamp (by omega)]
    unfold wp_M_loadOf
    rw [show (35 : Int32) = nI 35 from rfl, nI_add]
    refine M_behind_ok (m := m) (d := upd d (7 + i) (iI 0)) (h := h) (s := -1) (e := uE e (7 + i) 0) (e0 := e) (by omega) (by omega) t (by omega) (q.upd (7 + i) 0) w1 (by omega) ha (fun d2 q2 => ?_)
    refine t_le (a := sfV e b N i) (b := v) rfl rfl (fun l => ?_) (fun l => ?_)
    · intro y hy
      rw [if_pos l] at hp
      rw [hy, nI_1]
      exact ih g2 (i + 1) v k d2 q2 (by omega) (by omega) hv hp
    · intro y hy
      rw [if_neg (by omega)] at hp
      rw [hy, nI_1]
      exact ih g2 (i + 1) (sfV e b N i) i d2 q2 (by omega) (by omega) (by omega) hp
theorem l_stillFor {h : Int} {x : XSt} {m : MSt} {a1 a2 a3 a4 : Int32} {K : XSt → MSt → Prop} (hh : h ≤ 900000) (n : Now h x m) (hK : ∀ x' m', Now h x' m' → x'.2.2 = x.2.2 → m'.2.2 = m.2.2 → K x' m') : wpl_stillFor x m a1 a2 a3 a4 K := by
  have k0 : K x m := hK x m n rfl rfl
  obtain ⟨e, w, r, s, q, t⟩ := n
  have w4 := w.1
  have no : ¬ ((0 ≤ a1.toInt ∧ a1.toInt < e 4) ∧ (1 ≤ a2.toInt ∧ a2.toInt ≤ 30)) → wp_M_stillFor m a1 a2 (fun v2 m1 => (-1) = v2 ∧ K x m1) := by
    intro P
    unfold wp_M_stillFor
    exact M_barge_ok q w (fun z1 => if1 (M_short_ok (fun z2 => absurd ⟨z1, z2⟩ P) (fun _ => if0 ⟨rfl, k0⟩))) (fun _ => if0 ⟨rfl, k0⟩)
  unfold wpl_stillFor wp_X_stillFor
  refine X_barge_ok r w (fun z1 => if1 ?_) (fun z1 => if0 (no (fun z => z1 z.1)))
  refine t_lo (k := 1) rfl (fun h1 => no (by omega)) (fun h1 => ?_)
  refine t_hi (k := 30) rfl (fun h2 => ?_) (fun h2 => no (by omega))
  obtain ⟨b, hb, hb8, ha⟩ := bg_of w z1
  obtain ⟨N, hN, ha2⟩ : ∃ N : Nat, N ≤ 30 ∧ a2 = nI N := ⟨a2.toInt.toNat, by omega, i_nat (by omega)⟩
  subst ha
  subst ha2
  have vb := hrs_b (N := N) w hb
  refine C_copy_ok r w (fun c1 r1 s1 => ?_)
  refine X_triedFreight_ok (h := h) (s := -1) (e := e) (e0 := e) (by omega) (by omega) s1 (by omega) r1 w r w hb rfl (fun c0 => ?_)
  refine X_stillForL_ok (x := x) (N := N) r w hh hb (by omega) 2000 10 0 (hoursE (-1) N e (35 + b)) (-3) c0 (by omega) (by omega) (by omega) (fun c => ?_)
  unfold wp_M_stillFor
  refine M_barge_ok q w (fun _ => if1 (M_short_ok (fun _ => if1 ?_) (fun z => absurd ⟨h1, h2⟩ z))) (fun z => absurd z1 z)
  refine M_keepAside_ok q (fun a ra => ?_)
  unfold wp_M_loadOf
  rw [show (35 : Int32) = nI 35 from rfl, nI_add]
  refine M_behind_ok (m := M_aside_ m a) (d := M_d m) (h := h) (s := -1) (e := e) (e0 := e) (by omega) (by omega) t (by omega) q w hb8 ra (fun d0 q0 => ?_)
  refine M_stillForL_ok (m := M_aside_ m a) (N := N) t ra w hh hb (by omega) 2000 10 0 (hoursE (-1) N e (35 + b)) (-3) d0 q0 (by omega) (by omega) (by omega) (fun d1 q1 => ?_)
  exact ⟨rfl, hK _ _ ⟨e, w, r, s, q1, t⟩ rfl rfl⟩
