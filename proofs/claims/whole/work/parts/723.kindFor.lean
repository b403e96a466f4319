def kfV (e : Gh) (b N i : Nat) : Int := hoursE (-1) N (uE e (27 + b) i) (35 + b)
def kfE (e : Gh) (b N : Nat) : Nat → Nat → Int → Int → Int
  | 0, _, _, k => k
  | f + 1, i, v, k => if kfV e b N i ≤ v then kfE e b N f (i + 1) v k else kfE e b N f (i + 1) (kfV e b N i) i
theorem kfE_s (e : Gh) (b N f i : Nat) (v k : Int) : kfE e b N (f + 1) i v k = if kfV e b N i ≤ v then kfE e b N f (i + 1) v k else kfE e b N f (i + 1) (kfV e b N i) i := rfl
theorem kfV_b {h : Int} {e : Gh} {b N i : Nat} (w : Wf h e) (hb : (b : Int) < e 4) (hi : i < 6) : 0 ≤ kfV e b N i ∧ kfV e b N i ≤ 99 := by
  have w1 := w.kind hb (v := (i : Int)) (by omega)
  obtain ⟨w2, w3, _⟩ := Wf.hours (s := -1) N w1
  exact (w2.2.2.2.2.2.2.2.2 b (by rw [w3, uE_n (by omega)]; exact hb)).2.1
theorem X_kindForL_ok {x : XSt} {e : Gh} {h : Int} {b N : Nat} {post : Int32 → XSt → Prop} (r : RelC (X_now x) e) (w : Wf h e) (hh : h ≤ 900000) (hb : (b : Int) < e 4) (hN : N ≤ 60) : ∀ (n f i : Nat) (v k : Int) (c : CSt), f + i = 6 → f < n → -1 ≤ v ∧ v ≤ 99 → (∀ c', post (iI (kfE e b N f i v k)) (X_tried_ x c')) → w_X_kindFor_29 post n (X_tried_ x c) (nI b) (nI N) (iI v) (iI k) (nI i) := by
  intro n
  have w4 := w.1
  induction n with
  | zero => intro f i v k c _ hn; omega
  | succ n ih =>
    intro f i v k c hf hn hv hp
    rw [w_X_kindFor_29]
    refine t_le (a := 6) (b := i) rfl rfl (fun g => ?_) (fun g => ?_)
    · have : f = 0 := by omega
      subst this
      exact hp c
    obtain ⟨g2, rfl⟩ : ∃ g, f = g + 1 := ⟨f - 1, by omega⟩
    rw [kfE_s] at hp
    have vb := kfV_b (N := N) w hb (i := i) (by omega)
    have w1 := w.kind hb (v := (i : Int)) (by omega)
    refine C_copy_ok (p := (X_tried (X_tried_ x c), X_now (X_tried_ x c))) r w (fun c1 r1 s1 => ?_)
    refine ⟨vp_in_nI (by omega) (by omega), ?_⟩
    rw [nI_clamp (by omega)]
    refine X_triedFreight_ok (x := X_tried_ x (C_kind_ c1 (upd (C_kind c1) b (nI i)))) (h := h) (s := -1) (e := uE e (27 + b) i) (e0 := e) (by omega) (by omega) s1 (by omega) (r1.kind hb w4.2 (i : Int)) w1 r w (by rw [uE_n (by omega)]; exact hb) (by rw [uE_n (by omega)]) (fun c2 => ?_)
    refine t_le (a := kfV e b N i) (b := v) rfl rfl (fun l => ?_) (fun l => ?_)
    · intro y hy
      rw [if_pos l] at hp
      rw [hy, nI_1]
      exact ih g2 (i + 1) v k c2 (by omega) (by omega) hv hp
    · intro y hy
      rw [if_neg (by omega)] at hp
      rw [hy, nI_1]
      exact ih g2 (i + 1) (kfV e b N i) i c2 (by omega) (by omega) (by omega) hp
theorem M_kindForL_ok {m : MSt} {e : Gh} {h : Int} {b N : Nat} {post : Int32 → MSt → Prop} (t : M_still m = iI (-1)) (ha : RelD (M_aside m) e) (w : Wf h e) (hh : h ≤ 900000) (hb : (b : Int) < e 4) (hN : N ≤ 60) : ∀ (n f i : Nat) (v k : Int) (d : Nat → Int32), RelD d e → f + i = 6 → f < n → -1 ≤ v ∧ v ≤ 99 → (∀ d', RelD d' e → post (iI (kfE e b N f i v k)) (M_d_ m d')) → w_M_kindFor_29 post n (M_d_ m d) (nI b) (nI N) (iI k) (iI v) (nI i) := by
  intro n
  have w4 := w.1
  induction n with
  | zero => intro f i v k d _ _ hn; omega
  | succ n ih =>
    intro f i v k d q hf hn hv hp
    rw [w_M_kindFor_29]
    refine t_le (a := 6) (b := i) rfl rfl (fun g => ?_) (fun g => ?_)
    · have : f = 0 := by omega
      subst this
      exact hp d q
    obtain ⟨g2, rfl⟩ : ∃ g, f = g + 1 := ⟨f - 1, by omega⟩
    rw [kfE_s] at hp
    have vb := kfV_b (N := N) w hb (i := i) (by omega)
    have w1 := w.kind hb (v := (i : Int)) (by omega)
    refine M_puts_ok (w := 0) (m := M_d_ m d) (v := (i : Int)) q (by omega) (by omega) (fun d1 q1 => ?_)
    unfold wp_M_loadOf
    rw [show (35 : Int32) = nI 35 from rfl, nI_add]
    refine M_behind_ok (m := m) (d := d1) (h := h) (s := -1) (e := uE e (27 + b) i) (e0 := e) (by omega) (by omega) t (by omega) q1 w1 (by omega) ha (fun d2 q2 => ?_)
    refine t_le (a := kfV e b N i) (b := v) rfl rfl (fun l => ?_) (fun l => ?_)
    · intro y hy
      rw [if_pos l] at hp
      rw [hy, nI_1]
      exact ih g2 (i + 1) v k d2 q2 (by omega) (by omega) hv hp
    · intro y hy
      rw [if_neg (by omega)] at hp
      rw [hy, nI_1]
      exact ih g2 (i + 1) (kfV e b N i) i d2 q2 (by omega) (by omega) (by omega) hp
