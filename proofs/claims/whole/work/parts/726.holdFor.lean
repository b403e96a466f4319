theorem X_triedCargoH_ok {h s : Int} {x : XSt} {e : Gh} {N : Nat} {post : Int32 → XSt → Prop} (hN : N ≤ 1000) (hh : h + N ≤ 1000000) (hs : -1 ≤ s ∧ s ≤ 8) (hr : RelC (X_now x) e) (w : Wf h e) (hp : ∀ c, post (iI (sumE (hoursE s N e) 35 (e 4).toNat)) (X_tried_ x c)) : wp_X_triedCargo x (nI N) 0 (iI s) post := by
  unfold wp_X_triedCargo
  refine C_copy_ok hr w (fun c1 r1 s1 => ?_)
  unfold wp_C_still
  refine C_still0_ok ?_ 2000 0 (by omega) (by omega)
  obtain ⟨w1, w2, w3⟩ := Wf.hours (s := s) N w
  refine C_passHours_ok (s := s) (N := N) (h := h) hN hh rfl hs (e := e) r1 w (fun c2 r2 s2 => ?_)
  refine C_loads_ok r2 w1 ?_
  rw [w2]
  exact hp c2
def hfV (e : Gh) (N i : Nat) : Int := sumE (hoursE i N e) 35 (e 4).toNat
def hfE (e : Gh) (N : Nat) : Nat → Nat → Int → Int → Int
  | 0, _, _, k => k
  | f + 1, i, v, k => if hfV e N i ≤ v then hfE e N f (i + 1) v k else hfE e N f (i + 1) (hfV e N i) i
theorem hfE_s (e : Gh) (N f i : Nat) (v k : Int) : hfE e N (f + 1) i v k = if hfV e N i ≤ v then hfE e N f (i + 1) v k else hfE e N f (i + 1) (hfV e N i) i := rfl
theorem sumH_b {h s : Int} {e : Gh} {N : Nat} (w : Wf h e) : 0 ≤ sumE (hoursE s N e) 35 (e 4).toNat ∧ sumE (hoursE s N e) 35 (e 4).toNat ≤ 1000 := by
  obtain ⟨w1, w2, w3⟩ := Wf.hours (s := s) N w
  have := sum_b w1
  rw [w2] at this
  exact this
theorem X_holdForL_ok {x : XSt} {e : Gh} {h : Int} {N : Nat} {post : Int32 → XSt → Prop} (r : RelC (X_now x) e) (w : Wf h e) (hh : h ≤ 900000) (hN : N ≤ 60) : ∀ (n f i : Nat) (v k : Int) (c : CSt), f + i = (e 4).toNat → f < n → 0 ≤ v ∧ v ≤ 1000 → (∀ c', post (iI (hfE e N f i v k)) (X_tried_ x c')) → w_X_holdFor_27 post n (X_tried_ x c) (nI N) (iI v) (iI k) (nI i) := by
  intro n
  have w4 := w.1
  induction n with
  | zero => intro f i v k c _ hn; omega
  | succ n ih =>
    intro f i v k c hf hn hv hp
    rw [w_X_holdFor_27]
    refine t_le (a := e 4) (b := i) r.2.2.2.1 rfl (fun g => ?_) (fun g => ?_)
    · have : f = 0 := by omega
      subst this
      exact hp c
    obtain ⟨g2, rfl⟩ : ∃ g, f = g + 1 := ⟨f - 1, by omega⟩
    rw [hfE_s] at hp
    have vb : 0 ≤ hfV e N i ∧ hfV e N i ≤ 1000 := sumH_b w
    refine X_triedCargoH_ok (x := X_tried_ x c) (s := (i : Int)) (h := h) (by omega) (by omega) (by omega) r w (fun c2 => ?_)
    refine t_le (a := hfV e N i) (b := v) rfl rfl (fun l => ?_) (fun l => ?_)
    · intro y hy
      rw [if_pos l] at hp
      rw [hy, nI_1]
      exact ih g2 (i + 1) v k c2 (by omega) (by omega) hv hp
    · intro y hy
      rw [if_neg (by omega)] at hp
      rw [hy, nI_1]
      exact ih g2 (i + 1) (hfV e N i) i c2 (by omega) (by omega) vb hp
theorem M_holdForL_ok {m : MSt} {e : Gh} {h : Int} {N : Nat} {post : Int32 → MSt → Prop} (ha : RelD (M_aside m) e) (w : Wf h e) (hh : h ≤ 900000) (hN : N ≤ 60) : ∀ (n f i : Nat) (v k : Int) (d : Nat → Int32) (s : Int32), RelD d e → f + i = (e 4).toNat → f < n → 0 ≤ v ∧ v ≤ 1000 → (∀ d', RelD d' e → post (iI (hfE e N f i v k)) (M_still_ (M_d_ m d') (-1))) → w_M_holdFor_25 post n (M_still_ (M_d_ m d) s) (nI N) (iI k) (iI v) (nI i) := by
  intro n
  have w4 := w.1
  induction n with
  | zero => intro f i v k d s _ _ hn; omega
  | succ n ih =>
    intro f i v k d s q hf hn hv hp
    rw [w_M_holdFor_25]
    refine t_le (a := e 4) (b := i) (q 4 (by omega)) rfl (fun g => ?_) (fun g => ?_)
    · have : f = 0 := by omega
      subst this
      exact hp d q
    obtain ⟨g2, rfl⟩ : ∃ g, f = g + 1 := ⟨f - 1, by omega⟩
    rw [hfE_s] at hp
    have vb : 0 ≤ hfV e N i ∧ hfV e N i ≤ 1000 := sumH_b w
    refine M_cargo_ok (m := M_still_ (M_d_ m d) (nI i)) (d := d) (s := (i : Int)) (h := h) (e0 := e) (by omega) (by omega) rfl (by omega) q w ha (fun d2 q2 => ?_)
    refine t_le (a := hfV e N i) (b := v) rfl rfl (fun l => ?_) (fun l => ?_)
    · intro y hy
      rw [if_pos l] at hp
      rw [hy, nI_1]
      exact ih g2 (i + 1) v k d2 (nI i) q2 (by omega) (by omega) hv hp
    · intro y hy
      rw [if_neg (by omega)] at hp
      rw [hy, nI_1]
      exact ih g2 (i + 1) (hfV e N i) i d2 (nI i) q2 (by omega) (by omega) vb hp
theorem M_still_id {m : MSt} {v : Int32} (t : M_still m = v) : M_still_ m v = m := by
  subst t; rfl
theorem l_holdFor {h : Int} {x : XSt} {m : MSt} {a1 a2 a3 a4 : Int32} {K : XSt → MSt → Prop} (hh : h ≤ 900000) (n : Now h x m) (hK : ∀ x' m', Now h x' m' → x'.2.2 = x.2.2 → m'.2.2 = m.2.2 → K x' m') : wpl_holdFor x m a1 a2 a3 a4 K := by
  have k0 : K x m := hK x m n rfl rfl
  obtain ⟨e, w, r, s, q, t⟩ := n
  have w4 := w.1
  have no : ¬ (1 ≤ a1.toInt ∧ a1.toInt ≤ 30) → wp_M_holdFor m a1 (fun v2 m1 => (-1) = v2 ∧ K x m1) := by
    intro P
    unfold wp_M_holdFor
    exact M_short_ok (fun z2 => absurd z2 P) (fun _ => if0 ⟨rfl, k0⟩)
  unfold wpl_holdFor wp_X_holdFor
  refine t_lo (k := 1) rfl (fun h1 => no (by omega)) (fun h1 => ?_)
  refine t_hi (k := 30) rfl (fun h2 => ?_) (fun h2 => no (by omega))
  obtain ⟨N, hN, ha⟩ : ∃ N : Nat, N ≤ 30 ∧ a1 = nI N := ⟨a1.toInt.toNat, by omega, i_nat (by omega)⟩
  subst ha
  have vb := sumH_b (s := -1) (N := N) w
  refine X_triedCargo0_ok (h := h) (by omega) (by omega) r w (fun c0 => ?_)
  refine X_holdForL_ok (x := x) (N := N) r w hh (by omega) 2000 (e 4).toNat 0 (sumE (hoursE (-1) N e) 35 (e 4).toNat) (-3) c0 (by omega) (by omega) vb (fun c => ?_)
  unfold wp_M_holdFor
  refine M_short_ok (fun _ => if1 ?_) (fun z => absurd ⟨h1, h2⟩ z)
  refine M_keepAside_ok q (fun a ra => ?_)
  refine M_cargo_ok (m := M_aside_ m a) (d := M_d m) (h := h) (e0 := e) (s := -1) (by omega) (by omega) t (by omega) q w ra (fun d0 q0 => ?_)
  have ms : M_d_ (M_aside_ m a) d0 = M_still_ (M_d_ (M_aside_ m a) d0) (M_still m) := rfl
  rw [ms]
  refine M_holdForL_ok (m := M_aside_ m a) (N := N) ra w hh (by omega) 2000 (e 4).toNat 0 (sumE (hoursE (-1) N e) 35 (e 4).toNat) (-3) d0 (M_still m) q0 (by omega) (by omega) vb (fun d1 q1 => ?_)
  refine ⟨rfl, ?_⟩
  rw [M_still_id (m := M_d_ (M_aside_ m a) d1) (v := -1) t]
  exact hK _ _ ⟨e, w, r, s, q1, t⟩ rfl rfl
