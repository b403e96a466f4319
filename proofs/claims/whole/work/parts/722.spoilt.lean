/-! ===== spoilt hours by draws ===== -/
noncomputable def spE (e : Gh) (v : Int) : Nat → Int → Int → Int
  | 0, _, k => k
  | f + 1, z, k => spE e v f (hourD (uE e 6 z) 6) (k + if sumE (hourD (uE e 6 z)) 35 (e 4).toNat < v then 1 else 0)
theorem spE_s (e : Gh) (v : Int) (f : Nat) (z k : Int) : spE e v (f + 1) z k = spE e v f (hourD (uE e 6 z) 6) (k + if sumE (hourD (uE e 6 z)) 35 (e 4).toNat < v then 1 else 0) := rfl
theorem hourD_4 {h : Int} {e : Gh} (w : Wf h e) : hourD e 4 = e 4 := by
  unfold hourD
  rw [w.pre.1.hour.2.1, w.pre.2.1]
theorem sum_b {h : Int} {e : Gh} (w : Wf h e) : 0 ≤ sumE e 35 (e 4).toNat ∧ sumE e 35 (e 4).toNat ≤ 1000 := by
  have w4 := w.1
  have := sumE_b (e := e) (s := 35) (M := 99) (e 4).toNat (fun k hk => (w.2.2.2.2.2.2.2.2 k (by omega)).2.1)
  omega
theorem X_spoiltL_ok {x : XSt} {e : Gh} {h v : Int} {N : Nat} {post : Int32 → XSt → Prop} (r : RelC (X_now x) e) (w : Wf h e) (hh : h ≤ 900000) (hv : 0 ≤ v ∧ v ≤ 1000) (hN : N ≤ 30) : ∀ (n f i : Nat) (z k : Int) (c : CSt), f + i = N → f < n → 0 ≤ k → k ≤ i → (∀ c', post (iI (spE e v f z k)) (X_tried_ x c')) → w_X_spoilt_35 post n (X_tried_ x c) (nI N) (iI v) (iI z) (iI k) (nI i) := by
  intro n
  induction n with
  | zero => intro f i z k c _ hn; omega
  | succ n ih =>
    intro f i z k c hf hn hk hki hp
    rw [w_X_spoilt_35]
    refine t_le (a := N) (b := i) rfl rfl (fun g => ?_) (fun g => ?_)
    · have : f = 0 := by omega
      subst this
      exact hp c
    obtain ⟨g2, rfl⟩ : ∃ g, f = g + 1 := ⟨f - 1, by omega⟩
    rw [spE_s] at hp
    have wz : Wf h (uE e 6 z) := w.z z
    have w1 := wz.hourD
    have h4 : hourD (uE e 6 z) 4 = e 4 := by rw [hourD_4 wz, uE_n (by omega)]
    have sb := sum_b w1
    rw [h4] at sb
    refine C_copy_ok (p := (X_tried (X_tried_ x c), X_now (X_tried_ x c))) r w (fun c1 r1 s1 => ?_)
    refine C_hourD_ok (h := h) (by omega) s1 (r1.z z) wz (fun c2 r2 s2 => ?_)
    refine C_loads_ok r2 w1 ?_
    rw [h4]
    have hz : C_z c2 = iI (hourD (uE e 6 z) 6) := r2.2.2.2.2.2.1
    refine t_le (a := v) (b := sumE (hourD (uE e 6 z)) 35 (e 4).toNat) rfl rfl (fun l => ?_) (fun l => ?_)
    · intro y hy
      rw [if_neg (by omega), Int.add_zero] at hp
      rw [hy, nI_1, hz]
      exact ih g2 (i + 1) _ k c2 (by omega) (by omega) hk (by omega) hp
    · intro y hy y2 hy2
      rw [if_pos l] at hp
      have hy3 : y = iI (k + 1) := by rw [hy]; exact iI_add k 1
      rw [hy2, nI_1, hy3, hz]
      exact ih g2 (i + 1) _ (k + 1) c2 (by omega) (by omega) (by omega) (by omega) hp
theorem M_spoiltH_ok {m : MSt} {e : Gh} {h v : Int} {N : Nat} {post : Int32 → MSt → Prop} (t : M_still m = iI (-1)) (ha : RelD (M_aside m) e) (w : Wf h e) (hh : h ≤ 900000) (hv : 0 ≤ v ∧ v ≤ 1000) (hN : N ≤ 30) : ∀ (n f i : Nat) (z k : Int) (d : Nat → Int32), RelD d (uE e 6 z) → f + i = N → f < n → 0 ≤ k → k ≤ i → (∀ d', RelD d' e → post (iI (spE e v f z k)) (M_d_ m d')) → w_M_spoilt_29 post n (M_d_ m d) (nI N) (iI v) (iI k) (nI i) := by
  intro n
  induction n with
  | zero => intro f i z k d _ _ hn; omega
  | succ n ih =>
    intro f i z k d q hf hn hk hki hp
    rw [w_M_spoilt_29]
    refine t_le (a := N) (b := i) rfl rfl (fun g => ?_) (fun g => ?_)
    · have : f = 0 := by omega
      subst this
      exact M_putBack_ok (m := M_d_ m d) ha (fun d2 q2 => hp d2 q2)
    obtain ⟨g2, rfl⟩ : ∃ g, f = g + 1 := ⟨f - 1, by omega⟩
    rw [spE_s] at hp
    have wz : Wf h (uE e 6 z) := w.z z
    have w1 := wz.hourD
    have h4 : hourD (uE e 6 z) 4 = e 4 := by rw [hourD_4 wz, uE_n (by omega)]
    have sb := sum_b w1
    rw [h4] at sb
    refine M_hourD_ok (h := h) (by omega) t q wz (fun d1 q1 => ?_)
    rw [h4]
    have fin : ∀ (u : Int) (s1 : Int32), s1 = iI u → 0 ≤ u → u ≤ 1 → (∀ d', RelD d' e → post (iI (spE e v g2 (hourD (uE e 6 z) 6) (k + u))) (M_d_ m d')) → w_M_spoilt_49 post (w_M_spoilt_29 post n) (M_d_ m d1) (nI N) (iI v) (nI i) (iI k) s1 := by
      intro u s1 hs u0 u1 hp2
      unfold w_M_spoilt_49
      intro y9 h9
      refine M_putBack_ok (m := M_d_ m d1) ha (fun d2 q2 => ?_)
      intro y11 h11
      have hd : M_d (M_d_ m d1) 6 = iI (hourD (uE e 6 z) 6) := q1 6 (by omega)
      rw [h9, hs, iI_add, h11, nI_1, hd]
      exact ih g2 (i + 1) (hourD (uE e 6 z) 6) (k + u) _ (q2.upd 6 _) (by omega) (by omega) (by omega) (by omega) hp2
    refine t_le (a := v) (b := sumE (hourD (uE e 6 z)) 35 (e 4).toNat) rfl rfl (fun l => ?_) (fun l => ?_)
    · rw [if_neg (by omega)] at hp
      exact fin 0 0 rfl (by omega) (by omega) hp
    · rw [if_pos l] at hp
      exact fin 1 1 rfl (by omega) (by omega) hp
theorem l_spoilt {h : Int} {x : XSt} {m : MSt} {a1 a2 a3 a4 : Int32} {K : XSt → MSt → Prop} (hh : h ≤ 900000) (n : Now h x m) (hK : ∀ x' m', Now h x' m' → x'.2.2 = x.2.2 → m'.2.2 = m.2.2 → K x' m') : wpl_spoilt x m a1 a2 a3 a4 K := by
  have k0 : K x m := hK x m n rfl rfl
  obtain ⟨e, w, r, s, q, t⟩ := n
  have no : ¬ (1 ≤ a1.toInt ∧ a1.toInt ≤ 30) → wp_M_spoilt m a1 (fun v2 m1 => (-1) = v2 ∧ K x m1) := by
    intro z
    unfold wp_M_spoilt
    exact I_in (fun z2 => absurd z2 z) (fun _ => if0 ⟨rfl, k0⟩)
  unfold wpl_spoilt wp_X_spoilt
  refine t_lo (k := 1) rfl (fun h1 => no (by omega)) (fun h1 => ?_)
  refine t_hi (k := 30) rfl (fun h2 => ?_) (fun h2 => no (by omega))
  obtain ⟨N, hN, ha⟩ : ∃ N : Nat, N ≤ 30 ∧ a1 = nI N := ⟨a1.toInt.toNat, by omega, i_nat (by omega)⟩
  subst ha
  obtain ⟨w1, w2, w3⟩ := Wf.hours (s := -1) 1 w
  have sb := sum_b w1
  rw [w2] at sb
  refine X_triedCargo0_ok (N := 1) (h := h) (by omega) (by omega) r w (fun c => ?_)
  rw [show C_z (X_now (X_tried_ x c)) = iI (e 6) from r.2.2.2.2.2.1]
  refine X_spoiltL_ok (x := x) (N := N) r w hh sb hN 2000 N 0 (e 6) 0 c (by omega) (by omega) (by omega) (by omega) (fun c2 => ?_)
  unfold wp_M_spoilt
  refine I_in (fun _ => if1 ?_) (fun z => absurd ⟨h1, h2⟩ z)
  refine M_keepAside_ok q (fun a ra => ?_)
  refine M_cargo_ok (N := 1) (m := M_aside_ m a) (d := M_d m) (h := h) (s := -1) (e0 := e) (by omega) (by omega) t (by omega) q w ra (fun d1 q1 => ?_)
  refine M_spoiltH_ok (m := M_aside_ m a) (N := N) t ra w hh sb hN 2000 N 0 (e 6) 0 d1 (by rw [uE_id]; exact q1) (by omega) (by omega) (by omega) (by omega) (fun d2 q2 => ⟨rfl, ?_⟩)
  exact hK _ _ ⟨e, w, r, s, q2, t⟩ rfl rfl
