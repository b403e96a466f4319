theorem Wf.kind {h : Int} {e : Gh} (w : Wf h e) {b : Nat} (hb : (b : Int) < e 4) {v : Int} (hv : 0 ≤ v ∧ v ≤ 5) : Wf h (uE e (27 + b) v) := by
  have h4 := w.1
  unfold Wf bgE at *
  obtain ⟨a0, a1, a2, a3, a4, a5, a6, a7, a8⟩ := w
  refine ⟨by rw [uE_n (by omega)]; exact a0, by rw [uE_n (by omega)]; exact a1, by rw [uE_n (by omega)]; exact a2, by rw [uE_n (by omega)]; exact a3, by rw [uE_n (by omega)]; exact a4, by rw [uE_n (by omega)]; exact a5, fun k hk => by rw [uE_n (by omega)]; exact a6 k hk, fun k hk => by rw [uE_n (by omega)]; exact a7 k hk, fun k hk => ?_⟩
  rw [uE_n (by omega)] at hk
  obtain ⟨b1, b2, b3, b4, b5⟩ := a8 k hk
  by_cases q : k = b
  · subst q
    refine ⟨?_, ?_, ?_, ?_, ?_⟩ <;> first | (rw [uE_s]; exact hv) | (rw [uE_n (by omega)]; assumption)
  · refine ⟨?_, ?_, ?_, ?_, ?_⟩ <;> (rw [uE_n (by omega)]; assumption)
theorem Wf.sort {h : Int} {e : Gh} (w : Wf h e) {b : Nat} (hb : (b : Int) < e 4) {v : Int} (hv : 0 ≤ v ∧ v ≤ 1) : Wf h (uE e (43 + b) v) := by
  have h4 := w.1
  unfold Wf bgE at *
  obtain ⟨a0, a1, a2, a3, a4, a5, a6, a7, a8⟩ := w
  refine ⟨by rw [uE_n (by omega)]; exact a0, by rw [uE_n (by omega)]; exact a1, by rw [uE_n (by omega)]; exact a2, by rw [uE_n (by omega)]; exact a3, by rw [uE_n (by omega)]; exact a4, by rw [uE_n (by omega)]; exact a5, fun k hk => by rw [uE_n (by omega)]; exact a6 k hk, fun k hk => by rw [uE_n (by omega)]; exact a7 k hk, fun k hk => ?_⟩
  rw [uE_n (by omega)] at hk
  obtain ⟨b1, b2, b3, b4, b5⟩ := a8 k hk
  by_cases q : k = b
  · subst q
    refine ⟨?_, ?_, ?_, ?_, ?_⟩ <;> first | (rw [uE_s]; exact hv) | (rw [uE_n (by omega)]; assumption)
  · refine ⟨?_, ?_, ?_, ?_, ?_⟩ <;> (rw [uE_n (by omega)]; assumption)
theorem Wf.at {h : Int} {e : Gh} (w : Wf h e) {b : Nat} (hb : (b : Int) < e 4) {v : Int} (hv : 0 ≤ v ∧ v ≤ 9) : Wf h (uE e (51 + b) v) := by
  have h4 := w.1
  unfold Wf bgE at *
  obtain ⟨a0, a1, a2, a3, a4, a5, a6, a7, a8⟩ := w
  refine ⟨by rw [uE_n (by omega)]; exact a0, by rw [uE_n (by omega)]; exact a1, by rw [uE_n (by omega)]; exact a2, by rw [uE_n (by omega)]; exact a3, by rw [uE_n (by omega)]; exact a4, by rw [uE_n (by omega)]; exact a5, fun k hk => by rw [uE_n (by omega)]; exact a6 k hk, fun k hk => by rw [uE_n (by omega)]; exact a7 k hk, fun k hk => ?_⟩
  rw [uE_n (by omega)] at hk
  obtain ⟨b1, b2, b3, b4, b5⟩ := a8 k hk
  by_cases q : k = b
  · subst q
    refine ⟨?_, ?_, ?_, ?_, ?_⟩ <;> first | (rw [uE_s]; exact hv) | (rw [uE_n (by omega)]; assumption)
  · refine ⟨?_, ?_, ?_, ?_, ?_⟩ <;> (rw [uE_n (by omega)]; assumption)
theorem Wf.bound {h : Int} {e : Gh} (w : Wf h e) {b : Nat} (hb : (b : Int) < e 4) {v : Int} (hv : 0 ≤ v ∧ v ≤ 9) : Wf h (uE e (59 + b) v) := by
  have h4 := w.1
  unfold Wf bgE at *
  obtain ⟨a0, a1, a2, a3, a4, a5, a6, a7, a8⟩ := w
  refine ⟨by rw [uE_n (by omega)]; exact a0, by rw [uE_n (by omega)]; exact a1, by rw [uE_n (by omega)]; exact a2, by rw [uE_n (by omega)]; exact a3, by rw [uE_n (by omega)]; exact a4, by rw [uE_n (by omega)]; exact a5, fun k hk => by rw [uE_n (by omega)]; exact a6 k hk, fun k hk => by rw [uE_n (by omega)]; exact a7 k hk, fun k hk => ?_⟩
  rw [uE_n (by omega)] at hk
  obtain ⟨b1, b2, b3, b4, b5⟩ := a8 k hk
  by_cases q : k = b
  · subst q
    refine ⟨?_, ?_, ?_, ?_, ?_⟩ <;> first | (rw [uE_s]; exact hv) | (rw [uE_n (by omega)]; assumption)
  · refine ⟨?_, ?_, ?_, ?_, ?_⟩ <;> (rw [uE_n (by omega)]; assumption)
theorem Wf.noise {h : Int} {e : Gh} (w : Wf h e) {l : Nat} (hl : l < 10) {v : Int} (hv : 0 ≤ v ∧ v ≤ 9) : Wf h (uE e (7 + l) v) := by
  have h4 := w.1
  unfold Wf bgE at *
  obtain ⟨a0, a1, a2, a3, a4, a5, a6, a7, a8⟩ := w
  refine ⟨by rw [uE_n (by omega)]; exact a0, by rw [uE_n (by omega)]; exact a1, by rw [uE_n (by omega)]; exact a2, by rw [uE_n (by omega)]; exact a3, by rw [uE_n (by omega)]; exact a4, by rw [uE_n (by omega)]; exact a5, fun k hk => ?_, fun k hk => by rw [uE_n (by omega)]; exact a7 k hk, fun k hk => ?_⟩
  · by_cases q : k = l
    · subst q
      rw [uE_s]
      exact hv
    · rw [uE_n (by omega)]
      exact a6 k hk
  · rw [uE_n (by omega)] at hk
    obtain ⟨b1, b2, b3, b4, b5⟩ := a8 k hk
    refine ⟨?_, ?_, ?_, ?_, ?_⟩ <;> (rw [uE_n (by omega)]; assumption)
theorem X_barge_ok {h : Int} {x : XSt} {e : Gh} {a : Int32} {post : Int32 → XSt → Prop} (r : RelC (X_now x) e) (w : Wf h e) (h1 : 0 ≤ a.toInt ∧ a.toInt < e 4 → post 1 x) (h0 : ¬ (0 ≤ a.toInt ∧ a.toInt < e 4) → post 0 x) : wp_X_isBarge x a post := by
  have w4 := w.1
  unfold wp_X_isBarge
  refine t_lo (k := 0) rfl (fun z => h0 (by omega)) (fun z => ?_)
  refine t_le (a := e 4) (b := a.toInt) r.2.2.2.1 (iI_of a).symm (fun z => h0 (by omega)) (fun z => ?_) (by omega) (i32b a)
  exact t_le (a := 8) (b := a.toInt) rfl (iI_of a).symm (fun z => by omega) (fun z => h1 (by omega)) (by omega) (i32b a)
theorem M_barge_ok {h : Int} {m : MSt} {e : Gh} {a : Int32} {post : Int32 → MSt → Prop} (q : RelD (M_d m) e) (w : Wf h e) (h1 : 0 ≤ a.toInt ∧ a.toInt < e 4 → post 1 m) (h0 : ¬ (0 ≤ a.toInt ∧ a.toInt < e 4) → post 0 m) : wp_M_isBarge m a post := by
  have w4 := w.1
  unfold wp_M_isBarge
  intro y1 e1 y2 e2
  have t : y2.toInt = e 4 - 1 := by
    rw [e2, q 4 (by omega), show (1 : Int32) = iI 1 from rfl, iI_sub, Int32.toInt_toInt64, iI_toInt (by omega) (by omega)]
  have z0 : (0 : Int64).toInt = 0 := rfl
  exact I_in (a := a) (fun z => ⟨nb1, h1 (by rw [t, z0] at z; omega)⟩) (fun z => ⟨nb0, h0 (by rw [t, z0] at z; omega)⟩) y1 e1
theorem X_lock_ok {a : Int32} {post : Int32 → Prop} (h1 : 0 ≤ a.toInt ∧ a.toInt ≤ 9 → post 1) (h0 : ¬ (0 ≤ a.toInt ∧ a.toInt ≤ 9) → post 0) : wp_X_isLock a post := by
  unfold wp_X_isLock
  refine t_lo (k := 0) rfl (fun z => h0 (by omega)) (fun z => ?_)
  exact t_le (a := 10) (b := a.toInt) rfl (iI_of a).symm (fun z => h0 (by omega)) (fun z => h1 (by omega)) (by omega) (i32b a)
theorem X_kind_ok {a : Int32} {post : Int32 → Prop} (h1 : 0 ≤ a.toInt ∧ a.toInt ≤ 5 → post 1) (h0 : ¬ (0 ≤ a.toInt ∧ a.toInt ≤ 5) → post 0) : wp_X_isKind a post := by
  unfold wp_X_isKind
  refine t_lo (k := 0) rfl (fun z => h0 (by omega)) (fun z => ?_)
  exact t_le (a := 6) (b := a.toInt) rfl (iI_of a).symm (fun z => h0 (by omega)) (fun z => h1 (by omega)) (by omega) (i32b a)
theorem X_load_ok {a : Int32} {post : Int32 → Prop} (h1 : 0 ≤ a.toInt ∧ a.toInt ≤ 99 → post 1) (h0 : ¬ (0 ≤ a.toInt ∧ a.toInt ≤ 99) → post 0) : wp_X_isLoad a post := by
  unfold wp_X_isLoad
  refine t_lo (k := 0) rfl (fun z => h0 (by omega)) (fun z => ?_)
  exact t_lt (a := 99) (b := a.toInt) rfl (iI_of a).symm (fun z => h0 (by omega)) (fun z => h1 (by omega)) (by omega) (i32b a)
theorem M_lock_ok {a : Int32} {post : Int32 → Prop} (h1 : 0 ≤ a.toInt ∧ a.toInt ≤ 9 → post 1) (h0 : ¬ (0 ≤ a.toInt ∧ a.toInt ≤ 9) → post 0) : wp_M_isLock a post := by
  unfold wp_M_isLock
  exact I_in (a := a) (fun z => ⟨nb1, h1 z⟩) (fun z => ⟨nb0, h0 z⟩)
theorem M_becomes_ok {m : MSt} {e : Gh} {k : Nat} {a : Int32} {post : Int32 → MSt → Prop} (q : RelD (M_d m) e) (hk : k < 67) (hp : ∀ d, RelD d (uE e k a.toInt) → post (iI (e k)) (M_d_ m d)) : wp_M_becomes m (nI k) a post := by
  unfold wp_M_becomes
  refine ⟨vp_in_nI (by omega) (by omega), vp_in_nI (by omega) (by omega), ?_⟩
  rw [nI_clamp (by omega), q k hk]
  have := q.upd k a.toInt
  rw [iI_of] at this
  exact hp _ this
theorem bg_of {h : Int} {e : Gh} {a : Int32} (w : Wf h e) (z : 0 ≤ a.toInt ∧ a.toInt < e 4) : ∃ b : Nat, (b : Int) < e 4 ∧ b < 8 ∧ a = nI b := by
  have w4 := w.1
  exact ⟨a.toInt.toNat, by omega, by omega, i_nat z.1⟩
theorem l_fill {h : Int} {x : XSt} {m : MSt} {a1 a2 a3 a4 : Int32} {K : XSt → MSt → Prop} (n : Now h x m) (hK : ∀ x' m', Now h x' m' → x'.2.2 = x.2.2 → m'.2.2 = m.2.2 → K x' m') : wpl_fill x m a1 a2 a3 a4 K := by
  have k0 : K x m := hK x m n rfl rfl
  obtain ⟨e, w, r, s, q, t⟩ := n
  have w4 := w.1
  have no : ¬ ((0 ≤ a1.toInt ∧ a1.toInt < e 4) ∧ (0 ≤ a2.toInt ∧ a2.toInt ≤ 99)) → wp_M_fill m a1 a2 (fun v2 m1 => (-1) = v2 ∧ K x m1) := by
    intro P
    unfold wp_M_fill
    exact M_barge_ok q w (fun z1 => if1 (I_in (a := a2) (fun z2 => absurd ⟨z1, z2⟩ P) (fun _ => if0 ⟨rfl, k0⟩))) (fun _ => if0 ⟨rfl, k0⟩)
  unfold wpl_fill wp_X_fill
  refine X_barge_ok r w (fun z1 => if1 (X_load_ok (fun z2 => if1 ?_) (fun z2 => if0 (no (fun z => z2 z.2))))) (fun z1 => if0 (no (fun z => z1 z.1)))
  obtain ⟨b, hb, hb8, ha⟩ := bg_of w z1
  subst ha
  refine ⟨vp_in_nI (by omega) (by omega), vp_in_nI (by omega) (by omega), ?_⟩
  rw [nI_clamp (by omega)]
  unfold wp_M_fill
  refine M_barge_ok q w (fun _ => if1 (I_in (a := a2) (fun _ => if1 ?_) (fun z => absurd z2 z))) (fun z => absurd z1 z)
  intro y hy
  rw [show (35 : Int32) = nI 35 from rfl, nI_add] at hy
  rw [hy]
  refine M_becomes_ok q (by omega) (fun d1 q1 => ⟨(r.2.2.2.2.2.2 b hb).2.1, ?_⟩)
  have r1 := r.load hb w4.2 a2.toInt
  rw [iI_of] at r1
  exact hK _ _ ⟨_, w.load hb z2, r1, s, q1, t⟩ rfl rfl
theorem l_bring {h : Int} {x : XSt} {m : MSt} {a1 a2 a3 a4 : Int32} {K : XSt → MSt → Prop} (n : Now h x m) (hK : ∀ x' m', Now h x' m' → x'.2.2 = x.2.2 → m'.2.2 = m.2.2 → K x' m') : wpl_bring x m a1 a2 a3 a4 K := by
  have k0 : K x m := hK x m n rfl rfl
  obtain ⟨e, w, r, s, q, t⟩ := n
  have w4 := w.1
  have no : ¬ ((0 ≤ a1.toInt ∧ a1.toInt < e 4) ∧ (0 ≤ a2.toInt ∧ a2.toInt ≤ 9)) → wp_M_bring m a1 a2 (fun v2 m1 => (-1) = v2 ∧ K x m1) := by
    intro P
    unfold wp_M_bring
    exact M_barge_ok q w (fun z1 => if1 (M_lock_ok (fun z2 => absurd ⟨z1, z2⟩ P) (fun _ => if0 ⟨rfl, k0⟩))) (fun _ => if0 ⟨rfl, k0⟩)
  unfold wpl_bring wp_X_bring
  refine X_barge_ok r w (fun z1 => if1 (X_lock_ok (fun z2 => if1 ?_) (fun z2 => if0 (no (fun z => z2 z.2))))) (fun z1 => if0 (no (fun z => z1 z.1)))
  obtain ⟨b, hb, hb8, ha⟩ := bg_of w z1
  subst ha
  refine ⟨vp_in_nI (by omega) (by omega), vp_in_nI (by omega) (by omega), ?_⟩
  rw [nI_clamp (by omega)]
  unfold wp_M_bring
  refine M_barge_ok q w (fun _ => if1 (M_lock_ok (fun _ => if1 ?_) (fun z => absurd z2 z))) (fun z => absurd z1 z)
  intro y hy
  rw [show (51 : Int32) = nI 51 from rfl, nI_add] at hy
  rw [hy]
  refine M_becomes_ok q (by omega) (fun d1 q1 => ⟨(r.2.2.2.2.2.2 b hb).2.2.2.1, ?_⟩)
  have r1 := r.at hb w4.2 a2.toInt
  rw [iI_of] at r1
  exact hK _ _ ⟨_, w.at hb z2, r1, s, q1, t⟩ rfl rfl
theorem l_send {h : Int} {x : XSt} {m : MSt} {a1 a2 a3 a4 : Int32} {K : XSt → MSt → Prop} (n : Now h x m) (hK : ∀ x' m', Now h x' m' → x'.2.2 = x.2.2 → m'.2.2 = m.2.2 → K x' m') : wpl_send x m a1 a2 a3 a4 K := by
  have k0 : K x m := hK x m n rfl rfl
  obtain ⟨e, w, r, s, q, t⟩ := n
  have w4 := w.1
  have no : ¬ ((0 ≤ a1.toInt ∧ a1.toInt < e 4) ∧ (0 ≤ a2.toInt ∧ a2.toInt ≤ 9)) → wp_M_send m a1 a2 (fun v2 m1 => (-1) = v2 ∧ K x m1) := by
    intro P
    unfold wp_M_send
    exact M_barge_ok q w (fun z1 => if1 (M_lock_ok (fun z2 => absurd ⟨z1, z2⟩ P) (fun _ => if0 ⟨rfl, k0⟩))) (fun _ => if0 ⟨rfl, k0⟩)
  unfold wpl_send wp_X_send
  refine X_barge_ok r w (fun z1 => if1 (X_lock_ok (fun z2 => if1 ?_) (fun z2 => if0 (no (fun z => z2 z.2))))) (fun z1 => if0 (no (fun z => z1 z.1)))
  obtain ⟨b, hb, hb8, ha⟩ := bg_of w z1
  subst ha
  refine ⟨vp_in_nI (by omega) (by omega), vp_in_nI (by omega) (by omega), ?_⟩
  rw [nI_clamp (by omega)]
  unfold wp_M_send
  refine M_barge_ok q w (fun _ => if1 (M_lock_ok (fun _ => if1 ?_) (fun z => absurd z2 z))) (fun z => absurd z1 z)
  intro y hy
  rw [show (59 : Int32) = nI 59 from rfl, nI_add] at hy
  rw [hy]
  refine M_becomes_ok q (by omega) (fun d1 q1 => ⟨(r.2.2.2.2.2.2 b hb).2.2.2.2, ?_⟩)
  have r1 := r.bound hb w4.2 a2.toInt
  rw [iI_of] at r1
  exact hK _ _ ⟨_, w.bound hb z2, r1, s, q1, t⟩ rfl rfl
theorem l_noise {h : Int} {x : XSt} {m : MSt} {a1 a2 a3 a4 : Int32} {K : XSt → MSt → Prop} (n : Now h x m) (hK : ∀ x' m', Now h x' m' → x'.2.2 = x.2.2 → m'.2.2 = m.2.2 → K x' m') : wpl_noise x m a1 a2 a3 a4 K := by
  have k0 : K x m := hK x m n rfl rfl
  obtain ⟨e, w, r, s, q, t⟩ := n
  have no : ¬ ((0 ≤ a1.toInt ∧ a1.toInt ≤ 9) ∧ (0 ≤ a2.toInt ∧ a2.toInt ≤ 9)) → wp_M_noise m a1 a2 (fun v2 m1 => (-1) = v2 ∧ K x m1) := by
    intro P
    unfold wp_M_noise
    exact M_lock_ok (fun z1 => if1 (I_in (a := a2) (fun z2 => absurd ⟨z1, z2⟩ P) (fun _ => if0 ⟨rfl, k0⟩))) (fun _ => if0 ⟨rfl, k0⟩)
  unfold wpl_noise wp_X_noise
  refine X_lock_ok (fun z1 => if1 ?_) (fun z1 => if0 (no (fun z => z1 z.1)))
  refine t_lo (k := 0) rfl (fun h1 => no (by omega)) (fun h1 => ?_)
  refine t_hi (k := 9) rfl (fun h2 => ?_) (fun h2 => no (by omega))
  obtain ⟨l, hl, ha⟩ : ∃ N : Nat, N < 10 ∧ a1 = nI N := ⟨a1.toInt.toNat, by omega, i_nat (by omega)⟩
  subst ha
  refine ⟨vp_in_nI (by omega) (by omega), vp_in_nI (by omega) (by omega), ?_⟩
  rw [nI_clamp (by omega)]
  unfold wp_M_noise
  refine M_lock_ok (fun _ => if1 (I_in (a := a2) (fun _ => if1 ?_) (fun z => absurd ⟨h1, h2⟩ z))) (fun z => absurd z1 z)
  intro y hy
  rw [show (7 : Int32) = nI 7 from rfl, nI_add] at hy
  rw [hy]
  refine M_becomes_ok q (by omega) (fun d1 q1 => ⟨r.2.1 l hl, ?_⟩)
  have r1 := r.noise hl w.1.2 a2.toInt
  rw [iI_of] at r1
  exact hK _ _ ⟨_, w.noise hl ⟨h1, h2⟩, r1, s, q1, t⟩ rfl rfl
