/-! ===== the relation of the two sides, as far as the water goes ===== -/
def Now (h : Int) (x : XSt) (m : MSt) : Prop := ∃ e, Wf h e ∧ RelC (X_now x) e ∧ C_heldBack (X_now x) = iI (-1) ∧ RelD (M_d m) e ∧ M_still m = iI (-1)
theorem Wf.mono {h h' : Int} {e : Gh} (w : Wf h e) (q : h ≤ h') : Wf h' e :=
  ⟨w.1, w.2.1, w.2.2.1, w.2.2.2.1, w.2.2.2.2.1, ⟨w.2.2.2.2.2.1.1, by have := w.2.2.2.2.2.1.2; omega⟩, w.2.2.2.2.2.2⟩
theorem Now.mono {h h' : Int} {x : XSt} {m : MSt} (n : Now h x m) (q : h ≤ h') : Now h' x m := by
  obtain ⟨e, w, r⟩ := n
  exact ⟨e, w.mono q, r⟩
theorem i32b (a : Int32) : -2147483648 ≤ a.toInt ∧ a.toInt ≤ 2147483647 := by
  have h1 := Int32.le_toInt a
  have h2 := Int32.toInt_lt a
  constructor
  · exact h1
  · omega
theorem I_in {a : Int32} {lo hi : Int64} {post : Int32 → Prop} (h1 : lo.toInt ≤ a.toInt ∧ a.toInt ≤ hi.toInt → post 1) (h0 : ¬ (lo.toInt ≤ a.toInt ∧ a.toInt ≤ hi.toInt) → post 0) : ∀ y : Int64, y = a.toInt64 → wp_M_in y lo hi post := by
  intro y hy
  rw [hy]
  have q : ∀ z : Int64, (z ≤ a.toInt64 ↔ z.toInt ≤ a.toInt) ∧ (a.toInt64 ≤ z ↔ a.toInt ≤ z.toInt) := fun z => by
    rw [Int64.le_iff_toInt_le, Int64.le_iff_toInt_le, Int32.toInt_toInt64]
    exact ⟨Iff.rfl, Iff.rfl⟩
  exact M_in_ok (fun z => h1 ⟨(q lo).1.mp z.1, (q hi).2.mp z.2⟩) (fun z => h0 (fun t => z ⟨(q lo).1.mpr t.1, (q hi).2.mpr t.2⟩))
theorem t_lo {k : Int} {a y : Int32} {A B : Prop} (hy : y = iI k) (f : a.toInt < k → A) (g : k ≤ a.toInt → B) (hb : -2147483648 ≤ k ∧ k ≤ 2147483647 := by omega) : (a < y → A) ∧ (¬ a < y → B) :=
  t_lt (iI_of a).symm hy f g (i32b a) hb
theorem t_hi {k : Int} {a y : Int32} {A B : Prop} (hy : y = iI k) (f : a.toInt ≤ k → A) (g : k < a.toInt → B) (hb : -2147483648 ≤ k ∧ k ≤ 2147483647 := by omega) : (a ≤ y → A) ∧ (¬ a ≤ y → B) :=
  t_le (iI_of a).symm hy f g (i32b a) hb
theorem if0 {A B : Prop} (h : A) : ((0 : Int32) = 0 → A) ∧ (¬ (0 : Int32) = 0 → B) := ⟨fun _ => h, fun z => absurd rfl z⟩
theorem if1 {A B : Prop} (h : B) : ((1 : Int32) = 0 → A) ∧ (¬ (1 : Int32) = 0 → B) := ⟨fun z => absurd z (by decide), fun _ => h⟩
theorem ifp {c A B : Prop} (q : c) (h : A) : (c → A) ∧ (¬ c → B) := ⟨fun _ => h, fun z => absurd q z⟩
theorem ifn {c A B : Prop} (q : ¬ c) (h : B) : (c → A) ∧ (¬ c → B) := ⟨fun z => absurd z q, fun _ => h⟩
theorem l_state {h : Int} {x : XSt} {m : MSt} {a1 a2 a3 a4 : Int32} {K : XSt → MSt → Prop} (n : Now h x m) (hK : ∀ x' m', Now h x' m' → x'.2.2 = x.2.2 → m'.2.2 = m.2.2 → K x' m') : wpl_state x m a1 a2 a3 a4 K := by
  have k0 : K x m := hK x m n rfl rfl
  obtain ⟨e, w, r, s, q, t⟩ := n
  unfold wpl_state wp_X_state wp_M_state
  refine ⟨fun h0 => ifp h0 ⟨?_, k0⟩, fun h0 => ⟨fun h1 => ?_, fun h1 => ⟨fun h2 => ?_, fun h2 => ⟨fun h3 => ?_, fun h3 => ⟨fun h4 => ?_, fun h4 => ⟨fun h5 => ?_, fun h5 => ?_⟩⟩⟩⟩⟩⟩
  · rw [r.2.2.2.2.1, q 5 (by omega)]
  · refine C_loads_ok r w ?_
    refine ifn h0 (ifp h1 ?_)
    exact M_loads_ok q w ⟨rfl, k0⟩
  · refine C_lostAll_ok r ?_
    refine ifn h0 (ifn h1 (ifp h2 ?_))
    exact M_lostAll_ok q ⟨rfl, k0⟩
  · refine C_landedS_ok r w ?_
    refine ifn h0 (ifn h1 (ifn h2 (ifp h3 ?_)))
    exact M_landedS_ok q w ⟨rfl, k0⟩
  · refine C_places_ok r w ?_
    refine ifn h0 (ifn h1 (ifn h2 (ifn h3 (ifp h4 ?_))))
    exact M_places_ok q w ⟨rfl, k0⟩
  · refine C_loudest_ok r w ?_
    refine ifn h0 (ifn h1 (ifn h2 (ifn h3 (ifn h4 (ifp h5 ?_)))))
    exact M_loudest_ok q w ⟨rfl, k0⟩
  · exact ifn h0 (ifn h1 (ifn h2 (ifn h3 (ifn h4 (ifn h5 ⟨rfl, k0⟩)))))
theorem i_nat {a : Int32} (h : 0 ≤ a.toInt) : a = nI a.toInt.toNat := by
  rw [← iI_nat h, iI_of]
theorem l_hours {h : Int} {x : XSt} {m : MSt} {a1 a2 a3 a4 : Int32} {K : XSt → MSt → Prop} (hh : h ≤ 900000) (n : Now h x m) (hK : ∀ x' m', Now (h + 60) x' m' → x'.2.2 = x.2.2 → m'.2.2 = m.2.2 → K x' m') : wpl_hours x m a1 a2 a3 a4 K := by
  have k0 : K x m := hK x m (n.mono (by omega)) rfl rfl
  obtain ⟨e, w, r, s, q, t⟩ := n
  have no : ¬ (1 ≤ a1.toInt ∧ a1.toInt ≤ 60) → wp_M_hours m a1 (fun v2 m1 => (-1) = v2 ∧ K x m1) := by
    intro z
    unfold wp_M_hours
    exact I_in (fun z2 => absurd z2 z) (fun _ => if0 ⟨rfl, k0⟩)
  unfold wpl_hours wp_X_hours
  refine t_lo (k := 1) rfl (fun h1 => no (by omega)) (fun h1 => ?_)
  refine t_hi (k := 60) rfl (fun h2 => ?_) (fun h2 => no (by omega))
  obtain ⟨N, hN, ha⟩ : ∃ N : Nat, N ≤ 60 ∧ a1 = nI N := ⟨a1.toInt.toNat, by omega, i_nat (by omega)⟩
  rw [ha]
  refine C_passHours_ok (N := N) (h := h) (by omega) (by omega) s (by omega) r w (fun c1 r1 s1 => ?_)
  have w1 := (Wf.hours (s := -1) N w).1
  refine C_loads_ok r1 w1 ?_
  unfold wp_M_hours
  refine I_in (fun _ => if1 ?_) (fun z => absurd ⟨?_, ?_⟩ z)
  · refine M_hours_ok (N := N) (m := m) (d := M_d m) (h := h) (by omega) (by omega) t (by omega) q w (fun d1 q1 => ?_)
    refine M_loads_ok (m := M_d_ m d1) q1 w1 ⟨rfl, ?_⟩
    exact hK _ _ ⟨_, w1.mono (by omega), r1, s1, q1, t⟩ rfl rfl
  · rw [← ha]; exact h1
  · rw [← ha]; exact h2
theorem l_seed {h : Int} {x : XSt} {m : MSt} {a1 a2 a3 a4 : Int32} {K : XSt → MSt → Prop} (n : Now h x m) (hK : ∀ x' m', Now h x' m' → x'.2.2 = x.2.2 → m'.2.2 = m.2.2 → K x' m') : wpl_seed x m a1 a2 a3 a4 K := by
  obtain ⟨e, w, r, s, q, t⟩ := n
  unfold wpl_seed wp_X_seed wp_M_seed wp_M_becomes
  refine ⟨vp_in_nI (n := 6) (by omega) (by omega), vp_in_nI (n := 6) (by omega) (by omega), ?_, ?_⟩
  · rw [r.2.2.2.2.2.1]
    exact (q 6 (by omega)).symm
  · have r2 := r.z a1.toInt
    have q2 := q.upd 6 a1.toInt
    rw [iI_of] at r2 q2
    exact hK _ _ ⟨_, w.z _, r2, s, q2, t⟩ rfl rfl
theorem l_hour {h : Int} {x : XSt} {m : MSt} {a1 a2 a3 a4 : Int32} {K : XSt → MSt → Prop} (hh : h ≤ 900000) (n : Now h x m) (hK : ∀ x' m', Now (h + 60) x' m' → x'.2.2 = x.2.2 → m'.2.2 = m.2.2 → K x' m') : wpl_hour x m a1 a2 a3 a4 K := by
  obtain ⟨e, w, r, s, q, t⟩ := n
  unfold wpl_hour wp_X_hour
  refine C_hourD_ok (h := h) (by omega) s r w (fun c1 r1 s1 => ?_)
  refine C_loads_ok r1 w.hourD ?_
  refine M_hourD_ok (m := m) (d := M_d m) (h := h) (by omega) t q w (fun d1 q1 => ⟨rfl, ?_⟩)
  exact hK _ _ ⟨_, w.hourD.mono (by omega), r1, s1, q1, t⟩ rfl rfl
theorem X_isLaw_ok {a : Int32} {post : Int32 → Prop} (h1 : 0 ≤ a.toInt ∧ a.toInt ≤ 3 → post 1) (h0 : ¬ (0 ≤ a.toInt ∧ a.toInt ≤ 3) → post 0) : wp_X_isLaw a post := by
  unfold wp_X_isLaw
  refine t_lo (k := 0) rfl (fun z => h0 (by omega)) (fun z => ?_)
  exact t_le (a := 4) (b := a.toInt) rfl (iI_of a).symm (fun z => h0 (by omega)) (fun z => h1 (by omega)) (by omega) (i32b a)
theorem l_lawOf {h : Int} {x : XSt} {m : MSt} {a1 a2 a3 a4 : Int32} {K : XSt → MSt → Prop} (n : Now h x m) (hK : ∀ x' m', Now h x' m' → x'.2.2 = x.2.2 → m'.2.2 = m.2.2 → K x' m') : wpl_lawOf x m a1 a2 a3 a4 K := by
  have k0 : K x m := hK x m n rfl rfl
  obtain ⟨e, w, r, s, q, t⟩ := n
  unfold wpl_lawOf wp_X_lawOf
  refine X_isLaw_ok (fun z => if1 ?_) (fun z => if0 ?_)
  · obtain ⟨N, hN, ha⟩ : ∃ N : Nat, N ≤ 3 ∧ a1 = nI N := ⟨a1.toInt.toNat, by omega, i_nat (by omega)⟩
    refine ⟨by rw [ha]; exact vp_in_nI (by omega) (by omega), ?_⟩
    unfold wp_M_lawOf
    refine I_in (fun _ => if1 ⟨by rw [ha]; exact vp_in_nI (by omega) (by omega), ?_, k0⟩) (fun z2 => absurd z z2)
    rw [ha, nI_clamp (by omega), r.1 N (by omega), q N (by omega)]
  · unfold wp_M_lawOf
    exact I_in (fun z2 => absurd z2 z) (fun _ => if0 ⟨rfl, k0⟩)
theorem l_cargo_no {x : XSt} {m : MSt} {a1 : Int32} {K : XSt → MSt → Prop} (k0 : K x m) (z : ¬ (0 ≤ a1.toInt ∧ a1.toInt ≤ 60)) : wp_M_cargo m a1 (fun v2 m1 => (-1) = v2 ∧ K x m1) := by
  unfold wp_M_cargo
  exact I_in (fun z2 => absurd z2 z) (fun _ => if0 ⟨rfl, k0⟩)
theorem C_still0_ok {c : CSt} {post : CSt → Prop} (hp : post c) : ∀ (n i : Nat), i ≤ 10 → 10 - i < n → w_C_still_2 post n c 0 (nI i) := by
  intro n
  induction n with
  | zero => intro i _ h; omega
  | succ n ih =>
    intro i hi hn
    rw [w_C_still_2]
    refine t_le (a := 10) (b := i) rfl rfl (fun _ => hp) (fun z => ?_)
    intro y1 h1 y2 h2
    have hz : ∀ k, k < 10 → ((0 : Int32) >>> (nI k &&& 31)) &&& 1 = 0 := by decide
    rw [h1, hz i (by omega)] at h2
    refine ifn (by rw [h2]; decide) ?_
    intro y3 h3
    rw [h3, nI_1]
    exact ih (i + 1) (by omega) (by omega)
theorem X_triedCargo0_ok {h : Int} {x : XSt} {e : Gh} {N : Nat} {post : Int32 → XSt → Prop} (hN : N ≤ 1000) (hh : h + N ≤ 1000000) (hr : RelC (X_now x) e) (w : Wf h e) (hp : ∀ c, post (iI (sumE (hoursE (-1) N e) 35 (e 4).toNat)) (X_tried_ x c)) : wp_X_triedCargo x (nI N) 0 (-1) post := by
  unfold wp_X_triedCargo
  refine C_copy_ok hr w (fun c1 r1 s1 => ?_)
  unfold wp_C_still
  refine C_still0_ok ?_ 2000 0 (by omega) (by omega)
  obtain ⟨w1, w2, w3⟩ := Wf.hours (s := -1) N w
  refine C_passHours_ok (s := -1) (N := N) (h := h) hN hh rfl (by omega) (e := e) r1 w (fun c2 r2 s2 => ?_)
  refine C_loads_ok r2 w1 ?_
  rw [w2]
  exact hp c2
theorem l_cargo {h : Int} {x : XSt} {m : MSt} {a1 a2 a3 a4 : Int32} {K : XSt → MSt → Prop} (hh : h ≤ 900000) (n : Now h x m) (hK : ∀ x' m', Now h x' m' → x'.2.2 = x.2.2 → m'.2.2 = m.2.2 → K x' m') : wpl_cargo x m a1 a2 a3 a4 K := by
  have k0 : K x m := hK x m n rfl rfl
  obtain ⟨e, w, r, s, q, t⟩ := n
  unfold wpl_cargo wp_X_cargo
  refine t_lo (k := 0) rfl (fun h1 => l_cargo_no k0 (by omega)) (fun h1 => ?_)
  refine t_hi (k := 60) rfl (fun h2 => ?_) (fun h2 => l_cargo_no k0 (by omega))
  obtain ⟨N, hN, ha⟩ : ∃ N : Nat, N ≤ 60 ∧ a1 = nI N := ⟨a1.toInt.toNat, by omega, i_nat (by omega)⟩
  rw [ha] at h1 h2 ⊢
  refine X_triedCargo0_ok (h := h) (by omega) (by omega) r w (fun c => ?_)
  unfold wp_M_cargo
  refine I_in (fun _ => if1 ?_) (fun z => absurd ⟨h1, h2⟩ z)
  refine M_keepAside_ok q (fun a ra => ?_)
  exact M_cargo_ok (m := M_aside_ m a) (d := M_d m) (h := h) (e0 := e) (by omega) (by omega) t (by omega) q w ra (fun d1 q1 => ⟨rfl, hK _ _ ⟨e, w, r, s, q1, t⟩ rfl rfl⟩)
