theorem l_does {h : Int} {x : XSt} {m : MSt} {a1 a2 a3 a4 : Int32} {K : XSt → MSt → Prop} (hh : h ≤ 900000) (n : Now h x m) (hK : ∀ x' m', Now h x' m' → x'.2.2 = x.2.2 → m'.2.2 = m.2.2 → K x' m') : wpl_does x m a1 a2 a3 a4 K := by
  have k0 : K x m := hK x m n rfl rfl
  obtain ⟨e, w, r, s, q, t⟩ := n
  have w4 := w.1
  have no : ¬ ((0 ≤ a1.toInt ∧ a1.toInt < e 4) ∧ (0 ≤ a2.toInt ∧ a2.toInt ≤ 1)) → wp_M_does m a1 a2 (fun v2 m1 => (-1) = v2 ∧ K x m1) := by
    intro P
    unfold wp_M_does
    exact M_barge_ok q w (fun z1 => if1 (I_in (a := a2) (fun z2 => absurd ⟨z1, z2⟩ P) (fun _ => if0 ⟨rfl, k0⟩))) (fun _ => if0 ⟨rfl, k0⟩)
  unfold wpl_does wp_X_does
  refine X_barge_ok r w (fun z1 => if1 ?_) (fun z1 => if0 (no (fun z => z1 z.1)))
  refine t_lo (k := 0) rfl (fun h1 => no (by omega)) (fun h1 => ?_)
  refine t_hi (k := 1) rfl (fun h2 => ?_) (fun h2 => no (by omega))
  obtain ⟨b, hb, hb8, ha⟩ := bg_of w z1
  subst ha
  refine ⟨fun g => ?_, fun g => ?_⟩
  · refine C_paceOf_ok (h := h) r w (by omega) hb ?_
    unfold wp_M_does
    refine M_barge_ok q w (fun _ => if1 (I_in (a := a2) (fun _ => if1 (ifp g ?_)) (fun z => absurd ⟨h1, h2⟩ z))) (fun z => absurd z1 z)
    exact M_pace_ok (h := h) q w (by omega) hb (fun y hy => ⟨hy.symm, k0⟩)
  · refine ⟨vp_in_nI (by omega) (by omega), ?_⟩
    have bw := w.2.2.2.2.2.2.2.2 b hb
    rw [nI_clamp (by omega), (r.2.2.2.2.2.2 b hb).2.2.2.1]
    refine C_noiseAt_ok (h := h) r bw.2.2.2.1 ?_
    refine C_spillOf_ok (h := h) r w (by omega) hb ?_
    unfold wp_M_does
    refine M_barge_ok q w (fun _ => if1 (I_in (a := a2) (fun _ => if1 (ifn g ?_)) (fun z => absurd ⟨h1, h2⟩ z))) (fun z => absurd z1 z)
    exact M_spills_ok (h := h) q w (by omega) hb (fun y hy => ⟨hy.symm, k0⟩)
theorem l_of {h : Int} {x : XSt} {m : MSt} {a1 a2 a3 a4 : Int32} {K : XSt → MSt → Prop} (n : Now h x m) (hK : ∀ x' m', Now h x' m' → x'.2.2 = x.2.2 → m'.2.2 = m.2.2 → K x' m') : wpl_of x m a1 a2 a3 a4 K := by
  have k0 : K x m := hK x m n rfl rfl
  obtain ⟨e, w, r, s, q, t⟩ := n
  have w4 := w.1
  unfold wpl_of wp_X_of
  refine X_barge_ok r w (fun z1 => if1 ?_) (fun z1 => if0 ?_)
  · obtain ⟨b, hb, hb8, ha⟩ := bg_of w z1
    subst ha
    have bw := w.2.2.2.2.2.2.2.2 b hb
    have rb := r.2.2.2.2.2.2 b hb
    have vb : vp_in (nI b) 8 := vp_in_nI (by omega) (by omega)
    have yes : ∀ (k : Nat) (v : Int32), k < 5 → a2 = nI k → v = iI (e (27 + 8 * k + b)) → wp_M_of m (nI b) a2 (fun v2 m1 => v = v2 ∧ K x m1) := by
      intro k v hk ha hv
      have hi : a2.toInt = k := by rw [ha, nI_iI]; exact iI_toInt (by omega) (by omega)
      unfold wp_M_of
      refine M_barge_ok q w (fun _ => if1 (I_in (a := a2) (fun _ => if1 (ifn ?_ ?_)) (fun z => absurd ⟨?_, ?_⟩ z))) (fun z => absurd z1 z)
      · intro g
        rw [g] at hi
        have : (5 : Int32).toInt = 5 := rfl
        omega
      · rw [ha]
        exact M_get_ok q hb8 hk ⟨hv, k0⟩
      · show 0 ≤ a2.toInt
        omega
      · show a2.toInt ≤ 5
        omega
    rw [nI_clamp (by omega)]
    refine ⟨fun g => ⟨vb, yes 0 _ (by omega) g rb.1⟩, fun g0 => ⟨fun g => ⟨vb, yes 1 _ (by omega) g rb.2.1⟩, fun g1 => ⟨fun g => ⟨vb, yes 2 _ (by omega) g rb.2.2.1⟩, fun g2 => ⟨fun g => ⟨vb, yes 3 _ (by omega) g rb.2.2.2.1⟩, fun g3 => ⟨fun g => ⟨vb, yes 4 _ (by omega) g rb.2.2.2.2⟩, fun g4 => ⟨fun g => ?_, fun g5 => ?_⟩⟩⟩⟩⟩⟩
    · have hi : a2.toInt = 5 := by rw [g]; rfl
      refine C_landed_ok r w hb (fun l => if1 ?_) (fun l => if0 ?_)
      · unfold wp_M_of
        refine M_barge_ok q w (fun _ => if1 (I_in (a := a2) (fun _ => if1 (ifp g ?_)) (fun z => absurd ⟨by rw [hi]; decide, by rw [hi]; decide⟩ z))) (fun z => absurd z1 z)
        exact M_landed_ok q hb8 bw.2.2.2.1 bw.2.2.2.2 (fun _ => if1 ⟨rfl, k0⟩) (fun z => absurd l z)
      · unfold wp_M_of
        refine M_barge_ok q w (fun _ => if1 (I_in (a := a2) (fun _ => if1 (ifp g ?_)) (fun z => absurd ⟨by rw [hi]; decide, by rw [hi]; decide⟩ z))) (fun z => absurd z1 z)
        exact M_landed_ok q hb8 bw.2.2.2.1 bw.2.2.2.2 (fun z => absurd z l) (fun _ => if0 ⟨rfl, k0⟩)
    · unfold wp_M_of
      refine M_barge_ok q w (fun _ => if1 (I_in (a := a2) (fun z => ?_) (fun _ => if0 ⟨rfl, k0⟩))) (fun z => absurd z1 z)
      exfalso
      have hz : 0 ≤ a2.toInt ∧ a2.toInt ≤ 5 := z
      have hi := i_nat hz.1
      obtain ⟨N, hN, hNi⟩ : ∃ N : Nat, N ≤ 5 ∧ a2.toInt.toNat = N := ⟨_, by omega, rfl⟩
      rw [hNi] at hi
      match N, hN, hi with
      | 0, _, hi => exact g0 hi
      | 1, _, hi => exact g1 hi
      | 2, _, hi => exact g2 hi
      | 3, _, hi => exact g3 hi
      | 4, _, hi => exact g4 hi
      | 5, _, hi => exact g5 hi
  · unfold wp_M_of
    exact M_barge_ok q w (fun z => absurd z z1) (fun _ => if0 ⟨rfl, k0⟩)
