theorem M_lockL_ok {h : Int} {m : MSt} {e : Gh} {l : Nat} {x2 : Int32} {post : Int32 → MSt → Prop} (q : RelD (M_d m) e) (w : Wf h e) (hl : l < 10) (p0 : x2 = 0 → post (iI (e (7 + l))) m) (p1 : x2 = 1 → post (iI (e (17 + l))) m) (p2 : ¬ x2 = 0 → ¬ x2 = 1 → post (setI (atB e l) (e 4).toNat) m) : ∀ (n b : Nat), (b : Int) ≤ e 4 → (e 4).toNat - b < n → w_M_lock_26 post n m (nI l) x2 (setI (atB e l) b) (nI b) := by
  intro n
  have w4 := w.1
  induction n with
  | zero => intro b _ hn; omega
  | succ n ih =>
    intro b hb hn
    rw [w_M_lock_26]
    refine t_le (a := e 4) (b := b) (q 4 (by omega)) rfl (fun z => ?_) (fun z => ?_)
    · have : b = (e 4).toNat := by omega
      subst this
      refine ⟨fun g => ?_, fun g0 => ⟨fun g => ?_, fun g1 => p2 g0 g1⟩⟩
      · intro y hy
        rw [show (7 : Int32) = nI 7 from rfl, nI_add] at hy
        rw [hy]
        refine ⟨vp_in_nI (by omega) (by omega), ?_⟩
        rw [nI_clamp (by omega), q _ (by omega)]
        exact p0 g
      · intro y hy
        rw [show (17 : Int32) = nI 17 from rfl, nI_add] at hy
        rw [hy]
        refine ⟨vp_in_nI (by omega) (by omega), ?_⟩
        rw [nI_clamp (by omega), q _ (by omega)]
        exact p1 g
    · have bw := (w.2.2.2.2.2.2.2.2 b z).2.2.2.1
      refine M_get_ok (w := 3) q (by omega) (by omega) ?_
      have nx := ih (b + 1) (by omega) (by omega)
      rw [setI_s] at nx
      refine t_eq (a := e (51 + b)) (b := l) rfl rfl (fun g => ?_) (fun g => ?_)
      · intro y14 h14 y15 h15 y16 h16
        rw [if_pos (show atB e l b = true from decide_eq_true g)] at nx
        rw [h15, h14, h16, nI_1]
        exact nx
      · intro y12 h12 y13 h13
        rw [if_neg (show ¬ atB e l b = true from fun z => g (of_decide_eq_true z))] at nx
        rw [h12, or0, h13, nI_1]
        exact nx
theorem l_lock {h : Int} {x : XSt} {m : MSt} {a1 a2 a3 a4 : Int32} {K : XSt → MSt → Prop} (n : Now h x m) (hK : ∀ x' m', Now h x' m' → x'.2.2 = x.2.2 → m'.2.2 = m.2.2 → K x' m') : wpl_lock x m a1 a2 a3 a4 K := by
  have k0 : K x m := hK x m n rfl rfl
  obtain ⟨e, w, r, s, q, t⟩ := n
  have w4 := w.1
  unfold wpl_lock wp_X_lock
  refine X_lock_ok (fun z1 => if1 ?_) (fun z1 => if0 ?_)
  · obtain ⟨l, hl, ha⟩ : ∃ N : Nat, N < 10 ∧ a1 = nI N := ⟨a1.toInt.toNat, by omega, i_nat (by omega)⟩
    subst ha
    have vb : vp_in (nI l) 10 := vp_in_nI (by omega) (by omega)
    have yes : ∀ (v : Int32), (0 ≤ a2.toInt ∧ a2.toInt ≤ 2) → (a2 = 0 → v = iI (e (7 + l))) → (a2 = 1 → v = iI (e (17 + l))) → (¬ a2 = 0 → ¬ a2 = 1 → v = setI (atB e l) (e 4).toNat) → wp_M_lock m (nI l) a2 (fun v2 m1 => v = v2 ∧ K x m1) := by
      intro v hz p0 p1 p2
      unfold wp_M_lock
      refine M_lock_ok (fun _ => if1 (I_in (a := a2) (fun _ => if1 ?_) (fun z => absurd hz z))) (fun z => absurd z1 z)
      exact M_lockL_ok (post := fun v2 m1 => v = v2 ∧ K x m1) q w hl (fun g => ⟨p0 g, k0⟩) (fun g => ⟨p1 g, k0⟩) (fun g0 g1 => ⟨p2 g0 g1, k0⟩) 2000 0 (by omega) (by omega)
    rw [nI_clamp (by omega)]
    refine ⟨fun g => ⟨vb, ?_⟩, fun g0 => ⟨fun g => ⟨vb, ?_⟩, fun g1 => ⟨fun g => ?_, fun g2 => ?_⟩⟩⟩
    · exact yes _ (by rw [g]; decide) (fun _ => r.2.1 l hl) (fun z => absurd (g.symm.trans z) (by decide)) (fun z => absurd g z)
    · exact yes _ (by rw [g]; decide) (fun z => absurd z g0) (fun _ => r.2.2.1 l hl) (fun _ z => absurd g z)
    · refine C_bargesAt_ok (l := (l : Int)) r w (by omega) ?_
      exact yes _ (by rw [g]; decide) (fun z => absurd z g0) (fun z => absurd z g1) (fun _ _ => rfl)
    · unfold wp_M_lock
      refine M_lock_ok (fun _ => if1 (I_in (a := a2) (fun z => ?_) (fun _ => if0 ⟨rfl, k0⟩))) (fun z => absurd z1 z)
      exfalso
      have hz : 0 ≤ a2.toInt ∧ a2.toInt ≤ 2 := z
      have hi := i_nat hz.1
      obtain ⟨N, hN, hNi⟩ : ∃ N : Nat, N ≤ 2 ∧ a2.toInt.toNat = N := ⟨_, by omega, rfl⟩
      rw [hNi] at hi
      match N, hN, hi with
      | 0, _, hi => exact g0 hi
      | 1, _, hi => exact g1 hi
      | 2, _, hi => exact g2 hi
  · unfold wp_M_lock
    exact M_lock_ok (fun z => absurd z z1) (fun _ => if0 ⟨rfl, k0⟩)
