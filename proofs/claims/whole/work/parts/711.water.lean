theorem l_mind {h : Int} {x : XSt} {m : MSt} {a1 a2 a3 a4 : Int32} {K : XSt → MSt → Prop} (n : Now h x m) (hK : ∀ x' m', Now h x' m' → x'.2.2 = x.2.2 → m'.2.2 = m.2.2 → K x' m') : wpl_mind x m a1 a2 a3 a4 K := by
  have k0 : K x m := hK x m n rfl rfl
  obtain ⟨e, w, r, s, q, t⟩ := n
  have w4 := w.1
  have no : ¬ ((0 ≤ a1.toInt ∧ a1.toInt < e 4) ∧ (0 ≤ a2.toInt ∧ a2.toInt ≤ 5) ∧ (0 ≤ a3.toInt ∧ a3.toInt ≤ 1)) → wp_M_mind m a1 a2 a3 (fun v2 m1 => (-1) = v2 ∧ K x m1) := by
    intro P
    unfold wp_M_mind
    exact M_barge_ok q w (fun z1 => if1 (I_in (a := a2) (fun z2 => if1 (I_in (a := a3) (fun z3 => absurd ⟨z1, z2, z3⟩ P) (fun _ => if0 ⟨rfl, k0⟩))) (fun _ => if0 ⟨rfl, k0⟩))) (fun _ => if0 ⟨rfl, k0⟩)
  unfold wpl_mind wp_X_mind
  refine X_barge_ok r w (fun z1 => if1 (X_kind_ok (fun z2 => if1 ?_) (fun z2 => if0 (no (fun z => z2 z.2.1))))) (fun z1 => if0 (no (fun z => z1 z.1)))
  refine t_lo (k := 0) rfl (fun h1 => no (by omega)) (fun h1 => ?_)
  refine t_hi (k := 1) rfl (fun h2 => ?_) (fun h2 => no (by omega))
  obtain ⟨b, hb, hb8, ha⟩ := bg_of w z1
  subst ha
  refine ⟨vp_in_nI (by omega) (by omega), vp_in_nI (by omega) (by omega), vp_in_nI (by omega) (by omega), ?_⟩
  rw [nI_clamp (by omega)]
  unfold wp_M_mind
  refine M_barge_ok q w (fun _ => if1 (I_in (a := a2) (fun _ => if1 (I_in (a := a3) (fun _ => if1 ?_) (fun z => absurd ⟨h1, h2⟩ z))) (fun z => absurd z2 z))) (fun z => absurd z1 z)
  have ha3 : a3 = iI a3.toInt := (iI_of a3).symm
  have r1 := (r.kind hb w4.2 a2.toInt).sort (b := b) (by rw [uE_n (by omega)]; exact hb) (by rw [uE_n (by omega)]; exact w4.2) a3.toInt
  rw [iI_of, iI_of] at r1
  have hp : wp_M_puts m (nI b) (nI 2) (iI a3.toInt) (fun m_7 => ∀ y8 : Int32, y8 = 27 + nI b → (wp_M_becomes m_7 y8 a2 (fun v9 m_10 => C_kind (X_now x) b = v9 ∧ K (X_now_ (X_now_ x (C_kind_ (X_now x) (upd (C_kind (X_now x)) b a2))) (C_sort_ (C_kind_ (X_now x) (upd (C_kind (X_now x)) b a2)) (upd (C_sort (X_now x)) b a3))) m_10))) := by
    refine M_puts_ok q hb8 (by omega) (fun d1 q1 => ?_)
    intro y hy
    rw [show (27 : Int32) = nI 27 from rfl, nI_add] at hy
    rw [hy]
    refine M_becomes_ok (m := M_d_ m d1) q1 (by omega) (fun d2 q2 => ⟨?_, ?_⟩)
    · rw [uE_n (by omega)]
      exact (r.2.2.2.2.2.2 b hb).1
    · refine hK _ _ ⟨uE (uE e (27 + b) a2.toInt) (43 + b) a3.toInt, (w.kind hb z2).sort (by rw [uE_n (by omega)]; exact hb) ⟨h1, h2⟩, r1, s, ?_, t⟩ rfl rfl
      have sw : uE (uE e (27 + 8 * 2 + b) a3.toInt) (27 + b) a2.toInt = uE (uE e (27 + b) a2.toInt) (43 + b) a3.toInt := by
        funext j
        unfold uE
        by_cases g1 : j = 27 + b
        · rw [if_pos g1, if_neg (by omega), if_pos g1]
        · rw [if_neg g1]
          by_cases g2 : j = 43 + b
          · rw [if_pos (by omega), if_pos g2]
          · rw [if_neg (by omega), if_neg g2, if_neg g1]
      rw [sw] at q2
      exact q2
  rw [← ha3] at hp
  exact hp
theorem X_triedFreight_ok {h s : Int} {x : XSt} {e e0 : Gh} {N b : Nat} {post : Int32 → XSt → Prop} (hN : N ≤ 1000) (hh : h + N ≤ 1000000) (hs : C_heldBack (X_tried x) = iI s) (hsb : -1 ≤ s ∧ s ≤ 8) (hr : RelC (X_tried x) e) (w : Wf h e) (h0 : RelC (X_now x) e0) (w0 : Wf h e0) (hb : (b : Int) < e 4) (h4 : e0 4 = e 4) (hp : ∀ c, post (iI (hoursE s N e (35 + b))) (X_tried_ x c)) : wp_X_triedFreight x (nI b) (nI N) post := by
  have w4 := w.1
  unfold wp_X_triedFreight
  refine C_passHours_ok hN hh hs hsb hr w (fun c1 r1 s1 => ?_)
  have nb : (nI b).toInt = b := by rw [nI_iI]; exact iI_toInt (by omega) (by omega)
  obtain ⟨w1, w2, w3⟩ := Wf.hours (s := s) N w
  refine X_barge_ok (x := X_tried_ x c1) h0 w0 (fun _ => if1 ?_) (fun z => absurd ⟨by rw [nb]; omega, by rw [nb, h4]; exact hb⟩ z)
  refine ⟨vp_in_nI (by omega) (by omega), ?_⟩
  have e1 : C_load (X_tried (X_tried_ x c1)) (nI b).toNatClampNeg = iI (hoursE s N e (35 + b)) := by
    rw [nI_clamp (by omega)]
    exact (r1.2.2.2.2.2.2 b (by rw [w2]; exact hb)).2.1
  rw [e1]
  exact hp c1
theorem l_freight {h : Int} {x : XSt} {m : MSt} {a1 a2 a3 a4 : Int32} {K : XSt → MSt → Prop} (hh : h ≤ 900000) (n : Now h x m) (hK : ∀ x' m', Now h x' m' → x'.2.2 = x.2.2 → m'.2.2 = m.2.2 → K x' m') : wpl_freight x m a1 a2 a3 a4 K := by
  have k0 : K x m := hK x m n rfl rfl
  obtain ⟨e, w, r, s, q, t⟩ := n
  have w4 := w.1
  have no : ¬ ((0 ≤ a1.toInt ∧ a1.toInt < e 4) ∧ (0 ≤ a2.toInt ∧ a2.toInt ≤ 60)) → wp_M_freight m a1 a2 (fun v2 m1 => (-1) = v2 ∧ K x m1) := by
    intro P
    unfold wp_M_freight
    exact M_barge_ok q w (fun z1 => if1 (I_in (a := a2) (fun z2 => absurd ⟨z1, z2⟩ P) (fun _ => if0 ⟨rfl, k0⟩))) (fun _ => if0 ⟨rfl, k0⟩)
  unfold wpl_freight wp_X_freight
  refine X_barge_ok r w (fun z1 => if1 ?_) (fun z1 => if0 (no (fun z => z1 z.1)))
  refine t_lo (k := 0) rfl (fun h1 => no (by omega)) (fun h1 => ?_)
  refine t_hi (k := 60) rfl (fun h2 => ?_) (fun h2 => no (by omega))
  obtain ⟨b, hb, hb8, ha⟩ := bg_of w z1
  obtain ⟨N, hN, ha2⟩ : ∃ N : Nat, N ≤ 60 ∧ a2 = nI N := ⟨a2.toInt.toNat, by omega, i_nat (by omega)⟩
  subst ha
  subst ha2
  refine C_copy_ok r w (fun c1 r1 s1 => ?_)
  refine X_triedFreight_ok (h := h) (s := -1) (e := e) (e0 := e) (by omega) (by omega) s1 (by omega) r1 w r w hb rfl (fun c => ?_)
  unfold wp_M_freight
  refine M_barge_ok q w (fun _ => if1 (I_in (a := nI N) (fun _ => if1 ?_) (fun z => absurd ⟨h1, h2⟩ z))) (fun z => absurd z1 z)
  refine M_keepAside_ok q (fun a ra => ?_)
  unfold wp_M_loadOf
  rw [show (35 : Int32) = nI 35 from rfl, nI_add]
  exact M_behind_ok (m := M_aside_ m a) (d := M_d m) (h := h) (s := -1) (e0 := e) (by omega) (by omega) t (by omega) q w hb8 ra (fun d1 q1 => ⟨rfl, hK _ _ ⟨e, w, r, s, q1, t⟩ rfl rfl⟩)
