def wp_M_does (m : MSt) (x1 : Int32) (x2 : Int32) (post : Int32 → MSt → Prop) : Prop :=
  wp_M_isBarge m x1 (fun v1 m_2 => ((v1 = 0) → (post (-1) m_2)) ∧ ((¬ v1 = 0) → (∀ y3 : Int64, y3 = x2.toInt64 → (wp_M_in y3 0 1 (fun v4 => ((v4 = 0) → (post (-1) m_2)) ∧ ((¬ v4 = 0) → (((x2 = 0) → (wp_M_pace m_2 x1 (fun v8 m_9 => ∀ y10 : Int32, y10 = 1000 + v8 → (post y10 m_9)))) ∧ ((¬ x2 = 0) → (wp_M_spills m_2 x1 (fun v5 m_6 => ∀ y7 : Int32, y7 = 1000 + v5 → (post y7 m_6)))))))))))
set_option maxRecDepth 20000 in
theorem g_M_does {X : GX} (C : GC X b_M_does R_M 3 (rmd 2)) {Qp : Option Value → va_W → Prop} (q : RC X ((some .int)) Qp 0 0) (a : Nat → Nat) (m : MSt) (x1 : Int32) (x2 : Int32) (post : Int32 → MSt → Prop) (hq : ∀ v c1, post v c1 → Qp (some (.int v)) (woM (xt X) a c1)) (hw : wp_M_does m x1 x2 post) : G X 0 0 (woM (xt X) a m) [(0, .ref (a 0)), (1, .int x1), (2, .int x2)] [] 0 := by
  unfold wp_M_does at hw
  refine g_aload_n (pc := 0) C d_M_does_0 0 rfl rfl ?_
  refine g_iload_n (pc := 1) C d_M_does_1 1 rfl rfl ?_
  refine k_Ia (pc := 2) (co_V C (c_M_isBarge (xl X) (xD X) (xt X) (xv X) a m x1 _ hw) mw_M_isBarge lk_M_118 d_M_does_2 (List.range _) (all_C _) (all_nd _) (rec_w C 0 6 rfl rfl) rfl rfl ⟨Nat.le_of_ble_eq_true rfl, Nat.le_of_ble_eq_true rfl⟩ ⟨Nat.le_of_ble_eq_true rfl, Nat.le_of_ble_eq_true rfl⟩ (rest := []) rfl rfl (Nat.le_of_ble_eq_true rfl)) (fun v1 m_2 hw => ?_)
  refine g_if_eq (pc := 5) (tgt := 42) C d_M_does_5 (by decide) (fun h13 => ?_) (fun h13 => ?_)
  · replace hw := hw.1 h13
    refine g_iconst (pc := 42) C (v := (-1)) d_M_does_42 (by decide) ?_
    exact g_iret (pc := 43) C q d_M_does_43 (hq _ _ hw)
  · replace hw := hw.2 h13
    refine g_iload_n (pc := 8) C d_M_does_8 2 rfl rfl ?_
    refine g_i2l (pc := 9) C d_M_does_9 ?_
    refine g_topl (fun y3 ey3 => ?_)
    replace hw := hw y3 ey3
    refine g_lconst (pc := 10) C (v := 0) d_M_does_10 (by decide) ?_
    refine g_lconst (pc := 11) C (v := 1) d_M_does_11 (by decide) ?_
    refine k_I0 (pc := 12) (co_S C (c_M_in (xl X) (xD X) (xt X) (xv X) y3 0 1 _ hw) mw_M_in lk_M_58 d_M_does_12 [] rfl (by decide)  rfl rfl ⟨Nat.le_of_ble_eq_true rfl, Nat.le_of_ble_eq_true rfl⟩ ⟨Nat.le_of_ble_eq_true rfl, Nat.le_of_ble_eq_true rfl⟩ (rest := []) rfl rfl (Nat.le_of_ble_eq_true rfl)) (fun v4 hw => ?_)
    refine g_if_eq (pc := 15) (tgt := 42) C d_M_does_15 (by decide) (fun h12 => ?_) (fun h12 => ?_)
    · replace hw := hw.1 h12
      refine g_iconst (pc := 42) C (v := (-1)) d_M_does_42 (by decide) ?_
      exact g_iret (pc := 43) C q d_M_does_43 (hq _ _ hw)
    · replace hw := hw.2 h12
      refine g_sipush (pc := 18) C (v := 1000) d_M_does_18 (by decide) ?_
      refine g_iload_n (pc := 21) C d_M_does_21 2 rfl rfl ?_
      refine g_if_ne (pc := 22) (tgt := 33) C d_M_does_22 (by decide) (fun h11 => ?_) (fun h11 => ?_)
      · replace hw := hw.2 h11
        refine g_aload_n (pc := 33) C d_M_does_33 0 rfl rfl ?_
        refine g_iload_n (pc := 34) C d_M_does_34 1 rfl rfl ?_
        refine k_Ia (pc := 35) (co_V C (c_M_spills (xl X) (xD X) (xt X) (xv X) a m_2 x1 _ hw) mw_M_spills lk_M_84 d_M_does_35 (List.range _) (all_C _) (all_nd _) (rec_w C 0 6 rfl rfl) rfl rfl ⟨Nat.le_of_ble_eq_true rfl, Nat.le_of_ble_eq_true rfl⟩ ⟨Nat.le_of_ble_eq_true rfl, Nat.le_of_ble_eq_true rfl⟩ (rest := [.int 1000]) rfl rfl (Nat.le_of_ble_eq_true rfl)) (fun v5 m_6 hw => ?_)
        refine g_iadd (pc := 38) C d_M_does_38 ?_
        refine g_topi (fun y7 ey7 => ?_)
        replace hw := hw y7 ey7
        refine g_goto (pc := 39) (tgt := 43) C d_M_does_39 (by decide) ?_
        exact g_iret (pc := 43) C q d_M_does_43 (hq _ _ hw)
      · replace hw := hw.1 h11
        refine g_aload_n (pc := 25) C d_M_does_25 0 rfl rfl ?_
        refine g_iload_n (pc := 26) C d_M_does_26 1 rfl rfl ?_
        refine k_Ia (pc := 27) (co_V C (c_M_pace (xl X) (xD X) (xt X) (xv X) a m_2 x1 _ hw) mw_M_pace lk_M_76 d_M_does_27 (List.range _) (all_C _) (all_nd _) (rec_w C 0 6 rfl rfl) rfl rfl ⟨Nat.le_of_ble_eq_true rfl, Nat.le_of_ble_eq_true rfl⟩ ⟨Nat.le_of_ble_eq_true rfl, Nat.le_of_ble_eq_true rfl⟩ (rest := [.int 1000]) rfl rfl (Nat.le_of_ble_eq_true rfl)) (fun v8 m_9 hw => ?_)
        refine g_goto (pc := 30) (tgt := 38) C d_M_does_30 (by decide) ?_
        refine g_iadd (pc := 38) C d_M_does_38 ?_
        refine g_topi (fun y10 ey10 => ?_)
        replace hw := hw y10 ey10
        refine g_goto (pc := 39) (tgt := 43) C d_M_does_39 (by decide) ?_
        exact g_iret (pc := 43) C q d_M_does_43 (hq _ _ hw)
set_option maxRecDepth 20000 in
theorem c_M_does (l : Launch) (D : va_G) (t : Nat → ClassId) (ev : Nat → Nat) (a : Nat → Nat) (m : MSt) (x1 : Int32) (x2 : Int32) (post : Int32 → MSt → Prop) (hw : wp_M_does m x1 x2 post) : Con l D t ev y_M_does b_M_does 3 ((some .int)) 2 (woM t a m) [.ref (a 0), .int x1, .int x2] (qI (woM t a)  post) :=
  ConR.of (by decide +kernel) (Nat.le_of_ble_eq_true rfl) (fun X el eD et ee C q _ => by subst el; subst eD; subst et; subst ee; exact g_M_does C q a m x1 x2 post (fun v c1 h => ⟨⟨v, c1, rfl, rfl, h⟩, rfl⟩) hw)
def wp_M_mind (m : MSt) (x1 : Int32) (x2 : Int32) (x3 : Int32) (post : Int32 → MSt → Prop) : Prop :=
  wp_M_isBarge m x1 (fun v1 m_2 => ((v1 = 0) → (post (-1) m_2)) ∧ ((¬ v1 = 0) → (∀ y3 : Int64, y3 = x2.toInt64 → (wp_M_in y3 0 5 (fun v4 => ((v4 = 0) → (post (-1) m_2)) ∧ ((¬ v4 = 0) → (∀ y5 : Int64, y5 = x3.toInt64 → (wp_M_in y5 0 1 (fun v6 => ((v6 = 0) → (post (-1) m_2)) ∧ ((¬ v6 = 0) → (wp_M_puts m_2 x1 2 x3 (fun m_7 => ∀ y8 : Int32, y8 = 27 + x1 → (wp_M_becomes m_7 y8 x2 (fun v9 m_10 => post v9 m_10))))))))))))))
set_option maxRecDepth 20000 in
theorem g_M_mind {X : GX} (C : GC X b_M_mind R_M 4 (rmd 2)) {Qp : Option Value → va_W → Prop} (q : RC X ((some .int)) Qp 0 0) (a : Nat → Nat) (m : MSt) (x1 : Int32) (x2 : Int32) (x3 : Int32) (post : Int32 → MSt → Prop) (hq : ∀ v c1, post v c1 → Qp (some (.int v)) (woM (xt X) a c1)) (hw : wp_M_mind m x1 x2 x3 post) : G X 0 0 (woM (xt X) a m) [(0, .ref (a 0)), (1, .int x1), (2, .int x2), (3, .int x3)] [] 0 := by
  unfold wp_M_mind at hw
  refine g_aload_n (pc := 0) C d_M_mind_0 0 rfl rfl ?_
  refine g_iload_n (pc := 1) C d_M_mind_1 1 rfl rfl ?_
  refine k_Ia (pc := 2) (co_V C (c_M_isBarge (xl X) (xD X) (xt X) (xv X) a m x1 _ hw) mw_M_isBarge lk_M_118 d_M_mind_2 (List.range _) (all_C _) (all_nd _) (rec_w C 0 6 rfl rfl) rfl rfl ⟨Nat.le_of_ble_eq_true rfl, Nat.le_of_ble_eq_true rfl⟩ ⟨Nat.le_of_ble_eq_true rfl, Nat.le_of_ble_eq_true rfl⟩ (rest := []) rfl rfl (Nat.le_of_ble_eq_true rfl)) (fun v1 m_2 hw => ?_)
  refine g_if_eq (pc := 5) (tgt := 30) C d_M_mind_5 (by decide) (fun h13 => ?_) (fun h13 => ?_)
  · replace hw := hw.1 h13
    refine g_iconst (pc := 30) C (v := (-1)) d_M_mind_30 (by decide) ?_
    exact g_iret (pc := 31) C q d_M_mind_31 (hq _ _ hw)
  · replace hw := hw.2 h13
    refine g_iload_n (pc := 8) C d_M_mind_8 2 rfl rfl ?_
    refine g_i2l (pc := 9) C d_M_mind_9 ?_
    refine g_topl (fun y3 ey3 => ?_)
    replace hw := hw y3 ey3
    refine g_lconst (pc := 10) C (v := 0) d_M_mind_10 (by decide) ?_
    refine g_ldc2_w (pc := 11) C (v := 5) d_M_mind_11 lk_M_109 ?_
    refine k_I0 (pc := 14) (co_S C (c_M_in (xl X) (xD X) (xt X) (xv X) y3 0 5 _ hw) mw_M_in lk_M_58 d_M_mind_14 [] rfl (by decide)  rfl rfl ⟨Nat.le_of_ble_eq_true rfl, Nat.le_of_ble_eq_true rfl⟩ ⟨Nat.le_of_ble_eq_true rfl, Nat.le_of_ble_eq_true rfl⟩ (rest := []) rfl rfl (Nat.le_of_ble_eq_true rfl)) (fun v4 hw => ?_)
    refine g_if_eq (pc := 17) (tgt := 30) C d_M_mind_17 (by decide) (fun h12 => ?_) (fun h12 => ?_)
    · replace hw := hw.1 h12
      refine g_iconst (pc := 30) C (v := (-1)) d_M_mind_30 (by decide) ?_
      exact g_iret (pc := 31) C q d_M_mind_31 (hq _ _ hw)
    · replace hw := hw.2 h12
      refine g_iload_n (pc := 20) C d_M_mind_20 3 rfl rfl ?_
      refine g_i2l (pc := 21) C d_M_mind_21 ?_
      refine g_topl (fun y5 ey5 => ?_)
      replace hw := hw y5 ey5
      refine g_lconst (pc := 22) C (v := 0) d_M_mind_22 (by decide) ?_
      refine g_lconst (pc := 23) C (v := 1) d_M_mind_23 (by decide) ?_
      refine k_I0 (pc := 24) (co_S C (c_M_in (xl X) (xD X) (xt X) (xv X) y5 0 1 _ hw) mw_M_in lk_M_58 d_M_mind_24 [] rfl (by decide)  rfl rfl ⟨Nat.le_of_ble_eq_true rfl, Nat.le_of_ble_eq_true rfl⟩ ⟨Nat.le_of_ble_eq_true rfl, Nat.le_of_ble_eq_true rfl⟩ (rest := []) rfl rfl (Nat.le_of_ble_eq_true rfl)) (fun v6 hw => ?_)
      refine g_if_ne (pc := 27) (tgt := 32) C d_M_mind_27 (by decide) (fun h11 => ?_) (fun h11 => ?_)
      · replace hw := hw.2 h11
        refine g_aload_n (pc := 32) C d_M_mind_32 0 rfl rfl ?_
        refine g_iload_n (pc := 33) C d_M_mind_33 1 rfl rfl ?_
        refine g_iconst (pc := 34) C (v := 2) d_M_mind_34 (by decide) ?_
        refine g_iload_n (pc := 35) C d_M_mind_35 3 rfl rfl ?_
        refine k_Va (pc := 36) (co_V C (c_M_puts (xl X) (xD X) (xt X) (xv X) a m_2 x1 2 x3 _ hw) mw_M_puts lk_M_72 d_M_mind_36 (List.range _) (all_C _) (all_nd _) (rec_w C 0 6 rfl rfl) rfl rfl ⟨Nat.le_of_ble_eq_true rfl, Nat.le_of_ble_eq_true rfl⟩ ⟨Nat.le_of_ble_eq_true rfl, Nat.le_of_ble_eq_true rfl⟩ (rest := []) rfl rfl (Nat.le_of_ble_eq_true rfl)) (fun m_7 hw => ?_)
        refine g_aload_n (pc := 39) C d_M_mind_39 0 rfl rfl ?_
        refine g_bipush (pc := 40) C (v := 27) d_M_mind_40 (by decide) ?_
        refine g_iload_n (pc := 42) C d_M_mind_42 1 rfl rfl ?_
        refine g_iadd (pc := 43) C d_M_mind_43 ?_
        refine g_topi (fun y8 ey8 => ?_)
        replace hw := hw y8 ey8
        refine g_iload_n (pc := 44) C d_M_mind_44 2 rfl rfl ?_
        refine k_Ia (pc := 45) (co_V C (c_M_becomes (xl X) (xD X) (xt X) (xv X) a m_7 y8 x2 _ hw) mw_M_becomes lk_M_106 d_M_mind_45 (List.range _) (all_C _) (all_nd _) (rec_w C 0 6 rfl rfl) rfl rfl ⟨Nat.le_of_ble_eq_true rfl, Nat.le_of_ble_eq_true rfl⟩ ⟨Nat.le_of_ble_eq_true rfl, Nat.le_of_ble_eq_true rfl⟩ (rest := []) rfl rfl (Nat.le_of_ble_eq_true rfl)) (fun v9 m_10 hw => ?_)
        exact g_iret (pc := 48) C q d_M_mind_48 (hq _ _ hw)
      · replace hw := hw.1 h11
        refine g_iconst (pc := 30) C (v := (-1)) d_M_mind_30 (by decide) ?_
        exact g_iret (pc := 31) C q d_M_mind_31 (hq _ _ hw)
set_option maxRecDepth 20000 in
theorem c_M_mind (l : Launch) (D : va_G) (t : Nat → ClassId) (ev : Nat → Nat) (a : Nat → Nat) (m : MSt) (x1 : Int32) (x2 : Int32) (x3 : Int32) (post : Int32 → MSt → Prop) (hw : wp_M_mind m x1 x2 x3 post) : Con l D t ev y_M_mind b_M_mind 4 ((some .int)) 2 (woM t a m) [.ref (a 0), .int x1, .int x2, .int x3] (qI (woM t a)  post) :=
  ConR.of (by decide +kernel) (Nat.le_of_ble_eq_true rfl) (fun X el eD et ee C q _ => by subst el; subst eD; subst et; subst ee; exact g_M_mind C q a m x1 x2 x3 post (fun v c1 h => ⟨⟨v, c1, rfl, rfl, h⟩, rfl⟩) hw)
def wp_M_fill (m : MSt) (x1 : Int32) (x2 : Int32) (post : Int32 → MSt → Prop) : Prop :=
  wp_M_isBarge m x1 (fun v1 m_2 => ((v1 = 0) → (post (-1) m_2)) ∧ ((¬ v1 = 0) → (∀ y3 : Int64, y3 = x2.toInt64 → (wp_M_in y3 0 99 (fun v4 => ((v4 = 0) → (post (-1) m_2)) ∧ ((¬ v4 = 0) → (∀ y5 : Int32, y5 = 35 + x1 → (wp_M_becomes m_2 y5 x2 (fun v6 m_7 => post v6 m_7)))))))))
set_option maxRecDepth 20000 in
theorem g_M_fill {X : GX} (C : GC X b_M_fill R_M 3 (rmd 2)) {Qp : Option Value → va_W → Prop} (q : RC X ((some .int)) Qp 0 0) (a : Nat → Nat) (m : MSt) (x1 : Int32) (x2 : Int32) (post : Int32 → MSt → Prop) (hq : ∀ v c1, post v c1 → Qp (some (.int v)) (woM (xt X) a c1)) (hw : wp_M_fill m x1 x2 post) : G X 0 0 (woM (xt X) a m) [(0, .ref (a 0)), (1, .int x1), (2, .int x2)] [] 0 := by
  unfold wp_M_fill at hw
  refine g_aload_n (pc := 0) C d_M_fill_0 0 rfl rfl ?_
  refine g_iload_n (pc := 1) C d_M_fill_1 1 rfl rfl ?_
  refine k_Ia (pc := 2) (co_V C (c_M_isBarge (xl X) (xD X) (xt X) (xv X) a m x1 _ hw) mw_M_isBarge lk_M_118 d_M_fill_2 (List.range _) (all_C _) (all_nd _) (rec_w C 0 6 rfl rfl) rfl rfl ⟨Nat.le_of_ble_eq_true rfl, Nat.le_of_ble_eq_true rfl⟩ ⟨Nat.le_of_ble_eq_true rfl, Nat.le_of_ble_eq_true rfl⟩ (rest := []) rfl rfl (Nat.le_of_ble_eq_true rfl)) (fun v1 m_2 hw => ?_)
  refine g_if_eq (pc := 5) (tgt := 32) C d_M_fill_5 (by decide) (fun h9 => ?_) (fun h9 => ?_)
  · replace hw := hw.1 h9
    refine g_iconst (pc := 32) C (v := (-1)) d_M_fill_32 (by decide) ?_
    exact g_iret (pc := 33) C q d_M_fill_33 (hq _ _ hw)
  · replace hw := hw.2 h9
    refine g_iload_n (pc := 8) C d_M_fill_8 2 rfl rfl ?_
    refine g_i2l (pc := 9) C d_M_fill_9 ?_
    refine g_topl (fun y3 ey3 => ?_)
    replace hw := hw y3 ey3
    refine g_lconst (pc := 10) C (v := 0) d_M_fill_10 (by decide) ?_
    refine g_ldc2_w (pc := 11) C (v := 99) d_M_fill_11 lk_M_100 ?_
    refine k_I0 (pc := 14) (co_S C (c_M_in (xl X) (xD X) (xt X) (xv X) y3 0 99 _ hw) mw_M_in lk_M_58 d_M_fill_14 [] rfl (by decide)  rfl rfl ⟨Nat.le_of_ble_eq_true rfl, Nat.le_of_ble_eq_true rfl⟩ ⟨Nat.le_of_ble_eq_true rfl, Nat.le_of_ble_eq_true rfl⟩ (rest := []) rfl rfl (Nat.le_of_ble_eq_true rfl)) (fun v4 hw => ?_)
    refine g_if_eq (pc := 17) (tgt := 32) C d_M_fill_17 (by decide) (fun h8 => ?_) (fun h8 => ?_)
    · replace hw := hw.1 h8
      refine g_iconst (pc := 32) C (v := (-1)) d_M_fill_32 (by decide) ?_
      exact g_iret (pc := 33) C q d_M_fill_33 (hq _ _ hw)
    · replace hw := hw.2 h8
      refine g_aload_n (pc := 20) C d_M_fill_20 0 rfl rfl ?_
      refine g_bipush (pc := 21) C (v := 35) d_M_fill_21 (by decide) ?_
      refine g_iload_n (pc := 23) C d_M_fill_23 1 rfl rfl ?_
      refine g_iadd (pc := 24) C d_M_fill_24 ?_
      refine g_topi (fun y5 ey5 => ?_)
      replace hw := hw y5 ey5
      refine g_iload_n (pc := 25) C d_M_fill_25 2 rfl rfl ?_
      refine k_Ia (pc := 26) (co_V C (c_M_becomes (xl X) (xD X) (xt X) (xv X) a m_2 y5 x2 _ hw) mw_M_becomes lk_M_106 d_M_fill_26 (List.range _) (all_C _) (all_nd _) (rec_w C 0 6 rfl rfl) rfl rfl ⟨Nat.le_of_ble_eq_true rfl, Nat.le_of_ble_eq_true rfl⟩ ⟨Nat.le_of_ble_eq_true rfl, Nat.le_of_ble_eq_true rfl⟩ (rest := []) rfl rfl (Nat.le_of_ble_eq_true rfl)) (fun v6 m_7 hw => ?_)
      refine g_goto (pc := 29) (tgt := 33) C d_M_fill_29 (by decide) ?_
      exact g_iret (pc := 33) C q d_M_fill_33 (hq _ _ hw)
set_option maxRecDepth 20000 in
theorem c_M_fill (l : Launch) (D : va_G) (t : Nat → ClassId) (ev : Nat → Nat) (a : Nat → Nat) (m : MSt) (x1 : Int32) (x2 : Int32) (post : Int32 → MSt → Prop) (hw : wp_M_fill m x1 x2 post) : Con l D t ev y_M_fill b_M_fill 3 ((some .int)) 2 (woM t a m) [.ref (a 0), .int x1, .int x2] (qI (woM t a)  post) :=
  ConR.of (by decide +kernel) (Nat.le_of_ble_eq_true rfl) (fun X el eD et ee C q _ => by subst el; subst eD; subst et; subst ee; exact g_M_fill C q a m x1 x2 post (fun v c1 h => ⟨⟨v, c1, rfl, rfl, h⟩, rfl⟩) hw)
def wp_M_bring (m : MSt) (x1 : Int32) (x2 : Int32) (post : Int32 → MSt → Prop) : Prop :=
  wp_M_isBarge m x1 (fun v1 m_2 => ((v1 = 0) → (post (-1) m_2)) ∧ ((¬ v1 = 0) → (wp_M_isLock x2 (fun v3 => ((v3 = 0) → (post (-1) m_2)) ∧ ((¬ v3 = 0) → (∀ y4 : Int32, y4 = 51 + x1 → (wp_M_becomes m_2 y4 x2 (fun v5 m_6 => post v5 m_6))))))))
set_option maxRecDepth 20000 in
theorem g_M_bring {X : GX} (C : GC X b_M_bring R_M 3 (rmd 2)) {Qp : Option Value → va_W → Prop} (q : RC X ((some .int)) Qp 0 0) (a : Nat → Nat) (m : MSt) (x1 : Int32) (x2 : Int32) (post : Int32 → MSt → Prop) (hq : ∀ v c1, post v c1 → Qp (some (.int v)) (woM (xt X) a c1)) (hw : wp_M_bring m x1 x2 post) : G X 0 0 (woM (xt X) a m) [(0, .ref (a 0)), (1, .int x1), (2, .int x2)] [] 0 := by
  unfold wp_M_bring at hw
  refine g_aload_n (pc := 0) C d_M_bring_0 0 rfl rfl ?_
  refine g_iload_n (pc := 1) C d_M_bring_1 1 rfl rfl ?_
  refine k_Ia (pc := 2) (co_V C (c_M_isBarge (xl X) (xD X) (xt X) (xv X) a m x1 _ hw) mw_M_isBarge lk_M_118 d_M_bring_2 (List.range _) (all_C _) (all_nd _) (rec_w C 0 6 rfl rfl) rfl rfl ⟨Nat.le_of_ble_eq_true rfl, Nat.le_of_ble_eq_true rfl⟩ ⟨Nat.le_of_ble_eq_true rfl, Nat.le_of_ble_eq_true rfl⟩ (rest := []) rfl rfl (Nat.le_of_ble_eq_true rfl)) (fun v1 m_2 hw => ?_)
  refine g_if_eq (pc := 5) (tgt := 27) C d_M_bring_5 (by decide) (fun h8 => ?_) (fun h8 => ?_)
  · replace hw := hw.1 h8
    refine g_iconst (pc := 27) C (v := (-1)) d_M_bring_27 (by decide) ?_
    exact g_iret (pc := 28) C q d_M_bring_28 (hq _ _ hw)
  · replace hw := hw.2 h8
    refine g_iload_n (pc := 8) C d_M_bring_8 2 rfl rfl ?_
    refine k_I0 (pc := 9) (co_S C (c_M_isLock (xl X) (xD X) (xt X) (xv X) x2 _ hw) mw_M_isLock lk_M_111 d_M_bring_9 [] rfl (by decide)  rfl rfl ⟨Nat.le_of_ble_eq_true rfl, Nat.le_of_ble_eq_true rfl⟩ ⟨Nat.le_of_ble_eq_true rfl, Nat.le_of_ble_eq_true rfl⟩ (rest := []) rfl rfl (Nat.le_of_ble_eq_true rfl)) (fun v3 hw => ?_)
    refine g_if_eq (pc := 12) (tgt := 27) C d_M_bring_12 (by decide) (fun h7 => ?_) (fun h7 => ?_)
    · replace hw := hw.1 h7
      refine g_iconst (pc := 27) C (v := (-1)) d_M_bring_27 (by decide) ?_
      exact g_iret (pc := 28) C q d_M_bring_28 (hq _ _ hw)
    · replace hw := hw.2 h7
      refine g_aload_n (pc := 15) C d_M_bring_15 0 rfl rfl ?_
      refine g_bipush (pc := 16) C (v := 51) d_M_bring_16 (by decide) ?_
      refine g_iload_n (pc := 18) C d_M_bring_18 1 rfl rfl ?_
      refine g_iadd (pc := 19) C d_M_bring_19 ?_
      refine g_topi (fun y4 ey4 => ?_)
      replace hw := hw y4 ey4
      refine g_iload_n (pc := 20) C d_M_bring_20 2 rfl rfl ?_
      refine k_Ia (pc := 21) (co_V C (c_M_becomes (xl X) (xD X) (xt X) (xv X) a m_2 y4 x2 _ hw) mw_M_becomes lk_M_106 d_M_bring_21 (List.range _) (all_C _) (all_nd _) (rec_w C 0 6 rfl rfl) rfl rfl ⟨Nat.le_of_ble_eq_true rfl, Nat.le_of_ble_eq_true rfl⟩ ⟨Nat.le_of_ble_eq_true rfl, Nat.le_of_ble_eq_true rfl⟩ (rest := []) rfl rfl (Nat.le_of_ble_eq_true rfl)) (fun v5 m_6 hw => ?_)
      refine g_goto (pc := 24) (tgt := 28) C d_M_bring_24 (by decide) ?_
      exact g_iret (pc := 28) C q d_M_bring_28 (hq _ _ hw)
set_option maxRecDepth 20000 in
theorem c_M_bring (l : Launch) (D : va_G) (t : Nat → ClassId) (ev : Nat → Nat) (a : Nat → Nat) (m : MSt) (x1 : Int32) (x2 : Int32) (post : Int32 → MSt → Prop) (hw : wp_M_bring m x1 x2 post) : Con l D t ev y_M_bring b_M_bring 3 ((some .int)) 2 (woM t a m) [.ref (a 0), .int x1, .int x2] (qI (woM t a)  post) :=
  ConR.of (by decide +kernel) (Nat.le_of_ble_eq_true rfl) (fun X el eD et ee C q _ => by subst el; subst eD; subst et; subst ee; exact g_M_bring C q a m x1 x2 post (fun v c1 h => ⟨⟨v, c1, rfl, rfl, h⟩, rfl⟩) hw)
def wp_M_send (m : MSt) (x1 : Int32) (x2 : Int32) (post : Int32 → MSt → Prop) : Prop :=
  wp_M_isBarge m x1 (fun v1 m_2 => ((v1 = 0) → (post (-1) m_2)) ∧ ((¬ v1 = 0) → (wp_M_isLock x2 (fun v3 => ((v3 = 0) → (post (-1) m_2)) ∧ ((¬ v3 = 0) → (∀ y4 : Int32, y4 = 59 + x1 → (wp_M_becomes m_2 y4 x2 (fun v5 m_6 => post v5 m_6))))))))
set_option maxRecDepth 20000 in
theorem g_M_send {X : GX} (C : GC X b_M_send R_M 3 (rmd 2)) {Qp : Option Value → va_W → Prop} (q : RC X ((some .int)) Qp 0 0) (a : Nat → Nat) (m : MSt) (x1 : Int32) (x2 : Int32) (post : Int32 → MSt → Prop) (hq : ∀ v c1, post v c1 → Qp (some (.int v)) (woM (xt X) a c1)) (hw : wp_M_send m x1 x2 post) : G X 0 0 (woM (xt X) a m) [(0, .ref (a 0)), (1, .int x1), (2, .int x2)] [] 0 := by
  unfold wp_M_send at hw
  refine g_aload_n (pc := 0) C d_M_send_0 0 rfl rfl ?_
  refine g_iload_n (pc := 1) C d_M_send_1 1 rfl rfl ?_
  refine k_Ia (pc := 2) (co_V C (c_M_isBarge (xl X) (xD X) (xt X) (xv X) a m x1 _ hw) mw_M_isBarge lk_M_118 d_M_send_2 (List.range _) (all_C _) (all_nd _) (rec_w C 0 6 rfl rfl) rfl rfl ⟨Nat.le_of_ble_eq_true rfl, Nat.le_of_ble_eq_true rfl⟩ ⟨Nat.le_of_ble_eq_true rfl, Nat.le_of_ble_eq_true rfl⟩ (rest := []) rfl rfl (Nat.le_of_ble_eq_true rfl)) (fun v1 m_2 hw => ?_)
  refine g_if_eq (pc := 5) (tgt := 27) C d_M_send_5 (by decide) (fun h8 => ?_) (fun h8 => ?_)
  · replace hw := hw.1 h8
    refine g_iconst (pc := 27) C (v := (-1)) d_M_send_27 (by decide) ?_
    exact g_iret (pc := 28) C q d_M_send_28 (hq _ _ hw)
  · replace hw := hw.2 h8
    refine g_iload_n (pc := 8) C d_M_send_8 2 rfl rfl ?_
    refine k_I0 (pc := 9) (co_S C (c_M_isLock (xl X) (xD X) (xt X) (xv X) x2 _ hw) mw_M_isLock lk_M_111 d_M_send_9 [] rfl (by decide)  rfl rfl ⟨Nat.le_of_ble_eq_true rfl, Nat.le_of_ble_eq_true rfl⟩ ⟨Nat.le_of_ble_eq_true rfl, Nat.le_of_ble_eq_true rfl⟩ (rest := []) rfl rfl (Nat.le_of_ble_eq_true rfl)) (fun v3 hw => ?_)
    refine g_if_eq (pc := 12) (tgt := 27) C d_M_send_12 (by decide) (fun h7 => ?_) (fun h7 => ?_)
    · replace hw := hw.1 h7
      refine g_iconst (pc := 27) C (v := (-1)) d_M_send_27 (by decide) ?_
      exact g_iret (pc := 28) C q d_M_send_28 (hq _ _ hw)
    · replace hw := hw.2 h7
      refine g_aload_n (pc := 15) C d_M_send_15 0 rfl rfl ?_
      refine g_bipush (pc := 16) C (v := 59) d_M_send_16 (by decide) ?_
      refine g_iload_n (pc := 18) C d_M_send_18 1 rfl rfl ?_
      refine g_iadd (pc := 19) C d_M_send_19 ?_
      refine g_topi (fun y4 ey4 => ?_)
      replace hw := hw y4 ey4
      refine g_iload_n (pc := 20) C d_M_send_20 2 rfl rfl ?_
      refine k_Ia (pc := 21) (co_V C (c_M_becomes (xl X) (xD X) (xt X) (xv X) a m_2 y4 x2 _ hw) mw_M_becomes lk_M_106 d_M_send_21 (List.range _) (all_C _) (all_nd _) (rec_w C 0 6 rfl rfl) rfl rfl ⟨Nat.le_of_ble_eq_true rfl, Nat.le_of_ble_eq_true rfl⟩ ⟨Nat.le_of_ble_eq_true rfl, Nat.le_of_ble_eq_true rfl⟩ (rest := []) rfl rfl (Nat.le_of_ble_eq_true rfl)) (fun v5 m_6 hw => ?_)
      refine g_goto (pc := 24) (tgt := 28) C d_M_send_24 (by decide) ?_
      exact g_iret (pc := 28) C q d_M_send_28 (hq _ _ hw)
set_option maxRecDepth 20000 in
theorem c_M_send (l : Launch) (D : va_G) (t : Nat → ClassId) (ev : Nat → Nat) (a : Nat → Nat) (m : MSt) (x1 : Int32) (x2 : Int32) (post : Int32 → MSt → Prop) (hw : wp_M_send m x1 x2 post) : Con l D t ev y_M_send b_M_send 3 ((some .int)) 2 (woM t a m) [.ref (a 0), .int x1, .int x2] (qI (woM t a)  post) :=
  ConR.of (by decide +kernel) (Nat.le_of_ble_eq_true rfl) (fun X el eD et ee C q _ => by subst el; subst eD; subst et; subst ee; exact g_M_send C q a m x1 x2 post (fun v c1 h => ⟨⟨v, c1, rfl, rfl, h⟩, rfl⟩) hw)
def wp_M_noise (m : MSt) (x1 : Int32) (x2 : Int32) (post : Int32 → MSt → Prop) : Prop :=
  wp_M_isLock x1 (fun v1 => ((v1 = 0) → (post (-1) m)) ∧ ((¬ v1 = 0) → (∀ y2 : Int64, y2 = x2.toInt64 → (wp_M_in y2 0 9 (fun v3 => ((v3 = 0) → (post (-1) m)) ∧ ((¬ v3 = 0) → (∀ y4 : Int32, y4 = 7 + x1 → (wp_M_becomes m y4 x2 (fun v5 m_6 => post v5 m_6)))))))))
set_option maxRecDepth 20000 in
theorem g_M_noise {X : GX} (C : GC X b_M_noise R_M 3 (rmd 2)) {Qp : Option Value → va_W → Prop} (q : RC X ((some .int)) Qp 0 0) (a : Nat → Nat) (m : MSt) (x1 : Int32) (x2 : Int32) (post : Int32 → MSt → Prop) (hq : ∀ v c1, post v c1 → Qp (some (.int v)) (woM (xt X) a c1)) (hw : wp_M_noise m x1 x2 post) : G X 0 0 (woM (xt X) a m) [(0, .ref (a 0)), (1, .int x1), (2, .int x2)] [] 0 := by
  unfold wp_M_noise at hw
  refine g_iload_n (pc := 0) C d_M_noise_0 1 rfl rfl ?_
  refine k_I0 (pc := 1) (co_S C (c_M_isLock (xl X) (xD X) (xt X) (xv X) x1 _ hw) mw_M_isLock lk_M_111 d_M_noise_1 [] rfl (by decide)  rfl rfl ⟨Nat.le_of_ble_eq_true rfl, Nat.le_of_ble_eq_true rfl⟩ ⟨Nat.le_of_ble_eq_true rfl, Nat.le_of_ble_eq_true rfl⟩ (rest := []) rfl rfl (Nat.le_of_ble_eq_true rfl)) (fun v1 hw => ?_)
  refine g_if_eq (pc := 4) (tgt := 31) C d_M_noise_4 (by decide) (fun h8 => ?_) (fun h8 => ?_)
  · replace hw := hw.1 h8
    refine g_iconst (pc := 31) C (v := (-1)) d_M_noise_31 (by decide) ?_
    exact g_iret (pc := 32) C q d_M_noise_32 (hq _ _ hw)
  · replace hw := hw.2 h8
    refine g_iload_n (pc := 7) C d_M_noise_7 2 rfl rfl ?_
    refine g_i2l (pc := 8) C d_M_noise_8 ?_
    refine g_topl (fun y2 ey2 => ?_)
    replace hw := hw y2 ey2
    refine g_lconst (pc := 9) C (v := 0) d_M_noise_9 (by decide) ?_
    refine g_ldc2_w (pc := 10) C (v := 9) d_M_noise_10 lk_M_62 ?_
    refine k_I0 (pc := 13) (co_S C (c_M_in (xl X) (xD X) (xt X) (xv X) y2 0 9 _ hw) mw_M_in lk_M_58 d_M_noise_13 [] rfl (by decide)  rfl rfl ⟨Nat.le_of_ble_eq_true rfl, Nat.le_of_ble_eq_true rfl⟩ ⟨Nat.le_of_ble_eq_true rfl, Nat.le_of_ble_eq_true rfl⟩ (rest := []) rfl rfl (Nat.le_of_ble_eq_true rfl)) (fun v3 hw => ?_)
    refine g_if_eq (pc := 16) (tgt := 31) C d_M_noise_16 (by decide) (fun h7 => ?_) (fun h7 => ?_)
    · replace hw := hw.1 h7
      refine g_iconst (pc := 31) C (v := (-1)) d_M_noise_31 (by decide) ?_
      exact g_iret (pc := 32) C q d_M_noise_32 (hq _ _ hw)
    · replace hw := hw.2 h7
      refine g_aload_n (pc := 19) C d_M_noise_19 0 rfl rfl ?_
      refine g_bipush (pc := 20) C (v := 7) d_M_noise_20 (by decide) ?_
      refine g_iload_n (pc := 22) C d_M_noise_22 1 rfl rfl ?_
      refine g_iadd (pc := 23) C d_M_noise_23 ?_
      refine g_topi (fun y4 ey4 => ?_)
      replace hw := hw y4 ey4
      refine g_iload_n (pc := 24) C d_M_noise_24 2 rfl rfl ?_
      refine k_Ia (pc := 25) (co_V C (c_M_becomes (xl X) (xD X) (xt X) (xv X) a m y4 x2 _ hw) mw_M_becomes lk_M_106 d_M_noise_25 (List.range _) (all_C _) (all_nd _) (rec_w C 0 6 rfl rfl) rfl rfl ⟨Nat.le_of_ble_eq_true rfl, Nat.le_of_ble_eq_true rfl⟩ ⟨Nat.le_of_ble_eq_true rfl, Nat.le_of_ble_eq_true rfl⟩ (rest := []) rfl rfl (Nat.le_of_ble_eq_true rfl)) (fun v5 m_6 hw => ?_)
      refine g_goto (pc := 28) (tgt := 32) C d_M_noise_28 (by decide) ?_
      exact g_iret (pc := 32) C q d_M_noise_32 (hq _ _ hw)
set_option maxRecDepth 20000 in
theorem c_M_noise (l : Launch) (D : va_G) (t : Nat → ClassId) (ev : Nat → Nat) (a : Nat → Nat) (m : MSt) (x1 : Int32) (x2 : Int32) (post : Int32 → MSt → Prop) (hw : wp_M_noise m x1 x2 post) : Con l D t ev y_M_noise b_M_noise 3 ((some .int)) 2 (woM t a m) [.ref (a 0), .int x1, .int x2] (qI (woM t a)  post) :=
  ConR.of (by decide +kernel) (Nat.le_of_ble_eq_true rfl) (fun X el eD et ee C q _ => by subst el; subst eD; subst et; subst ee; exact g_M_noise C q a m x1 x2 post (fun v c1 h => ⟨⟨v, c1, rfl, rfl, h⟩, rfl⟩) hw)
def w_M_lock_26  (post : Int32 → MSt → Prop)  : Nat → MSt → Int32 → Int32 → Int32 → Int32 → Prop
  | 0, _, _, _, _, _ => False
  | n + 1, m, x1, x2, x3, x4 =>
    ((((M_d m) 4) ≤ x4) → (((x2 = 0) → (∀ y7 : Int32, y7 = 7 + x1 → (vp_in y7 67 ∧ (post ((M_d m) y7.toNatClampNeg) m)))) ∧ ((¬ x2 = 0) → (((x2 = 1) → (∀ y4 : Int32, y4 = 17 + x1 → (vp_in y4 67 ∧ (post ((M_d m) y4.toNatClampNeg) m)))) ∧ ((¬ x2 = 1) → (post x3 m)))))) ∧ ((¬ ((M_d m) 4) ≤ x4) → (wp_M_get m x4 3 (fun v10 m_11 => ((v10 = x1) → (∀ y14 : Int32, y14 = 1 <<< (x4 &&& 31) → (∀ y15 : Int32, y15 = x3 ||| y14 → (∀ y16 : Int32, y16 = x4 + 1 → (w_M_lock_26  post  n m_11 x1 x2 y15 y16))))) ∧ ((¬ v10 = x1) → (∀ y12 : Int32, y12 = x3 ||| 0 → (∀ y13 : Int32, y13 = x4 + 1 → (w_M_lock_26  post  n m_11 x1 x2 y12 y13)))))))
set_option maxRecDepth 20000 in
theorem j_M_lock_26 {X : GX} (C : GC X b_M_lock R_M 5 (rmd 2)) {Qp : Option Value → va_W → Prop} (q : RC X ((some .int)) Qp 0 0) (a : Nat → Nat)   (post : Int32 → MSt → Prop) (hq : ∀ v c1, post v c1 → Qp (some (.int v)) (woM (xt X) a c1)) : ∀ (n : Nat) (m : MSt) (x1 : Int32) (x2 : Int32) (x3 : Int32) (x4 : Int32), w_M_lock_26  post  n m x1 x2 x3 x4 → G X 0 0 (woM (xt X) a m) [(0, .ref (a 0)), (1, .int x1), (2, .int x2), (3, .int x3), (4, .int x4)] [] 26 := by
  intro n
  induction n with
  | zero => intro m x1 x2 x3 x4 hw; exact hw.elim
  | succ n ih =>
    intro m x1 x2 x3 x4 hw
    rw [w_M_lock_26] at hw
    refine g_iload (pc := 26) C d_M_lock_26 4 rfl ?_
    refine g_aload_n (pc := 28) C d_M_lock_28 0 rfl rfl ?_
    refine fM_d (pc := 29) C lk_M_7 d_M_lock_29 ?_
    refine g_iconst (pc := 32) C (v := 4) d_M_lock_32 (by decide) ?_
    refine lM_d (pc := 33) C d_M_lock_33 (f := M_d m) rfl (N0 := 4) (by decide) (by unfold vp_in; decide) ?_
    refine g_icmp_ge (pc := 34) (tgt := 65) C d_M_lock_34 (by decide) (fun h18 => ?_) (fun h18 => ?_)
    · replace hw := hw.1 h18
      refine g_iload_n (pc := 65) C d_M_lock_65 2 rfl rfl ?_
      refine g_if_ne (pc := 66) (tgt := 81) C d_M_lock_66 (by decide) (fun h9 => ?_) (fun h9 => ?_)
      · replace hw := hw.2 h9
        refine g_iload_n (pc := 81) C d_M_lock_81 2 rfl rfl ?_
        refine g_iconst (pc := 82) C (v := 1) d_M_lock_82 (by decide) ?_
        refine g_icmp_ne (pc := 83) (tgt := 98) C d_M_lock_83 (by decide) (fun h6 => ?_) (fun h6 => ?_)
        · replace hw := hw.2 h6
          refine g_iload_n (pc := 98) C d_M_lock_98 3 rfl rfl ?_
          exact g_iret (pc := 99) C q d_M_lock_99 (hq _ _ hw)
        · replace hw := hw.1 h6
          refine g_aload_n (pc := 86) C d_M_lock_86 0 rfl rfl ?_
          refine fM_d (pc := 87) C lk_M_7 d_M_lock_87 ?_
          refine g_bipush (pc := 90) C (v := 17) d_M_lock_90 (by decide) ?_
          refine g_iload_n (pc := 92) C d_M_lock_92 1 rfl rfl ?_
          refine g_iadd (pc := 93) C d_M_lock_93 ?_
          refine g_topi (fun y4 ey4 => ?_)
          replace hw := hw y4 ey4
          obtain ⟨h5, hw⟩ := hw
          refine lM_d (pc := 94) C d_M_lock_94 (f := M_d m) rfl (N0 := y4.toNatClampNeg) rfl h5 ?_
          refine g_goto (pc := 95) (tgt := 99) C d_M_lock_95 (by decide) ?_
          exact g_iret (pc := 99) C q d_M_lock_99 (hq _ _ hw)
      · replace hw := hw.1 h9
        refine g_aload_n (pc := 69) C d_M_lock_69 0 rfl rfl ?_
        refine fM_d (pc := 70) C lk_M_7 d_M_lock_70 ?_
        refine g_bipush (pc := 73) C (v := 7) d_M_lock_73 (by decide) ?_
        refine g_iload_n (pc := 75) C d_M_lock_75 1 rfl rfl ?_
        refine g_iadd (pc := 76) C d_M_lock_76 ?_
        refine g_topi (fun y7 ey7 => ?_)
        replace hw := hw y7 ey7
        obtain ⟨h8, hw⟩ := hw
        refine lM_d (pc := 77) C d_M_lock_77 (f := M_d m) rfl (N0 := y7.toNatClampNeg) rfl h8 ?_
        refine g_goto (pc := 78) (tgt := 99) C d_M_lock_78 (by decide) ?_
        exact g_iret (pc := 99) C q d_M_lock_99 (hq _ _ hw)
    · replace hw := hw.2 h18
      refine g_iload_n (pc := 37) C d_M_lock_37 3 rfl rfl ?_
      refine g_aload_n (pc := 38) C d_M_lock_38 0 rfl rfl ?_
      refine g_iload (pc := 39) C d_M_lock_39 4 rfl ?_
      refine g_iconst (pc := 41) C (v := 3) d_M_lock_41 (by decide) ?_
      refine k_Ia (pc := 42) (co_V C (c_M_get (xl X) (xD X) (xt X) (xv X) a m x4 3 _ hw) mw_M_get lk_M_64 d_M_lock_42 (List.range _) (all_C _) (all_nd _) (rec_w C 0 6 rfl rfl) rfl rfl ⟨Nat.le_of_ble_eq_true rfl, Nat.le_of_ble_eq_true rfl⟩ ⟨Nat.le_of_ble_eq_true rfl, Nat.le_of_ble_eq_true rfl⟩ (rest := [.int x3]) rfl rfl (Nat.le_of_ble_eq_true rfl)) (fun v10 m_11 hw => ?_)
      refine g_iload_n (pc := 45) C d_M_lock_45 1 rfl rfl ?_
      refine g_icmp_ne (pc := 46) (tgt := 56) C d_M_lock_46 (by decide) (fun h17 => ?_) (fun h17 => ?_)
      · replace hw := hw.2 h17
        refine g_iconst (pc := 56) C (v := 0) d_M_lock_56 (by decide) ?_
        refine g_ior (pc := 57) C d_M_lock_57 ?_
        refine g_topi (fun y12 ey12 => ?_)
        replace hw := hw y12 ey12
        refine g_istore_n (pc := 58) C d_M_lock_58 rfl (Nat.le_of_ble_eq_true rfl) (lv' := [(0, .ref (a 0)), (1, .int x1), (2, .int x2), (3, .int y12), (4, .int x4)]) rfl ?_
        obtain ⟨y13, ey13⟩ : ∃ w, w = x4 + 1 := ⟨_, rfl⟩
        replace hw := hw y13 ey13
        refine g_iinc (pc := 59) C d_M_lock_59 4 rfl (v := y13) (by rw [ey13]; rfl) (Nat.le_of_ble_eq_true rfl) (lv' := [(0, .ref (a 0)), (1, .int x1), (2, .int x2), (3, .int y12), (4, .int y13)]) rfl ?_
        refine g_goto (pc := 62) (tgt := 26) C d_M_lock_62 (by decide) ?_
        exact ih m_11 x1 x2 y12 y13 hw
      · replace hw := hw.1 h17
        refine g_iconst (pc := 49) C (v := 1) d_M_lock_49 (by decide) ?_
        refine g_iload (pc := 50) C d_M_lock_50 4 rfl ?_
        refine g_ishl (pc := 52) C d_M_lock_52 ?_
        refine g_topi (fun y14 ey14 => ?_)
        replace hw := hw y14 ey14
        refine g_goto (pc := 53) (tgt := 57) C d_M_lock_53 (by decide) ?_
        refine g_ior (pc := 57) C d_M_lock_57 ?_
        refine g_topi (fun y15 ey15 => ?_)
        replace hw := hw y15 ey15
        refine g_istore_n (pc := 58) C d_M_lock_58 rfl (Nat.le_of_ble_eq_true rfl) (lv' := [(0, .ref (a 0)), (1, .int x1), (2, .int x2), (3, .int y15), (4, .int x4)]) rfl ?_
        obtain ⟨y16, ey16⟩ : ∃ w, w = x4 + 1 := ⟨_, rfl⟩
        replace hw := hw y16 ey16
        refine g_iinc (pc := 59) C d_M_lock_59 4 rfl (v := y16) (by rw [ey16]; rfl) (Nat.le_of_ble_eq_true rfl) (lv' := [(0, .ref (a 0)), (1, .int x1), (2, .int x2), (3, .int y15), (4, .int y16)]) rfl ?_
        refine g_goto (pc := 62) (tgt := 26) C d_M_lock_62 (by decide) ?_
        exact ih m_11 x1 x2 y15 y16 hw
def wp_M_lock (m : MSt) (x1 : Int32) (x2 : Int32) (post : Int32 → MSt → Prop) : Prop :=
  wp_M_isLock x1 (fun v1 => ((v1 = 0) → (post (-1) m)) ∧ ((¬ v1 = 0) → (∀ y2 : Int64, y2 = x2.toInt64 → (wp_M_in y2 0 2 (fun v3 => ((v3 = 0) → (post (-1) m)) ∧ ((¬ v3 = 0) → (w_M_lock_26  post  2000 m x1 x2 0 0)))))))
set_option maxRecDepth 20000 in
theorem g_M_lock {X : GX} (C : GC X b_M_lock R_M 5 (rmd 2)) {Qp : Option Value → va_W → Prop} (q : RC X ((some .int)) Qp 0 0) (a : Nat → Nat) (m : MSt) (x1 : Int32) (x2 : Int32) (post : Int32 → MSt → Prop) (hq : ∀ v c1, post v c1 → Qp (some (.int v)) (woM (xt X) a c1)) (hw : wp_M_lock m x1 x2 post) : G X 0 0 (woM (xt X) a m) [(0, .ref (a 0)), (1, .int x1), (2, .int x2)] [] 0 := by
  unfold wp_M_lock at hw
  refine g_iload_n (pc := 0) C d_M_lock_0 1 rfl rfl ?_
  refine k_I0 (pc := 1) (co_S C (c_M_isLock (xl X) (xD X) (xt X) (xv X) x1 _ hw) mw_M_isLock lk_M_111 d_M_lock_1 [] rfl (by decide)  rfl rfl ⟨Nat.le_of_ble_eq_true rfl, Nat.le_of_ble_eq_true rfl⟩ ⟨Nat.le_of_ble_eq_true rfl, Nat.le_of_ble_eq_true rfl⟩ (rest := []) rfl rfl (Nat.le_of_ble_eq_true rfl)) (fun v1 hw => ?_)
  refine g_if_eq (pc := 4) (tgt := 19) C d_M_lock_4 (by decide) (fun h20 => ?_) (fun h20 => ?_)
  · replace hw := hw.1 h20
    refine g_iconst (pc := 19) C (v := (-1)) d_M_lock_19 (by decide) ?_
    exact g_iret (pc := 20) C q d_M_lock_20 (hq _ _ hw)
  · replace hw := hw.2 h20
    refine g_iload_n (pc := 7) C d_M_lock_7 2 rfl rfl ?_
    refine g_i2l (pc := 8) C d_M_lock_8 ?_
    refine g_topl (fun y2 ey2 => ?_)
    replace hw := hw y2 ey2
    refine g_lconst (pc := 9) C (v := 0) d_M_lock_9 (by decide) ?_
    refine g_ldc2_w (pc := 10) C (v := 2) d_M_lock_10 lk_M_121 ?_
    refine k_I0 (pc := 13) (co_S C (c_M_in (xl X) (xD X) (xt X) (xv X) y2 0 2 _ hw) mw_M_in lk_M_58 d_M_lock_13 [] rfl (by decide)  rfl rfl ⟨Nat.le_of_ble_eq_true rfl, Nat.le_of_ble_eq_true rfl⟩ ⟨Nat.le_of_ble_eq_true rfl, Nat.le_of_ble_eq_true rfl⟩ (rest := []) rfl rfl (Nat.le_of_ble_eq_true rfl)) (fun v3 hw => ?_)
    refine g_if_ne (pc := 16) (tgt := 21) C d_M_lock_16 (by decide) (fun h19 => ?_) (fun h19 => ?_)
    · replace hw := hw.2 h19
      refine g_iconst (pc := 21) C (v := 0) d_M_lock_21 (by decide) ?_
      refine g_istore_n (pc := 22) C d_M_lock_22 rfl (Nat.le_of_ble_eq_true rfl) (lv' := [(0, .ref (a 0)), (1, .int x1), (2, .int x2), (3, .int 0)]) rfl ?_
      refine g_iconst (pc := 23) C (v := 0) d_M_lock_23 (by decide) ?_
      refine g_istore (pc := 24) C d_M_lock_24 (Nat.le_of_ble_eq_true rfl) (lv' := [(0, .ref (a 0)), (1, .int x1), (2, .int x2), (3, .int 0), (4, .int 0)]) rfl ?_
      exact j_M_lock_26 C q a post hq  2000 m x1 x2 0 0 hw
    · replace hw := hw.1 h19
      refine g_iconst (pc := 19) C (v := (-1)) d_M_lock_19 (by decide) ?_
      exact g_iret (pc := 20) C q d_M_lock_20 (hq _ _ hw)
set_option maxRecDepth 20000 in
theorem c_M_lock (l : Launch) (D : va_G) (t : Nat → ClassId) (ev : Nat → Nat) (a : Nat → Nat) (m : MSt) (x1 : Int32) (x2 : Int32) (post : Int32 → MSt → Prop) (hw : wp_M_lock m x1 x2 post) : Con l D t ev y_M_lock b_M_lock 5 ((some .int)) 2 (woM t a m) [.ref (a 0), .int x1, .int x2] (qI (woM t a)  post) :=
  ConR.of (by decide +kernel) (Nat.le_of_ble_eq_true rfl) (fun X el eD et ee C q _ => by subst el; subst eD; subst et; subst ee; exact g_M_lock C q a m x1 x2 post (fun v c1 h => ⟨⟨v, c1, rfl, rfl, h⟩, rfl⟩) hw)
def wp_M_hours (m : MSt) (x1 : Int32) (post : Int32 → MSt → Prop) : Prop :=
  ∀ y1 : Int64, y1 = x1.toInt64 → (wp_M_in y1 1 60 (fun v2 => ((v2 = 0) → (post (-1) m)) ∧ ((¬ v2 = 0) → (wp_M_hoursGo m x1 (fun m_3 => wp_M_loads m_3 (fun v4 m_5 => post v4 m_5))))))
set_option maxRecDepth 20000 in
theorem g_M_hours {X : GX} (C : GC X b_M_hours R_M 2 (rmd 5)) {Qp : Option Value → va_W → Prop} (q : RC X ((some .int)) Qp 0 0) (a : Nat → Nat) (m : MSt) (x1 : Int32) (post : Int32 → MSt → Prop) (hq : ∀ v c1, post v c1 → Qp (some (.int v)) (woM (xt X) a c1)) (hw : wp_M_hours m x1 post) : G X 0 0 (woM (xt X) a m) [(0, .ref (a 0)), (1, .int x1)] [] 0 := by
  unfold wp_M_hours at hw
  refine g_iload_n (pc := 0) C d_M_hours_0 1 rfl rfl ?_
  refine g_i2l (pc := 1) C d_M_hours_1 ?_
  refine g_topl (fun y1 ey1 => ?_)
  replace hw := hw y1 ey1
  refine g_lconst (pc := 2) C (v := 1) d_M_hours_2 (by decide) ?_
  refine g_ldc2_w (pc := 3) C (v := 60) d_M_hours_3 lk_M_123 ?_
  refine k_I0 (pc := 6) (co_S C (c_M_in (xl X) (xD X) (xt X) (xv X) y1 1 60 _ hw) mw_M_in lk_M_58 d_M_hours_6 [] rfl (by decide)  rfl rfl ⟨Nat.le_of_ble_eq_true rfl, Nat.le_of_ble_eq_true rfl⟩ ⟨Nat.le_of_ble_eq_true rfl, Nat.le_of_ble_eq_true rfl⟩ (rest := []) rfl rfl (Nat.le_of_ble_eq_true rfl)) (fun v2 hw => ?_)
  refine g_if_ne (pc := 9) (tgt := 14) C d_M_hours_9 (by decide) (fun h6 => ?_) (fun h6 => ?_)
  · replace hw := hw.2 h6
    refine g_aload_n (pc := 14) C d_M_hours_14 0 rfl rfl ?_
    refine g_iload_n (pc := 15) C d_M_hours_15 1 rfl rfl ?_
    refine k_Va (pc := 16) (co_V C (c_M_hoursGo (xl X) (xD X) (xt X) (xv X) a m x1 _ hw) mw_M_hoursGo lk_M_125 d_M_hours_16 (List.range _) (all_C _) (all_nd _) (rec_w C 0 6 rfl rfl) rfl rfl ⟨Nat.le_of_ble_eq_true rfl, Nat.le_of_ble_eq_true rfl⟩ ⟨Nat.le_of_ble_eq_true rfl, Nat.le_of_ble_eq_true rfl⟩ (rest := []) rfl rfl (Nat.le_of_ble_eq_true rfl)) (fun m_3 hw => ?_)
    refine g_aload_n (pc := 19) C d_M_hours_19 0 rfl rfl ?_
    refine k_Ia (pc := 20) (co_V C (c_M_loads (xl X) (xD X) (xt X) (xv X) a m_3 _ hw) mw_M_loads lk_M_128 d_M_hours_20 (List.range _) (all_C _) (all_nd _) (rec_w C 0 6 rfl rfl) rfl rfl ⟨Nat.le_of_ble_eq_true rfl, Nat.le_of_ble_eq_true rfl⟩ ⟨Nat.le_of_ble_eq_true rfl, Nat.le_of_ble_eq_true rfl⟩ (rest := []) rfl rfl (Nat.le_of_ble_eq_true rfl)) (fun v4 m_5 hw => ?_)
    exact g_iret (pc := 23) C q d_M_hours_23 (hq _ _ hw)
  · replace hw := hw.1 h6
    refine g_iconst (pc := 12) C (v := (-1)) d_M_hours_12 (by decide) ?_
    exact g_iret (pc := 13) C q d_M_hours_13 (hq _ _ hw)
set_option maxRecDepth 20000 in
theorem c_M_hours (l : Launch) (D : va_G) (t : Nat → ClassId) (ev : Nat → Nat) (a : Nat → Nat) (m : MSt) (x1 : Int32) (post : Int32 → MSt → Prop) (hw : wp_M_hours m x1 post) : Con l D t ev y_M_hours b_M_hours 2 ((some .int)) 5 (woM t a m) [.ref (a 0), .int x1] (qI (woM t a)  post) :=
  ConR.of (by decide +kernel) (Nat.le_of_ble_eq_true rfl) (fun X el eD et ee C q _ => by subst el; subst eD; subst et; subst ee; exact g_M_hours C q a m x1 post (fun v c1 h => ⟨⟨v, c1, rfl, rfl, h⟩, rfl⟩) hw)
def wp_M_seed (m : MSt) (x1 : Int32) (post : Int32 → MSt → Prop) : Prop :=
  wp_M_becomes m 6 x1 (fun v1 m_2 => post v1 m_2)
set_option maxRecDepth 20000 in
theorem g_M_seed {X : GX} (C : GC X b_M_seed R_M 2 (rmd 1)) {Qp : Option Value → va_W → Prop} (q : RC X ((some .int)) Qp 0 0) (a : Nat → Nat) (m : MSt) (x1 : Int32) (post : Int32 → MSt → Prop) (hq : ∀ v c1, post v c1 → Qp (some (.int v)) (woM (xt X) a c1)) (hw : wp_M_seed m x1 post) : G X 0 0 (woM (xt X) a m) [(0, .ref (a 0)), (1, .int x1)] [] 0 := by
  unfold wp_M_seed at hw
  refine g_aload_n (pc := 0) C d_M_seed_0 0 rfl rfl ?_
  refine g_bipush (pc := 1) C (v := 6) d_M_seed_1 (by decide) ?_
  refine g_iload_n (pc := 3) C d_M_seed_3 1 rfl rfl ?_
  refine k_Ia (pc := 4) (co_V C (c_M_becomes (xl X) (xD X) (xt X) (xv X) a m 6 x1 _ hw) mw_M_becomes lk_M_106 d_M_seed_4 (List.range _) (all_C _) (all_nd _) (rec_w C 0 6 rfl rfl) rfl rfl ⟨Nat.le_of_ble_eq_true rfl, Nat.le_of_ble_eq_true rfl⟩ ⟨Nat.le_of_ble_eq_true rfl, Nat.le_of_ble_eq_true rfl⟩ (rest := []) rfl rfl (Nat.le_of_ble_eq_true rfl)) (fun v1 m_2 hw => ?_)
  exact g_iret (pc := 7) C q d_M_seed_7 (hq _ _ hw)
set_option maxRecDepth 20000 in
theorem c_M_seed (l : Launch) (D : va_G) (t : Nat → ClassId) (ev : Nat → Nat) (a : Nat → Nat) (m : MSt) (x1 : Int32) (post : Int32 → MSt → Prop) (hw : wp_M_seed m x1 post) : Con l D t ev y_M_seed b_M_seed 2 ((some .int)) 1 (woM t a m) [.ref (a 0), .int x1] (qI (woM t a)  post) :=
  ConR.of (by decide +kernel) (Nat.le_of_ble_eq_true rfl) (fun X el eD et ee C q _ => by subst el; subst eD; subst et; subst ee; exact g_M_seed C q a m x1 post (fun v c1 h => ⟨⟨v, c1, rfl, rfl, h⟩, rfl⟩) hw)
def wp_M_drawn (m : MSt) (post : Int32 → MSt → Prop) : Prop :=
  ∀ y1 : Int32, y1 = ((M_d m) 6) * 1103515245 → (∀ y2 : Int32, y2 = y1 + 12345 → (post ((((upd (M_d m) 6 y2) 6).toUInt32 >>> ((16 : Int32).toUInt32 &&& Int32.toUInt32 31)).toInt32) (M_d_ m (upd (M_d m) 6 y2))))
set_option maxRecDepth 20000 in
theorem g_M_drawn {X : GX} (C : GC X b_M_drawn R_M 1 (rmd 0)) {Qp : Option Value → va_W → Prop} (q : RC X ((some .int)) Qp 0 0) (a : Nat → Nat) (m : MSt) (post : Int32 → MSt → Prop) (hq : ∀ v c1, post v c1 → Qp (some (.int v)) (woM (xt X) a c1)) (hw : wp_M_drawn m post) : G X 0 0 (woM (xt X) a m) [(0, .ref (a 0))] [] 0 := by
  unfold wp_M_drawn at hw
  refine g_aload_n (pc := 0) C d_M_drawn_0 0 rfl rfl ?_
  refine fM_d (pc := 1) C lk_M_7 d_M_drawn_1 ?_
  refine g_bipush (pc := 4) C (v := 6) d_M_drawn_4 (by decide) ?_
  refine g_aload_n (pc := 6) C d_M_drawn_6 0 rfl rfl ?_
  refine fM_d (pc := 7) C lk_M_7 d_M_drawn_7 ?_
  refine g_bipush (pc := 10) C (v := 6) d_M_drawn_10 (by decide) ?_
  refine lM_d (pc := 12) C d_M_drawn_12 (f := M_d m) rfl (N0 := 6) (by decide) (by unfold vp_in; decide) ?_
  refine g_ldc (pc := 13) C (v := 1103515245) d_M_drawn_13 lk_M_132 ?_
  refine g_imul (pc := 15) C d_M_drawn_15 ?_
  refine g_topi (fun y1 ey1 => ?_)
  replace hw := hw y1 ey1
  refine g_sipush (pc := 16) C (v := 12345) d_M_drawn_16 (by decide) ?_
  refine g_iadd (pc := 19) C d_M_drawn_19 ?_
  refine g_topi (fun y2 ey2 => ?_)
  replace hw := hw y2 ey2
  refine sM_d (pc := 20) C d_M_drawn_20 (f := M_d m) rfl (N0 := 6) (by decide) (by unfold vp_in; decide) ?_
  refine g_aload_n (pc := 21) C d_M_drawn_21 0 rfl rfl ?_
  refine fM_d (pc := 22) C lk_M_7 d_M_drawn_22 ?_
  refine g_bipush (pc := 25) C (v := 6) d_M_drawn_25 (by decide) ?_
  refine lM_d (pc := 27) C d_M_drawn_27 (f := upd (M_d m) 6 y2) rfl (N0 := 6) (by decide) (by unfold vp_in; decide) ?_
  refine g_bipush (pc := 28) C (v := 16) d_M_drawn_28 (by decide) ?_
  refine g_iushr (pc := 30) C d_M_drawn_30 ?_
  exact g_iret (pc := 31) C q d_M_drawn_31 (hq _ _ hw)
set_option maxRecDepth 20000 in
theorem c_M_drawn (l : Launch) (D : va_G) (t : Nat → ClassId) (ev : Nat → Nat) (a : Nat → Nat) (m : MSt) (post : Int32 → MSt → Prop) (hw : wp_M_drawn m post) : Con l D t ev y_M_drawn b_M_drawn 1 ((some .int)) 0 (woM t a m) [.ref (a 0)] (qI (woM t a)  post) :=
  ConR.of (by decide +kernel) (Nat.le_of_ble_eq_true rfl) (fun X el eD et ee C q _ => by subst el; subst eD; subst et; subst ee; exact g_M_drawn C q a m post (fun v c1 h => ⟨⟨v, c1, rfl, rfl, h⟩, rfl⟩) hw)
def w_M_hour_70  (post : Int32 → MSt → Prop)  (m : MSt) : Prop :=
  wp_M_hourGoes m (fun m_1 => wp_M_loads m_1 (fun v2 m_3 => post v2 m_3))
set_option maxRecDepth 20000 in
theorem j_M_hour_70 {X : GX} (C : GC X b_M_hour R_M 3 (rmd 4)) {Qp : Option Value → va_W → Prop} (q : RC X ((some .int)) Qp 0 0) (a : Nat → Nat)   (post : Int32 → MSt → Prop) (hq : ∀ v c1, post v c1 → Qp (some (.int v)) (woM (xt X) a c1)) : ∀ (m : MSt), w_M_hour_70  post  m → G X 0 0 (woM (xt X) a m) [(0, .ref (a 0))] [] 70 := by
  intro m hw
  unfold w_M_hour_70 at hw
  refine g_aload_n (pc := 70) C d_M_hour_70 0 rfl rfl ?_
  refine k_Va (pc := 71) (co_V C (c_M_hourGoes (xl X) (xD X) (xt X) (xv X) a m _ hw) mw_M_hourGoes lk_M_95 d_M_hour_71 (List.range _) (all_C _) (all_nd _) (rec_w C 0 6 rfl rfl) rfl rfl ⟨Nat.le_of_ble_eq_true rfl, Nat.le_of_ble_eq_true rfl⟩ ⟨Nat.le_of_ble_eq_true rfl, Nat.le_of_ble_eq_true rfl⟩ (rest := []) rfl rfl (Nat.le_of_ble_eq_true rfl)) (fun m_1 hw => ?_)
  refine g_aload_n (pc := 74) C d_M_hour_74 0 rfl rfl ?_
  refine k_Ia (pc := 75) (co_V C (c_M_loads (xl X) (xD X) (xt X) (xv X) a m_1 _ hw) mw_M_loads lk_M_128 d_M_hour_75 (List.range _) (all_C _) (all_nd _) (rec_w C 0 6 rfl rfl) rfl rfl ⟨Nat.le_of_ble_eq_true rfl, Nat.le_of_ble_eq_true rfl⟩ ⟨Nat.le_of_ble_eq_true rfl, Nat.le_of_ble_eq_true rfl⟩ (rest := []) rfl rfl (Nat.le_of_ble_eq_true rfl)) (fun v2 m_3 hw => ?_)
  exact g_iret (pc := 78) C q d_M_hour_78 (hq _ _ hw)
def w_M_hour_42  (post : Int32 → MSt → Prop)  (m : MSt) (x1 : Int32) (s0 : Int32) : Prop :=
  ((s0 = 0) → (wp_M_get m x1 1 (fun v11 m_12 => wp_M_puts m_12 x1 1 v11 (fun m_13 => w_M_hour_70  post  m_13)))) ∧ ((¬ s0 = 0) → (wp_M_get m x1 1 (fun v14 m_15 => ∀ y16 : Int32, y16 = v14 / 2 → (wp_M_puts m_15 x1 1 y16 (fun m_17 => w_M_hour_70  post  m_17)))))
set_option maxRecDepth 20000 in
theorem j_M_hour_42 {X : GX} (C : GC X b_M_hour R_M 3 (rmd 4)) {Qp : Option Value → va_W → Prop} (q : RC X ((some .int)) Qp 0 0) (a : Nat → Nat)   (post : Int32 → MSt → Prop) (hq : ∀ v c1, post v c1 → Qp (some (.int v)) (woM (xt X) a c1)) : ∀ (m : MSt) (x1 : Int32) (s0 : Int32), w_M_hour_42  post  m x1 s0 → G X 0 0 (woM (xt X) a m) [(0, .ref (a 0)), (1, .int x1)] [.int s0] 42 := by
  intro m x1 s0 hw
  unfold w_M_hour_42 at hw
  refine g_istore_n (pc := 42) C d_M_hour_42 rfl (Nat.le_of_ble_eq_true rfl) (lv' := [(0, .ref (a 0)), (1, .int x1), (2, .int s0)]) rfl ?_
  refine g_aload_n (pc := 43) C d_M_hour_43 0 rfl rfl ?_
  refine g_iload_n (pc := 44) C d_M_hour_44 1 rfl rfl ?_
  refine g_iconst (pc := 45) C (v := 1) d_M_hour_45 (by decide) ?_
  refine g_iload_n (pc := 46) C d_M_hour_46 2 rfl rfl ?_
  refine g_if_eq (pc := 47) (tgt := 61) C d_M_hour_47 (by decide) (fun h18 => ?_) (fun h18 => ?_)
  · replace hw := hw.1 h18
    refine g_aload_n (pc := 61) C d_M_hour_61 0 rfl rfl ?_
    refine g_iload_n (pc := 62) C d_M_hour_62 1 rfl rfl ?_
    refine g_iconst (pc := 63) C (v := 1) d_M_hour_63 (by decide) ?_
    refine k_Ia (pc := 64) (co_V C (c_M_get (xl X) (xD X) (xt X) (xv X) a m x1 1 _ hw) mw_M_get lk_M_64 d_M_hour_64 (List.range _) (all_C _) (all_nd _) (rec_w C 0 6 rfl rfl) rfl rfl ⟨Nat.le_of_ble_eq_true rfl, Nat.le_of_ble_eq_true rfl⟩ ⟨Nat.le_of_ble_eq_true rfl, Nat.le_of_ble_eq_true rfl⟩ (rest := [.int 1, .int x1, .ref (a 0)]) rfl rfl (Nat.le_of_ble_eq_true rfl)) (fun v11 m_12 hw => ?_)
    refine k_Va (pc := 67) (co_V C (c_M_puts (xl X) (xD X) (xt X) (xv X) a m_12 x1 1 v11 _ hw) mw_M_puts lk_M_72 d_M_hour_67 (List.range _) (all_C _) (all_nd _) (rec_w C 0 6 rfl rfl) rfl rfl ⟨Nat.le_of_ble_eq_true rfl, Nat.le_of_ble_eq_true rfl⟩ ⟨Nat.le_of_ble_eq_true rfl, Nat.le_of_ble_eq_true rfl⟩ (rest := []) rfl rfl (Nat.le_of_ble_eq_true rfl)) (fun m_13 hw => ?_)
    refine g_sub [0] (lv' := [(0, .ref (a 0))]) rfl ?_
    exact j_M_hour_70 C q a post hq  m_13 hw
  · replace hw := hw.2 h18
    refine g_aload_n (pc := 50) C d_M_hour_50 0 rfl rfl ?_
    refine g_iload_n (pc := 51) C d_M_hour_51 1 rfl rfl ?_
    refine g_iconst (pc := 52) C (v := 1) d_M_hour_52 (by decide) ?_
    refine k_Ia (pc := 53) (co_V C (c_M_get (xl X) (xD X) (xt X) (xv X) a m x1 1 _ hw) mw_M_get lk_M_64 d_M_hour_53 (List.range _) (all_C _) (all_nd _) (rec_w C 0 6 rfl rfl) rfl rfl ⟨Nat.le_of_ble_eq_true rfl, Nat.le_of_ble_eq_true rfl⟩ ⟨Nat.le_of_ble_eq_true rfl, Nat.le_of_ble_eq_true rfl⟩ (rest := [.int 1, .int x1, .ref (a 0)]) rfl rfl (Nat.le_of_ble_eq_true rfl)) (fun v14 m_15 hw => ?_)
    refine g_iconst (pc := 56) C (v := 2) d_M_hour_56 (by decide) ?_
    refine g_idiv (pc := 57) C d_M_hour_57 (by decide) ?_
    refine g_topi (fun y16 ey16 => ?_)
    replace hw := hw y16 ey16
    refine g_goto (pc := 58) (tgt := 67) C d_M_hour_58 (by decide) ?_
    refine k_Va (pc := 67) (co_V C (c_M_puts (xl X) (xD X) (xt X) (xv X) a m_15 x1 1 y16 _ hw) mw_M_puts lk_M_72 d_M_hour_67 (List.range _) (all_C _) (all_nd _) (rec_w C 0 6 rfl rfl) rfl rfl ⟨Nat.le_of_ble_eq_true rfl, Nat.le_of_ble_eq_true rfl⟩ ⟨Nat.le_of_ble_eq_true rfl, Nat.le_of_ble_eq_true rfl⟩ (rest := []) rfl rfl (Nat.le_of_ble_eq_true rfl)) (fun m_17 hw => ?_)
    refine g_sub [0] (lv' := [(0, .ref (a 0))]) rfl ?_
    exact j_M_hour_70 C q a post hq  m_17 hw
def wp_M_hour (m : MSt) (post : Int32 → MSt → Prop) : Prop :=
  ((((M_d m) 4) ≤ 0) → (w_M_hour_70  post  m)) ∧ ((¬ ((M_d m) 4) ≤ 0) → (wp_M_drawn m (fun v4 m_5 => ¬ ((M_d m_5) 4) = 0 ∧ (∀ y7 : Int32, y7 = v4 - v4 / ((M_d m_5) 4) * ((M_d m_5) 4) → (wp_M_drawn m_5 (fun v8 m_9 => ∀ y10 : Int32, y10 = v8 - v8 / 100 * 100 → (((((M_d m_9) 3) ≤ y10) → (w_M_hour_42  post  m_9 y7 0)) ∧ ((¬ ((M_d m_9) 3) ≤ y10) → (w_M_hour_42  post  m_9 y7 1)))))))))
set_option maxRecDepth 20000 in
theorem g_M_hour {X : GX} (C : GC X b_M_hour R_M 3 (rmd 4)) {Qp : Option Value → va_W → Prop} (q : RC X ((some .int)) Qp 0 0) (a : Nat → Nat) (m : MSt) (post : Int32 → MSt → Prop) (hq : ∀ v c1, post v c1 → Qp (some (.int v)) (woM (xt X) a c1)) (hw : wp_M_hour m post) : G X 0 0 (woM (xt X) a m) [(0, .ref (a 0))] [] 0 := by
  unfold wp_M_hour at hw
  refine g_aload_n (pc := 0) C d_M_hour_0 0 rfl rfl ?_
  refine fM_d (pc := 1) C lk_M_7 d_M_hour_1 ?_
  refine g_iconst (pc := 4) C (v := 4) d_M_hour_4 (by decide) ?_
  refine lM_d (pc := 5) C d_M_hour_5 (f := M_d m) rfl (N0 := 4) (by decide) (by unfold vp_in; decide) ?_
  refine g_if_le (pc := 6) (tgt := 70) C d_M_hour_6 (by decide) (fun h20 => ?_) (fun h20 => ?_)
  · replace hw := hw.1 h20
    exact j_M_hour_70 C q a post hq  m hw
  · replace hw := hw.2 h20
    refine g_aload_n (pc := 9) C d_M_hour_9 0 rfl rfl ?_
    refine k_Ia (pc := 10) (co_V C (c_M_drawn (xl X) (xD X) (xt X) (xv X) a m _ hw) mw_M_drawn lk_M_133 d_M_hour_10 (List.range _) (all_C _) (all_nd _) (rec_w C 0 6 rfl rfl) rfl rfl ⟨Nat.le_of_ble_eq_true rfl, Nat.le_of_ble_eq_true rfl⟩ ⟨Nat.le_of_ble_eq_true rfl, Nat.le_of_ble_eq_true rfl⟩ (rest := []) rfl rfl (Nat.le_of_ble_eq_true rfl)) (fun v4 m_5 hw => ?_)
    refine g_aload_n (pc := 13) C d_M_hour_13 0 rfl rfl ?_
    refine fM_d (pc := 14) C lk_M_7 d_M_hour_14 ?_
    refine g_iconst (pc := 17) C (v := 4) d_M_hour_17 (by decide) ?_
    refine lM_d (pc := 18) C d_M_hour_18 (f := M_d m_5) rfl (N0 := 4) (by decide) (by unfold vp_in; decide) ?_
    obtain ⟨h6, hw⟩ := hw
    refine g_irem (pc := 19) C d_M_hour_19 h6 ?_
    refine g_topi (fun y7 ey7 => ?_)
    replace hw := hw y7 ey7
    refine g_istore_n (pc := 20) C d_M_hour_20 rfl (Nat.le_of_ble_eq_true rfl) (lv' := [(0, .ref (a 0)), (1, .int y7)]) rfl ?_
    refine g_aload_n (pc := 21) C d_M_hour_21 0 rfl rfl ?_
    refine k_Ia (pc := 22) (co_V C (c_M_drawn (xl X) (xD X) (xt X) (xv X) a m_5 _ hw) mw_M_drawn lk_M_133 d_M_hour_22 (List.range _) (all_C _) (all_nd _) (rec_w C 0 6 rfl rfl) rfl rfl ⟨Nat.le_of_ble_eq_true rfl, Nat.le_of_ble_eq_true rfl⟩ ⟨Nat.le_of_ble_eq_true rfl, Nat.le_of_ble_eq_true rfl⟩ (rest := []) rfl rfl (Nat.le_of_ble_eq_true rfl)) (fun v8 m_9 hw => ?_)
    refine g_bipush (pc := 25) C (v := 100) d_M_hour_25 (by decide) ?_
    refine g_irem (pc := 27) C d_M_hour_27 (by decide) ?_
    refine g_topi (fun y10 ey10 => ?_)
    replace hw := hw y10 ey10
    refine g_aload_n (pc := 28) C d_M_hour_28 0 rfl rfl ?_
    refine fM_d (pc := 29) C lk_M_7 d_M_hour_29 ?_
    refine g_iconst (pc := 32) C (v := 3) d_M_hour_32 (by decide) ?_
    refine lM_d (pc := 33) C d_M_hour_33 (f := M_d m_9) rfl (N0 := 3) (by decide) (by unfold vp_in; decide) ?_
    refine g_icmp_ge (pc := 34) (tgt := 41) C d_M_hour_34 (by decide) (fun h19 => ?_) (fun h19 => ?_)
    · replace hw := hw.1 h19
      refine g_iconst (pc := 41) C (v := 0) d_M_hour_41 (by decide) ?_
      exact j_M_hour_42 C q a post hq  m_9 y7 0 hw
    · replace hw := hw.2 h19
      refine g_iconst (pc := 37) C (v := 1) d_M_hour_37 (by decide) ?_
      refine g_goto (pc := 38) (tgt := 42) C d_M_hour_38 (by decide) ?_
      exact j_M_hour_42 C q a post hq  m_9 y7 1 hw
set_option maxRecDepth 20000 in
theorem c_M_hour (l : Launch) (D : va_G) (t : Nat → ClassId) (ev : Nat → Nat) (a : Nat → Nat) (m : MSt) (post : Int32 → MSt → Prop) (hw : wp_M_hour m post) : Con l D t ev y_M_hour b_M_hour 3 ((some .int)) 4 (woM t a m) [.ref (a 0)] (qI (woM t a)  post) :=
  ConR.of (by decide +kernel) (Nat.le_of_ble_eq_true rfl) (fun X el eD et ee C q _ => by subst el; subst eD; subst et; subst ee; exact g_M_hour C q a m post (fun v c1 h => ⟨⟨v, c1, rfl, rfl, h⟩, rfl⟩) hw)
def wp_M_cargoBehind (m : MSt) (x1 : Int32) (post : Int32 → MSt → Prop) : Prop :=
  wp_M_hoursGo m x1 (fun m_1 => wp_M_loads m_1 (fun v2 m_3 => wp_M_putBack m_3 (fun m_4 => post v2 m_4)))
set_option maxRecDepth 20000 in
theorem g_M_cargoBehind {X : GX} (C : GC X b_M_cargoBehind R_M 3 (rmd 5)) {Qp : Option Value → va_W → Prop} (q : RC X ((some .int)) Qp 0 0) (a : Nat → Nat) (m : MSt) (x1 : Int32) (post : Int32 → MSt → Prop) (hq : ∀ v c1, post v c1 → Qp (some (.int v)) (woM (xt X) a c1)) (hw : wp_M_cargoBehind m x1 post) : G X 0 0 (woM (xt X) a m) [(0, .ref (a 0)), (1, .int x1)] [] 0 := by
  unfold wp_M_cargoBehind at hw
  refine g_aload_n (pc := 0) C d_M_cargoBehind_0 0 rfl rfl ?_
  refine g_iload_n (pc := 1) C d_M_cargoBehind_1 1 rfl rfl ?_
  refine k_Va (pc := 2) (co_V C (c_M_hoursGo (xl X) (xD X) (xt X) (xv X) a m x1 _ hw) mw_M_hoursGo lk_M_125 d_M_cargoBehind_2 (List.range _) (all_C _) (all_nd _) (rec_w C 0 6 rfl rfl) rfl rfl ⟨Nat.le_of_ble_eq_true rfl, Nat.le_of_ble_eq_true rfl⟩ ⟨Nat.le_of_ble_eq_true rfl, Nat.le_of_ble_eq_true rfl⟩ (rest := []) rfl rfl (Nat.le_of_ble_eq_true rfl)) (fun m_1 hw => ?_)
  refine g_aload_n (pc := 5) C d_M_cargoBehind_5 0 rfl rfl ?_
  refine k_Ia (pc := 6) (co_V C (c_M_loads (xl X) (xD X) (xt X) (xv X) a m_1 _ hw) mw_M_loads lk_M_128 d_M_cargoBehind_6 (List.range _) (all_C _) (all_nd _) (rec_w C 0 6 rfl rfl) rfl rfl ⟨Nat.le_of_ble_eq_true rfl, Nat.le_of_ble_eq_true rfl⟩ ⟨Nat.le_of_ble_eq_true rfl, Nat.le_of_ble_eq_true rfl⟩ (rest := []) rfl rfl (Nat.le_of_ble_eq_true rfl)) (fun v2 m_3 hw => ?_)
  refine g_istore_n (pc := 9) C d_M_cargoBehind_9 rfl (Nat.le_of_ble_eq_true rfl) (lv' := [(0, .ref (a 0)), (1, .int x1), (2, .int v2)]) rfl ?_
  refine g_aload_n (pc := 10) C d_M_cargoBehind_10 0 rfl rfl ?_
  refine k_Va (pc := 11) (co_V C (c_M_putBack (xl X) (xD X) (xt X) (xv X) a m_3 _ hw) mw_M_putBack lk_M_147 d_M_cargoBehind_11 (List.range _) (all_C _) (all_nd _) (rec_w C 0 6 rfl rfl) rfl rfl ⟨Nat.le_of_ble_eq_true rfl, Nat.le_of_ble_eq_true rfl⟩ ⟨Nat.le_of_ble_eq_true rfl, Nat.le_of_ble_eq_true rfl⟩ (rest := []) rfl rfl (Nat.le_of_ble_eq_true rfl)) (fun m_4 hw => ?_)
  refine g_iload_n (pc := 14) C d_M_cargoBehind_14 2 rfl rfl ?_
  exact g_iret (pc := 15) C q d_M_cargoBehind_15 (hq _ _ hw)
set_option maxRecDepth 20000 in
theorem c_M_cargoBehind (l : Launch) (D : va_G) (t : Nat → ClassId) (ev : Nat → Nat) (a : Nat → Nat) (m : MSt) (x1 : Int32) (post : Int32 → MSt → Prop) (hw : wp_M_cargoBehind m x1 post) : Con l D t ev y_M_cargoBehind b_M_cargoBehind 3 ((some .int)) 5 (woM t a m) [.ref (a 0), .int x1] (qI (woM t a)  post) :=
  ConR.of (by decide +kernel) (Nat.le_of_ble_eq_true rfl) (fun X el eD et ee C q _ => by subst el; subst eD; subst et; subst ee; exact g_M_cargoBehind C q a m x1 post (fun v c1 h => ⟨⟨v, c1, rfl, rfl, h⟩, rfl⟩) hw)
def w_M_spoilt_49  (post : Int32 → MSt → Prop) (k29 : MSt → Int32 → Int32 → Int32 → Int32 → Prop) (m : MSt) (x1 : Int32) (x2 : Int32) (x4 : Int32) (s0 : Int32) (s1 : Int32) : Prop :=
  ∀ y9 : Int32, y9 = s0 + s1 → (wp_M_putBack m (fun m_10 => ∀ y11 : Int32, y11 = x4 + 1 → (k29 (M_d_ m_10 (upd (M_d m_10) 6 ((M_d m) 6))) x1 x2 y9 y11)))
set_option maxRecDepth 20000 in
theorem j_M_spoilt_49 {X : GX} (C : GC X b_M_spoilt R_M 6 (rmd 6)) {Qp : Option Value → va_W → Prop} (q : RC X ((some .int)) Qp 0 0) (a : Nat → Nat)   (post : Int32 → MSt → Prop) (hq : ∀ v c1, post v c1 → Qp (some (.int v)) (woM (xt X) a c1)) {k29 : MSt → Int32 → Int32 → Int32 → Int32 → Prop} (hk29 : ∀ (m : MSt) (x1 : Int32) (x2 : Int32) (x3 : Int32) (x4 : Int32), k29 m x1 x2 x3 x4 → G X 0 0 (woM (xt X) a m) [(0, .ref (a 0)), (1, .int x1), (2, .int x2), (3, .int x3), (4, .int x4)] [] 29) : ∀ (m : MSt) (x1 : Int32) (x2 : Int32) (x4 : Int32) (s0 : Int32) (s1 : Int32), w_M_spoilt_49  post k29 m x1 x2 x4 s0 s1 → G X 0 0 (woM (xt X) a m) [(0, .ref (a 0)), (1, .int x1), (2, .int x2), (4, .int x4)] [.int s1, .int s0] 49 := by
  intro m x1 x2 x4 s0 s1 hw
  unfold w_M_spoilt_49 at hw
  refine g_iadd (pc := 49) C d_M_spoilt_49 ?_
  refine g_topi (fun y9 ey9 => ?_)
  replace hw := hw y9 ey9
  refine g_istore_n (pc := 50) C d_M_spoilt_50 rfl (Nat.le_of_ble_eq_true rfl) (lv' := [(0, .ref (a 0)), (1, .int x1), (2, .int x2), (3, .int y9), (4, .int x4)]) rfl ?_
  refine g_aload_n (pc := 51) C d_M_spoilt_51 0 rfl rfl ?_
  refine fM_d (pc := 52) C lk_M_7 d_M_spoilt_52 ?_
  refine g_bipush (pc := 55) C (v := 6) d_M_spoilt_55 (by decide) ?_
  refine lM_d (pc := 57) C d_M_spoilt_57 (f := M_d m) rfl (N0 := 6) (by decide) (by unfold vp_in; decide) ?_
  refine g_istore (pc := 58) C d_M_spoilt_58 (Nat.le_of_ble_eq_true rfl) (lv' := [(0, .ref (a 0)), (1, .int x1), (2, .int x2), (3, .int y9), (4, .int x4), (5, .int ((M_d m) 6))]) rfl ?_
  refine g_aload_n (pc := 60) C d_M_spoilt_60 0 rfl rfl ?_
  refine k_Va (pc := 61) (co_V C (c_M_putBack (xl X) (xD X) (xt X) (xv X) a m _ hw) mw_M_putBack lk_M_147 d_M_spoilt_61 (List.range _) (all_C _) (all_nd _) (rec_w C 0 6 rfl rfl) rfl rfl ⟨Nat.le_of_ble_eq_true rfl, Nat.le_of_ble_eq_true rfl⟩ ⟨Nat.le_of_ble_eq_true rfl, Nat.le_of_ble_eq_true rfl⟩ (rest := []) rfl rfl (Nat.le_of_ble_eq_true rfl)) (fun m_10 hw => ?_)
  refine g_aload_n (pc := 64) C d_M_spoilt_64 0 rfl rfl ?_
  refine fM_d (pc := 65) C lk_M_7 d_M_spoilt_65 ?_
  refine g_bipush (pc := 68) C (v := 6) d_M_spoilt_68 (by decide) ?_
  refine g_iload (pc := 70) C d_M_spoilt_70 5 rfl ?_
  refine sM_d (pc := 72) C d_M_spoilt_72 (f := M_d m_10) rfl (N0 := 6) (by decide) (by unfold vp_in; decide) ?_
  obtain ⟨y11, ey11⟩ : ∃ w, w = x4 + 1 := ⟨_, rfl⟩
  replace hw := hw y11 ey11
  refine g_iinc (pc := 73) C d_M_spoilt_73 4 rfl (v := y11) (by rw [ey11]; rfl) (Nat.le_of_ble_eq_true rfl) (lv' := [(0, .ref (a 0)), (1, .int x1), (2, .int x2), (3, .int y9), (4, .int y11), (5, .int ((M_d m) 6))]) rfl ?_
  refine g_goto (pc := 76) (tgt := 29) C d_M_spoilt_76 (by decide) ?_
  refine g_sub [0, 1, 2, 3, 4] (lv' := [(0, .ref (a 0)), (1, .int x1), (2, .int x2), (3, .int y9), (4, .int y11)]) rfl ?_
  exact hk29 (M_d_ m_10 (upd (M_d m_10) 6 ((M_d m) 6))) x1 x2 y9 y11 hw
def w_M_spoilt_29  (post : Int32 → MSt → Prop)  : Nat → MSt → Int32 → Int32 → Int32 → Int32 → Prop
  | 0, _, _, _, _, _ => False
  | n + 1, m, x1, x2, x3, x4 =>
    ((x1 ≤ x4) → (wp_M_putBack m (fun m_6 => post x3 m_6))) ∧ ((¬ x1 ≤ x4) → (wp_M_hour m (fun v7 m_8 => ((x2 ≤ v7) → (w_M_spoilt_49  post (w_M_spoilt_29  post  n) m_8 x1 x2 x4 x3 0)) ∧ ((¬ x2 ≤ v7) → (w_M_spoilt_49  post (w_M_spoilt_29  post  n) m_8 x1 x2 x4 x3 1)))))
set_option maxRecDepth 20000 in
theorem j_M_spoilt_29 {X : GX} (C : GC X b_M_spoilt R_M 6 (rmd 6)) {Qp : Option Value → va_W → Prop} (q : RC X ((some .int)) Qp 0 0) (a : Nat → Nat)   (post : Int32 → MSt → Prop) (hq : ∀ v c1, post v c1 → Qp (some (.int v)) (woM (xt X) a c1)) : ∀ (n : Nat) (m : MSt) (x1 : Int32) (x2 : Int32) (x3 : Int32) (x4 : Int32), w_M_spoilt_29  post  n m x1 x2 x3 x4 → G X 0 0 (woM (xt X) a m) [(0, .ref (a 0)), (1, .int x1), (2, .int x2), (3, .int x3), (4, .int x4)] [] 29 := by
  intro n
  induction n with
  | zero => intro m x1 x2 x3 x4 hw; exact hw.elim
  | succ n ih =>
    intro m x1 x2 x3 x4 hw
    rw [w_M_spoilt_29] at hw
    refine g_iload (pc := 29) C d_M_spoilt_29 4 rfl ?_
    refine g_iload_n (pc := 31) C d_M_spoilt_31 1 rfl rfl ?_
    refine g_icmp_ge (pc := 32) (tgt := 79) C d_M_spoilt_32 (by decide) (fun h13 => ?_) (fun h13 => ?_)
    · replace hw := hw.1 h13
      refine g_aload_n (pc := 79) C d_M_spoilt_79 0 rfl rfl ?_
      refine k_Va (pc := 80) (co_V C (c_M_putBack (xl X) (xD X) (xt X) (xv X) a m _ hw) mw_M_putBack lk_M_147 d_M_spoilt_80 (List.range _) (all_C _) (all_nd _) (rec_w C 0 6 rfl rfl) rfl rfl ⟨Nat.le_of_ble_eq_true rfl, Nat.le_of_ble_eq_true rfl⟩ ⟨Nat.le_of_ble_eq_true rfl, Nat.le_of_ble_eq_true rfl⟩ (rest := []) rfl rfl (Nat.le_of_ble_eq_true rfl)) (fun m_6 hw => ?_)
      refine g_iload_n (pc := 83) C d_M_spoilt_83 3 rfl rfl ?_
      exact g_iret (pc := 84) C q d_M_spoilt_84 (hq _ _ hw)
    · replace hw := hw.2 h13
      refine g_iload_n (pc := 35) C d_M_spoilt_35 3 rfl rfl ?_
      refine g_aload_n (pc := 36) C d_M_spoilt_36 0 rfl rfl ?_
      refine k_Ia (pc := 37) (co_V C (c_M_hour (xl X) (xD X) (xt X) (xv X) a m _ hw) mw_M_hour lk_M_144 d_M_spoilt_37 (List.range _) (all_C _) (all_nd _) (rec_w C 0 6 rfl rfl) rfl rfl ⟨Nat.le_of_ble_eq_true rfl, Nat.le_of_ble_eq_true rfl⟩ ⟨Nat.le_of_ble_eq_true rfl, Nat.le_of_ble_eq_true rfl⟩ (rest := [.int x3]) rfl rfl (Nat.le_of_ble_eq_true rfl)) (fun v7 m_8 hw => ?_)
      refine g_iload_n (pc := 40) C d_M_spoilt_40 2 rfl rfl ?_
      refine g_icmp_ge (pc := 41) (tgt := 48) C d_M_spoilt_41 (by decide) (fun h12 => ?_) (fun h12 => ?_)
      · replace hw := hw.1 h12
        refine g_iconst (pc := 48) C (v := 0) d_M_spoilt_48 (by decide) ?_
        refine g_sub [0, 1, 2, 4] (lv' := [(0, .ref (a 0)), (1, .int x1), (2, .int x2), (4, .int x4)]) rfl ?_
        exact j_M_spoilt_49 C q a post hq ih m_8 x1 x2 x4 x3 0 hw
      · replace hw := hw.2 h12
        refine g_iconst (pc := 44) C (v := 1) d_M_spoilt_44 (by decide) ?_
        refine g_goto (pc := 45) (tgt := 49) C d_M_spoilt_45 (by decide) ?_
        refine g_sub [0, 1, 2, 4] (lv' := [(0, .ref (a 0)), (1, .int x1), (2, .int x2), (4, .int x4)]) rfl ?_
        exact j_M_spoilt_49 C q a post hq ih m_8 x1 x2 x4 x3 1 hw
def wp_M_spoilt (m : MSt) (x1 : Int32) (post : Int32 → MSt → Prop) : Prop :=
  ∀ y1 : Int64, y1 = x1.toInt64 → (wp_M_in y1 1 30 (fun v2 => ((v2 = 0) → (post (-1) m)) ∧ ((¬ v2 = 0) → (wp_M_keepAside m (fun m_3 => wp_M_cargoBehind m_3 1 (fun v4 m_5 => w_M_spoilt_29  post  2000 m_5 x1 v4 0 0))))))
set_option maxRecDepth 20000 in
theorem g_M_spoilt {X : GX} (C : GC X b_M_spoilt R_M 6 (rmd 6)) {Qp : Option Value → va_W → Prop} (q : RC X ((some .int)) Qp 0 0) (a : Nat → Nat) (m : MSt) (x1 : Int32) (post : Int32 → MSt → Prop) (hq : ∀ v c1, post v c1 → Qp (some (.int v)) (woM (xt X) a c1)) (hw : wp_M_spoilt m x1 post) : G X 0 0 (woM (xt X) a m) [(0, .ref (a 0)), (1, .int x1)] [] 0 := by
  unfold wp_M_spoilt at hw
  refine g_iload_n (pc := 0) C d_M_spoilt_0 1 rfl rfl ?_
  refine g_i2l (pc := 1) C d_M_spoilt_1 ?_
  refine g_topl (fun y1 ey1 => ?_)
  replace hw := hw y1 ey1
  refine g_lconst (pc := 2) C (v := 1) d_M_spoilt_2 (by decide) ?_
  refine g_ldc2_w (pc := 3) C (v := 30) d_M_spoilt_3 lk_M_136 ?_
  refine k_I0 (pc := 6) (co_S C (c_M_in (xl X) (xD X) (xt X) (xv X) y1 1 30 _ hw) mw_M_in lk_M_58 d_M_spoilt_6 [] rfl (by decide)  rfl rfl ⟨Nat.le_of_ble_eq_true rfl, Nat.le_of_ble_eq_true rfl⟩ ⟨Nat.le_of_ble_eq_true rfl, Nat.le_of_ble_eq_true rfl⟩ (rest := []) rfl rfl (Nat.le_of_ble_eq_true rfl)) (fun v2 hw => ?_)
  refine g_if_ne (pc := 9) (tgt := 14) C d_M_spoilt_9 (by decide) (fun h14 => ?_) (fun h14 => ?_)
  · replace hw := hw.2 h14
    refine g_aload_n (pc := 14) C d_M_spoilt_14 0 rfl rfl ?_
    refine k_Va (pc := 15) (co_V C (c_M_keepAside (xl X) (xD X) (xt X) (xv X) a m _ hw) mw_M_keepAside lk_M_138 d_M_spoilt_15 (List.range _) (all_C _) (all_nd _) (rec_w C 0 6 rfl rfl) rfl rfl ⟨Nat.le_of_ble_eq_true rfl, Nat.le_of_ble_eq_true rfl⟩ ⟨Nat.le_of_ble_eq_true rfl, Nat.le_of_ble_eq_true rfl⟩ (rest := []) rfl rfl (Nat.le_of_ble_eq_true rfl)) (fun m_3 hw => ?_)
    refine g_aload_n (pc := 18) C d_M_spoilt_18 0 rfl rfl ?_
    refine g_iconst (pc := 19) C (v := 1) d_M_spoilt_19 (by decide) ?_
    refine k_Ia (pc := 20) (co_V C (c_M_cargoBehind (xl X) (xD X) (xt X) (xv X) a m_3 1 _ hw) mw_M_cargoBehind lk_M_141 d_M_spoilt_20 (List.range _) (all_C _) (all_nd _) (rec_w C 0 6 rfl rfl) rfl rfl ⟨Nat.le_of_ble_eq_true rfl, Nat.le_of_ble_eq_true rfl⟩ ⟨Nat.le_of_ble_eq_true rfl, Nat.le_of_ble_eq_true rfl⟩ (rest := []) rfl rfl (Nat.le_of_ble_eq_true rfl)) (fun v4 m_5 hw => ?_)
    refine g_istore_n (pc := 23) C d_M_spoilt_23 rfl (Nat.le_of_ble_eq_true rfl) (lv' := [(0, .ref (a 0)), (1, .int x1), (2, .int v4)]) rfl ?_
    refine g_iconst (pc := 24) C (v := 0) d_M_spoilt_24 (by decide) ?_
    refine g_istore_n (pc := 25) C d_M_spoilt_25 rfl (Nat.le_of_ble_eq_true rfl) (lv' := [(0, .ref (a 0)), (1, .int x1), (2, .int v4), (3, .int 0)]) rfl ?_
    refine g_iconst (pc := 26) C (v := 0) d_M_spoilt_26 (by decide) ?_
    refine g_istore (pc := 27) C d_M_spoilt_27 (Nat.le_of_ble_eq_true rfl) (lv' := [(0, .ref (a 0)), (1, .int x1), (2, .int v4), (3, .int 0), (4, .int 0)]) rfl ?_
    exact j_M_spoilt_29 C q a post hq  2000 m_5 x1 v4 0 0 hw
  · replace hw := hw.1 h14
    refine g_iconst (pc := 12) C (v := (-1)) d_M_spoilt_12 (by decide) ?_
    exact g_iret (pc := 13) C q d_M_spoilt_13 (hq _ _ hw)
set_option maxRecDepth 20000 in
theorem c_M_spoilt (l : Launch) (D : va_G) (t : Nat → ClassId) (ev : Nat → Nat) (a : Nat → Nat) (m : MSt) (x1 : Int32) (post : Int32 → MSt → Prop) (hw : wp_M_spoilt m x1 post) : Con l D t ev y_M_spoilt b_M_spoilt 6 ((some .int)) 6 (woM t a m) [.ref (a 0), .int x1] (qI (woM t a)  post) :=
  ConR.of (by decide +kernel) (Nat.le_of_ble_eq_true rfl) (fun X el eD et ee C q _ => by subst el; subst eD; subst et; subst ee; exact g_M_spoilt C q a m x1 post (fun v c1 h => ⟨⟨v, c1, rfl, rfl, h⟩, rfl⟩) hw)
def w_M_loudest_4  (post : Int32 → MSt → Prop)  : Nat → MSt → Int32 → Int32 → Prop
  | 0, _, _, _ => False
  | n + 1, m, x1, x2 =>
    ((10 ≤ x2) → (∀ y1 : Int32, y1 = 17 + x1 → (vp_in y1 67 ∧ (((((M_d m) y1.toNatClampNeg) = 0) → (post 10 m)) ∧ ((¬ ((M_d m) y1.toNatClampNeg) = 0) → (post x1 m)))))) ∧ ((¬ 10 ≤ x2) → (∀ y4 : Int32, y4 = 17 + x2 → (vp_in y4 67 ∧ (∀ y6 : Int32, y6 = 17 + x1 → (vp_in y6 67 ∧ (((((M_d m) y4.toNatClampNeg) ≤ ((M_d m) y6.toNatClampNeg)) → (∀ y8 : Int32, y8 = x2 + 1 → (w_M_loudest_4  post  n m x1 y8))) ∧ ((¬ ((M_d m) y4.toNatClampNeg) ≤ ((M_d m) y6.toNatClampNeg)) → (∀ y9 : Int32, y9 = x2 + 1 → (w_M_loudest_4  post  n m x2 y9)))))))))
set_option maxRecDepth 20000 in
theorem j_M_loudest_4 {X : GX} (C : GC X b_M_loudest R_M 3 (rmd 0)) {Qp : Option Value → va_W → Prop} (q : RC X ((some .int)) Qp 0 0) (a : Nat → Nat)   (post : Int32 → MSt → Prop) (hq : ∀ v c1, post v c1 → Qp (some (.int v)) (woM (xt X) a c1)) : ∀ (n : Nat) (m : MSt) (x1 : Int32) (x2 : Int32), w_M_loudest_4  post  n m x1 x2 → G X 0 0 (woM (xt X) a m) [(0, .ref (a 0)), (1, .int x1), (2, .int x2)] [] 4 := by
  intro n
  induction n with
  | zero => intro m x1 x2 hw; exact hw.elim
  | succ n ih =>
    intro m x1 x2 hw
    rw [w_M_loudest_4] at hw
    refine g_iload_n (pc := 4) C d_M_loudest_4 2 rfl rfl ?_
    refine g_bipush (pc := 5) C (v := 10) d_M_loudest_5 (by decide) ?_
    refine g_icmp_ge (pc := 7) (tgt := 43) C d_M_loudest_7 (by decide) (fun h11 => ?_) (fun h11 => ?_)
    · replace hw := hw.1 h11
      refine g_aload_n (pc := 43) C d_M_loudest_43 0 rfl rfl ?_
      refine fM_d (pc := 44) C lk_M_7 d_M_loudest_44 ?_
      refine g_bipush (pc := 47) C (v := 17) d_M_loudest_47 (by decide) ?_
      refine g_iload_n (pc := 49) C d_M_loudest_49 1 rfl rfl ?_
      refine g_iadd (pc := 50) C d_M_loudest_50 ?_
      refine g_topi (fun y1 ey1 => ?_)
      replace hw := hw y1 ey1
      obtain ⟨h2, hw⟩ := hw
      refine lM_d (pc := 51) C d_M_loudest_51 (f := M_d m) rfl (N0 := y1.toNatClampNeg) rfl h2 ?_
      refine g_if_ne (pc := 52) (tgt := 60) C d_M_loudest_52 (by decide) (fun h3 => ?_) (fun h3 => ?_)
      · replace hw := hw.2 h3
        refine g_iload_n (pc := 60) C d_M_loudest_60 1 rfl rfl ?_
        exact g_iret (pc := 61) C q d_M_loudest_61 (hq _ _ hw)
      · replace hw := hw.1 h3
        refine g_bipush (pc := 55) C (v := 10) d_M_loudest_55 (by decide) ?_
        refine g_goto (pc := 57) (tgt := 61) C d_M_loudest_57 (by decide) ?_
        exact g_iret (pc := 61) C q d_M_loudest_61 (hq _ _ hw)
    · replace hw := hw.2 h11
      refine g_aload_n (pc := 10) C d_M_loudest_10 0 rfl rfl ?_
      refine fM_d (pc := 11) C lk_M_7 d_M_loudest_11 ?_
      refine g_bipush (pc := 14) C (v := 17) d_M_loudest_14 (by decide) ?_
      refine g_iload_n (pc := 16) C d_M_loudest_16 2 rfl rfl ?_
      refine g_iadd (pc := 17) C d_M_loudest_17 ?_
      refine g_topi (fun y4 ey4 => ?_)
      replace hw := hw y4 ey4
      obtain ⟨h5, hw⟩ := hw
      refine lM_d (pc := 18) C d_M_loudest_18 (f := M_d m) rfl (N0 := y4.toNatClampNeg) rfl h5 ?_
      refine g_aload_n (pc := 19) C d_M_loudest_19 0 rfl rfl ?_
      refine fM_d (pc := 20) C lk_M_7 d_M_loudest_20 ?_
      refine g_bipush (pc := 23) C (v := 17) d_M_loudest_23 (by decide) ?_
      refine g_iload_n (pc := 25) C d_M_loudest_25 1 rfl rfl ?_
      refine g_iadd (pc := 26) C d_M_loudest_26 ?_
      refine g_topi (fun y6 ey6 => ?_)
      replace hw := hw y6 ey6
      obtain ⟨h7, hw⟩ := hw
      refine lM_d (pc := 27) C d_M_loudest_27 (f := M_d m) rfl (N0 := y6.toNatClampNeg) rfl h7 ?_
      refine g_icmp_le (pc := 28) (tgt := 35) C d_M_loudest_28 (by decide) (fun h10 => ?_) (fun h10 => ?_)
      · replace hw := hw.1 h10
        refine g_iload_n (pc := 35) C d_M_loudest_35 1 rfl rfl ?_
        refine g_istore_n (pc := 36) C d_M_loudest_36 rfl (Nat.le_of_ble_eq_true rfl) (lv' := [(0, .ref (a 0)), (1, .int x1), (2, .int x2)]) rfl ?_
        obtain ⟨y8, ey8⟩ : ∃ w, w = x2 + 1 := ⟨_, rfl⟩
        replace hw := hw y8 ey8
        refine g_iinc (pc := 37) C d_M_loudest_37 2 rfl (v := y8) (by rw [ey8]; rfl) (Nat.le_of_ble_eq_true rfl) (lv' := [(0, .ref (a 0)), (1, .int x1), (2, .int y8)]) rfl ?_
        refine g_goto (pc := 40) (tgt := 4) C d_M_loudest_40 (by decide) ?_
        exact ih m x1 y8 hw
      · replace hw := hw.2 h10
        refine g_iload_n (pc := 31) C d_M_loudest_31 2 rfl rfl ?_
        refine g_goto (pc := 32) (tgt := 36) C d_M_loudest_32 (by decide) ?_
        refine g_istore_n (pc := 36) C d_M_loudest_36 rfl (Nat.le_of_ble_eq_true rfl) (lv' := [(0, .ref (a 0)), (1, .int x2), (2, .int x2)]) rfl ?_
        obtain ⟨y9, ey9⟩ : ∃ w, w = x2 + 1 := ⟨_, rfl⟩
        replace hw := hw y9 ey9
        refine g_iinc (pc := 37) C d_M_loudest_37 2 rfl (v := y9) (by rw [ey9]; rfl) (Nat.le_of_ble_eq_true rfl) (lv' := [(0, .ref (a 0)), (1, .int x2), (2, .int y9)]) rfl ?_
        refine g_goto (pc := 40) (tgt := 4) C d_M_loudest_40 (by decide) ?_
        exact ih m x2 y9 hw
def wp_M_loudest (m : MSt) (post : Int32 → MSt → Prop) : Prop :=
  w_M_loudest_4  post  2000 m 0 0
set_option maxRecDepth 20000 in
theorem g_M_loudest {X : GX} (C : GC X b_M_loudest R_M 3 (rmd 0)) {Qp : Option Value → va_W → Prop} (q : RC X ((some .int)) Qp 0 0) (a : Nat → Nat) (m : MSt) (post : Int32 → MSt → Prop) (hq : ∀ v c1, post v c1 → Qp (some (.int v)) (woM (xt X) a c1)) (hw : wp_M_loudest m post) : G X 0 0 (woM (xt X) a m) [(0, .ref (a 0))] [] 0 := by
  unfold wp_M_loudest at hw
  refine g_iconst (pc := 0) C (v := 0) d_M_loudest_0 (by decide) ?_
  refine g_istore_n (pc := 1) C d_M_loudest_1 rfl (Nat.le_of_ble_eq_true rfl) (lv' := [(0, .ref (a 0)), (1, .int 0)]) rfl ?_
  refine g_iconst (pc := 2) C (v := 0) d_M_loudest_2 (by decide) ?_
  refine g_istore_n (pc := 3) C d_M_loudest_3 rfl (Nat.le_of_ble_eq_true rfl) (lv' := [(0, .ref (a 0)), (1, .int 0), (2, .int 0)]) rfl ?_
  exact j_M_loudest_4 C q a post hq  2000 m 0 0 hw
set_option maxRecDepth 20000 in
theorem c_M_loudest (l : Launch) (D : va_G) (t : Nat → ClassId) (ev : Nat → Nat) (a : Nat → Nat) (m : MSt) (post : Int32 → MSt → Prop) (hw : wp_M_loudest m post) : Con l D t ev y_M_loudest b_M_loudest 3 ((some .int)) 0 (woM t a m) [.ref (a 0)] (qI (woM t a)  post) :=
  ConR.of (by decide +kernel) (Nat.le_of_ble_eq_true rfl) (fun X el eD et ee C q _ => by subst el; subst eD; subst et; subst ee; exact g_M_loudest C q a m post (fun v c1 h => ⟨⟨v, c1, rfl, rfl, h⟩, rfl⟩) hw)
def wp_M_state (m : MSt) (x1 : Int32) (post : Int32 → MSt → Prop) : Prop :=
  ((x1 = 0) → (post ((M_d m) 5) m)) ∧ ((¬ x1 = 0) → (((x1 = 1) → (wp_M_loads m (fun v1 m_2 => post v1 m_2))) ∧ ((¬ x1 = 1) → (((x1 = 2) → (wp_M_lostAll m (fun v3 m_4 => post v3 m_4))) ∧ ((¬ x1 = 2) → (((x1 = 3) → (wp_M_landed m (fun v5 m_6 => post v5 m_6))) ∧ ((¬ x1 = 3) → (((x1 = 4) → (wp_M_places m (fun v7 m_8 => post v7 m_8))) ∧ ((¬ x1 = 4) → (((x1 = 5) → (wp_M_loudest m (fun v9 m_10 => post v9 m_10))) ∧ ((¬ x1 = 5) → (post (-1) m))))))))))))
set_option maxRecDepth 20000 in
theorem g_M_state {X : GX} (C : GC X b_M_state R_M 2 (rmd 3)) {Qp : Option Value → va_W → Prop} (q : RC X ((some .int)) Qp 0 0) (a : Nat → Nat) (m : MSt) (x1 : Int32) (post : Int32 → MSt → Prop) (hq : ∀ v c1, post v c1 → Qp (some (.int v)) (woM (xt X) a c1)) (hw : wp_M_state m x1 post) : G X 0 0 (woM (xt X) a m) [(0, .ref (a 0)), (1, .int x1)] [] 0 := by
  unfold wp_M_state at hw
  refine g_iload_n (pc := 0) C d_M_state_0 1 rfl rfl ?_
  by_cases h11 : x1 = 0
  · replace hw := hw.1 h11
    refine g_tabIn (pc := 1) (tgt := 40) C d_M_state_1 (by rw [h11]; decide) (by rw [h11]; decide) (off := 39) (by rw [h11]; rfl) (by decide) ?_
    refine g_aload_n (pc := 40) C d_M_state_40 0 rfl rfl ?_
    refine fM_d (pc := 41) C lk_M_7 d_M_state_41 ?_
    refine g_iconst (pc := 44) C (v := 5) d_M_state_44 (by decide) ?_
    refine lM_d (pc := 45) C d_M_state_45 (f := M_d m) rfl (N0 := 5) (by decide) (by unfold vp_in; decide) ?_
    exact g_iret (pc := 46) C q d_M_state_46 (hq _ _ hw)
  · replace hw := hw.2 h11
    by_cases h12 : x1 = 1
    · replace hw := hw.1 h12
      refine g_tabIn (pc := 1) (tgt := 47) C d_M_state_1 (by rw [h12]; decide) (by rw [h12]; decide) (off := 46) (by rw [h12]; rfl) (by decide) ?_
      refine g_aload_n (pc := 47) C d_M_state_47 0 rfl rfl ?_
      refine k_Ia (pc := 48) (co_V C (c_M_loads (xl X) (xD X) (xt X) (xv X) a m _ hw) mw_M_loads lk_M_128 d_M_state_48 (List.range _) (all_C _) (all_nd _) (rec_w C 0 6 rfl rfl) rfl rfl ⟨Nat.le_of_ble_eq_true rfl, Nat.le_of_ble_eq_true rfl⟩ ⟨Nat.le_of_ble_eq_true rfl, Nat.le_of_ble_eq_true rfl⟩ (rest := []) rfl rfl (Nat.le_of_ble_eq_true rfl)) (fun v1 m_2 hw => ?_)
      exact g_iret (pc := 51) C q d_M_state_51 (hq _ _ hw)
    · replace hw := hw.2 h12
      by_cases h13 : x1 = 2
      · replace hw := hw.1 h13
        refine g_tabIn (pc := 1) (tgt := 52) C d_M_state_1 (by rw [h13]; decide) (by rw [h13]; decide) (off := 51) (by rw [h13]; rfl) (by decide) ?_
        refine g_aload_n (pc := 52) C d_M_state_52 0 rfl rfl ?_
        refine k_Ia (pc := 53) (co_V C (c_M_lostAll (xl X) (xD X) (xt X) (xv X) a m _ hw) mw_M_lostAll lk_M_150 d_M_state_53 (List.range _) (all_C _) (all_nd _) (rec_w C 0 6 rfl rfl) rfl rfl ⟨Nat.le_of_ble_eq_true rfl, Nat.le_of_ble_eq_true rfl⟩ ⟨Nat.le_of_ble_eq_true rfl, Nat.le_of_ble_eq_true rfl⟩ (rest := []) rfl rfl (Nat.le_of_ble_eq_true rfl)) (fun v3 m_4 hw => ?_)
        exact g_iret (pc := 56) C q d_M_state_56 (hq _ _ hw)
      · replace hw := hw.2 h13
        by_cases h14 : x1 = 3
        · replace hw := hw.1 h14
          refine g_tabIn (pc := 1) (tgt := 57) C d_M_state_1 (by rw [h14]; decide) (by rw [h14]; decide) (off := 56) (by rw [h14]; rfl) (by decide) ?_
          refine g_aload_n (pc := 57) C d_M_state_57 0 rfl rfl ?_
          refine k_Ia (pc := 58) (co_V C (c_M_landed (xl X) (xD X) (xt X) (xv X) a m _ hw) mw_M_landed lk_M_153 d_M_state_58 (List.range _) (all_C _) (all_nd _) (rec_w C 0 6 rfl rfl) rfl rfl ⟨Nat.le_of_ble_eq_true rfl, Nat.le_of_ble_eq_true rfl⟩ ⟨Nat.le_of_ble_eq_true rfl, Nat.le_of_ble_eq_true rfl⟩ (rest := []) rfl rfl (Nat.le_of_ble_eq_true rfl)) (fun v5 m_6 hw => ?_)
          exact g_iret (pc := 61) C q d_M_state_61 (hq _ _ hw)
        · replace hw := hw.2 h14
          by_cases h15 : x1 = 4
          · replace hw := hw.1 h15
            refine g_tabIn (pc := 1) (tgt := 62) C d_M_state_1 (by rw [h15]; decide) (by rw [h15]; decide) (off := 61) (by rw [h15]; rfl) (by decide) ?_
            refine g_aload_n (pc := 62) C d_M_state_62 0 rfl rfl ?_
            refine k_Ia (pc := 63) (co_V C (c_M_places (xl X) (xD X) (xt X) (xv X) a m _ hw) mw_M_places lk_M_156 d_M_state_63 (List.range _) (all_C _) (all_nd _) (rec_w C 0 6 rfl rfl) rfl rfl ⟨Nat.le_of_ble_eq_true rfl, Nat.le_of_ble_eq_true rfl⟩ ⟨Nat.le_of_ble_eq_true rfl, Nat.le_of_ble_eq_true rfl⟩ (rest := []) rfl rfl (Nat.le_of_ble_eq_true rfl)) (fun v7 m_8 hw => ?_)
            exact g_iret (pc := 66) C q d_M_state_66 (hq _ _ hw)
          · replace hw := hw.2 h15
            by_cases h16 : x1 = 5
            · replace hw := hw.1 h16
              refine g_tabIn (pc := 1) (tgt := 67) C d_M_state_1 (by rw [h16]; decide) (by rw [h16]; decide) (off := 66) (by rw [h16]; rfl) (by decide) ?_
              refine g_aload_n (pc := 67) C d_M_state_67 0 rfl rfl ?_
              refine k_Ia (pc := 68) (co_V C (c_M_loudest (xl X) (xD X) (xt X) (xv X) a m _ hw) mw_M_loudest lk_M_159 d_M_state_68 (List.range _) (all_C _) (all_nd _) (rec_w C 0 6 rfl rfl) rfl rfl ⟨Nat.le_of_ble_eq_true rfl, Nat.le_of_ble_eq_true rfl⟩ ⟨Nat.le_of_ble_eq_true rfl, Nat.le_of_ble_eq_true rfl⟩ (rest := []) rfl rfl (Nat.le_of_ble_eq_true rfl)) (fun v9 m_10 hw => ?_)
              exact g_iret (pc := 71) C q d_M_state_71 (hq _ _ hw)
            · replace hw := hw.2 h16
              have h11_ := sw_ne (v := 0) h11 (by decide)
              have h12_ := sw_ne (v := 1) h12 (by decide)
              have h13_ := sw_ne (v := 2) h13 (by decide)
              have h14_ := sw_ne (v := 3) h14 (by decide)
              have h15_ := sw_ne (v := 4) h15 (by decide)
              have h16_ := sw_ne (v := 5) h16 (by decide)
              refine g_tabOut (pc := 1) (tgt := 72) C d_M_state_1 (by omega) (by decide) ?_
              refine g_iconst (pc := 72) C (v := (-1)) d_M_state_72 (by decide) ?_
              exact g_iret (pc := 73) C q d_M_state_73 (hq _ _ hw)
set_option maxRecDepth 20000 in
theorem c_M_state (l : Launch) (D : va_G) (t : Nat → ClassId) (ev : Nat → Nat) (a : Nat → Nat) (m : MSt) (x1 : Int32) (post : Int32 → MSt → Prop) (hw : wp_M_state m x1 post) : Con l D t ev y_M_state b_M_state 2 ((some .int)) 3 (woM t a m) [.ref (a 0), .int x1] (qI (woM t a)  post) :=
  ConR.of (by decide +kernel) (Nat.le_of_ble_eq_true rfl) (fun X el eD et ee C q _ => by subst el; subst eD; subst et; subst ee; exact g_M_state C q a m x1 post (fun v c1 h => ⟨⟨v, c1, rfl, rfl, h⟩, rfl⟩) hw)
def wp_M_behind (m : MSt) (x1 : Int32) (x2 : Int32) (post : Int32 → MSt → Prop) : Prop :=
  wp_M_hoursGo m x1 (fun m_1 => vp_in x2 67 ∧ (wp_M_putBack m_1 (fun m_3 => post ((M_d m_1) x2.toNatClampNeg) m_3)))
set_option maxRecDepth 20000 in
theorem g_M_behind {X : GX} (C : GC X b_M_behind R_M 4 (rmd 5)) {Qp : Option Value → va_W → Prop} (q : RC X ((some .int)) Qp 0 0) (a : Nat → Nat) (m : MSt) (x1 : Int32) (x2 : Int32) (post : Int32 → MSt → Prop) (hq : ∀ v c1, post v c1 → Qp (some (.int v)) (woM (xt X) a c1)) (hw : wp_M_behind m x1 x2 post) : G X 0 0 (woM (xt X) a m) [(0, .ref (a 0)), (1, .int x1), (2, .int x2)] [] 0 := by
  unfold wp_M_behind at hw
  refine g_aload_n (pc := 0) C d_M_behind_0 0 rfl rfl ?_
  refine g_iload_n (pc := 1) C d_M_behind_1 1 rfl rfl ?_
  refine k_Va (pc := 2) (co_V C (c_M_hoursGo (xl X) (xD X) (xt X) (xv X) a m x1 _ hw) mw_M_hoursGo lk_M_125 d_M_behind_2 (List.range _) (all_C _) (all_nd _) (rec_w C 0 6 rfl rfl) rfl rfl ⟨Nat.le_of_ble_eq_true rfl, Nat.le_of_ble_eq_true rfl⟩ ⟨Nat.le_of_ble_eq_true rfl, Nat.le_of_ble_eq_true rfl⟩ (rest := []) rfl rfl (Nat.le_of_ble_eq_true rfl)) (fun m_1 hw => ?_)
  refine g_aload_n (pc := 5) C d_M_behind_5 0 rfl rfl ?_
  refine fM_d (pc := 6) C lk_M_7 d_M_behind_6 ?_
  refine g_iload_n (pc := 9) C d_M_behind_9 2 rfl rfl ?_
  obtain ⟨h2, hw⟩ := hw
  refine lM_d (pc := 10) C d_M_behind_10 (f := M_d m_1) rfl (N0 := x2.toNatClampNeg) rfl h2 ?_
  refine g_istore_n (pc := 11) C d_M_behind_11 rfl (Nat.le_of_ble_eq_true rfl) (lv' := [(0, .ref (a 0)), (1, .int x1), (2, .int x2), (3, .int ((M_d m_1) x2.toNatClampNeg))]) rfl ?_
  refine g_aload_n (pc := 12) C d_M_behind_12 0 rfl rfl ?_
  refine k_Va (pc := 13) (co_V C (c_M_putBack (xl X) (xD X) (xt X) (xv X) a m_1 _ hw) mw_M_putBack lk_M_147 d_M_behind_13 (List.range _) (all_C _) (all_nd _) (rec_w C 0 6 rfl rfl) rfl rfl ⟨Nat.le_of_ble_eq_true rfl, Nat.le_of_ble_eq_true rfl⟩ ⟨Nat.le_of_ble_eq_true rfl, Nat.le_of_ble_eq_true rfl⟩ (rest := []) rfl rfl (Nat.le_of_ble_eq_true rfl)) (fun m_3 hw => ?_)
  refine g_iload_n (pc := 16) C d_M_behind_16 3 rfl rfl ?_
  exact g_iret (pc := 17) C q d_M_behind_17 (hq _ _ hw)
set_option maxRecDepth 20000 in
theorem c_M_behind (l : Launch) (D : va_G) (t : Nat → ClassId) (ev : Nat → Nat) (a : Nat → Nat) (m : MSt) (x1 : Int32) (x2 : Int32) (post : Int32 → MSt → Prop) (hw : wp_M_behind m x1 x2 post) : Con l D t ev y_M_behind b_M_behind 4 ((some .int)) 5 (woM t a m) [.ref (a 0), .int x1, .int x2] (qI (woM t a)  post) :=
  ConR.of (by decide +kernel) (Nat.le_of_ble_eq_true rfl) (fun X el eD et ee C q _ => by subst el; subst eD; subst et; subst ee; exact g_M_behind C q a m x1 x2 post (fun v c1 h => ⟨⟨v, c1, rfl, rfl, h⟩, rfl⟩) hw)
def wp_M_loadOf (x0 : Int32) (post : Int32 → Prop) : Prop :=
  post (35 + x0) 
set_option maxRecDepth 20000 in
theorem g_M_loadOf {X : GX} (C : GC X b_M_loadOf R_M 1 (rmd 0)) {Qp : Option Value → va_W → Prop} (q : RC X ((some .int)) Qp 0 0) (x0 : Int32) (post : Int32 → Prop) (hq : ∀ v, post v → Qp (some (.int v)) []) (hw : wp_M_loadOf x0 post) : G X 0 0 ([]) [(0, .int x0)] [] 0 := by
  unfold wp_M_loadOf at hw
  refine g_bipush (pc := 0) C (v := 35) d_M_loadOf_0 (by decide) ?_
  refine g_iload_n (pc := 2) C d_M_loadOf_2 0 rfl rfl ?_
  refine g_iadd (pc := 3) C d_M_loadOf_3 ?_
  exact g_iret (pc := 4) C q d_M_loadOf_4 (hq _ hw)
set_option maxRecDepth 20000 in
theorem c_M_loadOf (l : Launch) (D : va_G) (t : Nat → ClassId) (ev : Nat → Nat) (x0 : Int32) (post : Int32 → Prop) (hw : wp_M_loadOf x0 post) : Con l D t ev y_M_loadOf b_M_loadOf 1 ((some .int)) 0 ([]) [.int x0] (qI (fun _ : Unit => [])  (fun v _ => post v)) :=
  ConR.of (by decide +kernel) (Nat.le_of_ble_eq_true rfl) (fun X el eD et ee C q _ => by subst el; subst eD; subst et; subst ee; exact g_M_loadOf C q x0 post (fun v h => ⟨⟨v, (), rfl, rfl, h⟩, rfl⟩) hw)
def wp_M_freight (m : MSt) (x1 : Int32) (x2 : Int32) (post : Int32 → MSt → Prop) : Prop :=
  wp_M_isBarge m x1 (fun v1 m_2 => ((v1 = 0) → (post (-1) m_2)) ∧ ((¬ v1 = 0) → (∀ y3 : Int64, y3 = x2.toInt64 → (wp_M_in y3 0 60 (fun v4 => ((v4 = 0) → (post (-1) m_2)) ∧ ((¬ v4 = 0) → (wp_M_keepAside m_2 (fun m_5 => wp_M_loadOf x1 (fun v6 => wp_M_behind m_5 x2 v6 (fun v7 m_8 => post v7 m_8))))))))))
set_option maxRecDepth 20000 in
theorem g_M_freight {X : GX} (C : GC X b_M_freight R_M 3 (rmd 6)) {Qp : Option Value → va_W → Prop} (q : RC X ((some .int)) Qp 0 0) (a : Nat → Nat) (m : MSt) (x1 : Int32) (x2 : Int32) (post : Int32 → MSt → Prop) (hq : ∀ v c1, post v c1 → Qp (some (.int v)) (woM (xt X) a c1)) (hw : wp_M_freight m x1 x2 post) : G X 0 0 (woM (xt X) a m) [(0, .ref (a 0)), (1, .int x1), (2, .int x2)] [] 0 := by
  unfold wp_M_freight at hw
  refine g_aload_n (pc := 0) C d_M_freight_0 0 rfl rfl ?_
  refine g_iload_n (pc := 1) C d_M_freight_1 1 rfl rfl ?_
  refine k_Ia (pc := 2) (co_V C (c_M_isBarge (xl X) (xD X) (xt X) (xv X) a m x1 _ hw) mw_M_isBarge lk_M_118 d_M_freight_2 (List.range _) (all_C _) (all_nd _) (rec_w C 0 6 rfl rfl) rfl rfl ⟨Nat.le_of_ble_eq_true rfl, Nat.le_of_ble_eq_true rfl⟩ ⟨Nat.le_of_ble_eq_true rfl, Nat.le_of_ble_eq_true rfl⟩ (rest := []) rfl rfl (Nat.le_of_ble_eq_true rfl)) (fun v1 m_2 hw => ?_)
  refine g_if_eq (pc := 5) (tgt := 20) C d_M_freight_5 (by decide) (fun h10 => ?_) (fun h10 => ?_)
  · replace hw := hw.1 h10
    refine g_iconst (pc := 20) C (v := (-1)) d_M_freight_20 (by decide) ?_
    exact g_iret (pc := 21) C q d_M_freight_21 (hq _ _ hw)
  · replace hw := hw.2 h10
    refine g_iload_n (pc := 8) C d_M_freight_8 2 rfl rfl ?_
    refine g_i2l (pc := 9) C d_M_freight_9 ?_
    refine g_topl (fun y3 ey3 => ?_)
    replace hw := hw y3 ey3
    refine g_lconst (pc := 10) C (v := 0) d_M_freight_10 (by decide) ?_
    refine g_ldc2_w (pc := 11) C (v := 60) d_M_freight_11 lk_M_123 ?_
    refine k_I0 (pc := 14) (co_S C (c_M_in (xl X) (xD X) (xt X) (xv X) y3 0 60 _ hw) mw_M_in lk_M_58 d_M_freight_14 [] rfl (by decide)  rfl rfl ⟨Nat.le_of_ble_eq_true rfl, Nat.le_of_ble_eq_true rfl⟩ ⟨Nat.le_of_ble_eq_true rfl, Nat.le_of_ble_eq_true rfl⟩ (rest := []) rfl rfl (Nat.le_of_ble_eq_true rfl)) (fun v4 hw => ?_)
    refine g_if_ne (pc := 17) (tgt := 22) C d_M_freight_17 (by decide) (fun h9 => ?_) (fun h9 => ?_)
    · replace hw := hw.2 h9
      refine g_aload_n (pc := 22) C d_M_freight_22 0 rfl rfl ?_
      refine k_Va (pc := 23) (co_V C (c_M_keepAside (xl X) (xD X) (xt X) (xv X) a m_2 _ hw) mw_M_keepAside lk_M_138 d_M_freight_23 (List.range _) (all_C _) (all_nd _) (rec_w C 0 6 rfl rfl) rfl rfl ⟨Nat.le_of_ble_eq_true rfl, Nat.le_of_ble_eq_true rfl⟩ ⟨Nat.le_of_ble_eq_true rfl, Nat.le_of_ble_eq_true rfl⟩ (rest := []) rfl rfl (Nat.le_of_ble_eq_true rfl)) (fun m_5 hw => ?_)
      refine g_aload_n (pc := 26) C d_M_freight_26 0 rfl rfl ?_
      refine g_iload_n (pc := 27) C d_M_freight_27 2 rfl rfl ?_
      refine g_iload_n (pc := 28) C d_M_freight_28 1 rfl rfl ?_
      refine k_I0 (pc := 29) (co_S C (c_M_loadOf (xl X) (xD X) (xt X) (xv X) x1 _ hw) mw_M_loadOf lk_M_162 d_M_freight_29 [] rfl (by decide)  rfl rfl ⟨Nat.le_of_ble_eq_true rfl, Nat.le_of_ble_eq_true rfl⟩ ⟨Nat.le_of_ble_eq_true rfl, Nat.le_of_ble_eq_true rfl⟩ (rest := [.int x2, .ref (a 0)]) rfl rfl (Nat.le_of_ble_eq_true rfl)) (fun v6 hw => ?_)
      refine k_Ia (pc := 32) (co_V C (c_M_behind (xl X) (xD X) (xt X) (xv X) a m_5 x2 v6 _ hw) mw_M_behind lk_M_165 d_M_freight_32 (List.range _) (all_C _) (all_nd _) (rec_w C 0 6 rfl rfl) rfl rfl ⟨Nat.le_of_ble_eq_true rfl, Nat.le_of_ble_eq_true rfl⟩ ⟨Nat.le_of_ble_eq_true rfl, Nat.le_of_ble_eq_true rfl⟩ (rest := []) rfl rfl (Nat.le_of_ble_eq_true rfl)) (fun v7 m_8 hw => ?_)
      exact g_iret (pc := 35) C q d_M_freight_35 (hq _ _ hw)
    · replace hw := hw.1 h9
      refine g_iconst (pc := 20) C (v := (-1)) d_M_freight_20 (by decide) ?_
      exact g_iret (pc := 21) C q d_M_freight_21 (hq _ _ hw)
set_option maxRecDepth 20000 in
theorem c_M_freight (l : Launch) (D : va_G) (t : Nat → ClassId) (ev : Nat → Nat) (a : Nat → Nat) (m : MSt) (x1 : Int32) (x2 : Int32) (post : Int32 → MSt → Prop) (hw : wp_M_freight m x1 x2 post) : Con l D t ev y_M_freight b_M_freight 3 ((some .int)) 6 (woM t a m) [.ref (a 0), .int x1, .int x2] (qI (woM t a)  post) :=
  ConR.of (by decide +kernel) (Nat.le_of_ble_eq_true rfl) (fun X el eD et ee C q _ => by subst el; subst eD; subst et; subst ee; exact g_M_freight C q a m x1 x2 post (fun v c1 h => ⟨⟨v, c1, rfl, rfl, h⟩, rfl⟩) hw)
def w_M_lands_40  (post : Int32 → MSt → Prop)  (m : MSt) (x1 : Int32) (x2 : Int32) : Prop :=
  wp_M_hasLanded m x1 (fun v4 m_5 => wp_M_putBack m_5 (fun m_6 => ((v4 = 0) → (post (-3) m_6)) ∧ ((¬ v4 = 0) → (post x2 m_6))))
set_option maxRecDepth 20000 in
theorem j_M_lands_40 {X : GX} (C : GC X b_M_lands R_M 4 (rmd 4)) {Qp : Option Value → va_W → Prop} (q : RC X ((some .int)) Qp 0 0) (a : Nat → Nat)   (post : Int32 → MSt → Prop) (hq : ∀ v c1, post v c1 → Qp (some (.int v)) (woM (xt X) a c1)) : ∀ (m : MSt) (x1 : Int32) (x2 : Int32), w_M_lands_40  post  m x1 x2 → G X 0 0 (woM (xt X) a m) [(0, .ref (a 0)), (1, .int x1), (2, .int x2)] [] 40 := by
  intro m x1 x2 hw
  unfold w_M_lands_40 at hw
  refine g_aload_n (pc := 40) C d_M_lands_40 0 rfl rfl ?_
  refine g_iload_n (pc := 41) C d_M_lands_41 1 rfl rfl ?_
  refine k_Ia (pc := 42) (co_V C (c_M_hasLanded (xl X) (xD X) (xt X) (xv X) a m x1 _ hw) mw_M_hasLanded lk_M_80 d_M_lands_42 (List.range _) (all_C _) (all_nd _) (rec_w C 0 6 rfl rfl) rfl rfl ⟨Nat.le_of_ble_eq_true rfl, Nat.le_of_ble_eq_true rfl⟩ ⟨Nat.le_of_ble_eq_true rfl, Nat.le_of_ble_eq_true rfl⟩ (rest := []) rfl rfl (Nat.le_of_ble_eq_true rfl)) (fun v4 m_5 hw => ?_)
  refine g_istore_n (pc := 45) C d_M_lands_45 rfl (Nat.le_of_ble_eq_true rfl) (lv' := [(0, .ref (a 0)), (1, .int x1), (2, .int x2), (3, .int v4)]) rfl ?_
  refine g_aload_n (pc := 46) C d_M_lands_46 0 rfl rfl ?_
  refine k_Va (pc := 47) (co_V C (c_M_putBack (xl X) (xD X) (xt X) (xv X) a m_5 _ hw) mw_M_putBack lk_M_147 d_M_lands_47 (List.range _) (all_C _) (all_nd _) (rec_w C 0 6 rfl rfl) rfl rfl ⟨Nat.le_of_ble_eq_true rfl, Nat.le_of_ble_eq_true rfl⟩ ⟨Nat.le_of_ble_eq_true rfl, Nat.le_of_ble_eq_true rfl⟩ (rest := []) rfl rfl (Nat.le_of_ble_eq_true rfl)) (fun m_6 hw => ?_)
  refine g_iload_n (pc := 50) C d_M_lands_50 3 rfl rfl ?_
  refine g_if_eq (pc := 51) (tgt := 58) C d_M_lands_51 (by decide) (fun h7 => ?_) (fun h7 => ?_)
  · replace hw := hw.1 h7
    refine g_bipush (pc := 58) C (v := (-3)) d_M_lands_58 (by decide) ?_
    exact g_iret (pc := 60) C q d_M_lands_60 (hq _ _ hw)
  · replace hw := hw.2 h7
    refine g_iload_n (pc := 54) C d_M_lands_54 2 rfl rfl ?_
    refine g_goto (pc := 55) (tgt := 60) C d_M_lands_55 (by decide) ?_
    exact g_iret (pc := 60) C q d_M_lands_60 (hq _ _ hw)
def w_M_lands_16  (post : Int32 → MSt → Prop)  : Nat → MSt → Int32 → Int32 → Prop
  | 0, _, _, _ => False
  | n + 1, m, x1, x2 =>
    ((60 ≤ x2) → (w_M_lands_40  post  m x1 x2)) ∧ ((¬ 60 ≤ x2) → (wp_M_hasLanded m x1 (fun v8 m_9 => ((v8 = 0) → (wp_M_hourGoes m_9 (fun m_10 => ∀ y11 : Int32, y11 = x2 + 1 → (w_M_lands_16  post  n m_10 x1 y11)))) ∧ ((¬ v8 = 0) → (w_M_lands_40  post  m_9 x1 x2)))))
set_option maxRecDepth 20000 in
theorem j_M_lands_16 {X : GX} (C : GC X b_M_lands R_M 4 (rmd 4)) {Qp : Option Value → va_W → Prop} (q : RC X ((some .int)) Qp 0 0) (a : Nat → Nat)   (post : Int32 → MSt → Prop) (hq : ∀ v c1, post v c1 → Qp (some (.int v)) (woM (xt X) a c1)) : ∀ (n : Nat) (m : MSt) (x1 : Int32) (x2 : Int32), w_M_lands_16  post  n m x1 x2 → G X 0 0 (woM (xt X) a m) [(0, .ref (a 0)), (1, .int x1), (2, .int x2)] [] 16 := by
  intro n
  induction n with
  | zero => intro m x1 x2 hw; exact hw.elim
  | succ n ih =>
    intro m x1 x2 hw
    rw [w_M_lands_16] at hw
    refine g_iload_n (pc := 16) C d_M_lands_16 2 rfl rfl ?_
    refine g_bipush (pc := 17) C (v := 60) d_M_lands_17 (by decide) ?_
    refine g_icmp_ge (pc := 19) (tgt := 40) C d_M_lands_19 (by decide) (fun h13 => ?_) (fun h13 => ?_)
    · replace hw := hw.1 h13
      exact j_M_lands_40 C q a post hq  m x1 x2 hw
    · replace hw := hw.2 h13
      refine g_aload_n (pc := 22) C d_M_lands_22 0 rfl rfl ?_
      refine g_iload_n (pc := 23) C d_M_lands_23 1 rfl rfl ?_
      refine k_Ia (pc := 24) (co_V C (c_M_hasLanded (xl X) (xD X) (xt X) (xv X) a m x1 _ hw) mw_M_hasLanded lk_M_80 d_M_lands_24 (List.range _) (all_C _) (all_nd _) (rec_w C 0 6 rfl rfl) rfl rfl ⟨Nat.le_of_ble_eq_true rfl, Nat.le_of_ble_eq_true rfl⟩ ⟨Nat.le_of_ble_eq_true rfl, Nat.le_of_ble_eq_true rfl⟩ (rest := []) rfl rfl (Nat.le_of_ble_eq_true rfl)) (fun v8 m_9 hw => ?_)
      refine g_if_ne (pc := 27) (tgt := 40) C d_M_lands_27 (by decide) (fun h12 => ?_) (fun h12 => ?_)
      · replace hw := hw.2 h12
        exact j_M_lands_40 C q a post hq  m_9 x1 x2 hw
      · replace hw := hw.1 h12
        refine g_aload_n (pc := 30) C d_M_lands_30 0 rfl rfl ?_
        refine k_Va (pc := 31) (co_V C (c_M_hourGoes (xl X) (xD X) (xt X) (xv X) a m_9 _ hw) mw_M_hourGoes lk_M_95 d_M_lands_31 (List.range _) (all_C _) (all_nd _) (rec_w C 0 6 rfl rfl) rfl rfl ⟨Nat.le_of_ble_eq_true rfl, Nat.le_of_ble_eq_true rfl⟩ ⟨Nat.le_of_ble_eq_true rfl, Nat.le_of_ble_eq_true rfl⟩ (rest := []) rfl rfl (Nat.le_of_ble_eq_true rfl)) (fun m_10 hw => ?_)
        obtain ⟨y11, ey11⟩ : ∃ w, w = x2 + 1 := ⟨_, rfl⟩
        replace hw := hw y11 ey11
        refine g_iinc (pc := 34) C d_M_lands_34 2 rfl (v := y11) (by rw [ey11]; rfl) (Nat.le_of_ble_eq_true rfl) (lv' := [(0, .ref (a 0)), (1, .int x1), (2, .int y11)]) rfl ?_
        refine g_goto (pc := 37) (tgt := 16) C d_M_lands_37 (by decide) ?_
        exact ih m_10 x1 y11 hw
def wp_M_lands (m : MSt) (x1 : Int32) (post : Int32 → MSt → Prop) : Prop :=
  wp_M_isBarge m x1 (fun v1 m_2 => ((v1 = 0) → (post (-1) m_2)) ∧ ((¬ v1 = 0) → (wp_M_keepAside m_2 (fun m_3 => w_M_lands_16  post  2000 m_3 x1 0))))
set_option maxRecDepth 20000 in
theorem g_M_lands {X : GX} (C : GC X b_M_lands R_M 4 (rmd 4)) {Qp : Option Value → va_W → Prop} (q : RC X ((some .int)) Qp 0 0) (a : Nat → Nat) (m : MSt) (x1 : Int32) (post : Int32 → MSt → Prop) (hq : ∀ v c1, post v c1 → Qp (some (.int v)) (woM (xt X) a c1)) (hw : wp_M_lands m x1 post) : G X 0 0 (woM (xt X) a m) [(0, .ref (a 0)), (1, .int x1)] [] 0 := by
  unfold wp_M_lands at hw
  refine g_aload_n (pc := 0) C d_M_lands_0 0 rfl rfl ?_
  refine g_iload_n (pc := 1) C d_M_lands_1 1 rfl rfl ?_
  refine k_Ia (pc := 2) (co_V C (c_M_isBarge (xl X) (xD X) (xt X) (xv X) a m x1 _ hw) mw_M_isBarge lk_M_118 d_M_lands_2 (List.range _) (all_C _) (all_nd _) (rec_w C 0 6 rfl rfl) rfl rfl ⟨Nat.le_of_ble_eq_true rfl, Nat.le_of_ble_eq_true rfl⟩ ⟨Nat.le_of_ble_eq_true rfl, Nat.le_of_ble_eq_true rfl⟩ (rest := []) rfl rfl (Nat.le_of_ble_eq_true rfl)) (fun v1 m_2 hw => ?_)
  refine g_if_ne (pc := 5) (tgt := 10) C d_M_lands_5 (by decide) (fun h14 => ?_) (fun h14 => ?_)
  · replace hw := hw.2 h14
    refine g_aload_n (pc := 10) C d_M_lands_10 0 rfl rfl ?_
    refine k_Va (pc := 11) (co_V C (c_M_keepAside (xl X) (xD X) (xt X) (xv X) a m_2 _ hw) mw_M_keepAside lk_M_138 d_M_lands_11 (List.range _) (all_C _) (all_nd _) (rec_w C 0 6 rfl rfl) rfl rfl ⟨Nat.le_of_ble_eq_true rfl, Nat.le_of_ble_eq_true rfl⟩ ⟨Nat.le_of_ble_eq_true rfl, Nat.le_of_ble_eq_true rfl⟩ (rest := []) rfl rfl (Nat.le_of_ble_eq_true rfl)) (fun m_3 hw => ?_)
    refine g_iconst (pc := 14) C (v := 0) d_M_lands_14 (by decide) ?_
    refine g_istore_n (pc := 15) C d_M_lands_15 rfl (Nat.le_of_ble_eq_true rfl) (lv' := [(0, .ref (a 0)), (1, .int x1), (2, .int 0)]) rfl ?_
    exact j_M_lands_16 C q a post hq  2000 m_3 x1 0 hw
  · replace hw := hw.1 h14
    refine g_iconst (pc := 8) C (v := (-1)) d_M_lands_8 (by decide) ?_
    exact g_iret (pc := 9) C q d_M_lands_9 (hq _ _ hw)
set_option maxRecDepth 20000 in
theorem c_M_lands (l : Launch) (D : va_G) (t : Nat → ClassId) (ev : Nat → Nat) (a : Nat → Nat) (m : MSt) (x1 : Int32) (post : Int32 → MSt → Prop) (hw : wp_M_lands m x1 post) : Con l D t ev y_M_lands b_M_lands 4 ((some .int)) 4 (woM t a m) [.ref (a 0), .int x1] (qI (woM t a)  post) :=
  ConR.of (by decide +kernel) (Nat.le_of_ble_eq_true rfl) (fun X el eD et ee C q _ => by subst el; subst eD; subst et; subst ee; exact g_M_lands C q a m x1 post (fun v c1 h => ⟨⟨v, c1, rfl, rfl, h⟩, rfl⟩) hw)
def w_M_meets_80  (post : Int32 → MSt → Prop)  (m : MSt) (x3 : Int32) (s0 : Int32) : Prop :=
  wp_M_putBack m (fun m_10 => ((s0 = 0) → (post (-3) m_10)) ∧ ((¬ s0 = 0) → (post x3 m_10)))
set_option maxRecDepth 20000 in
theorem j_M_meets_80 {X : GX} (C : GC X b_M_meets R_M 5 (rmd 4)) {Qp : Option Value → va_W → Prop} (q : RC X ((some .int)) Qp 0 0) (a : Nat → Nat)   (post : Int32 → MSt → Prop) (hq : ∀ v c1, post v c1 → Qp (some (.int v)) (woM (xt X) a c1)) : ∀ (m : MSt) (x3 : Int32) (s0 : Int32), w_M_meets_80  post  m x3 s0 → G X 0 0 (woM (xt X) a m) [(0, .ref (a 0)), (3, .int x3)] [.int s0] 80 := by
  intro m x3 s0 hw
  unfold w_M_meets_80 at hw
  refine g_istore (pc := 80) C d_M_meets_80 (Nat.le_of_ble_eq_true rfl) (lv' := [(0, .ref (a 0)), (3, .int x3), (4, .int s0)]) rfl ?_
  refine g_aload_n (pc := 82) C d_M_meets_82 0 rfl rfl ?_
  refine k_Va (pc := 83) (co_V C (c_M_putBack (xl X) (xD X) (xt X) (xv X) a m _ hw) mw_M_putBack lk_M_147 d_M_meets_83 (List.range _) (all_C _) (all_nd _) (rec_w C 0 6 rfl rfl) rfl rfl ⟨Nat.le_of_ble_eq_true rfl, Nat.le_of_ble_eq_true rfl⟩ ⟨Nat.le_of_ble_eq_true rfl, Nat.le_of_ble_eq_true rfl⟩ (rest := []) rfl rfl (Nat.le_of_ble_eq_true rfl)) (fun m_10 hw => ?_)
  refine g_iload (pc := 86) C d_M_meets_86 2 rfl ?_
  refine g_if_eq (pc := 88) (tgt := 95) C d_M_meets_88 (by decide) (fun h11 => ?_) (fun h11 => ?_)
  · replace hw := hw.1 h11
    refine g_bipush (pc := 95) C (v := (-3)) d_M_meets_95 (by decide) ?_
    exact g_iret (pc := 97) C q d_M_meets_97 (hq _ _ hw)
  · replace hw := hw.2 h11
    refine g_iload_n (pc := 91) C d_M_meets_91 1 rfl rfl ?_
    refine g_goto (pc := 92) (tgt := 97) C d_M_meets_92 (by decide) ?_
    exact g_iret (pc := 97) C q d_M_meets_97 (hq _ _ hw)
def w_M_meets_60  (post : Int32 → MSt → Prop)  (m : MSt) (x1 : Int32) (x2 : Int32) (x3 : Int32) : Prop :=
  wp_M_get m x1 3 (fun v6 m_7 => wp_M_get m_7 x2 3 (fun v8 m_9 => ((v6 = v8) → (w_M_meets_80  post  m_9 x3 1)) ∧ ((¬ v6 = v8) → (w_M_meets_80  post  m_9 x3 0))))
set_option maxRecDepth 20000 in
theorem j_M_meets_60 {X : GX} (C : GC X b_M_meets R_M 5 (rmd 4)) {Qp : Option Value → va_W → Prop} (q : RC X ((some .int)) Qp 0 0) (a : Nat → Nat)   (post : Int32 → MSt → Prop) (hq : ∀ v c1, post v c1 → Qp (some (.int v)) (woM (xt X) a c1)) : ∀ (m : MSt) (x1 : Int32) (x2 : Int32) (x3 : Int32), w_M_meets_60  post  m x1 x2 x3 → G X 0 0 (woM (xt X) a m) [(0, .ref (a 0)), (1, .int x1), (2, .int x2), (3, .int x3)] [] 60 := by
  intro m x1 x2 x3 hw
  unfold w_M_meets_60 at hw
  refine g_aload_n (pc := 60) C d_M_meets_60 0 rfl rfl ?_
  refine g_iload_n (pc := 61) C d_M_meets_61 1 rfl rfl ?_
  refine g_iconst (pc := 62) C (v := 3) d_M_meets_62 (by decide) ?_
  refine k_Ia (pc := 63) (co_V C (c_M_get (xl X) (xD X) (xt X) (xv X) a m x1 3 _ hw) mw_M_get lk_M_64 d_M_meets_63 (List.range _) (all_C _) (all_nd _) (rec_w C 0 6 rfl rfl) rfl rfl ⟨Nat.le_of_ble_eq_true rfl, Nat.le_of_ble_eq_true rfl⟩ ⟨Nat.le_of_ble_eq_true rfl, Nat.le_of_ble_eq_true rfl⟩ (rest := []) rfl rfl (Nat.le_of_ble_eq_true rfl)) (fun v6 m_7 hw => ?_)
  refine g_aload_n (pc := 66) C d_M_meets_66 0 rfl rfl ?_
  refine g_iload_n (pc := 67) C d_M_meets_67 2 rfl rfl ?_
  refine g_iconst (pc := 68) C (v := 3) d_M_meets_68 (by decide) ?_
  refine k_Ia (pc := 69) (co_V C (c_M_get (xl X) (xD X) (xt X) (xv X) a m_7 x2 3 _ hw) mw_M_get lk_M_64 d_M_meets_69 (List.range _) (all_C _) (all_nd _) (rec_w C 0 6 rfl rfl) rfl rfl ⟨Nat.le_of_ble_eq_true rfl, Nat.le_of_ble_eq_true rfl⟩ ⟨Nat.le_of_ble_eq_true rfl, Nat.le_of_ble_eq_true rfl⟩ (rest := [.int v6]) rfl rfl (Nat.le_of_ble_eq_true rfl)) (fun v8 m_9 hw => ?_)
  refine g_icmp_ne (pc := 72) (tgt := 79) C d_M_meets_72 (by decide) (fun h12 => ?_) (fun h12 => ?_)
  · replace hw := hw.2 h12
    refine g_iconst (pc := 79) C (v := 0) d_M_meets_79 (by decide) ?_
    refine g_sub [0, 3] (lv' := [(0, .ref (a 0)), (3, .int x3)]) rfl ?_
    exact j_M_meets_80 C q a post hq  m_9 x3 0 hw
  · replace hw := hw.1 h12
    refine g_iconst (pc := 75) C (v := 1) d_M_meets_75 (by decide) ?_
    refine g_goto (pc := 76) (tgt := 80) C d_M_meets_76 (by decide) ?_
    refine g_sub [0, 3] (lv' := [(0, .ref (a 0)), (3, .int x3)]) rfl ?_
    exact j_M_meets_80 C q a post hq  m_9 x3 1 hw
def w_M_meets_29  (post : Int32 → MSt → Prop)  : Nat → MSt → Int32 → Int32 → Int32 → Prop
  | 0, _, _, _, _ => False
  | n + 1, m, x1, x2, x3 =>
    ((60 ≤ x3) → (w_M_meets_60  post  m x1 x2 x3)) ∧ ((¬ 60 ≤ x3) → (wp_M_get m x1 3 (fun v13 m_14 => wp_M_get m_14 x2 3 (fun v15 m_16 => ((v13 = v15) → (w_M_meets_60  post  m_16 x1 x2 x3)) ∧ ((¬ v13 = v15) → (wp_M_hourGoes m_16 (fun m_17 => ∀ y18 : Int32, y18 = x3 + 1 → (w_M_meets_29  post  n m_17 x1 x2 y18))))))))
set_option maxRecDepth 20000 in
theorem j_M_meets_29 {X : GX} (C : GC X b_M_meets R_M 5 (rmd 4)) {Qp : Option Value → va_W → Prop} (q : RC X ((some .int)) Qp 0 0) (a : Nat → Nat)   (post : Int32 → MSt → Prop) (hq : ∀ v c1, post v c1 → Qp (some (.int v)) (woM (xt X) a c1)) : ∀ (n : Nat) (m : MSt) (x1 : Int32) (x2 : Int32) (x3 : Int32), w_M_meets_29  post  n m x1 x2 x3 → G X 0 0 (woM (xt X) a m) [(0, .ref (a 0)), (1, .int x1), (2, .int x2), (3, .int x3)] [] 29 := by
  intro n
  induction n with
  | zero => intro m x1 x2 x3 hw; exact hw.elim
  | succ n ih =>
    intro m x1 x2 x3 hw
    rw [w_M_meets_29] at hw
    refine g_iload_n (pc := 29) C d_M_meets_29 3 rfl rfl ?_
    refine g_bipush (pc := 30) C (v := 60) d_M_meets_30 (by decide) ?_
    refine g_icmp_ge (pc := 32) (tgt := 60) C d_M_meets_32 (by decide) (fun h20 => ?_) (fun h20 => ?_)
    · replace hw := hw.1 h20
      exact j_M_meets_60 C q a post hq  m x1 x2 x3 hw
    · replace hw := hw.2 h20
      refine g_aload_n (pc := 35) C d_M_meets_35 0 rfl rfl ?_
      refine g_iload_n (pc := 36) C d_M_meets_36 1 rfl rfl ?_
      refine g_iconst (pc := 37) C (v := 3) d_M_meets_37 (by decide) ?_
      refine k_Ia (pc := 38) (co_V C (c_M_get (xl X) (xD X) (xt X) (xv X) a m x1 3 _ hw) mw_M_get lk_M_64 d_M_meets_38 (List.range _) (all_C _) (all_nd _) (rec_w C 0 6 rfl rfl) rfl rfl ⟨Nat.le_of_ble_eq_true rfl, Nat.le_of_ble_eq_true rfl⟩ ⟨Nat.le_of_ble_eq_true rfl, Nat.le_of_ble_eq_true rfl⟩ (rest := []) rfl rfl (Nat.le_of_ble_eq_true rfl)) (fun v13 m_14 hw => ?_)
      refine g_aload_n (pc := 41) C d_M_meets_41 0 rfl rfl ?_
      refine g_iload_n (pc := 42) C d_M_meets_42 2 rfl rfl ?_
      refine g_iconst (pc := 43) C (v := 3) d_M_meets_43 (by decide) ?_
      refine k_Ia (pc := 44) (co_V C (c_M_get (xl X) (xD X) (xt X) (xv X) a m_14 x2 3 _ hw) mw_M_get lk_M_64 d_M_meets_44 (List.range _) (all_C _) (all_nd _) (rec_w C 0 6 rfl rfl) rfl rfl ⟨Nat.le_of_ble_eq_true rfl, Nat.le_of_ble_eq_true rfl⟩ ⟨Nat.le_of_ble_eq_true rfl, Nat.le_of_ble_eq_true rfl⟩ (rest := [.int v13]) rfl rfl (Nat.le_of_ble_eq_true rfl)) (fun v15 m_16 hw => ?_)
      refine g_icmp_eq (pc := 47) (tgt := 60) C d_M_meets_47 (by decide) (fun h19 => ?_) (fun h19 => ?_)
      · replace hw := hw.1 h19
        exact j_M_meets_60 C q a post hq  m_16 x1 x2 x3 hw
      · replace hw := hw.2 h19
        refine g_aload_n (pc := 50) C d_M_meets_50 0 rfl rfl ?_
        refine k_Va (pc := 51) (co_V C (c_M_hourGoes (xl X) (xD X) (xt X) (xv X) a m_16 _ hw) mw_M_hourGoes lk_M_95 d_M_meets_51 (List.range _) (all_C _) (all_nd _) (rec_w C 0 6 rfl rfl) rfl rfl ⟨Nat.le_of_ble_eq_true rfl, Nat.le_of_ble_eq_true rfl⟩ ⟨Nat.le_of_ble_eq_true rfl, Nat.le_of_ble_eq_true rfl⟩ (rest := []) rfl rfl (Nat.le_of_ble_eq_true rfl)) (fun m_17 hw => ?_)
        obtain ⟨y18, ey18⟩ : ∃ w, w = x3 + 1 := ⟨_, rfl⟩
        replace hw := hw y18 ey18
        refine g_iinc (pc := 54) C d_M_meets_54 3 rfl (v := y18) (by rw [ey18]; rfl) (Nat.le_of_ble_eq_true rfl) (lv' := [(0, .ref (a 0)), (1, .int x1), (2, .int x2), (3, .int y18)]) rfl ?_
        refine g_goto (pc := 57) (tgt := 29) C d_M_meets_57 (by decide) ?_
        exact ih m_17 x1 x2 y18 hw
def wp_M_meets (m : MSt) (x1 : Int32) (x2 : Int32) (post : Int32 → MSt → Prop) : Prop :=
  wp_M_isBarge m x1 (fun v1 m_2 => ((v1 = 0) → (post (-1) m_2)) ∧ ((¬ v1 = 0) → (wp_M_isBarge m_2 x2 (fun v3 m_4 => ((v3 = 0) → (post (-1) m_4)) ∧ ((¬ v3 = 0) → (((x1 = x2) → (post (-1) m_4)) ∧ ((¬ x1 = x2) → (wp_M_keepAside m_4 (fun m_5 => w_M_meets_29  post  2000 m_5 x1 x2 0)))))))))
set_option maxRecDepth 20000 in
theorem g_M_meets {X : GX} (C : GC X b_M_meets R_M 5 (rmd 4)) {Qp : Option Value → va_W → Prop} (q : RC X ((some .int)) Qp 0 0) (a : Nat → Nat) (m : MSt) (x1 : Int32) (x2 : Int32) (post : Int32 → MSt → Prop) (hq : ∀ v c1, post v c1 → Qp (some (.int v)) (woM (xt X) a c1)) (hw : wp_M_meets m x1 x2 post) : G X 0 0 (woM (xt X) a m) [(0, .ref (a 0)), (1, .int x1), (2, .int x2)] [] 0 := by
  unfold wp_M_meets at hw
  refine g_aload_n (pc := 0) C d_M_meets_0 0 rfl rfl ?_
  refine g_iload_n (pc := 1) C d_M_meets_1 1 rfl rfl ?_
  refine k_Ia (pc := 2) (co_V C (c_M_isBarge (xl X) (xD X) (xt X) (xv X) a m x1 _ hw) mw_M_isBarge lk_M_118 d_M_meets_2 (List.range _) (all_C _) (all_nd _) (rec_w C 0 6 rfl rfl) rfl rfl ⟨Nat.le_of_ble_eq_true rfl, Nat.le_of_ble_eq_true rfl⟩ ⟨Nat.le_of_ble_eq_true rfl, Nat.le_of_ble_eq_true rfl⟩ (rest := []) rfl rfl (Nat.le_of_ble_eq_true rfl)) (fun v1 m_2 hw => ?_)
  refine g_if_eq (pc := 5) (tgt := 21) C d_M_meets_5 (by decide) (fun h23 => ?_) (fun h23 => ?_)
  · replace hw := hw.1 h23
    refine g_iconst (pc := 21) C (v := (-1)) d_M_meets_21 (by decide) ?_
    exact g_iret (pc := 22) C q d_M_meets_22 (hq _ _ hw)
  · replace hw := hw.2 h23
    refine g_aload_n (pc := 8) C d_M_meets_8 0 rfl rfl ?_
    refine g_iload_n (pc := 9) C d_M_meets_9 2 rfl rfl ?_
    refine k_Ia (pc := 10) (co_V C (c_M_isBarge (xl X) (xD X) (xt X) (xv X) a m_2 x2 _ hw) mw_M_isBarge lk_M_118 d_M_meets_10 (List.range _) (all_C _) (all_nd _) (rec_w C 0 6 rfl rfl) rfl rfl ⟨Nat.le_of_ble_eq_true rfl, Nat.le_of_ble_eq_true rfl⟩ ⟨Nat.le_of_ble_eq_true rfl, Nat.le_of_ble_eq_true rfl⟩ (rest := []) rfl rfl (Nat.le_of_ble_eq_true rfl)) (fun v3 m_4 hw => ?_)
    refine g_if_eq (pc := 13) (tgt := 21) C d_M_meets_13 (by decide) (fun h22 => ?_) (fun h22 => ?_)
    · replace hw := hw.1 h22
      refine g_iconst (pc := 21) C (v := (-1)) d_M_meets_21 (by decide) ?_
      exact g_iret (pc := 22) C q d_M_meets_22 (hq _ _ hw)
    · replace hw := hw.2 h22
      refine g_iload_n (pc := 16) C d_M_meets_16 1 rfl rfl ?_
      refine g_iload_n (pc := 17) C d_M_meets_17 2 rfl rfl ?_
      refine g_icmp_ne (pc := 18) (tgt := 23) C d_M_meets_18 (by decide) (fun h21 => ?_) (fun h21 => ?_)
      · replace hw := hw.2 h21
        refine g_aload_n (pc := 23) C d_M_meets_23 0 rfl rfl ?_
        refine k_Va (pc := 24) (co_V C (c_M_keepAside (xl X) (xD X) (xt X) (xv X) a m_4 _ hw) mw_M_keepAside lk_M_138 d_M_meets_24 (List.range _) (all_C _) (all_nd _) (rec_w C 0 6 rfl rfl) rfl rfl ⟨Nat.le_of_ble_eq_true rfl, Nat.le_of_ble_eq_true rfl⟩ ⟨Nat.le_of_ble_eq_true rfl, Nat.le_of_ble_eq_true rfl⟩ (rest := []) rfl rfl (Nat.le_of_ble_eq_true rfl)) (fun m_5 hw => ?_)
        refine g_iconst (pc := 27) C (v := 0) d_M_meets_27 (by decide) ?_
        refine g_istore_n (pc := 28) C d_M_meets_28 rfl (Nat.le_of_ble_eq_true rfl) (lv' := [(0, .ref (a 0)), (1, .int x1), (2, .int x2), (3, .int 0)]) rfl ?_
        exact j_M_meets_29 C q a post hq  2000 m_5 x1 x2 0 hw
      · replace hw := hw.1 h21
        refine g_iconst (pc := 21) C (v := (-1)) d_M_meets_21 (by decide) ?_
        exact g_iret (pc := 22) C q d_M_meets_22 (hq _ _ hw)
set_option maxRecDepth 20000 in
theorem c_M_meets (l : Launch) (D : va_G) (t : Nat → ClassId) (ev : Nat → Nat) (a : Nat → Nat) (m : MSt) (x1 : Int32) (x2 : Int32) (post : Int32 → MSt → Prop) (hw : wp_M_meets m x1 x2 post) : Con l D t ev y_M_meets b_M_meets 5 ((some .int)) 4 (woM t a m) [.ref (a 0), .int x1, .int x2] (qI (woM t a)  post) :=
  ConR.of (by decide +kernel) (Nat.le_of_ble_eq_true rfl) (fun X el eD et ee C q _ => by subst el; subst eD; subst et; subst ee; exact g_M_meets C q a m x1 x2 post (fun v c1 h => ⟨⟨v, c1, rfl, rfl, h⟩, rfl⟩) hw)
def w_M_quiet_54  (post : Int32 → MSt → Prop)  (m : MSt) (x2 : Int32) (s0 : Int32) : Prop :=
  wp_M_putBack m (fun m_6 => ((s0 = 0) → (post (-3) m_6)) ∧ ((¬ s0 = 0) → (post x2 m_6)))
set_option maxRecDepth 20000 in
theorem j_M_quiet_54 {X : GX} (C : GC X b_M_quiet R_M 4 (rmd 4)) {Qp : Option Value → va_W → Prop} (q : RC X ((some .int)) Qp 0 0) (a : Nat → Nat)   (post : Int32 → MSt → Prop) (hq : ∀ v c1, post v c1 → Qp (some (.int v)) (woM (xt X) a c1)) : ∀ (m : MSt) (x2 : Int32) (s0 : Int32), w_M_quiet_54  post  m x2 s0 → G X 0 0 (woM (xt X) a m) [(0, .ref (a 0)), (2, .int x2)] [.int s0] 54 := by
  intro m x2 s0 hw
  unfold w_M_quiet_54 at hw
  refine g_istore_n (pc := 54) C d_M_quiet_54 rfl (Nat.le_of_ble_eq_true rfl) (lv' := [(0, .ref (a 0)), (2, .int x2), (3, .int s0)]) rfl ?_
  refine g_aload_n (pc := 55) C d_M_quiet_55 0 rfl rfl ?_
  refine k_Va (pc := 56) (co_V C (c_M_putBack (xl X) (xD X) (xt X) (xv X) a m _ hw) mw_M_putBack lk_M_147 d_M_quiet_56 (List.range _) (all_C _) (all_nd _) (rec_w C 0 6 rfl rfl) rfl rfl ⟨Nat.le_of_ble_eq_true rfl, Nat.le_of_ble_eq_true rfl⟩ ⟨Nat.le_of_ble_eq_true rfl, Nat.le_of_ble_eq_true rfl⟩ (rest := []) rfl rfl (Nat.le_of_ble_eq_true rfl)) (fun m_6 hw => ?_)
  refine g_iload_n (pc := 59) C d_M_quiet_59 2 rfl rfl ?_
  refine g_if_eq (pc := 60) (tgt := 67) C d_M_quiet_60 (by decide) (fun h7 => ?_) (fun h7 => ?_)
  · replace hw := hw.1 h7
    refine g_bipush (pc := 67) C (v := (-3)) d_M_quiet_67 (by decide) ?_
    exact g_iret (pc := 69) C q d_M_quiet_69 (hq _ _ hw)
  · replace hw := hw.2 h7
    refine g_iload_n (pc := 63) C d_M_quiet_63 1 rfl rfl ?_
    refine g_goto (pc := 64) (tgt := 69) C d_M_quiet_64 (by decide) ?_
    exact g_iret (pc := 69) C q d_M_quiet_69 (hq _ _ hw)
def w_M_quiet_41  (post : Int32 → MSt → Prop)  (m : MSt) (x1 : Int32) (x2 : Int32) : Prop :=
  wp_M_landed m (fun v4 m_5 => ((v4 = x1) → (w_M_quiet_54  post  m_5 x2 1)) ∧ ((¬ v4 = x1) → (w_M_quiet_54  post  m_5 x2 0)))
set_option maxRecDepth 20000 in
theorem j_M_quiet_41 {X : GX} (C : GC X b_M_quiet R_M 4 (rmd 4)) {Qp : Option Value → va_W → Prop} (q : RC X ((some .int)) Qp 0 0) (a : Nat → Nat)   (post : Int32 → MSt → Prop) (hq : ∀ v c1, post v c1 → Qp (some (.int v)) (woM (xt X) a c1)) : ∀ (m : MSt) (x1 : Int32) (x2 : Int32), w_M_quiet_41  post  m x1 x2 → G X 0 0 (woM (xt X) a m) [(0, .ref (a 0)), (1, .int x1), (2, .int x2)] [] 41 := by
  intro m x1 x2 hw
  unfold w_M_quiet_41 at hw
  refine g_aload_n (pc := 41) C d_M_quiet_41 0 rfl rfl ?_
  refine k_Ia (pc := 42) (co_V C (c_M_landed (xl X) (xD X) (xt X) (xv X) a m _ hw) mw_M_landed lk_M_153 d_M_quiet_42 (List.range _) (all_C _) (all_nd _) (rec_w C 0 6 rfl rfl) rfl rfl ⟨Nat.le_of_ble_eq_true rfl, Nat.le_of_ble_eq_true rfl⟩ ⟨Nat.le_of_ble_eq_true rfl, Nat.le_of_ble_eq_true rfl⟩ (rest := []) rfl rfl (Nat.le_of_ble_eq_true rfl)) (fun v4 m_5 hw => ?_)
  refine g_iload_n (pc := 45) C d_M_quiet_45 1 rfl rfl ?_
  refine g_icmp_ne (pc := 46) (tgt := 53) C d_M_quiet_46 (by decide) (fun h8 => ?_) (fun h8 => ?_)
  · replace hw := hw.2 h8
    refine g_iconst (pc := 53) C (v := 0) d_M_quiet_53 (by decide) ?_
    refine g_sub [0, 2] (lv' := [(0, .ref (a 0)), (2, .int x2)]) rfl ?_
    exact j_M_quiet_54 C q a post hq  m_5 x2 0 hw
  · replace hw := hw.1 h8
    refine g_iconst (pc := 49) C (v := 1) d_M_quiet_49 (by decide) ?_
    refine g_goto (pc := 50) (tgt := 54) C d_M_quiet_50 (by decide) ?_
    refine g_sub [0, 2] (lv' := [(0, .ref (a 0)), (2, .int x2)]) rfl ?_
    exact j_M_quiet_54 C q a post hq  m_5 x2 1 hw
def w_M_quiet_17  (post : Int32 → MSt → Prop)  : Nat → MSt → Int32 → Int32 → Prop
  | 0, _, _, _ => False
  | n + 1, m, x1, x2 =>
    ((60 ≤ x2) → (w_M_quiet_41  post  m x1 x2)) ∧ ((¬ 60 ≤ x2) → (wp_M_landed m (fun v9 m_10 => ((v9 = x1) → (w_M_quiet_41  post  m_10 x1 x2)) ∧ ((¬ v9 = x1) → (wp_M_hourGoes m_10 (fun m_11 => ∀ y12 : Int32, y12 = x2 + 1 → (w_M_quiet_17  post  n m_11 x1 y12)))))))
set_option maxRecDepth 20000 in
theorem j_M_quiet_17 {X : GX} (C : GC X b_M_quiet R_M 4 (rmd 4)) {Qp : Option Value → va_W → Prop} (q : RC X ((some .int)) Qp 0 0) (a : Nat → Nat)   (post : Int32 → MSt → Prop) (hq : ∀ v c1, post v c1 → Qp (some (.int v)) (woM (xt X) a c1)) : ∀ (n : Nat) (m : MSt) (x1 : Int32) (x2 : Int32), w_M_quiet_17  post  n m x1 x2 → G X 0 0 (woM (xt X) a m) [(0, .ref (a 0)), (1, .int x1), (2, .int x2)] [] 17 := by
  intro n
  induction n with
  | zero => intro m x1 x2 hw; exact hw.elim
  | succ n ih =>
    intro m x1 x2 hw
    rw [w_M_quiet_17] at hw
    refine g_iload_n (pc := 17) C d_M_quiet_17 2 rfl rfl ?_
    refine g_bipush (pc := 18) C (v := 60) d_M_quiet_18 (by decide) ?_
    refine g_icmp_ge (pc := 20) (tgt := 41) C d_M_quiet_20 (by decide) (fun h14 => ?_) (fun h14 => ?_)
    · replace hw := hw.1 h14
      exact j_M_quiet_41 C q a post hq  m x1 x2 hw
    · replace hw := hw.2 h14
      refine g_aload_n (pc := 23) C d_M_quiet_23 0 rfl rfl ?_
      refine k_Ia (pc := 24) (co_V C (c_M_landed (xl X) (xD X) (xt X) (xv X) a m _ hw) mw_M_landed lk_M_153 d_M_quiet_24 (List.range _) (all_C _) (all_nd _) (rec_w C 0 6 rfl rfl) rfl rfl ⟨Nat.le_of_ble_eq_true rfl, Nat.le_of_ble_eq_true rfl⟩ ⟨Nat.le_of_ble_eq_true rfl, Nat.le_of_ble_eq_true rfl⟩ (rest := []) rfl rfl (Nat.le_of_ble_eq_true rfl)) (fun v9 m_10 hw => ?_)
      refine g_iload_n (pc := 27) C d_M_quiet_27 1 rfl rfl ?_
      refine g_icmp_eq (pc := 28) (tgt := 41) C d_M_quiet_28 (by decide) (fun h13 => ?_) (fun h13 => ?_)
      · replace hw := hw.1 h13
        exact j_M_quiet_41 C q a post hq  m_10 x1 x2 hw
      · replace hw := hw.2 h13
        refine g_aload_n (pc := 31) C d_M_quiet_31 0 rfl rfl ?_
        refine k_Va (pc := 32) (co_V C (c_M_hourGoes (xl X) (xD X) (xt X) (xv X) a m_10 _ hw) mw_M_hourGoes lk_M_95 d_M_quiet_32 (List.range _) (all_C _) (all_nd _) (rec_w C 0 6 rfl rfl) rfl rfl ⟨Nat.le_of_ble_eq_true rfl, Nat.le_of_ble_eq_true rfl⟩ ⟨Nat.le_of_ble_eq_true rfl, Nat.le_of_ble_eq_true rfl⟩ (rest := []) rfl rfl (Nat.le_of_ble_eq_true rfl)) (fun m_11 hw => ?_)
        obtain ⟨y12, ey12⟩ : ∃ w, w = x2 + 1 := ⟨_, rfl⟩
        replace hw := hw y12 ey12
        refine g_iinc (pc := 35) C d_M_quiet_35 2 rfl (v := y12) (by rw [ey12]; rfl) (Nat.le_of_ble_eq_true rfl) (lv' := [(0, .ref (a 0)), (1, .int x1), (2, .int y12)]) rfl ?_
        refine g_goto (pc := 38) (tgt := 17) C d_M_quiet_38 (by decide) ?_
        exact ih m_11 x1 y12 hw
def wp_M_quiet (m : MSt) (post : Int32 → MSt → Prop) : Prop :=
  wp_M_keepAside m (fun m_1 => ∀ y2 : Int32, y2 = 1 <<< (((M_d m_1) 4) &&& 31) → (∀ y3 : Int32, y3 = y2 - 1 → (w_M_quiet_17  post  2000 m_1 y3 0)))
set_option maxRecDepth 20000 in
theorem g_M_quiet {X : GX} (C : GC X b_M_quiet R_M 4 (rmd 4)) {Qp : Option Value → va_W → Prop} (q : RC X ((some .int)) Qp 0 0) (a : Nat → Nat) (m : MSt) (post : Int32 → MSt → Prop) (hq : ∀ v c1, post v c1 → Qp (some (.int v)) (woM (xt X) a c1)) (hw : wp_M_quiet m post) : G X 0 0 (woM (xt X) a m) [(0, .ref (a 0))] [] 0 := by
  unfold wp_M_quiet at hw
  refine g_aload_n (pc := 0) C d_M_quiet_0 0 rfl rfl ?_
  refine k_Va (pc := 1) (co_V C (c_M_keepAside (xl X) (xD X) (xt X) (xv X) a m _ hw) mw_M_keepAside lk_M_138 d_M_quiet_1 (List.range _) (all_C _) (all_nd _) (rec_w C 0 6 rfl rfl) rfl rfl ⟨Nat.le_of_ble_eq_true rfl, Nat.le_of_ble_eq_true rfl⟩ ⟨Nat.le_of_ble_eq_true rfl, Nat.le_of_ble_eq_true rfl⟩ (rest := []) rfl rfl (Nat.le_of_ble_eq_true rfl)) (fun m_1 hw => ?_)
  refine g_iconst (pc := 4) C (v := 1) d_M_quiet_4 (by decide) ?_
  refine g_aload_n (pc := 5) C d_M_quiet_5 0 rfl rfl ?_
  refine fM_d (pc := 6) C lk_M_7 d_M_quiet_6 ?_
  refine g_iconst (pc := 9) C (v := 4) d_M_quiet_9 (by decide) ?_
  refine lM_d (pc := 10) C d_M_quiet_10 (f := M_d m_1) rfl (N0 := 4) (by decide) (by unfold vp_in; decide) ?_
  refine g_ishl (pc := 11) C d_M_quiet_11 ?_
  refine g_topi (fun y2 ey2 => ?_)
  replace hw := hw y2 ey2
  refine g_iconst (pc := 12) C (v := 1) d_M_quiet_12 (by decide) ?_
  refine g_isub (pc := 13) C d_M_quiet_13 ?_
  refine g_topi (fun y3 ey3 => ?_)
  replace hw := hw y3 ey3
  refine g_istore_n (pc := 14) C d_M_quiet_14 rfl (Nat.le_of_ble_eq_true rfl) (lv' := [(0, .ref (a 0)), (1, .int y3)]) rfl ?_
  refine g_iconst (pc := 15) C (v := 0) d_M_quiet_15 (by decide) ?_
  refine g_istore_n (pc := 16) C d_M_quiet_16 rfl (Nat.le_of_ble_eq_true rfl) (lv' := [(0, .ref (a 0)), (1, .int y3), (2, .int 0)]) rfl ?_
  exact j_M_quiet_17 C q a post hq  2000 m_1 y3 0 hw
set_option maxRecDepth 20000 in
theorem c_M_quiet (l : Launch) (D : va_G) (t : Nat → ClassId) (ev : Nat → Nat) (a : Nat → Nat) (m : MSt) (post : Int32 → MSt → Prop) (hw : wp_M_quiet m post) : Con l D t ev y_M_quiet b_M_quiet 4 ((some .int)) 4 (woM t a m) [.ref (a 0)] (qI (woM t a)  post) :=
  ConR.of (by decide +kernel) (Nat.le_of_ble_eq_true rfl) (fun X el eD et ee C q _ => by subst el; subst eD; subst et; subst ee; exact g_M_quiet C q a m post (fun v c1 h => ⟨⟨v, c1, rfl, rfl, h⟩, rfl⟩) hw)
def wp_M_cargo (m : MSt) (x1 : Int32) (post : Int32 → MSt → Prop) : Prop :=
  ∀ y1 : Int64, y1 = x1.toInt64 → (wp_M_in y1 0 60 (fun v2 => ((v2 = 0) → (post (-1) m)) ∧ ((¬ v2 = 0) → (wp_M_keepAside m (fun m_3 => wp_M_cargoBehind m_3 x1 (fun v4 m_5 => post v4 m_5))))))
set_option maxRecDepth 20000 in
theorem g_M_cargo {X : GX} (C : GC X b_M_cargo R_M 2 (rmd 6)) {Qp : Option Value → va_W → Prop} (q : RC X ((some .int)) Qp 0 0) (a : Nat → Nat) (m : MSt) (x1 : Int32) (post : Int32 → MSt → Prop) (hq : ∀ v c1, post v c1 → Qp (some (.int v)) (woM (xt X) a c1)) (hw : wp_M_cargo m x1 post) : G X 0 0 (woM (xt X) a m) [(0, .ref (a 0)), (1, .int x1)] [] 0 := by
  unfold wp_M_cargo at hw
  refine g_iload_n (pc := 0) C d_M_cargo_0 1 rfl rfl ?_
  refine g_i2l (pc := 1) C d_M_cargo_1 ?_
  refine g_topl (fun y1 ey1 => ?_)
  replace hw := hw y1 ey1
  refine g_lconst (pc := 2) C (v := 0) d_M_cargo_2 (by decide) ?_
  refine g_ldc2_w (pc := 3) C (v := 60) d_M_cargo_3 lk_M_123 ?_
  refine k_I0 (pc := 6) (co_S C (c_M_in (xl X) (xD X) (xt X) (xv X) y1 0 60 _ hw) mw_M_in lk_M_58 d_M_cargo_6 [] rfl (by decide)  rfl rfl ⟨Nat.le_of_ble_eq_true rfl, Nat.le_of_ble_eq_true rfl⟩ ⟨Nat.le_of_ble_eq_true rfl, Nat.le_of_ble_eq_true rfl⟩ (rest := []) rfl rfl (Nat.le_of_ble_eq_true rfl)) (fun v2 hw => ?_)
  refine g_if_ne (pc := 9) (tgt := 14) C d_M_cargo_9 (by decide) (fun h6 => ?_) (fun h6 => ?_)
  · replace hw := hw.2 h6
    refine g_aload_n (pc := 14) C d_M_cargo_14 0 rfl rfl ?_
    refine k_Va (pc := 15) (co_V C (c_M_keepAside (xl X) (xD X) (xt X) (xv X) a m _ hw) mw_M_keepAside lk_M_138 d_M_cargo_15 (List.range _) (all_C _) (all_nd _) (rec_w C 0 6 rfl rfl) rfl rfl ⟨Nat.le_of_ble_eq_true rfl, Nat.le_of_ble_eq_true rfl⟩ ⟨Nat.le_of_ble_eq_true rfl, Nat.le_of_ble_eq_true rfl⟩ (rest := []) rfl rfl (Nat.le_of_ble_eq_true rfl)) (fun m_3 hw => ?_)
    refine g_aload_n (pc := 18) C d_M_cargo_18 0 rfl rfl ?_
    refine g_iload_n (pc := 19) C d_M_cargo_19 1 rfl rfl ?_
    refine k_Ia (pc := 20) (co_V C (c_M_cargoBehind (xl X) (xD X) (xt X) (xv X) a m_3 x1 _ hw) mw_M_cargoBehind lk_M_141 d_M_cargo_20 (List.range _) (all_C _) (all_nd _) (rec_w C 0 6 rfl rfl) rfl rfl ⟨Nat.le_of_ble_eq_true rfl, Nat.le_of_ble_eq_true rfl⟩ ⟨Nat.le_of_ble_eq_true rfl, Nat.le_of_ble_eq_true rfl⟩ (rest := []) rfl rfl (Nat.le_of_ble_eq_true rfl)) (fun v4 m_5 hw => ?_)
    exact g_iret (pc := 23) C q d_M_cargo_23 (hq _ _ hw)
  · replace hw := hw.1 h6
    refine g_iconst (pc := 12) C (v := (-1)) d_M_cargo_12 (by decide) ?_
    exact g_iret (pc := 13) C q d_M_cargo_13 (hq _ _ hw)
set_option maxRecDepth 20000 in
theorem c_M_cargo (l : Launch) (D : va_G) (t : Nat → ClassId) (ev : Nat → Nat) (a : Nat → Nat) (m : MSt) (x1 : Int32) (post : Int32 → MSt → Prop) (hw : wp_M_cargo m x1 post) : Con l D t ev y_M_cargo b_M_cargo 2 ((some .int)) 6 (woM t a m) [.ref (a 0), .int x1] (qI (woM t a)  post) :=
  ConR.of (by decide +kernel) (Nat.le_of_ble_eq_true rfl) (fun X el eD et ee C q _ => by subst el; subst eD; subst et; subst ee; exact g_M_cargo C q a m x1 post (fun v c1 h => ⟨⟨v, c1, rfl, rfl, h⟩, rfl⟩) hw)
def wp_M_isShort (x0 : Int32) (post : Int32 → Prop) : Prop :=
  ∀ y1 : Int64, y1 = x0.toInt64 → (wp_M_in y1 1 30 (fun v2 => narrow .boolean (.int v2) = .int v2 ∧ post v2 ))
set_option maxRecDepth 20000 in
theorem g_M_isShort {X : GX} (C : GC X b_M_isShort R_M 1 (rmd 1)) {Qp : Option Value → va_W → Prop} (q : RC X ((some .boolean)) Qp 0 0) (x0 : Int32) (post : Int32 → Prop) (hq : ∀ v, post v → Qp (some (.int v)) []) (hw : wp_M_isShort x0 post) : G X 0 0 ([]) [(0, .int x0)] [] 0 := by
  unfold wp_M_isShort at hw
  refine g_iload_n (pc := 0) C d_M_isShort_0 0 rfl rfl ?_
  refine g_i2l (pc := 1) C d_M_isShort_1 ?_
  refine g_topl (fun y1 ey1 => ?_)
  replace hw := hw y1 ey1
  refine g_lconst (pc := 2) C (v := 1) d_M_isShort_2 (by decide) ?_
  refine g_ldc2_w (pc := 3) C (v := 30) d_M_isShort_3 lk_M_136 ?_
  refine k_I0 (pc := 6) (co_S C (c_M_in (xl X) (xD X) (xt X) (xv X) y1 1 30 _ hw) mw_M_in lk_M_58 d_M_isShort_6 [] rfl (by decide)  rfl rfl ⟨Nat.le_of_ble_eq_true rfl, Nat.le_of_ble_eq_true rfl⟩ ⟨Nat.le_of_ble_eq_true rfl, Nat.le_of_ble_eq_true rfl⟩ (rest := []) rfl rfl (Nat.le_of_ble_eq_true rfl)) (fun v2 hw => ?_)
  obtain ⟨h3, hw⟩ := hw
  exact g_zret (pc := 9) C q d_M_isShort_9 h3 (hq _ hw)
set_option maxRecDepth 20000 in
theorem c_M_isShort (l : Launch) (D : va_G) (t : Nat → ClassId) (ev : Nat → Nat) (x0 : Int32) (post : Int32 → Prop) (hw : wp_M_isShort x0 post) : Con l D t ev y_M_isShort b_M_isShort 1 ((some .boolean)) 1 ([]) [.int x0] (qI (fun _ : Unit => [])  (fun v _ => post v)) :=
  ConR.of (by decide +kernel) (Nat.le_of_ble_eq_true rfl) (fun X el eD et ee C q _ => by subst el; subst eD; subst et; subst ee; exact g_M_isShort C q x0 post (fun v h => ⟨⟨v, (), rfl, rfl, h⟩, rfl⟩) hw)
def w_M_stillFor_38  (post : Int32 → MSt → Prop)  : Nat → MSt → Int32 → Int32 → Int32 → Int32 → Int32 → Prop
  | 0, _, _, _, _, _, _ => False
  | n + 1, m, x1, x2, x3, x4, x5 =>
    ((10 ≤ x5) → (post x3 m)) ∧ ((¬ 10 ≤ x5) → (∀ y8 : Int32, y8 = 7 + x5 → (vp_in y8 67 ∧ (wp_M_loadOf x1 (fun v10 => wp_M_behind (M_d_ m (upd (M_d m) y8.toNatClampNeg 0)) x2 v10 (fun v11 m_12 => ((v11 ≤ x4) → (∀ y13 : Int32, y13 = x5 + 1 → (w_M_stillFor_38  post  n m_12 x1 x2 x3 x4 y13))) ∧ ((¬ v11 ≤ x4) → (∀ y14 : Int32, y14 = x5 + 1 → (w_M_stillFor_38  post  n m_12 x1 x2 x5 v11 y14)))))))))
set_option maxRecDepth 20000 in
theorem j_M_stillFor_38 {X : GX} (C : GC X b_M_stillFor R_M 7 (rmd 6)) {Qp : Option Value → va_W → Prop} (q : RC X ((some .int)) Qp 0 0) (a : Nat → Nat)   (post : Int32 → MSt → Prop) (hq : ∀ v c1, post v c1 → Qp (some (.int v)) (woM (xt X) a c1)) : ∀ (n : Nat) (m : MSt) (x1 : Int32) (x2 : Int32) (x3 : Int32) (x4 : Int32) (x5 : Int32), w_M_stillFor_38  post  n m x1 x2 x3 x4 x5 → G X 0 0 (woM (xt X) a m) [(0, .ref (a 0)), (1, .int x1), (2, .int x2), (3, .int x3), (4, .int x4), (5, .int x5)] [] 38 := by
  intro n
  induction n with
  | zero => intro m x1 x2 x3 x4 x5 hw; exact hw.elim
  | succ n ih =>
    intro m x1 x2 x3 x4 x5 hw
    rw [w_M_stillFor_38] at hw
    refine g_iload (pc := 38) C d_M_stillFor_38 5 rfl ?_
    refine g_bipush (pc := 40) C (v := 10) d_M_stillFor_40 (by decide) ?_
    refine g_icmp_ge (pc := 42) (tgt := 87) C d_M_stillFor_42 (by decide) (fun h16 => ?_) (fun h16 => ?_)
    · replace hw := hw.1 h16
      refine g_iload_n (pc := 87) C d_M_stillFor_87 3 rfl rfl ?_
      exact g_iret (pc := 88) C q d_M_stillFor_88 (hq _ _ hw)
    · replace hw := hw.2 h16
      refine g_aload_n (pc := 45) C d_M_stillFor_45 0 rfl rfl ?_
      refine fM_d (pc := 46) C lk_M_7 d_M_stillFor_46 ?_
      refine g_bipush (pc := 49) C (v := 7) d_M_stillFor_49 (by decide) ?_
      refine g_iload (pc := 51) C d_M_stillFor_51 5 rfl ?_
      refine g_iadd (pc := 53) C d_M_stillFor_53 ?_
      refine g_topi (fun y8 ey8 => ?_)
      replace hw := hw y8 ey8
      refine g_iconst (pc := 54) C (v := 0) d_M_stillFor_54 (by decide) ?_
      obtain ⟨h9, hw⟩ := hw
      refine sM_d (pc := 55) C d_M_stillFor_55 (f := M_d m) rfl (N0 := y8.toNatClampNeg) rfl h9 ?_
      refine g_aload_n (pc := 56) C d_M_stillFor_56 0 rfl rfl ?_
      refine g_iload_n (pc := 57) C d_M_stillFor_57 2 rfl rfl ?_
      refine g_iload_n (pc := 58) C d_M_stillFor_58 1 rfl rfl ?_
      refine k_I0 (pc := 59) (co_S C (c_M_loadOf (xl X) (xD X) (xt X) (xv X) x1 _ hw) mw_M_loadOf lk_M_162 d_M_stillFor_59 [] rfl (by decide)  rfl rfl ⟨Nat.le_of_ble_eq_true rfl, Nat.le_of_ble_eq_true rfl⟩ ⟨Nat.le_of_ble_eq_true rfl, Nat.le_of_ble_eq_true rfl⟩ (rest := [.int x2, .ref (a 0)]) rfl rfl (Nat.le_of_ble_eq_true rfl)) (fun v10 hw => ?_)
      refine k_Ia (pc := 62) (co_V C (c_M_behind (xl X) (xD X) (xt X) (xv X) a (M_d_ m (upd (M_d m) y8.toNatClampNeg 0)) x2 v10 _ hw) mw_M_behind lk_M_165 d_M_stillFor_62 (List.range _) (all_C _) (all_nd _) (rec_w C 0 6 rfl rfl) rfl rfl ⟨Nat.le_of_ble_eq_true rfl, Nat.le_of_ble_eq_true rfl⟩ ⟨Nat.le_of_ble_eq_true rfl, Nat.le_of_ble_eq_true rfl⟩ (rest := []) rfl rfl (Nat.le_of_ble_eq_true rfl)) (fun v11 m_12 hw => ?_)
      refine g_istore (pc := 65) C d_M_stillFor_65 (Nat.le_of_ble_eq_true rfl) (lv' := [(0, .ref (a 0)), (1, .int x1), (2, .int x2), (3, .int x3), (4, .int x4), (5, .int x5), (6, .int v11)]) rfl ?_
      refine g_iload (pc := 67) C d_M_stillFor_67 6 rfl ?_
      refine g_iload (pc := 69) C d_M_stillFor_69 4 rfl ?_
      refine g_icmp_le (pc := 71) (tgt := 81) C d_M_stillFor_71 (by decide) (fun h15 => ?_) (fun h15 => ?_)
      · replace hw := hw.1 h15
        obtain ⟨y13, ey13⟩ : ∃ w, w = x5 + 1 := ⟨_, rfl⟩
        replace hw := hw y13 ey13
        refine g_iinc (pc := 81) C d_M_stillFor_81 5 rfl (v := y13) (by rw [ey13]; rfl) (Nat.le_of_ble_eq_true rfl) (lv' := [(0, .ref (a 0)), (1, .int x1), (2, .int x2), (3, .int x3), (4, .int x4), (5, .int y13), (6, .int v11)]) rfl ?_
        refine g_goto (pc := 84) (tgt := 38) C d_M_stillFor_84 (by decide) ?_
        refine g_sub [0, 1, 2, 3, 4, 5] (lv' := [(0, .ref (a 0)), (1, .int x1), (2, .int x2), (3, .int x3), (4, .int x4), (5, .int y13)]) rfl ?_
        exact ih m_12 x1 x2 x3 x4 y13 hw
      · replace hw := hw.2 h15
        refine g_iload (pc := 74) C d_M_stillFor_74 5 rfl ?_
        refine g_istore_n (pc := 76) C d_M_stillFor_76 rfl (Nat.le_of_ble_eq_true rfl) (lv' := [(0, .ref (a 0)), (1, .int x1), (2, .int x2), (3, .int x5), (4, .int x4), (5, .int x5), (6, .int v11)]) rfl ?_
        refine g_iload (pc := 77) C d_M_stillFor_77 6 rfl ?_
        refine g_istore (pc := 79) C d_M_stillFor_79 (Nat.le_of_ble_eq_true rfl) (lv' := [(0, .ref (a 0)), (1, .int x1), (2, .int x2), (3, .int x5), (4, .int v11), (5, .int x5), (6, .int v11)]) rfl ?_
        obtain ⟨y14, ey14⟩ : ∃ w, w = x5 + 1 := ⟨_, rfl⟩
        replace hw := hw y14 ey14
        refine g_iinc (pc := 81) C d_M_stillFor_81 5 rfl (v := y14) (by rw [ey14]; rfl) (Nat.le_of_ble_eq_true rfl) (lv' := [(0, .ref (a 0)), (1, .int x1), (2, .int x2), (3, .int x5), (4, .int v11), (5, .int y14), (6, .int v11)]) rfl ?_
        refine g_goto (pc := 84) (tgt := 38) C d_M_stillFor_84 (by decide) ?_
        refine g_sub [0, 1, 2, 3, 4, 5] (lv' := [(0, .ref (a 0)), (1, .int x1), (2, .int x2), (3, .int x5), (4, .int v11), (5, .int y14)]) rfl ?_
        exact ih m_12 x1 x2 x5 v11 y14 hw
def wp_M_stillFor (m : MSt) (x1 : Int32) (x2 : Int32) (post : Int32 → MSt → Prop) : Prop :=
  wp_M_isBarge m x1 (fun v1 m_2 => ((v1 = 0) → (post (-1) m_2)) ∧ ((¬ v1 = 0) → (wp_M_isShort x2 (fun v3 => ((v3 = 0) → (post (-1) m_2)) ∧ ((¬ v3 = 0) → (wp_M_keepAside m_2 (fun m_4 => wp_M_loadOf x1 (fun v5 => wp_M_behind m_4 x2 v5 (fun v6 m_7 => w_M_stillFor_38  post  2000 m_7 x1 x2 (-3) v6 0)))))))))
set_option maxRecDepth 20000 in
theorem g_M_stillFor {X : GX} (C : GC X b_M_stillFor R_M 7 (rmd 6)) {Qp : Option Value → va_W → Prop} (q : RC X ((some .int)) Qp 0 0) (a : Nat → Nat) (m : MSt) (x1 : Int32) (x2 : Int32) (post : Int32 → MSt → Prop) (hq : ∀ v c1, post v c1 → Qp (some (.int v)) (woM (xt X) a c1)) (hw : wp_M_stillFor m x1 x2 post) : G X 0 0 (woM (xt X) a m) [(0, .ref (a 0)), (1, .int x1), (2, .int x2)] [] 0 := by
  unfold wp_M_stillFor at hw
  refine g_aload_n (pc := 0) C d_M_stillFor_0 0 rfl rfl ?_
  refine g_iload_n (pc := 1) C d_M_stillFor_1 1 rfl rfl ?_
  refine k_Ia (pc := 2) (co_V C (c_M_isBarge (xl X) (xD X) (xt X) (xv X) a m x1 _ hw) mw_M_isBarge lk_M_118 d_M_stillFor_2 (List.range _) (all_C _) (all_nd _) (rec_w C 0 6 rfl rfl) rfl rfl ⟨Nat.le_of_ble_eq_true rfl, Nat.le_of_ble_eq_true rfl⟩ ⟨Nat.le_of_ble_eq_true rfl, Nat.le_of_ble_eq_true rfl⟩ (rest := []) rfl rfl (Nat.le_of_ble_eq_true rfl)) (fun v1 m_2 hw => ?_)
  refine g_if_eq (pc := 5) (tgt := 15) C d_M_stillFor_5 (by decide) (fun h18 => ?_) (fun h18 => ?_)
  · replace hw := hw.1 h18
    refine g_iconst (pc := 15) C (v := (-1)) d_M_stillFor_15 (by decide) ?_
    exact g_iret (pc := 16) C q d_M_stillFor_16 (hq _ _ hw)
  · replace hw := hw.2 h18
    refine g_iload_n (pc := 8) C d_M_stillFor_8 2 rfl rfl ?_
    refine k_I0 (pc := 9) (co_S C (c_M_isShort (xl X) (xD X) (xt X) (xv X) x2 _ hw) mw_M_isShort lk_M_168 d_M_stillFor_9 [] rfl (by decide)  rfl rfl ⟨Nat.le_of_ble_eq_true rfl, Nat.le_of_ble_eq_true rfl⟩ ⟨Nat.le_of_ble_eq_true rfl, Nat.le_of_ble_eq_true rfl⟩ (rest := []) rfl rfl (Nat.le_of_ble_eq_true rfl)) (fun v3 hw => ?_)
    refine g_if_ne (pc := 12) (tgt := 17) C d_M_stillFor_12 (by decide) (fun h17 => ?_) (fun h17 => ?_)
    · replace hw := hw.2 h17
      refine g_aload_n (pc := 17) C d_M_stillFor_17 0 rfl rfl ?_
      refine k_Va (pc := 18) (co_V C (c_M_keepAside (xl X) (xD X) (xt X) (xv X) a m_2 _ hw) mw_M_keepAside lk_M_138 d_M_stillFor_18 (List.range _) (all_C _) (all_nd _) (rec_w C 0 6 rfl rfl) rfl rfl ⟨Nat.le_of_ble_eq_true rfl, Nat.le_of_ble_eq_true rfl⟩ ⟨Nat.le_of_ble_eq_true rfl, Nat.le_of_ble_eq_true rfl⟩ (rest := []) rfl rfl (Nat.le_of_ble_eq_true rfl)) (fun m_4 hw => ?_)
      refine g_bipush (pc := 21) C (v := (-3)) d_M_stillFor_21 (by decide) ?_
      refine g_istore_n (pc := 23) C d_M_stillFor_23 rfl (Nat.le_of_ble_eq_true rfl) (lv' := [(0, .ref (a 0)), (1, .int x1), (2, .int x2), (3, .int (-3))]) rfl ?_
      refine g_aload_n (pc := 24) C d_M_stillFor_24 0 rfl rfl ?_
      refine g_iload_n (pc := 25) C d_M_stillFor_25 2 rfl rfl ?_
      refine g_iload_n (pc := 26) C d_M_stillFor_26 1 rfl rfl ?_
      refine k_I0 (pc := 27) (co_S C (c_M_loadOf (xl X) (xD X) (xt X) (xv X) x1 _ hw) mw_M_loadOf lk_M_162 d_M_stillFor_27 [] rfl (by decide)  rfl rfl ⟨Nat.le_of_ble_eq_true rfl, Nat.le_of_ble_eq_true rfl⟩ ⟨Nat.le_of_ble_eq_true rfl, Nat.le_of_ble_eq_true rfl⟩ (rest := [.int x2, .ref (a 0)]) rfl rfl (Nat.le_of_ble_eq_true rfl)) (fun v5 hw => ?_)
      refine k_Ia (pc := 30) (co_V C (c_M_behind (xl X) (xD X) (xt X) (xv X) a m_4 x2 v5 _ hw) mw_M_behind lk_M_165 d_M_stillFor_30 (List.range _) (all_C _) (all_nd _) (rec_w C 0 6 rfl rfl) rfl rfl ⟨Nat.le_of_ble_eq_true rfl, Nat.le_of_ble_eq_true rfl⟩ ⟨Nat.le_of_ble_eq_true rfl, Nat.le_of_ble_eq_true rfl⟩ (rest := []) rfl rfl (Nat.le_of_ble_eq_true rfl)) (fun v6 m_7 hw => ?_)
      refine g_istore (pc := 33) C d_M_stillFor_33 (Nat.le_of_ble_eq_true rfl) (lv' := [(0, .ref (a 0)), (1, .int x1), (2, .int x2), (3, .int (-3)), (4, .int v6)]) rfl ?_
      refine g_iconst (pc := 35) C (v := 0) d_M_stillFor_35 (by decide) ?_
      refine g_istore (pc := 36) C d_M_stillFor_36 (Nat.le_of_ble_eq_true rfl) (lv' := [(0, .ref (a 0)), (1, .int x1), (2, .int x2), (3, .int (-3)), (4, .int v6), (5, .int 0)]) rfl ?_
      exact j_M_stillFor_38 C q a post hq  2000 m_7 x1 x2 (-3) v6 0 hw
    · replace hw := hw.1 h17
      refine g_iconst (pc := 15) C (v := (-1)) d_M_stillFor_15 (by decide) ?_
      exact g_iret (pc := 16) C q d_M_stillFor_16 (hq _ _ hw)
set_option maxRecDepth 20000 in
theorem c_M_stillFor (l : Launch) (D : va_G) (t : Nat → ClassId) (ev : Nat → Nat) (a : Nat → Nat) (m : MSt) (x1 : Int32) (x2 : Int32) (post : Int32 → MSt → Prop) (hw : wp_M_stillFor m x1 x2 post) : Con l D t ev y_M_stillFor b_M_stillFor 7 ((some .int)) 6 (woM t a m) [.ref (a 0), .int x1, .int x2] (qI (woM t a)  post) :=
  ConR.of (by decide +kernel) (Nat.le_of_ble_eq_true rfl) (fun X el eD et ee C q _ => by subst el; subst eD; subst et; subst ee; exact g_M_stillFor C q a m x1 x2 post (fun v c1 h => ⟨⟨v, c1, rfl, rfl, h⟩, rfl⟩) hw)
def w_M_kindFor_29  (post : Int32 → MSt → Prop)  : Nat → MSt → Int32 → Int32 → Int32 → Int32 → Int32 → Prop
  | 0, _, _, _, _, _, _ => False
  | n + 1, m, x1, x2, x3, x4, x5 =>
    ((6 ≤ x5) → (post x3 m)) ∧ ((¬ 6 ≤ x5) → (wp_M_puts m x1 0 x5 (fun m_5 => wp_M_loadOf x1 (fun v6 => wp_M_behind m_5 x2 v6 (fun v7 m_8 => ((v7 ≤ x4) → (∀ y9 : Int32, y9 = x5 + 1 → (w_M_kindFor_29  post  n m_8 x1 x2 x3 x4 y9))) ∧ ((¬ v7 ≤ x4) → (∀ y10 : Int32, y10 = x5 + 1 → (w_M_kindFor_29  post  n m_8 x1 x2 x5 v7 y10))))))))
set_option maxRecDepth 20000 in
theorem j_M_kindFor_29 {X : GX} (C : GC X b_M_kindFor R_M 7 (rmd 6)) {Qp : Option Value → va_W → Prop} (q : RC X ((some .int)) Qp 0 0) (a : Nat → Nat)   (post : Int32 → MSt → Prop) (hq : ∀ v c1, post v c1 → Qp (some (.int v)) (woM (xt X) a c1)) : ∀ (n : Nat) (m : MSt) (x1 : Int32) (x2 : Int32) (x3 : Int32) (x4 : Int32) (x5 : Int32), w_M_kindFor_29  post  n m x1 x2 x3 x4 x5 → G X 0 0 (woM (xt X) a m) [(0, .ref (a 0)), (1, .int x1), (2, .int x2), (3, .int x3), (4, .int x4), (5, .int x5)] [] 29 := by
  intro n
  induction n with
  | zero => intro m x1 x2 x3 x4 x5 hw; exact hw.elim
  | succ n ih =>
    intro m x1 x2 x3 x4 x5 hw
    rw [w_M_kindFor_29] at hw
    refine g_iload (pc := 29) C d_M_kindFor_29 5 rfl ?_
    refine g_bipush (pc := 31) C (v := 6) d_M_kindFor_31 (by decide) ?_
    refine g_icmp_ge (pc := 33) (tgt := 75) C d_M_kindFor_33 (by decide) (fun h12 => ?_) (fun h12 => ?_)
    · replace hw := hw.1 h12
      refine g_iload_n (pc := 75) C d_M_kindFor_75 3 rfl rfl ?_
      exact g_iret (pc := 76) C q d_M_kindFor_76 (hq _ _ hw)
    · replace hw := hw.2 h12
      refine g_aload_n (pc := 36) C d_M_kindFor_36 0 rfl rfl ?_
      refine g_iload_n (pc := 37) C d_M_kindFor_37 1 rfl rfl ?_
      refine g_iconst (pc := 38) C (v := 0) d_M_kindFor_38 (by decide) ?_
      refine g_iload (pc := 39) C d_M_kindFor_39 5 rfl ?_
      refine k_Va (pc := 41) (co_V C (c_M_puts (xl X) (xD X) (xt X) (xv X) a m x1 0 x5 _ hw) mw_M_puts lk_M_72 d_M_kindFor_41 (List.range _) (all_C _) (all_nd _) (rec_w C 0 6 rfl rfl) rfl rfl ⟨Nat.le_of_ble_eq_true rfl, Nat.le_of_ble_eq_true rfl⟩ ⟨Nat.le_of_ble_eq_true rfl, Nat.le_of_ble_eq_true rfl⟩ (rest := []) rfl rfl (Nat.le_of_ble_eq_true rfl)) (fun m_5 hw => ?_)
      refine g_aload_n (pc := 44) C d_M_kindFor_44 0 rfl rfl ?_
      refine g_iload_n (pc := 45) C d_M_kindFor_45 2 rfl rfl ?_
      refine g_iload_n (pc := 46) C d_M_kindFor_46 1 rfl rfl ?_
      refine k_I0 (pc := 47) (co_S C (c_M_loadOf (xl X) (xD X) (xt X) (xv X) x1 _ hw) mw_M_loadOf lk_M_162 d_M_kindFor_47 [] rfl (by decide)  rfl rfl ⟨Nat.le_of_ble_eq_true rfl, Nat.le_of_ble_eq_true rfl⟩ ⟨Nat.le_of_ble_eq_true rfl, Nat.le_of_ble_eq_true rfl⟩ (rest := [.int x2, .ref (a 0)]) rfl rfl (Nat.le_of_ble_eq_true rfl)) (fun v6 hw => ?_)
      refine k_Ia (pc := 50) (co_V C (c_M_behind (xl X) (xD X) (xt X) (xv X) a m_5 x2 v6 _ hw) mw_M_behind lk_M_165 d_M_kindFor_50 (List.range _) (all_C _) (all_nd _) (rec_w C 0 6 rfl rfl) rfl rfl ⟨Nat.le_of_ble_eq_true rfl, Nat.le_of_ble_eq_true rfl⟩ ⟨Nat.le_of_ble_eq_true rfl, Nat.le_of_ble_eq_true rfl⟩ (rest := []) rfl rfl (Nat.le_of_ble_eq_true rfl)) (fun v7 m_8 hw => ?_)
      refine g_istore (pc := 53) C d_M_kindFor_53 (Nat.le_of_ble_eq_true rfl) (lv' := [(0, .ref (a 0)), (1, .int x1), (2, .int x2), (3, .int x3), (4, .int x4), (5, .int x5), (6, .int v7)]) rfl ?_
      refine g_iload (pc := 55) C d_M_kindFor_55 6 rfl ?_
      refine g_iload (pc := 57) C d_M_kindFor_57 4 rfl ?_
      refine g_icmp_le (pc := 59) (tgt := 69) C d_M_kindFor_59 (by decide) (fun h11 => ?_) (fun h11 => ?_)
      · replace hw := hw.1 h11
        obtain ⟨y9, ey9⟩ : ∃ w, w = x5 + 1 := ⟨_, rfl⟩
        replace hw := hw y9 ey9
        refine g_iinc (pc := 69) C d_M_kindFor_69 5 rfl (v := y9) (by rw [ey9]; rfl) (Nat.le_of_ble_eq_true rfl) (lv' := [(0, .ref (a 0)), (1, .int x1), (2, .int x2), (3, .int x3), (4, .int x4), (5, .int y9), (6, .int v7)]) rfl ?_
        refine g_goto (pc := 72) (tgt := 29) C d_M_kindFor_72 (by decide) ?_
        refine g_sub [0, 1, 2, 3, 4, 5] (lv' := [(0, .ref (a 0)), (1, .int x1), (2, .int x2), (3, .int x3), (4, .int x4), (5, .int y9)]) rfl ?_
        exact ih m_8 x1 x2 x3 x4 y9 hw
      · replace hw := hw.2 h11
        refine g_iload (pc := 62) C d_M_kindFor_62 5 rfl ?_
        refine g_istore_n (pc := 64) C d_M_kindFor_64 rfl (Nat.le_of_ble_eq_true rfl) (lv' := [(0, .ref (a 0)), (1, .int x1), (2, .int x2), (3, .int x5), (4, .int x4), (5, .int x5), (6, .int v7)]) rfl ?_
        refine g_iload (pc := 65) C d_M_kindFor_65 6 rfl ?_
        refine g_istore (pc := 67) C d_M_kindFor_67 (Nat.le_of_ble_eq_true rfl) (lv' := [(0, .ref (a 0)), (1, .int x1), (2, .int x2), (3, .int x5), (4, .int v7), (5, .int x5), (6, .int v7)]) rfl ?_
        obtain ⟨y10, ey10⟩ : ∃ w, w = x5 + 1 := ⟨_, rfl⟩
        replace hw := hw y10 ey10
        refine g_iinc (pc := 69) C d_M_kindFor_69 5 rfl (v := y10) (by rw [ey10]; rfl) (Nat.le_of_ble_eq_true rfl) (lv' := [(0, .ref (a 0)), (1, .int x1), (2, .int x2), (3, .int x5), (4, .int v7), (5, .int y10), (6, .int v7)]) rfl ?_
        refine g_goto (pc := 72) (tgt := 29) C d_M_kindFor_72 (by decide) ?_
        refine g_sub [0, 1, 2, 3, 4, 5] (lv' := [(0, .ref (a 0)), (1, .int x1), (2, .int x2), (3, .int x5), (4, .int v7), (5, .int y10)]) rfl ?_
        exact ih m_8 x1 x2 x5 v7 y10 hw
def wp_M_kindFor (m : MSt) (x1 : Int32) (x2 : Int32) (post : Int32 → MSt → Prop) : Prop :=
  wp_M_isBarge m x1 (fun v1 m_2 => ((v1 = 0) → (post (-1) m_2)) ∧ ((¬ v1 = 0) → (wp_M_isShort x2 (fun v3 => ((v3 = 0) → (post (-1) m_2)) ∧ ((¬ v3 = 0) → (wp_M_keepAside m_2 (fun m_4 => w_M_kindFor_29  post  2000 m_4 x1 x2 0 (-1) 0)))))))
set_option maxRecDepth 20000 in
theorem g_M_kindFor {X : GX} (C : GC X b_M_kindFor R_M 7 (rmd 6)) {Qp : Option Value → va_W → Prop} (q : RC X ((some .int)) Qp 0 0) (a : Nat → Nat) (m : MSt) (x1 : Int32) (x2 : Int32) (post : Int32 → MSt → Prop) (hq : ∀ v c1, post v c1 → Qp (some (.int v)) (woM (xt X) a c1)) (hw : wp_M_kindFor m x1 x2 post) : G X 0 0 (woM (xt X) a m) [(0, .ref (a 0)), (1, .int x1), (2, .int x2)] [] 0 := by
  unfold wp_M_kindFor at hw
  refine g_aload_n (pc := 0) C d_M_kindFor_0 0 rfl rfl ?_
  refine g_iload_n (pc := 1) C d_M_kindFor_1 1 rfl rfl ?_
  refine k_Ia (pc := 2) (co_V C (c_M_isBarge (xl X) (xD X) (xt X) (xv X) a m x1 _ hw) mw_M_isBarge lk_M_118 d_M_kindFor_2 (List.range _) (all_C _) (all_nd _) (rec_w C 0 6 rfl rfl) rfl rfl ⟨Nat.le_of_ble_eq_true rfl, Nat.le_of_ble_eq_true rfl⟩ ⟨Nat.le_of_ble_eq_true rfl, Nat.le_of_ble_eq_true rfl⟩ (rest := []) rfl rfl (Nat.le_of_ble_eq_true rfl)) (fun v1 m_2 hw => ?_)
  refine g_if_eq (pc := 5) (tgt := 15) C d_M_kindFor_5 (by decide) (fun h14 => ?_) (fun h14 => ?_)
  · replace hw := hw.1 h14
    refine g_iconst (pc := 15) C (v := (-1)) d_M_kindFor_15 (by decide) ?_
    exact g_iret (pc := 16) C q d_M_kindFor_16 (hq _ _ hw)
  · replace hw := hw.2 h14
    refine g_iload_n (pc := 8) C d_M_kindFor_8 2 rfl rfl ?_
    refine k_I0 (pc := 9) (co_S C (c_M_isShort (xl X) (xD X) (xt X) (xv X) x2 _ hw) mw_M_isShort lk_M_168 d_M_kindFor_9 [] rfl (by decide)  rfl rfl ⟨Nat.le_of_ble_eq_true rfl, Nat.le_of_ble_eq_true rfl⟩ ⟨Nat.le_of_ble_eq_true rfl, Nat.le_of_ble_eq_true rfl⟩ (rest := []) rfl rfl (Nat.le_of_ble_eq_true rfl)) (fun v3 hw => ?_)
    refine g_if_ne (pc := 12) (tgt := 17) C d_M_kindFor_12 (by decide) (fun h13 => ?_) (fun h13 => ?_)
    · replace hw := hw.2 h13
      refine g_aload_n (pc := 17) C d_M_kindFor_17 0 rfl rfl ?_
      refine k_Va (pc := 18) (co_V C (c_M_keepAside (xl X) (xD X) (xt X) (xv X) a m_2 _ hw) mw_M_keepAside lk_M_138 d_M_kindFor_18 (List.range _) (all_C _) (all_nd _) (rec_w C 0 6 rfl rfl) rfl rfl ⟨Nat.le_of_ble_eq_true rfl, Nat.le_of_ble_eq_true rfl⟩ ⟨Nat.le_of_ble_eq_true rfl, Nat.le_of_ble_eq_true rfl⟩ (rest := []) rfl rfl (Nat.le_of_ble_eq_true rfl)) (fun m_4 hw => ?_)
      refine g_iconst (pc := 21) C (v := 0) d_M_kindFor_21 (by decide) ?_
      refine g_istore_n (pc := 22) C d_M_kindFor_22 rfl (Nat.le_of_ble_eq_true rfl) (lv' := [(0, .ref (a 0)), (1, .int x1), (2, .int x2), (3, .int 0)]) rfl ?_
      refine g_iconst (pc := 23) C (v := (-1)) d_M_kindFor_23 (by decide) ?_
      refine g_istore (pc := 24) C d_M_kindFor_24 (Nat.le_of_ble_eq_true rfl) (lv' := [(0, .ref (a 0)), (1, .int x1), (2, .int x2), (3, .int 0), (4, .int (-1))]) rfl ?_
      refine g_iconst (pc := 26) C (v := 0) d_M_kindFor_26 (by decide) ?_
      refine g_istore (pc := 27) C d_M_kindFor_27 (Nat.le_of_ble_eq_true rfl) (lv' := [(0, .ref (a 0)), (1, .int x1), (2, .int x2), (3, .int 0), (4, .int (-1)), (5, .int 0)]) rfl ?_
      exact j_M_kindFor_29 C q a post hq  2000 m_4 x1 x2 0 (-1) 0 hw
    · replace hw := hw.1 h13
      refine g_iconst (pc := 15) C (v := (-1)) d_M_kindFor_15 (by decide) ?_
      exact g_iret (pc := 16) C q d_M_kindFor_16 (hq _ _ hw)
set_option maxRecDepth 20000 in
theorem c_M_kindFor (l : Launch) (D : va_G) (t : Nat → ClassId) (ev : Nat → Nat) (a : Nat → Nat) (m : MSt) (x1 : Int32) (x2 : Int32) (post : Int32 → MSt → Prop) (hw : wp_M_kindFor m x1 x2 post) : Con l D t ev y_M_kindFor b_M_kindFor 7 ((some .int)) 6 (woM t a m) [.ref (a 0), .int x1, .int x2] (qI (woM t a)  post) :=
  ConR.of (by decide +kernel) (Nat.le_of_ble_eq_true rfl) (fun X el eD et ee C q _ => by subst el; subst eD; subst et; subst ee; exact g_M_kindFor C q a m x1 x2 post (fun v c1 h => ⟨⟨v, c1, rfl, rfl, h⟩, rfl⟩) hw)
def w_M_loadFor_36  (post : Int32 → MSt → Prop)  : Nat → MSt → Int32 → Int32 → Int32 → Int32 → Prop
  | 0, _, _, _, _, _ => False
  | n + 1, m, x1, x2, x3, x4 =>
    ((99 < x4) → (post (-3) m)) ∧ ((¬ 99 < x4) → (wp_M_puts m x1 1 x4 (fun m_7 => wp_M_loadOf x1 (fun v8 => wp_M_behind m_7 x2 v8 (fun v9 m_10 => ((v9 < x3) → (∀ y11 : Int32, y11 = x4 + 1 → (w_M_loadFor_36  post  n m_10 x1 x2 x3 y11))) ∧ ((¬ v9 < x3) → (post x4 m_10)))))))
set_option maxRecDepth 20000 in
theorem j_M_loadFor_36 {X : GX} (C : GC X b_M_loadFor R_M 5 (rmd 6)) {Qp : Option Value → va_W → Prop} (q : RC X ((some .int)) Qp 0 0) (a : Nat → Nat)   (post : Int32 → MSt → Prop) (hq : ∀ v c1, post v c1 → Qp (some (.int v)) (woM (xt X) a c1)) : ∀ (n : Nat) (m : MSt) (x1 : Int32) (x2 : Int32) (x3 : Int32) (x4 : Int32), w_M_loadFor_36  post  n m x1 x2 x3 x4 → G X 0 0 (woM (xt X) a m) [(0, .ref (a 0)), (1, .int x1), (2, .int x2), (3, .int x3), (4, .int x4)] [] 36 := by
  intro n
  induction n with
  | zero => intro m x1 x2 x3 x4 hw; exact hw.elim
  | succ n ih =>
    intro m x1 x2 x3 x4 hw
    rw [w_M_loadFor_36] at hw
    refine g_iload (pc := 36) C d_M_loadFor_36 4 rfl ?_
    refine g_bipush (pc := 38) C (v := 99) d_M_loadFor_38 (by decide) ?_
    refine g_icmp_gt (pc := 40) (tgt := 73) C d_M_loadFor_40 (by decide) (fun h13 => ?_) (fun h13 => ?_)
    · replace hw := hw.1 h13
      refine g_bipush (pc := 73) C (v := (-3)) d_M_loadFor_73 (by decide) ?_
      exact g_iret (pc := 75) C q d_M_loadFor_75 (hq _ _ hw)
    · replace hw := hw.2 h13
      refine g_aload_n (pc := 43) C d_M_loadFor_43 0 rfl rfl ?_
      refine g_iload_n (pc := 44) C d_M_loadFor_44 1 rfl rfl ?_
      refine g_iconst (pc := 45) C (v := 1) d_M_loadFor_45 (by decide) ?_
      refine g_iload (pc := 46) C d_M_loadFor_46 4 rfl ?_
      refine k_Va (pc := 48) (co_V C (c_M_puts (xl X) (xD X) (xt X) (xv X) a m x1 1 x4 _ hw) mw_M_puts lk_M_72 d_M_loadFor_48 (List.range _) (all_C _) (all_nd _) (rec_w C 0 6 rfl rfl) rfl rfl ⟨Nat.le_of_ble_eq_true rfl, Nat.le_of_ble_eq_true rfl⟩ ⟨Nat.le_of_ble_eq_true rfl, Nat.le_of_ble_eq_true rfl⟩ (rest := []) rfl rfl (Nat.le_of_ble_eq_true rfl)) (fun m_7 hw => ?_)
      refine g_aload_n (pc := 51) C d_M_loadFor_51 0 rfl rfl ?_
      refine g_iload_n (pc := 52) C d_M_loadFor_52 2 rfl rfl ?_
      refine g_iload_n (pc := 53) C d_M_loadFor_53 1 rfl rfl ?_
      refine k_I0 (pc := 54) (co_S C (c_M_loadOf (xl X) (xD X) (xt X) (xv X) x1 _ hw) mw_M_loadOf lk_M_162 d_M_loadFor_54 [] rfl (by decide)  rfl rfl ⟨Nat.le_of_ble_eq_true rfl, Nat.le_of_ble_eq_true rfl⟩ ⟨Nat.le_of_ble_eq_true rfl, Nat.le_of_ble_eq_true rfl⟩ (rest := [.int x2, .ref (a 0)]) rfl rfl (Nat.le_of_ble_eq_true rfl)) (fun v8 hw => ?_)
      refine k_Ia (pc := 57) (co_V C (c_M_behind (xl X) (xD X) (xt X) (xv X) a m_7 x2 v8 _ hw) mw_M_behind lk_M_165 d_M_loadFor_57 (List.range _) (all_C _) (all_nd _) (rec_w C 0 6 rfl rfl) rfl rfl ⟨Nat.le_of_ble_eq_true rfl, Nat.le_of_ble_eq_true rfl⟩ ⟨Nat.le_of_ble_eq_true rfl, Nat.le_of_ble_eq_true rfl⟩ (rest := []) rfl rfl (Nat.le_of_ble_eq_true rfl)) (fun v9 m_10 hw => ?_)
      refine g_iload_n (pc := 60) C d_M_loadFor_60 3 rfl rfl ?_
      refine g_icmp_lt (pc := 61) (tgt := 67) C d_M_loadFor_61 (by decide) (fun h12 => ?_) (fun h12 => ?_)
      · replace hw := hw.1 h12
        obtain ⟨y11, ey11⟩ : ∃ w, w = x4 + 1 := ⟨_, rfl⟩
        replace hw := hw y11 ey11
        refine g_iinc (pc := 67) C d_M_loadFor_67 4 rfl (v := y11) (by rw [ey11]; rfl) (Nat.le_of_ble_eq_true rfl) (lv' := [(0, .ref (a 0)), (1, .int x1), (2, .int x2), (3, .int x3), (4, .int y11)]) rfl ?_
        refine g_goto (pc := 70) (tgt := 36) C d_M_loadFor_70 (by decide) ?_
        exact ih m_10 x1 x2 x3 y11 hw
      · replace hw := hw.2 h12
        refine g_iload (pc := 64) C d_M_loadFor_64 4 rfl ?_
        exact g_iret (pc := 66) C q d_M_loadFor_66 (hq _ _ hw)
def wp_M_loadFor (m : MSt) (x1 : Int32) (x2 : Int32) (x3 : Int32) (post : Int32 → MSt → Prop) : Prop :=
  wp_M_isBarge m x1 (fun v1 m_2 => ((v1 = 0) → (post (-1) m_2)) ∧ ((¬ v1 = 0) → (wp_M_isShort x2 (fun v3 => ((v3 = 0) → (post (-1) m_2)) ∧ ((¬ v3 = 0) → (∀ y4 : Int64, y4 = x3.toInt64 → (wp_M_in y4 0 99 (fun v5 => ((v5 = 0) → (post (-1) m_2)) ∧ ((¬ v5 = 0) → (wp_M_keepAside m_2 (fun m_6 => w_M_loadFor_36  post  2000 m_6 x1 x2 x3 0)))))))))))
set_option maxRecDepth 20000 in
theorem g_M_loadFor {X : GX} (C : GC X b_M_loadFor R_M 5 (rmd 6)) {Qp : Option Value → va_W → Prop} (q : RC X ((some .int)) Qp 0 0) (a : Nat → Nat) (m : MSt) (x1 : Int32) (x2 : Int32) (x3 : Int32) (post : Int32 → MSt → Prop) (hq : ∀ v c1, post v c1 → Qp (some (.int v)) (woM (xt X) a c1)) (hw : wp_M_loadFor m x1 x2 x3 post) : G X 0 0 (woM (xt X) a m) [(0, .ref (a 0)), (1, .int x1), (2, .int x2), (3, .int x3)] [] 0 := by
  unfold wp_M_loadFor at hw
  refine g_aload_n (pc := 0) C d_M_loadFor_0 0 rfl rfl ?_
  refine g_iload_n (pc := 1) C d_M_loadFor_1 1 rfl rfl ?_
  refine k_Ia (pc := 2) (co_V C (c_M_isBarge (xl X) (xD X) (xt X) (xv X) a m x1 _ hw) mw_M_isBarge lk_M_118 d_M_loadFor_2 (List.range _) (all_C _) (all_nd _) (rec_w C 0 6 rfl rfl) rfl rfl ⟨Nat.le_of_ble_eq_true rfl, Nat.le_of_ble_eq_true rfl⟩ ⟨Nat.le_of_ble_eq_true rfl, Nat.le_of_ble_eq_true rfl⟩ (rest := []) rfl rfl (Nat.le_of_ble_eq_true rfl)) (fun v1 m_2 hw => ?_)
  refine g_if_eq (pc := 5) (tgt := 27) C d_M_loadFor_5 (by decide) (fun h16 => ?_) (fun h16 => ?_)
  · replace hw := hw.1 h16
    refine g_iconst (pc := 27) C (v := (-1)) d_M_loadFor_27 (by decide) ?_
    exact g_iret (pc := 28) C q d_M_loadFor_28 (hq _ _ hw)
  · replace hw := hw.2 h16
    refine g_iload_n (pc := 8) C d_M_loadFor_8 2 rfl rfl ?_
    refine k_I0 (pc := 9) (co_S C (c_M_isShort (xl X) (xD X) (xt X) (xv X) x2 _ hw) mw_M_isShort lk_M_168 d_M_loadFor_9 [] rfl (by decide)  rfl rfl ⟨Nat.le_of_ble_eq_true rfl, Nat.le_of_ble_eq_true rfl⟩ ⟨Nat.le_of_ble_eq_true rfl, Nat.le_of_ble_eq_true rfl⟩ (rest := []) rfl rfl (Nat.le_of_ble_eq_true rfl)) (fun v3 hw => ?_)
    refine g_if_eq (pc := 12) (tgt := 27) C d_M_loadFor_12 (by decide) (fun h15 => ?_) (fun h15 => ?_)
    · replace hw := hw.1 h15
      refine g_iconst (pc := 27) C (v := (-1)) d_M_loadFor_27 (by decide) ?_
      exact g_iret (pc := 28) C q d_M_loadFor_28 (hq _ _ hw)
    · replace hw := hw.2 h15
      refine g_iload_n (pc := 15) C d_M_loadFor_15 3 rfl rfl ?_
      refine g_i2l (pc := 16) C d_M_loadFor_16 ?_
      refine g_topl (fun y4 ey4 => ?_)
      replace hw := hw y4 ey4
      refine g_lconst (pc := 17) C (v := 0) d_M_loadFor_17 (by decide) ?_
      refine g_ldc2_w (pc := 18) C (v := 99) d_M_loadFor_18 lk_M_100 ?_
      refine k_I0 (pc := 21) (co_S C (c_M_in (xl X) (xD X) (xt X) (xv X) y4 0 99 _ hw) mw_M_in lk_M_58 d_M_loadFor_21 [] rfl (by decide)  rfl rfl ⟨Nat.le_of_ble_eq_true rfl, Nat.le_of_ble_eq_true rfl⟩ ⟨Nat.le_of_ble_eq_true rfl, Nat.le_of_ble_eq_true rfl⟩ (rest := []) rfl rfl (Nat.le_of_ble_eq_true rfl)) (fun v5 hw => ?_)
      refine g_if_ne (pc := 24) (tgt := 29) C d_M_loadFor_24 (by decide) (fun h14 => ?_) (fun h14 => ?_)
      · replace hw := hw.2 h14
        refine g_aload_n (pc := 29) C d_M_loadFor_29 0 rfl rfl ?_
        refine k_Va (pc := 30) (co_V C (c_M_keepAside (xl X) (xD X) (xt X) (xv X) a m_2 _ hw) mw_M_keepAside lk_M_138 d_M_loadFor_30 (List.range _) (all_C _) (all_nd _) (rec_w C 0 6 rfl rfl) rfl rfl ⟨Nat.le_of_ble_eq_true rfl, Nat.le_of_ble_eq_true rfl⟩ ⟨Nat.le_of_ble_eq_true rfl, Nat.le_of_ble_eq_true rfl⟩ (rest := []) rfl rfl (Nat.le_of_ble_eq_true rfl)) (fun m_6 hw => ?_)
        refine g_iconst (pc := 33) C (v := 0) d_M_loadFor_33 (by decide) ?_
        refine g_istore (pc := 34) C d_M_loadFor_34 (Nat.le_of_ble_eq_true rfl) (lv' := [(0, .ref (a 0)), (1, .int x1), (2, .int x2), (3, .int x3), (4, .int 0)]) rfl ?_
        exact j_M_loadFor_36 C q a post hq  2000 m_6 x1 x2 x3 0 hw
      · replace hw := hw.1 h14
        refine g_iconst (pc := 27) C (v := (-1)) d_M_loadFor_27 (by decide) ?_
        exact g_iret (pc := 28) C q d_M_loadFor_28 (hq _ _ hw)
set_option maxRecDepth 20000 in
theorem c_M_loadFor (l : Launch) (D : va_G) (t : Nat → ClassId) (ev : Nat → Nat) (a : Nat → Nat) (m : MSt) (x1 : Int32) (x2 : Int32) (x3 : Int32) (post : Int32 → MSt → Prop) (hw : wp_M_loadFor m x1 x2 x3 post) : Con l D t ev y_M_loadFor b_M_loadFor 5 ((some .int)) 6 (woM t a m) [.ref (a 0), .int x1, .int x2, .int x3] (qI (woM t a)  post) :=
  ConR.of (by decide +kernel) (Nat.le_of_ble_eq_true rfl) (fun X el eD et ee C q _ => by subst el; subst eD; subst et; subst ee; exact g_M_loadFor C q a m x1 x2 x3 post (fun v c1 h => ⟨⟨v, c1, rfl, rfl, h⟩, rfl⟩) hw)
