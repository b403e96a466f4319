def wp_JI_bitCount (x0 : Int32) (post : Int32 → Prop) : Prop :=
  ∀ y1 : Int32, y1 = (x0.toUInt32 >>> ((1 : Int32).toUInt32 &&& Int32.toUInt32 31)).toInt32 → (∀ y2 : Int32, y2 = x0 - (y1 &&& 1431655765) → (∀ y3 : Int32, y3 = y2 &&& 858993459 → (∀ y4 : Int32, y4 = (y2.toUInt32 >>> ((2 : Int32).toUInt32 &&& Int32.toUInt32 31)).toInt32 → (∀ y5 : Int32, y5 = y3 + (y4 &&& 858993459) → (∀ y6 : Int32, y6 = y5 + ((y5.toUInt32 >>> ((4 : Int32).toUInt32 &&& Int32.toUInt32 31)).toInt32) → (∀ y7 : Int32, y7 = y6 &&& 252645135 → (∀ y8 : Int32, y8 = y7 + ((y7.toUInt32 >>> ((8 : Int32).toUInt32 &&& Int32.toUInt32 31)).toInt32) → (∀ y9 : Int32, y9 = y8 + ((y8.toUInt32 >>> ((16 : Int32).toUInt32 &&& Int32.toUInt32 31)).toInt32) → (post (y9 &&& 63) )))))))))
set_option maxRecDepth 20000 in
theorem g_JI_bitCount {X : GX} (C : GC X b_JI_bitCount R_JI 1 (rmd 0)) {Qp : Option Value → va_W → Prop} (q : RC X ((some .int)) Qp 0 0) (x0 : Int32) (post : Int32 → Prop) (hq : ∀ v, post v → Qp (some (.int v)) []) (hw : wp_JI_bitCount x0 post) : G X 0 0 ([]) [(0, .int x0)] [] 0 := by
  unfold wp_JI_bitCount at hw
  refine g_iload_n (pc := 0) C d_JI_bitCount_0 0 rfl rfl ?_
  refine g_iload_n (pc := 1) C d_JI_bitCount_1 0 rfl rfl ?_
  refine g_iconst (pc := 2) C (v := 1) d_JI_bitCount_2 (by decide) ?_
  refine g_iushr (pc := 3) C d_JI_bitCount_3 ?_
  refine g_topi (fun y1 ey1 => ?_)
  replace hw := hw y1 ey1
  refine g_ldc_w (pc := 4) C (v := 1431655765) d_JI_bitCount_4 lk_JI_265 ?_
  refine g_iand (pc := 7) C d_JI_bitCount_7 ?_
  refine g_isub (pc := 8) C d_JI_bitCount_8 ?_
  refine g_topi (fun y2 ey2 => ?_)
  replace hw := hw y2 ey2
  refine g_istore_n (pc := 9) C d_JI_bitCount_9 rfl (Nat.le_of_ble_eq_true rfl) (lv' := [(0, .int y2)]) rfl ?_
  refine g_iload_n (pc := 10) C d_JI_bitCount_10 0 rfl rfl ?_
  refine g_ldc_w (pc := 11) C (v := 858993459) d_JI_bitCount_11 lk_JI_266 ?_
  refine g_iand (pc := 14) C d_JI_bitCount_14 ?_
  refine g_topi (fun y3 ey3 => ?_)
  replace hw := hw y3 ey3
  refine g_iload_n (pc := 15) C d_JI_bitCount_15 0 rfl rfl ?_
  refine g_iconst (pc := 16) C (v := 2) d_JI_bitCount_16 (by decide) ?_
  refine g_iushr (pc := 17) C d_JI_bitCount_17 ?_
  refine g_topi (fun y4 ey4 => ?_)
  replace hw := hw y4 ey4
  refine g_ldc_w (pc := 18) C (v := 858993459) d_JI_bitCount_18 lk_JI_266 ?_
  refine g_iand (pc := 21) C d_JI_bitCount_21 ?_
  refine g_iadd (pc := 22) C d_JI_bitCount_22 ?_
  refine g_topi (fun y5 ey5 => ?_)
  replace hw := hw y5 ey5
  refine g_istore_n (pc := 23) C d_JI_bitCount_23 rfl (Nat.le_of_ble_eq_true rfl) (lv' := [(0, .int y5)]) rfl ?_
  refine g_iload_n (pc := 24) C d_JI_bitCount_24 0 rfl rfl ?_
  refine g_iload_n (pc := 25) C d_JI_bitCount_25 0 rfl rfl ?_
  refine g_iconst (pc := 26) C (v := 4) d_JI_bitCount_26 (by decide) ?_
  refine g_iushr (pc := 27) C d_JI_bitCount_27 ?_
  refine g_iadd (pc := 28) C d_JI_bitCount_28 ?_
  refine g_topi (fun y6 ey6 => ?_)
  replace hw := hw y6 ey6
  refine g_ldc_w (pc := 29) C (v := 252645135) d_JI_bitCount_29 lk_JI_267 ?_
  refine g_iand (pc := 32) C d_JI_bitCount_32 ?_
  refine g_topi (fun y7 ey7 => ?_)
  replace hw := hw y7 ey7
  refine g_istore_n (pc := 33) C d_JI_bitCount_33 rfl (Nat.le_of_ble_eq_true rfl) (lv' := [(0, .int y7)]) rfl ?_
  refine g_iload_n (pc := 34) C d_JI_bitCount_34 0 rfl rfl ?_
  refine g_iload_n (pc := 35) C d_JI_bitCount_35 0 rfl rfl ?_
  refine g_bipush (pc := 36) C (v := 8) d_JI_bitCount_36 (by decide) ?_
  refine g_iushr (pc := 38) C d_JI_bitCount_38 ?_
  refine g_iadd (pc := 39) C d_JI_bitCount_39 ?_
  refine g_topi (fun y8 ey8 => ?_)
  replace hw := hw y8 ey8
  refine g_istore_n (pc := 40) C d_JI_bitCount_40 rfl (Nat.le_of_ble_eq_true rfl) (lv' := [(0, .int y8)]) rfl ?_
  refine g_iload_n (pc := 41) C d_JI_bitCount_41 0 rfl rfl ?_
  refine g_iload_n (pc := 42) C d_JI_bitCount_42 0 rfl rfl ?_
  refine g_bipush (pc := 43) C (v := 16) d_JI_bitCount_43 (by decide) ?_
  refine g_iushr (pc := 45) C d_JI_bitCount_45 ?_
  refine g_iadd (pc := 46) C d_JI_bitCount_46 ?_
  refine g_topi (fun y9 ey9 => ?_)
  replace hw := hw y9 ey9
  refine g_istore_n (pc := 47) C d_JI_bitCount_47 rfl (Nat.le_of_ble_eq_true rfl) (lv' := [(0, .int y9)]) rfl ?_
  refine g_iload_n (pc := 48) C d_JI_bitCount_48 0 rfl rfl ?_
  refine g_bipush (pc := 49) C (v := 63) d_JI_bitCount_49 (by decide) ?_
  refine g_iand (pc := 51) C d_JI_bitCount_51 ?_
  exact g_iret (pc := 52) C q d_JI_bitCount_52 (hq _ hw)
set_option maxRecDepth 20000 in
theorem c_JI_bitCount (l : Launch) (D : va_G) (t : Nat → ClassId) (ev : Nat → Nat) (x0 : Int32) (post : Int32 → Prop) (hw : wp_JI_bitCount x0 post) : Con l D t ev y_JI_bitCount b_JI_bitCount 1 ((some .int)) 0 ([]) [.int x0] (qI (fun _ : Unit => [])  (fun v _ => post v)) :=
  ConR.of (by decide +kernel) (Nat.le_of_ble_eq_true rfl) (fun X el eD et ee C q _ => by subst el; subst eD; subst et; subst ee; exact g_JI_bitCount C q x0 post (fun v h => ⟨⟨v, (), rfl, rfl, h⟩, rfl⟩) hw)
def wp_A_bodyOf (c : ASt) (x1 : Int32) (post : Int32 → ASt → Prop) : Prop :=
  ∀ y1 : Int32, y1 = (A_kind c) * 4 → (∀ y2 : Int32, y2 = y1 + x1 → (((y2 < 0) → (post 0 c)) ∧ ((¬ y2 < 0) → (((24 ≤ y2) → (post 0 c)) ∧ ((¬ 24 ≤ y2) → (vp_in y2 24 ∧ (post (tbBodies.getD y2.toNatClampNeg 0) c)))))))
set_option maxRecDepth 20000 in
theorem g_A_bodyOf {X : GX} (C : GC X b_A_bodyOf R_A 3 (rmd 0)) {Qp : Option Value → va_W → Prop} (q : RC X ((some .int)) Qp 0 0) (a : Nat → Nat) (c : ASt) (x1 : Int32) (post : Int32 → ASt → Prop) (hq : ∀ v c1, post v c1 → Qp (some (.int v)) (woA (xt X) a c1)) (hw : wp_A_bodyOf c x1 post) : G X 0 0 (woA (xt X) a c) [(0, .ref (a 0)), (1, .int x1)] [] 0 := by
  unfold wp_A_bodyOf at hw
  refine g_aload_n (pc := 0) C d_A_bodyOf_0 0 rfl rfl ?_
  refine fA_kind (pc := 1) C lk_A_19 d_A_bodyOf_1 (v := A_kind c) rfl ?_
  refine g_iconst (pc := 4) C (v := 4) d_A_bodyOf_4 (by decide) ?_
  refine g_imul (pc := 5) C d_A_bodyOf_5 ?_
  refine g_topi (fun y1 ey1 => ?_)
  replace hw := hw y1 ey1
  refine g_iload_n (pc := 6) C d_A_bodyOf_6 1 rfl rfl ?_
  refine g_iadd (pc := 7) C d_A_bodyOf_7 ?_
  refine g_topi (fun y2 ey2 => ?_)
  replace hw := hw y2 ey2
  refine g_istore_n (pc := 8) C d_A_bodyOf_8 rfl (Nat.le_of_ble_eq_true rfl) (lv' := [(0, .ref (a 0)), (1, .int x1), (2, .int y2)]) rfl ?_
  refine g_iload_n (pc := 9) C d_A_bodyOf_9 2 rfl rfl ?_
  refine g_if_lt (pc := 10) (tgt := 29) C d_A_bodyOf_10 (by decide) (fun h5 => ?_) (fun h5 => ?_)
  · replace hw := hw.1 h5
    refine g_iconst (pc := 29) C (v := 0) d_A_bodyOf_29 (by decide) ?_
    exact g_iret (pc := 30) C q d_A_bodyOf_30 (hq _ _ hw)
  · replace hw := hw.2 h5
    refine g_iload_n (pc := 13) C d_A_bodyOf_13 2 rfl rfl ?_
    refine g_getsN (pc := 14) C C.2.2.2.2.2.2.2.1.2.2.2.1 lk_A_40 d_A_bodyOf_14 ?_
    refine g_tlen (pc := 17) C C.2.2.2.2.2.2.2.1.2.2.2.1 (v := 24) d_A_bodyOf_17 (by decide) ?_
    refine g_icmp_ge (pc := 18) (tgt := 29) C d_A_bodyOf_18 (by decide) (fun h4 => ?_) (fun h4 => ?_)
    · replace hw := hw.1 h4
      refine g_iconst (pc := 29) C (v := 0) d_A_bodyOf_29 (by decide) ?_
      exact g_iret (pc := 30) C q d_A_bodyOf_30 (hq _ _ hw)
    · replace hw := hw.2 h4
      refine g_getsN (pc := 21) C C.2.2.2.2.2.2.2.1.2.2.2.1 lk_A_40 d_A_bodyOf_21 ?_
      refine g_iload_n (pc := 24) C d_A_bodyOf_24 2 rfl rfl ?_
      obtain ⟨h3, hw⟩ := hw
      refine g_tload (pc := 25) C C.2.2.2.2.2.2.2.1.2.2.2.1 d_A_bodyOf_25 h3 ?_
      refine g_goto (pc := 26) (tgt := 30) C d_A_bodyOf_26 (by decide) ?_
      exact g_iret (pc := 30) C q d_A_bodyOf_30 (hq _ _ hw)
set_option maxRecDepth 20000 in
theorem c_A_bodyOf (l : Launch) (D : va_G) (t : Nat → ClassId) (ev : Nat → Nat) (a : Nat → Nat) (c : ASt) (x1 : Int32) (post : Int32 → ASt → Prop) (hw : wp_A_bodyOf c x1 post) : Con l D t ev y_A_bodyOf b_A_bodyOf 3 ((some .int)) 0 (woA t a c) [.ref (a 0), .int x1] (qI (woA t a)  post) :=
  ConR.of (by decide +kernel) (Nat.le_of_ble_eq_true rfl) (fun X el eD et ee C q _ => by subst el; subst eD; subst et; subst ee; exact g_A_bodyOf C q a c x1 post (fun v c1 h => ⟨⟨v, c1, rfl, rfl, h⟩, rfl⟩) hw)
def wp_A_partedBy (c : ASt) (x1 : Int32) (x2 : Int32) (post : Int32 → ASt → Prop) : Prop :=
  ((x2 = 0) → (post 0 (A_isParted_ c 1))) ∧ ((¬ x2 = 0) → (¬ x2 = 0 ∧ (post (x1 / x2) c)))
set_option maxRecDepth 20000 in
theorem g_A_partedBy {X : GX} (C : GC X b_A_partedBy R_A 3 (rmd 0)) {Qp : Option Value → va_W → Prop} (q : RC X ((some .int)) Qp 0 0) (a : Nat → Nat) (c : ASt) (x1 : Int32) (x2 : Int32) (post : Int32 → ASt → Prop) (hq : ∀ v c1, post v c1 → Qp (some (.int v)) (woA (xt X) a c1)) (hw : wp_A_partedBy c x1 x2 post) : G X 0 0 (woA (xt X) a c) [(0, .ref (a 0)), (1, .int x1), (2, .int x2)] [] 0 := by
  unfold wp_A_partedBy at hw
  refine g_iload_n (pc := 0) C d_A_partedBy_0 2 rfl rfl ?_
  refine g_if_ne (pc := 1) (tgt := 11) C d_A_partedBy_1 (by decide) (fun h2 => ?_) (fun h2 => ?_)
  · replace hw := hw.2 h2
    refine g_iload_n (pc := 11) C d_A_partedBy_11 1 rfl rfl ?_
    refine g_iload_n (pc := 12) C d_A_partedBy_12 2 rfl rfl ?_
    obtain ⟨h1, hw⟩ := hw
    refine g_idiv (pc := 13) C d_A_partedBy_13 h1 ?_
    exact g_iret (pc := 14) C q d_A_partedBy_14 (hq _ _ hw)
  · replace hw := hw.1 h2
    refine g_aload_n (pc := 4) C d_A_partedBy_4 0 rfl rfl ?_
    refine g_iconst (pc := 5) C (v := 1) d_A_partedBy_5 (by decide) ?_
    refine pA_isParted (pc := 6) C lk_A_28 d_A_partedBy_6 (by decide) (by decide) ?_
    refine g_iconst (pc := 9) C (v := 0) d_A_partedBy_9 (by decide) ?_
    exact g_iret (pc := 10) C q d_A_partedBy_10 (hq _ _ hw)
set_option maxRecDepth 20000 in
theorem c_A_partedBy (l : Launch) (D : va_G) (t : Nat → ClassId) (ev : Nat → Nat) (a : Nat → Nat) (c : ASt) (x1 : Int32) (x2 : Int32) (post : Int32 → ASt → Prop) (hw : wp_A_partedBy c x1 x2 post) : Con l D t ev y_A_partedBy b_A_partedBy 3 ((some .int)) 0 (woA t a c) [.ref (a 0), .int x1, .int x2] (qI (woA t a)  post) :=
  ConR.of (by decide +kernel) (Nat.le_of_ble_eq_true rfl) (fun X el eD et ee C q _ => by subst el; subst eD; subst et; subst ee; exact g_A_partedBy C q a c x1 x2 post (fun v c1 h => ⟨⟨v, c1, rfl, rfl, h⟩, rfl⟩) hw)
def w_A_run_44 (rc : ASt → Int32 → Int32 → Int32 → (Int32 → ASt → Prop) → Prop)  (post : Int32 → ASt → Prop)  (c : ASt) (x1 : Int32) (x2 : Int32) (x3 : Int32) : Prop :=
  ∀ y1 : Int32, y1 = x3 + 1 → (((x1 = 10) → (∀ y2 : Int32, y2 = x2 * 3 → (post (y2 + (A_n c)) c))) ∧ ((¬ x1 = 10) → (((x1 = 11) → (wp_A_bodyOf c 0 (fun v3 c_4 => rc c_4 v3 x2 y1 (fun v5 c_6 => post (v5 - ((A_a c_6) * 2)) c_6)))) ∧ ((¬ x1 = 11) → (((x1 = 12) → (∀ y7 : Int32, y7 = (A_a c) - (A_n c) → (wp_A_partedBy c x2 y7 (fun v8 c_9 => post v8 c_9)))) ∧ ((¬ x1 = 12) → (((x1 = 13) → (wp_A_bodyOf c 1 (fun v10 c_11 => rc c_11 v10 x2 y1 (fun v12 c_13 => post (v12 ^^^ 170) c_13)))) ∧ ((¬ x1 = 13) → (((x1 = 20) → (rc c 11 x2 y1 (fun v14 c_15 => post (0 - v14) c_15))) ∧ ((¬ x1 = 20) → (((x1 = 30) → (rc c 10 x2 y1 (fun v16 c_17 => post (v16 + 4) c_17))) ∧ ((¬ x1 = 30) → (((x1 = 31) → (rc c 13 x2 y1 (fun v18 c_19 => wp_A_bodyOf c_19 2 (fun v20 c_21 => rc c_21 v20 (A_n c_21) y1 (fun v22 c_23 => post (v18 - v22) c_23))))) ∧ ((¬ x1 = 31) → (((x1 = 40) → (rc c 30 x2 y1 (fun v24 c_25 => post (v24 * 2) c_25))) ∧ ((¬ x1 = 40) → (((x1 = 41) → (rc c 11 x2 y1 (fun v26 c_27 => wp_A_bodyOf c_27 0 (fun v28 c_29 => rc c_29 v28 (A_a c_29) y1 (fun v30 c_31 => post (v26 + v30) c_31))))) ∧ ((¬ x1 = 41) → (((x1 = 50) → (∀ y32 : Int32, y32 = x2 + (A_a c) → (rc c 12 y32 y1 (fun v33 c_34 => post (v33 ^^^ (A_n c_34)) c_34)))) ∧ ((¬ x1 = 50) → (((x1 = 51) → (rc c 10 x2 y1 (fun v35 c_36 => post (v35 - 7) c_36))) ∧ ((¬ x1 = 51) → (((x1 = 60) → (rc c 13 x2 y1 (fun v37 c_38 => post (v37 * 5) c_38))) ∧ ((¬ x1 = 60) → (((x1 = 61) → (rc c 12 x2 y1 (fun v39 c_40 => wp_A_bodyOf c_40 0 (fun v41 c_42 => rc c_42 v41 (A_n c_42) y1 (fun v43 c_44 => post (v39 - v43) c_44))))) ∧ ((¬ x1 = 61) → (post 0 c)))))))))))))))))))))))))))
set_option maxRecDepth 20000 in
theorem j_A_run_44 {X : GX} (e0 : Nat) (he0 : 1 ≤ e0) (C : GC X b_A_run R_A 5 (rmd (e0 + 1))) {Qp : Option Value → va_W → Prop} (q : RC X ((some .int)) Qp 0 0) (a : Nat → Nat) (rc : ASt → Int32 → Int32 → Int32 → (Int32 → ASt → Prop) → Prop)  (hrc : ∀ (c : ASt) (x1 : Int32) (x2 : Int32) (x3 : Int32) (post : Int32 → ASt → Prop), rc c x1 x2 x3 post → Con (xl X) (xD X) (xt X) (xv X) y_A_run b_A_run 5 ((some .int)) e0 (woA (xt X) a c) [.ref (a 0), .int x1, .int x2, .int x3] (qI (woA (xt X) a) post)) (post : Int32 → ASt → Prop) (hq : ∀ v c1, post v c1 → Qp (some (.int v)) (woA (xt X) a c1)) : ∀ (c : ASt) (x1 : Int32) (x2 : Int32) (x3 : Int32), w_A_run_44 rc post  c x1 x2 x3 → G X 0 0 (woA (xt X) a c) [(0, .ref (a 0)), (1, .int x1), (2, .int x2), (3, .int x3)] [] 44 := by
  intro c x1 x2 x3 hw
  unfold w_A_run_44 at hw
  refine g_iload_n (pc := 44) C d_A_run_44 3 rfl rfl ?_
  refine g_iconst (pc := 45) C (v := 1) d_A_run_45 (by decide) ?_
  refine g_iadd (pc := 46) C d_A_run_46 ?_
  refine g_topi (fun y1 ey1 => ?_)
  replace hw := hw y1 ey1
  refine g_istore (pc := 47) C d_A_run_47 (Nat.le_of_ble_eq_true rfl) (lv' := [(0, .ref (a 0)), (1, .int x1), (2, .int x2), (3, .int x3), (4, .int y1)]) rfl ?_
  refine g_iload_n (pc := 49) C d_A_run_49 1 rfl rfl ?_
  by_cases h45 : x1 = 10
  · replace hw := hw.1 h45
    refine g_tabIn (pc := 50) (tgt := 272) C d_A_run_50 (by rw [h45]; decide) (by rw [h45]; decide) (off := 222) (by rw [h45]; rfl) (by decide) ?_
    refine g_iload_n (pc := 272) C d_A_run_272 2 rfl rfl ?_
    refine g_iconst (pc := 273) C (v := 3) d_A_run_273 (by decide) ?_
    refine g_imul (pc := 274) C d_A_run_274 ?_
    refine g_topi (fun y2 ey2 => ?_)
    replace hw := hw y2 ey2
    refine g_aload_n (pc := 275) C d_A_run_275 0 rfl rfl ?_
    refine fA_n (pc := 276) C lk_A_22 d_A_run_276 (v := A_n c) rfl ?_
    refine g_iadd (pc := 279) C d_A_run_279 ?_
    exact g_iret (pc := 280) C q d_A_run_280 (hq _ _ hw)
  · replace hw := hw.2 h45
    by_cases h46 : x1 = 11
    · replace hw := hw.1 h46
      refine g_tabIn (pc := 50) (tgt := 281) C d_A_run_50 (by rw [h46]; decide) (by rw [h46]; decide) (off := 231) (by rw [h46]; rfl) (by decide) ?_
      refine g_aload_n (pc := 281) C d_A_run_281 0 rfl rfl ?_
      refine g_aload_n (pc := 282) C d_A_run_282 0 rfl rfl ?_
      refine g_iconst (pc := 283) C (v := 0) d_A_run_283 (by decide) ?_
      refine k_Ia (pc := 284) (co_V C (c_A_bodyOf (xl X) (xD X) (xt X) (xv X) a c 0 _ hw) mw_A_bodyOf lk_A_32 d_A_run_284 (List.range _) (all_C _) (all_nd _) (rec_w C 0 0 rfl rfl) rfl rfl (rm_o (by omega) (by decide)) ⟨Nat.le_of_ble_eq_true rfl, Nat.le_of_ble_eq_true rfl⟩ (rest := [.ref (a 0)]) rfl rfl (Nat.le_of_ble_eq_true rfl)) (fun v3 c_4 hw => ?_)
      refine g_iload_n (pc := 287) C d_A_run_287 2 rfl rfl ?_
      refine g_iload (pc := 288) C d_A_run_288 4 rfl ?_
      refine k_Ia (pc := 290) (co_V C (hrc c_4 v3 x2 y1 _ hw) mw_A_run lk_A_36 d_A_run_290 (List.range _) (all_C _) (all_nd _) (rec_w C 0 0 rfl rfl) rfl rfl (rm_s e0 (by decide)) ⟨Nat.le_of_ble_eq_true rfl, Nat.le_of_ble_eq_true rfl⟩ (rest := []) rfl rfl (Nat.le_of_ble_eq_true rfl)) (fun v5 c_6 hw => ?_)
      refine g_aload_n (pc := 293) C d_A_run_293 0 rfl rfl ?_
      refine fA_a (pc := 294) C lk_A_25 d_A_run_294 (v := A_a c_6) rfl ?_
      refine g_iconst (pc := 297) C (v := 2) d_A_run_297 (by decide) ?_
      refine g_imul (pc := 298) C d_A_run_298 ?_
      refine g_isub (pc := 299) C d_A_run_299 ?_
      exact g_iret (pc := 300) C q d_A_run_300 (hq _ _ hw)
    · replace hw := hw.2 h46
      by_cases h47 : x1 = 12
      · replace hw := hw.1 h47
        refine g_tabIn (pc := 50) (tgt := 301) C d_A_run_50 (by rw [h47]; decide) (by rw [h47]; decide) (off := 251) (by rw [h47]; rfl) (by decide) ?_
        refine g_aload_n (pc := 301) C d_A_run_301 0 rfl rfl ?_
        refine g_iload_n (pc := 302) C d_A_run_302 2 rfl rfl ?_
        refine g_aload_n (pc := 303) C d_A_run_303 0 rfl rfl ?_
        refine fA_a (pc := 304) C lk_A_25 d_A_run_304 (v := A_a c) rfl ?_
        refine g_aload_n (pc := 307) C d_A_run_307 0 rfl rfl ?_
        refine fA_n (pc := 308) C lk_A_22 d_A_run_308 (v := A_n c) rfl ?_
        refine g_isub (pc := 311) C d_A_run_311 ?_
        refine g_topi (fun y7 ey7 => ?_)
        replace hw := hw y7 ey7
        refine k_Ia (pc := 312) (co_V C (c_A_partedBy (xl X) (xD X) (xt X) (xv X) a c x2 y7 _ hw) mw_A_partedBy lk_A_43 d_A_run_312 (List.range _) (all_C _) (all_nd _) (rec_w C 0 0 rfl rfl) rfl rfl (rm_o (by omega) (by decide)) ⟨Nat.le_of_ble_eq_true rfl, Nat.le_of_ble_eq_true rfl⟩ (rest := []) rfl rfl (Nat.le_of_ble_eq_true rfl)) (fun v8 c_9 hw => ?_)
        exact g_iret (pc := 315) C q d_A_run_315 (hq _ _ hw)
      · replace hw := hw.2 h47
        by_cases h48 : x1 = 13
        · replace hw := hw.1 h48
          refine g_tabIn (pc := 50) (tgt := 316) C d_A_run_50 (by rw [h48]; decide) (by rw [h48]; decide) (off := 266) (by rw [h48]; rfl) (by decide) ?_
          refine g_aload_n (pc := 316) C d_A_run_316 0 rfl rfl ?_
          refine g_aload_n (pc := 317) C d_A_run_317 0 rfl rfl ?_
          refine g_iconst (pc := 318) C (v := 1) d_A_run_318 (by decide) ?_
          refine k_Ia (pc := 319) (co_V C (c_A_bodyOf (xl X) (xD X) (xt X) (xv X) a c 1 _ hw) mw_A_bodyOf lk_A_32 d_A_run_319 (List.range _) (all_C _) (all_nd _) (rec_w C 0 0 rfl rfl) rfl rfl (rm_o (by omega) (by decide)) ⟨Nat.le_of_ble_eq_true rfl, Nat.le_of_ble_eq_true rfl⟩ (rest := [.ref (a 0)]) rfl rfl (Nat.le_of_ble_eq_true rfl)) (fun v10 c_11 hw => ?_)
          refine g_iload_n (pc := 322) C d_A_run_322 2 rfl rfl ?_
          refine g_iload (pc := 323) C d_A_run_323 4 rfl ?_
          refine k_Ia (pc := 325) (co_V C (hrc c_11 v10 x2 y1 _ hw) mw_A_run lk_A_36 d_A_run_325 (List.range _) (all_C _) (all_nd _) (rec_w C 0 0 rfl rfl) rfl rfl (rm_s e0 (by decide)) ⟨Nat.le_of_ble_eq_true rfl, Nat.le_of_ble_eq_true rfl⟩ (rest := []) rfl rfl (Nat.le_of_ble_eq_true rfl)) (fun v12 c_13 hw => ?_)
          refine g_sipush (pc := 328) C (v := 170) d_A_run_328 (by decide) ?_
          refine g_ixor (pc := 331) C d_A_run_331 ?_
          exact g_iret (pc := 332) C q d_A_run_332 (hq _ _ hw)
        · replace hw := hw.2 h48
          by_cases h49 : x1 = 20
          · replace hw := hw.1 h49
            refine g_tabIn (pc := 50) (tgt := 333) C d_A_run_50 (by rw [h49]; decide) (by rw [h49]; decide) (off := 283) (by rw [h49]; rfl) (by decide) ?_
            refine g_iconst (pc := 333) C (v := 0) d_A_run_333 (by decide) ?_
            refine g_aload_n (pc := 334) C d_A_run_334 0 rfl rfl ?_
            refine g_bipush (pc := 335) C (v := 11) d_A_run_335 (by decide) ?_
            refine g_iload_n (pc := 337) C d_A_run_337 2 rfl rfl ?_
            refine g_iload (pc := 338) C d_A_run_338 4 rfl ?_
            refine k_Ia (pc := 340) (co_V C (hrc c 11 x2 y1 _ hw) mw_A_run lk_A_36 d_A_run_340 (List.range _) (all_C _) (all_nd _) (rec_w C 0 0 rfl rfl) rfl rfl (rm_s e0 (by decide)) ⟨Nat.le_of_ble_eq_true rfl, Nat.le_of_ble_eq_true rfl⟩ (rest := [.int 0]) rfl rfl (Nat.le_of_ble_eq_true rfl)) (fun v14 c_15 hw => ?_)
            refine g_isub (pc := 343) C d_A_run_343 ?_
            exact g_iret (pc := 344) C q d_A_run_344 (hq _ _ hw)
          · replace hw := hw.2 h49
            by_cases h50 : x1 = 30
            · replace hw := hw.1 h50
              refine g_tabIn (pc := 50) (tgt := 345) C d_A_run_50 (by rw [h50]; decide) (by rw [h50]; decide) (off := 295) (by rw [h50]; rfl) (by decide) ?_
              refine g_aload_n (pc := 345) C d_A_run_345 0 rfl rfl ?_
              refine g_bipush (pc := 346) C (v := 10) d_A_run_346 (by decide) ?_
              refine g_iload_n (pc := 348) C d_A_run_348 2 rfl rfl ?_
              refine g_iload (pc := 349) C d_A_run_349 4 rfl ?_
              refine k_Ia (pc := 351) (co_V C (hrc c 10 x2 y1 _ hw) mw_A_run lk_A_36 d_A_run_351 (List.range _) (all_C _) (all_nd _) (rec_w C 0 0 rfl rfl) rfl rfl (rm_s e0 (by decide)) ⟨Nat.le_of_ble_eq_true rfl, Nat.le_of_ble_eq_true rfl⟩ (rest := []) rfl rfl (Nat.le_of_ble_eq_true rfl)) (fun v16 c_17 hw => ?_)
              refine g_iconst (pc := 354) C (v := 4) d_A_run_354 (by decide) ?_
              refine g_iadd (pc := 355) C d_A_run_355 ?_
              exact g_iret (pc := 356) C q d_A_run_356 (hq _ _ hw)
            · replace hw := hw.2 h50
              by_cases h51 : x1 = 31
              · replace hw := hw.1 h51
                refine g_tabIn (pc := 50) (tgt := 357) C d_A_run_50 (by rw [h51]; decide) (by rw [h51]; decide) (off := 307) (by rw [h51]; rfl) (by decide) ?_
                refine g_aload_n (pc := 357) C d_A_run_357 0 rfl rfl ?_
                refine g_bipush (pc := 358) C (v := 13) d_A_run_358 (by decide) ?_
                refine g_iload_n (pc := 360) C d_A_run_360 2 rfl rfl ?_
                refine g_iload (pc := 361) C d_A_run_361 4 rfl ?_
                refine k_Ia (pc := 363) (co_V C (hrc c 13 x2 y1 _ hw) mw_A_run lk_A_36 d_A_run_363 (List.range _) (all_C _) (all_nd _) (rec_w C 0 0 rfl rfl) rfl rfl (rm_s e0 (by decide)) ⟨Nat.le_of_ble_eq_true rfl, Nat.le_of_ble_eq_true rfl⟩ (rest := []) rfl rfl (Nat.le_of_ble_eq_true rfl)) (fun v18 c_19 hw => ?_)
                refine g_aload_n (pc := 366) C d_A_run_366 0 rfl rfl ?_
                refine g_aload_n (pc := 367) C d_A_run_367 0 rfl rfl ?_
                refine g_iconst (pc := 368) C (v := 2) d_A_run_368 (by decide) ?_
                refine k_Ia (pc := 369) (co_V C (c_A_bodyOf (xl X) (xD X) (xt X) (xv X) a c_19 2 _ hw) mw_A_bodyOf lk_A_32 d_A_run_369 (List.range _) (all_C _) (all_nd _) (rec_w C 0 0 rfl rfl) rfl rfl (rm_o (by omega) (by decide)) ⟨Nat.le_of_ble_eq_true rfl, Nat.le_of_ble_eq_true rfl⟩ (rest := [.ref (a 0), .int v18]) rfl rfl (Nat.le_of_ble_eq_true rfl)) (fun v20 c_21 hw => ?_)
                refine g_aload_n (pc := 372) C d_A_run_372 0 rfl rfl ?_
                refine fA_n (pc := 373) C lk_A_22 d_A_run_373 (v := A_n c_21) rfl ?_
                refine g_iload (pc := 376) C d_A_run_376 4 rfl ?_
                refine k_Ia (pc := 378) (co_V C (hrc c_21 v20 (A_n c_21) y1 _ hw) mw_A_run lk_A_36 d_A_run_378 (List.range _) (all_C _) (all_nd _) (rec_w C 0 0 rfl rfl) rfl rfl (rm_s e0 (by decide)) ⟨Nat.le_of_ble_eq_true rfl, Nat.le_of_ble_eq_true rfl⟩ (rest := [.int v18]) rfl rfl (Nat.le_of_ble_eq_true rfl)) (fun v22 c_23 hw => ?_)
                refine g_isub (pc := 381) C d_A_run_381 ?_
                exact g_iret (pc := 382) C q d_A_run_382 (hq _ _ hw)
              · replace hw := hw.2 h51
                by_cases h52 : x1 = 40
                · replace hw := hw.1 h52
                  refine g_tabIn (pc := 50) (tgt := 383) C d_A_run_50 (by rw [h52]; decide) (by rw [h52]; decide) (off := 333) (by rw [h52]; rfl) (by decide) ?_
                  refine g_aload_n (pc := 383) C d_A_run_383 0 rfl rfl ?_
                  refine g_bipush (pc := 384) C (v := 30) d_A_run_384 (by decide) ?_
                  refine g_iload_n (pc := 386) C d_A_run_386 2 rfl rfl ?_
                  refine g_iload (pc := 387) C d_A_run_387 4 rfl ?_
                  refine k_Ia (pc := 389) (co_V C (hrc c 30 x2 y1 _ hw) mw_A_run lk_A_36 d_A_run_389 (List.range _) (all_C _) (all_nd _) (rec_w C 0 0 rfl rfl) rfl rfl (rm_s e0 (by decide)) ⟨Nat.le_of_ble_eq_true rfl, Nat.le_of_ble_eq_true rfl⟩ (rest := []) rfl rfl (Nat.le_of_ble_eq_true rfl)) (fun v24 c_25 hw => ?_)
                  refine g_iconst (pc := 392) C (v := 2) d_A_run_392 (by decide) ?_
                  refine g_imul (pc := 393) C d_A_run_393 ?_
                  exact g_iret (pc := 394) C q d_A_run_394 (hq _ _ hw)
                · replace hw := hw.2 h52
                  by_cases h53 : x1 = 41
                  · replace hw := hw.1 h53
                    refine g_tabIn (pc := 50) (tgt := 395) C d_A_run_50 (by rw [h53]; decide) (by rw [h53]; decide) (off := 345) (by rw [h53]; rfl) (by decide) ?_
                    refine g_aload_n (pc := 395) C d_A_run_395 0 rfl rfl ?_
                    refine g_bipush (pc := 396) C (v := 11) d_A_run_396 (by decide) ?_
                    refine g_iload_n (pc := 398) C d_A_run_398 2 rfl rfl ?_
                    refine g_iload (pc := 399) C d_A_run_399 4 rfl ?_
                    refine k_Ia (pc := 401) (co_V C (hrc c 11 x2 y1 _ hw) mw_A_run lk_A_36 d_A_run_401 (List.range _) (all_C _) (all_nd _) (rec_w C 0 0 rfl rfl) rfl rfl (rm_s e0 (by decide)) ⟨Nat.le_of_ble_eq_true rfl, Nat.le_of_ble_eq_true rfl⟩ (rest := []) rfl rfl (Nat.le_of_ble_eq_true rfl)) (fun v26 c_27 hw => ?_)
                    refine g_aload_n (pc := 404) C d_A_run_404 0 rfl rfl ?_
                    refine g_aload_n (pc := 405) C d_A_run_405 0 rfl rfl ?_
                    refine g_iconst (pc := 406) C (v := 0) d_A_run_406 (by decide) ?_
                    refine k_Ia (pc := 407) (co_V C (c_A_bodyOf (xl X) (xD X) (xt X) (xv X) a c_27 0 _ hw) mw_A_bodyOf lk_A_32 d_A_run_407 (List.range _) (all_C _) (all_nd _) (rec_w C 0 0 rfl rfl) rfl rfl (rm_o (by omega) (by decide)) ⟨Nat.le_of_ble_eq_true rfl, Nat.le_of_ble_eq_true rfl⟩ (rest := [.ref (a 0), .int v26]) rfl rfl (Nat.le_of_ble_eq_true rfl)) (fun v28 c_29 hw => ?_)
                    refine g_aload_n (pc := 410) C d_A_run_410 0 rfl rfl ?_
                    refine fA_a (pc := 411) C lk_A_25 d_A_run_411 (v := A_a c_29) rfl ?_
                    refine g_iload (pc := 414) C d_A_run_414 4 rfl ?_
                    refine k_Ia (pc := 416) (co_V C (hrc c_29 v28 (A_a c_29) y1 _ hw) mw_A_run lk_A_36 d_A_run_416 (List.range _) (all_C _) (all_nd _) (rec_w C 0 0 rfl rfl) rfl rfl (rm_s e0 (by decide)) ⟨Nat.le_of_ble_eq_true rfl, Nat.le_of_ble_eq_true rfl⟩ (rest := [.int v26]) rfl rfl (Nat.le_of_ble_eq_true rfl)) (fun v30 c_31 hw => ?_)
                    refine g_iadd (pc := 419) C d_A_run_419 ?_
                    exact g_iret (pc := 420) C q d_A_run_420 (hq _ _ hw)
                  · replace hw := hw.2 h53
                    by_cases h54 : x1 = 50
                    · replace hw := hw.1 h54
                      refine g_tabIn (pc := 50) (tgt := 421) C d_A_run_50 (by rw [h54]; decide) (by rw [h54]; decide) (off := 371) (by rw [h54]; rfl) (by decide) ?_
                      refine g_aload_n (pc := 421) C d_A_run_421 0 rfl rfl ?_
                      refine g_bipush (pc := 422) C (v := 12) d_A_run_422 (by decide) ?_
                      refine g_iload_n (pc := 424) C d_A_run_424 2 rfl rfl ?_
                      refine g_aload_n (pc := 425) C d_A_run_425 0 rfl rfl ?_
                      refine fA_a (pc := 426) C lk_A_25 d_A_run_426 (v := A_a c) rfl ?_
                      refine g_iadd (pc := 429) C d_A_run_429 ?_
                      refine g_topi (fun y32 ey32 => ?_)
                      replace hw := hw y32 ey32
                      refine g_iload (pc := 430) C d_A_run_430 4 rfl ?_
                      refine k_Ia (pc := 432) (co_V C (hrc c 12 y32 y1 _ hw) mw_A_run lk_A_36 d_A_run_432 (List.range _) (all_C _) (all_nd _) (rec_w C 0 0 rfl rfl) rfl rfl (rm_s e0 (by decide)) ⟨Nat.le_of_ble_eq_true rfl, Nat.le_of_ble_eq_true rfl⟩ (rest := []) rfl rfl (Nat.le_of_ble_eq_true rfl)) (fun v33 c_34 hw => ?_)
                      refine g_aload_n (pc := 435) C d_A_run_435 0 rfl rfl ?_
                      refine fA_n (pc := 436) C lk_A_22 d_A_run_436 (v := A_n c_34) rfl ?_
                      refine g_ixor (pc := 439) C d_A_run_439 ?_
                      exact g_iret (pc := 440) C q d_A_run_440 (hq _ _ hw)
                    · replace hw := hw.2 h54
                      by_cases h55 : x1 = 51
                      · replace hw := hw.1 h55
                        refine g_tabIn (pc := 50) (tgt := 441) C d_A_run_50 (by rw [h55]; decide) (by rw [h55]; decide) (off := 391) (by rw [h55]; rfl) (by decide) ?_
                        refine g_aload_n (pc := 441) C d_A_run_441 0 rfl rfl ?_
                        refine g_bipush (pc := 442) C (v := 10) d_A_run_442 (by decide) ?_
                        refine g_iload_n (pc := 444) C d_A_run_444 2 rfl rfl ?_
                        refine g_iload (pc := 445) C d_A_run_445 4 rfl ?_
                        refine k_Ia (pc := 447) (co_V C (hrc c 10 x2 y1 _ hw) mw_A_run lk_A_36 d_A_run_447 (List.range _) (all_C _) (all_nd _) (rec_w C 0 0 rfl rfl) rfl rfl (rm_s e0 (by decide)) ⟨Nat.le_of_ble_eq_true rfl, Nat.le_of_ble_eq_true rfl⟩ (rest := []) rfl rfl (Nat.le_of_ble_eq_true rfl)) (fun v35 c_36 hw => ?_)
                        refine g_bipush (pc := 450) C (v := 7) d_A_run_450 (by decide) ?_
                        refine g_isub (pc := 452) C d_A_run_452 ?_
                        exact g_iret (pc := 453) C q d_A_run_453 (hq _ _ hw)
                      · replace hw := hw.2 h55
                        by_cases h56 : x1 = 60
                        · replace hw := hw.1 h56
                          refine g_tabIn (pc := 50) (tgt := 454) C d_A_run_50 (by rw [h56]; decide) (by rw [h56]; decide) (off := 404) (by rw [h56]; rfl) (by decide) ?_
                          refine g_aload_n (pc := 454) C d_A_run_454 0 rfl rfl ?_
                          refine g_bipush (pc := 455) C (v := 13) d_A_run_455 (by decide) ?_
                          refine g_iload_n (pc := 457) C d_A_run_457 2 rfl rfl ?_
                          refine g_iload (pc := 458) C d_A_run_458 4 rfl ?_
                          refine k_Ia (pc := 460) (co_V C (hrc c 13 x2 y1 _ hw) mw_A_run lk_A_36 d_A_run_460 (List.range _) (all_C _) (all_nd _) (rec_w C 0 0 rfl rfl) rfl rfl (rm_s e0 (by decide)) ⟨Nat.le_of_ble_eq_true rfl, Nat.le_of_ble_eq_true rfl⟩ (rest := []) rfl rfl (Nat.le_of_ble_eq_true rfl)) (fun v37 c_38 hw => ?_)
                          refine g_iconst (pc := 463) C (v := 5) d_A_run_463 (by decide) ?_
                          refine g_imul (pc := 464) C d_A_run_464 ?_
                          exact g_iret (pc := 465) C q d_A_run_465 (hq _ _ hw)
                        · replace hw := hw.2 h56
                          by_cases h57 : x1 = 61
                          · replace hw := hw.1 h57
                            refine g_tabIn (pc := 50) (tgt := 466) C d_A_run_50 (by rw [h57]; decide) (by rw [h57]; decide) (off := 416) (by rw [h57]; rfl) (by decide) ?_
                            refine g_aload_n (pc := 466) C d_A_run_466 0 rfl rfl ?_
                            refine g_bipush (pc := 467) C (v := 12) d_A_run_467 (by decide) ?_
                            refine g_iload_n (pc := 469) C d_A_run_469 2 rfl rfl ?_
                            refine g_iload (pc := 470) C d_A_run_470 4 rfl ?_
                            refine k_Ia (pc := 472) (co_V C (hrc c 12 x2 y1 _ hw) mw_A_run lk_A_36 d_A_run_472 (List.range _) (all_C _) (all_nd _) (rec_w C 0 0 rfl rfl) rfl rfl (rm_s e0 (by decide)) ⟨Nat.le_of_ble_eq_true rfl, Nat.le_of_ble_eq_true rfl⟩ (rest := []) rfl rfl (Nat.le_of_ble_eq_true rfl)) (fun v39 c_40 hw => ?_)
                            refine g_aload_n (pc := 475) C d_A_run_475 0 rfl rfl ?_
                            refine g_aload_n (pc := 476) C d_A_run_476 0 rfl rfl ?_
                            refine g_iconst (pc := 477) C (v := 0) d_A_run_477 (by decide) ?_
                            refine k_Ia (pc := 478) (co_V C (c_A_bodyOf (xl X) (xD X) (xt X) (xv X) a c_40 0 _ hw) mw_A_bodyOf lk_A_32 d_A_run_478 (List.range _) (all_C _) (all_nd _) (rec_w C 0 0 rfl rfl) rfl rfl (rm_o (by omega) (by decide)) ⟨Nat.le_of_ble_eq_true rfl, Nat.le_of_ble_eq_true rfl⟩ (rest := [.ref (a 0), .int v39]) rfl rfl (Nat.le_of_ble_eq_true rfl)) (fun v41 c_42 hw => ?_)
                            refine g_aload_n (pc := 481) C d_A_run_481 0 rfl rfl ?_
                            refine fA_n (pc := 482) C lk_A_22 d_A_run_482 (v := A_n c_42) rfl ?_
                            refine g_iload (pc := 485) C d_A_run_485 4 rfl ?_
                            refine k_Ia (pc := 487) (co_V C (hrc c_42 v41 (A_n c_42) y1 _ hw) mw_A_run lk_A_36 d_A_run_487 (List.range _) (all_C _) (all_nd _) (rec_w C 0 0 rfl rfl) rfl rfl (rm_s e0 (by decide)) ⟨Nat.le_of_ble_eq_true rfl, Nat.le_of_ble_eq_true rfl⟩ (rest := [.int v39]) rfl rfl (Nat.le_of_ble_eq_true rfl)) (fun v43 c_44 hw => ?_)
                            refine g_isub (pc := 490) C d_A_run_490 ?_
                            exact g_iret (pc := 491) C q d_A_run_491 (hq _ _ hw)
                          · replace hw := hw.2 h57
                            have h45_ := sw_ne (v := 10) h45 (by decide)
                            have h46_ := sw_ne (v := 11) h46 (by decide)
                            have h47_ := sw_ne (v := 12) h47 (by decide)
                            have h48_ := sw_ne (v := 13) h48 (by decide)
                            have h49_ := sw_ne (v := 20) h49 (by decide)
                            have h50_ := sw_ne (v := 30) h50 (by decide)
                            have h51_ := sw_ne (v := 31) h51 (by decide)
                            have h52_ := sw_ne (v := 40) h52 (by decide)
                            have h53_ := sw_ne (v := 41) h53 (by decide)
                            have h54_ := sw_ne (v := 50) h54 (by decide)
                            have h55_ := sw_ne (v := 51) h55 (by decide)
                            have h56_ := sw_ne (v := 60) h56 (by decide)
                            have h57_ := sw_ne (v := 61) h57 (by decide)
                            have hdf : G X 0 0 (woA (xt X) a c) [(0, .ref (a 0)), (1, .int x1), (2, .int x2), (3, .int x3), (4, .int y1)] [] 492 := by
                              refine g_iconst (pc := 492) C (v := 0) d_A_run_492 (by decide) ?_
                              exact g_iret (pc := 493) C q d_A_run_493 (hq _ _ hw)
                            by_cases h9 : (x1).toInt < 10 ∨ 61 < (x1).toInt
                            · exact g_tabOut (pc := 50) (tgt := 492) C d_A_run_50 h9 (by decide) hdf
                            · have h8 : (x1).toInt = 14 ∨ (x1).toInt = 15 ∨ (x1).toInt = 16 ∨ (x1).toInt = 17 ∨ (x1).toInt = 18 ∨ (x1).toInt = 19 ∨ (x1).toInt = 21 ∨ (x1).toInt = 22 ∨ (x1).toInt = 23 ∨ (x1).toInt = 24 ∨ (x1).toInt = 25 ∨ (x1).toInt = 26 ∨ (x1).toInt = 27 ∨ (x1).toInt = 28 ∨ (x1).toInt = 29 ∨ (x1).toInt = 32 ∨ (x1).toInt = 33 ∨ (x1).toInt = 34 ∨ (x1).toInt = 35 ∨ (x1).toInt = 36 ∨ (x1).toInt = 37 ∨ (x1).toInt = 38 ∨ (x1).toInt = 39 ∨ (x1).toInt = 42 ∨ (x1).toInt = 43 ∨ (x1).toInt = 44 ∨ (x1).toInt = 45 ∨ (x1).toInt = 46 ∨ (x1).toInt = 47 ∨ (x1).toInt = 48 ∨ (x1).toInt = 49 ∨ (x1).toInt = 52 ∨ (x1).toInt = 53 ∨ (x1).toInt = 54 ∨ (x1).toInt = 55 ∨ (x1).toInt = 56 ∨ (x1).toInt = 57 ∨ (x1).toInt = 58 ∨ (x1).toInt = 59 := by omega
                              rcases h8 with h8 | h8 | h8 | h8 | h8 | h8 | h8 | h8 | h8 | h8 | h8 | h8 | h8 | h8 | h8 | h8 | h8 | h8 | h8 | h8 | h8 | h8 | h8 | h8 | h8 | h8 | h8 | h8 | h8 | h8 | h8 | h8 | h8 | h8 | h8 | h8 | h8 | h8 | h8 <;> exact g_tabIn (pc := 50) (tgt := 492) C d_A_run_50 (by rw [h8]; decide) (by rw [h8]; decide) (off := 442) (by rw [h8]; rfl) (by decide) hdf
def w_A_run (rc : ASt → Int32 → Int32 → Int32 → (Int32 → ASt → Prop) → Prop) (c : ASt) (x1 : Int32) (x2 : Int32) (x3 : Int32) (post : Int32 → ASt → Prop) : Prop :=
  ((30 < x3) → (post 0 c)) ∧ ((¬ 30 < x3) → ((((A_isParted c) = 0) → (((30 ≤ (A_traced c)) → (w_A_run_44 rc post  c x1 x2 x3)) ∧ ((¬ 30 ≤ (A_traced c)) → (vp_in (A_traced c) 30 ∧ (∀ y59 : Int32, y59 = (A_traced c) + 1 → (w_A_run_44 rc post  (A_traced_ (A_bodies_ c (upd (A_bodies c) (A_traced c).toNatClampNeg x1)) y59) x1 x2 x3)))))) ∧ ((¬ (A_isParted c) = 0) → (post 0 c))))
def wp_A_run : Nat → ASt → Int32 → Int32 → Int32 → (Int32 → ASt → Prop) → Prop
  | 0, _, _, _, _, _ => False
  | n + 1, c, x1, x2, x3, post => w_A_run (wp_A_run n) c x1 x2 x3 post
set_option maxRecDepth 20000 in
theorem g_A_run {X : GX} (e0 : Nat) (he0 : 1 ≤ e0) (C : GC X b_A_run R_A 5 (rmd (e0 + 1))) {Qp : Option Value → va_W → Prop} (q : RC X ((some .int)) Qp 0 0) (a : Nat → Nat) (rc : ASt → Int32 → Int32 → Int32 → (Int32 → ASt → Prop) → Prop) (hrc : ∀ (c : ASt) (x1 : Int32) (x2 : Int32) (x3 : Int32) (post : Int32 → ASt → Prop), rc c x1 x2 x3 post → Con (xl X) (xD X) (xt X) (xv X) y_A_run b_A_run 5 ((some .int)) e0 (woA (xt X) a c) [.ref (a 0), .int x1, .int x2, .int x3] (qI (woA (xt X) a) post)) (c : ASt) (x1 : Int32) (x2 : Int32) (x3 : Int32) (post : Int32 → ASt → Prop) (hq : ∀ v c1, post v c1 → Qp (some (.int v)) (woA (xt X) a c1)) (hw : w_A_run rc c x1 x2 x3 post) : G X 0 0 (woA (xt X) a c) [(0, .ref (a 0)), (1, .int x1), (2, .int x2), (3, .int x3)] [] 0 := by
  unfold w_A_run at hw
  refine g_iload_n (pc := 0) C d_A_run_0 3 rfl rfl ?_
  refine g_bipush (pc := 1) C (v := 30) d_A_run_1 (by decide) ?_
  refine g_icmp_gt (pc := 3) (tgt := 13) C d_A_run_3 (by decide) (fun h62 => ?_) (fun h62 => ?_)
  · replace hw := hw.1 h62
    refine g_iconst (pc := 13) C (v := 0) d_A_run_13 (by decide) ?_
    exact g_iret (pc := 14) C q d_A_run_14 (hq _ _ hw)
  · replace hw := hw.2 h62
    refine g_aload_n (pc := 6) C d_A_run_6 0 rfl rfl ?_
    refine fA_isParted (pc := 7) C lk_A_28 d_A_run_7 (v := A_isParted c) rfl ?_
    refine g_if_eq (pc := 10) (tgt := 15) C d_A_run_10 (by decide) (fun h61 => ?_) (fun h61 => ?_)
    · replace hw := hw.1 h61
      refine g_aload_n (pc := 15) C d_A_run_15 0 rfl rfl ?_
      refine fA_traced (pc := 16) C lk_A_15 d_A_run_16 (v := A_traced c) rfl ?_
      refine g_bipush (pc := 19) C (v := 30) d_A_run_19 (by decide) ?_
      refine g_icmp_ge (pc := 21) (tgt := 44) C d_A_run_21 (by decide) (fun h60 => ?_) (fun h60 => ?_)
      · replace hw := hw.1 h60
        exact j_A_run_44 e0 he0 C q a rc hrc post hq  c x1 x2 x3 hw
      · replace hw := hw.2 h60
        refine g_aload_n (pc := 24) C d_A_run_24 0 rfl rfl ?_
        refine fA_bodies (pc := 25) C lk_A_9 d_A_run_25 ?_
        refine g_aload_n (pc := 28) C d_A_run_28 0 rfl rfl ?_
        refine fA_traced (pc := 29) C lk_A_15 d_A_run_29 (v := A_traced c) rfl ?_
        refine g_iload_n (pc := 32) C d_A_run_32 1 rfl rfl ?_
        obtain ⟨h58, hw⟩ := hw
        refine sA_bodies (pc := 33) C d_A_run_33 (f := A_bodies c) rfl (N0 := (A_traced c).toNatClampNeg) rfl h58 ?_
        refine g_aload_n (pc := 34) C d_A_run_34 0 rfl rfl ?_
        refine g_dup (pc := 35) C d_A_run_35 rfl ?_
        refine fA_traced (pc := 36) C lk_A_15 d_A_run_36 (v := A_traced c) rfl ?_
        refine g_iconst (pc := 39) C (v := 1) d_A_run_39 (by decide) ?_
        refine g_iadd (pc := 40) C d_A_run_40 ?_
        refine g_topi (fun y59 ey59 => ?_)
        replace hw := hw y59 ey59
        refine pA_traced (pc := 41) C lk_A_15 d_A_run_41   ?_
        exact j_A_run_44 e0 he0 C q a rc hrc post hq  (A_traced_ (A_bodies_ c (upd (A_bodies c) (A_traced c).toNatClampNeg x1)) y59) x1 x2 x3 hw
    · replace hw := hw.2 h61
      refine g_iconst (pc := 13) C (v := 0) d_A_run_13 (by decide) ?_
      exact g_iret (pc := 14) C q d_A_run_14 (hq _ _ hw)
set_option maxRecDepth 20000 in
theorem c_A_run (l : Launch) (D : va_G) (t : Nat → ClassId) (ev : Nat → Nat) (a : Nat → Nat) : ∀ (n : Nat) (c : ASt) (x1 : Int32) (x2 : Int32) (x3 : Int32) (post : Int32 → ASt → Prop), wp_A_run n c x1 x2 x3 post → Con l D t ev y_A_run b_A_run 5 ((some .int)) (1 + n) (woA t a c) [.ref (a 0), .int x1, .int x2, .int x3] (qI (woA t a) post) := by
  intro n
  induction n with
  | zero => intro c x1 x2 x3 post hw; exact hw.elim
  | succ n ih =>
    intro c x1 x2 x3 post hw
    exact ConR.of (by decide +kernel) (Nat.le_of_ble_eq_true rfl) (fun X el eD et ee C q _ => by subst el; subst eD; subst et; subst ee; exact g_A_run (1 + n) (by omega) C q a (wp_A_run n) ih c x1 x2 x3 post (fun v c1 h => ⟨⟨v, c1, rfl, rfl, h⟩, rfl⟩) hw)
def wp_A_perform (c : ASt) (x1 : Int32) (x2 : Int32) (x3 : Int32) (x4 : Int32) (x5 : Int32) (post : Int32 → ASt → Prop) : Prop :=
  wp_A_bodyOf (A_a_ (A_n_ (A_kind_ (A_isParted_ (A_traced_ c 0) 0) x2) x3) x4) x1 (fun v1 c_2 => wp_A_run 40 c_2 v1 x5 0 (fun v3 c_4 => (((A_isParted c_4) = 0) → (post v3 c_4)) ∧ ((¬ (A_isParted c_4) = 0) → (post (-15) c_4))))
set_option maxRecDepth 20000 in
theorem g_A_perform {X : GX} (C : GC X b_A_perform R_A 7 (rmd 42)) {Qp : Option Value → va_W → Prop} (q : RC X ((some .int)) Qp 0 0) (a : Nat → Nat) (c : ASt) (x1 : Int32) (x2 : Int32) (x3 : Int32) (x4 : Int32) (x5 : Int32) (post : Int32 → ASt → Prop) (hq : ∀ v c1, post v c1 → Qp (some (.int v)) (woA (xt X) a c1)) (hw : wp_A_perform c x1 x2 x3 x4 x5 post) : G X 0 0 (woA (xt X) a c) [(0, .ref (a 0)), (1, .int x1), (2, .int x2), (3, .int x3), (4, .int x4), (5, .int x5)] [] 0 := by
  unfold wp_A_perform at hw
  refine g_aload_n (pc := 0) C d_A_perform_0 0 rfl rfl ?_
  refine g_iconst (pc := 1) C (v := 0) d_A_perform_1 (by decide) ?_
  refine pA_traced (pc := 2) C lk_A_15 d_A_perform_2   ?_
  refine g_aload_n (pc := 5) C d_A_perform_5 0 rfl rfl ?_
  refine g_iconst (pc := 6) C (v := 0) d_A_perform_6 (by decide) ?_
  refine pA_isParted (pc := 7) C lk_A_28 d_A_perform_7 (by decide) (by decide) ?_
  refine g_aload_n (pc := 10) C d_A_perform_10 0 rfl rfl ?_
  refine g_iload_n (pc := 11) C d_A_perform_11 2 rfl rfl ?_
  refine pA_kind (pc := 12) C lk_A_19 d_A_perform_12   ?_
  refine g_aload_n (pc := 15) C d_A_perform_15 0 rfl rfl ?_
  refine g_iload_n (pc := 16) C d_A_perform_16 3 rfl rfl ?_
  refine pA_n (pc := 17) C lk_A_22 d_A_perform_17   ?_
  refine g_aload_n (pc := 20) C d_A_perform_20 0 rfl rfl ?_
  refine g_iload (pc := 21) C d_A_perform_21 4 rfl ?_
  refine pA_a (pc := 23) C lk_A_25 d_A_perform_23   ?_
  refine g_aload_n (pc := 26) C d_A_perform_26 0 rfl rfl ?_
  refine g_aload_n (pc := 27) C d_A_perform_27 0 rfl rfl ?_
  refine g_iload_n (pc := 28) C d_A_perform_28 1 rfl rfl ?_
  refine k_Ia (pc := 29) (co_V C (c_A_bodyOf (xl X) (xD X) (xt X) (xv X) a (A_a_ (A_n_ (A_kind_ (A_isParted_ (A_traced_ c 0) 0) x2) x3) x4) x1 _ hw) mw_A_bodyOf lk_A_32 d_A_perform_29 (List.range _) (all_C _) (all_nd _) (rec_w C 0 0 rfl rfl) rfl rfl ⟨Nat.le_of_ble_eq_true rfl, Nat.le_of_ble_eq_true rfl⟩ ⟨Nat.le_of_ble_eq_true rfl, Nat.le_of_ble_eq_true rfl⟩ (rest := [.ref (a 0)]) rfl rfl (Nat.le_of_ble_eq_true rfl)) (fun v1 c_2 hw => ?_)
  refine g_iload (pc := 32) C d_A_perform_32 5 rfl ?_
  refine g_iconst (pc := 34) C (v := 0) d_A_perform_34 (by decide) ?_
  refine k_Ia (pc := 35) (co_V C (c_A_run (xl X) (xD X) (xt X) (xv X) a 40 c_2 v1 x5 0 _ hw) mw_A_run lk_A_36 d_A_perform_35 (List.range _) (all_C _) (all_nd _) (rec_w C 0 0 rfl rfl) rfl rfl ⟨Nat.le_of_ble_eq_true rfl, Nat.le_of_ble_eq_true rfl⟩ ⟨Nat.le_of_ble_eq_true rfl, Nat.le_of_ble_eq_true rfl⟩ (rest := []) rfl rfl (Nat.le_of_ble_eq_true rfl)) (fun v3 c_4 hw => ?_)
  refine g_istore (pc := 38) C d_A_perform_38 (Nat.le_of_ble_eq_true rfl) (lv' := [(0, .ref (a 0)), (1, .int x1), (2, .int x2), (3, .int x3), (4, .int x4), (5, .int x5), (6, .int v3)]) rfl ?_
  refine g_aload_n (pc := 40) C d_A_perform_40 0 rfl rfl ?_
  refine fA_isParted (pc := 41) C lk_A_28 d_A_perform_41 (v := A_isParted c_4) rfl ?_
  refine g_if_eq (pc := 44) (tgt := 52) C d_A_perform_44 (by decide) (fun h5 => ?_) (fun h5 => ?_)
  · replace hw := hw.1 h5
    refine g_iload (pc := 52) C d_A_perform_52 6 rfl ?_
    exact g_iret (pc := 54) C q d_A_perform_54 (hq _ _ hw)
  · replace hw := hw.2 h5
    refine g_bipush (pc := 47) C (v := (-15)) d_A_perform_47 (by decide) ?_
    refine g_goto (pc := 49) (tgt := 54) C d_A_perform_49 (by decide) ?_
    exact g_iret (pc := 54) C q d_A_perform_54 (hq _ _ hw)
set_option maxRecDepth 20000 in
theorem c_A_perform (l : Launch) (D : va_G) (t : Nat → ClassId) (ev : Nat → Nat) (a : Nat → Nat) (c : ASt) (x1 : Int32) (x2 : Int32) (x3 : Int32) (x4 : Int32) (x5 : Int32) (post : Int32 → ASt → Prop) (hw : wp_A_perform c x1 x2 x3 x4 x5 post) : Con l D t ev y_A_perform b_A_perform 7 ((some .int)) 42 (woA t a c) [.ref (a 0), .int x1, .int x2, .int x3, .int x4, .int x5] (qI (woA t a)  post) :=
  ConR.of (by decide +kernel) (Nat.le_of_ble_eq_true rfl) (fun X el eD et ee C q _ => by subst el; subst eD; subst et; subst ee; exact g_A_perform C q a c x1 x2 x3 x4 x5 post (fun v c1 h => ⟨⟨v, c1, rfl, rfl, h⟩, rfl⟩) hw)
def wp_S_clearTo (c : SSt) (x1 : Int32) (x2 : Int32) (post : SSt → Prop) : Prop :=
  wp_JA_fill 40 (S_items c) 0 (fun f_1 => post (S_size_ (S_sort_ (S_items_ c f_1) x1) x2))
set_option maxRecDepth 20000 in
theorem g_S_clearTo {X : GX} (C : GC X b_S_clearTo R_S 3 (rmd 1)) {Qp : Option Value → va_W → Prop} (q : RC X (none) Qp 0 0) (a : Nat → Nat) (c : SSt) (x1 : Int32) (x2 : Int32) (post : SSt → Prop) (hq : ∀ c1, post c1 → Qp none (woS (xt X) a c1)) (hw : wp_S_clearTo c x1 x2 post) : G X 0 0 (woS (xt X) a c) [(0, .ref (a 0)), (1, .int x1), (2, .int x2)] [] 0 := by
  unfold wp_S_clearTo at hw
  refine g_aload_n (pc := 0) C d_S_clearTo_0 0 rfl rfl ?_
  refine fS_items (pc := 1) C lk_S_9 d_S_clearTo_1 ?_
  refine g_iconst (pc := 4) C (v := 0) d_S_clearTo_4 (by decide) ?_
  refine k_V (pc := 5) (co_S C (c_JA_fill (xl X) (xD X) (xt X) (xv X) (fun _ => a 1) 40 (S_items c) 0 _ hw) mw_JA_fill lk_S_22 d_S_clearTo_5 [1] (cC_S_items (xt X) a a c) (by decide)  rfl rfl ⟨Nat.le_of_ble_eq_true rfl, Nat.le_of_ble_eq_true rfl⟩ ⟨Nat.le_of_ble_eq_true rfl, Nat.le_of_ble_eq_true rfl⟩ (rest := []) rfl rfl (Nat.le_of_ble_eq_true rfl)) (fun f_1 => woS (xt X) a (S_items_ c f_1)) (cS_S_items (xt X) a a c) (fun f_1 hw => ?_)
  refine g_aload_n (pc := 8) C d_S_clearTo_8 0 rfl rfl ?_
  refine g_iload_n (pc := 9) C d_S_clearTo_9 1 rfl rfl ?_
  refine pS_sort (pc := 10) C lk_S_15 d_S_clearTo_10   ?_
  refine g_aload_n (pc := 13) C d_S_clearTo_13 0 rfl rfl ?_
  refine g_iload_n (pc := 14) C d_S_clearTo_14 2 rfl rfl ?_
  refine pS_size (pc := 15) C lk_S_19 d_S_clearTo_15   ?_
  exact g_vret (pc := 18) C q d_S_clearTo_18 (hq (S_size_ (S_sort_ (S_items_ c f_1) x1) x2) hw)
set_option maxRecDepth 20000 in
theorem c_S_clearTo (l : Launch) (D : va_G) (t : Nat → ClassId) (ev : Nat → Nat) (a : Nat → Nat) (c : SSt) (x1 : Int32) (x2 : Int32) (post : SSt → Prop) (hw : wp_S_clearTo c x1 x2 post) : Con l D t ev y_S_clearTo b_S_clearTo 3 (none) 1 (woS t a c) [.ref (a 0), .int x1, .int x2] (qV (woS t a)  post) :=
  ConR.of (by decide +kernel) (Nat.le_of_ble_eq_true rfl) (fun X el eD et ee C q _ => by subst el; subst eD; subst et; subst ee; exact g_S_clearTo C q a c x1 x2 post (fun c1 h => ⟨⟨c1, rfl, rfl, h⟩, rfl⟩) hw)
def wp_S_hasItem (c : SSt) (x1 : Int32) (post : Int32 → SSt → Prop) : Prop :=
  ((x1 < 0) → (post 0 c)) ∧ ((¬ x1 < 0) → ((((S_size c) ≤ x1) → (post 0 c)) ∧ ((¬ (S_size c) ≤ x1) → (((40 ≤ x1) → (post 0 c)) ∧ ((¬ 40 ≤ x1) → (post 1 c))))))
set_option maxRecDepth 20000 in
theorem g_S_hasItem {X : GX} (C : GC X b_S_hasItem R_S 2 (rmd 0)) {Qp : Option Value → va_W → Prop} (q : RC X ((some .boolean)) Qp 0 0) (a : Nat → Nat) (c : SSt) (x1 : Int32) (post : Int32 → SSt → Prop) (hq : ∀ v c1, post v c1 → Qp (some (.int v)) (woS (xt X) a c1)) (hw : wp_S_hasItem c x1 post) : G X 0 0 (woS (xt X) a c) [(0, .ref (a 0)), (1, .int x1)] [] 0 := by
  unfold wp_S_hasItem at hw
  refine g_iload_n (pc := 0) C d_S_hasItem_0 1 rfl rfl ?_
  refine g_if_lt (pc := 1) (tgt := 22) C d_S_hasItem_1 (by decide) (fun h3 => ?_) (fun h3 => ?_)
  · replace hw := hw.1 h3
    refine g_iconst (pc := 22) C (v := 0) d_S_hasItem_22 (by decide) ?_
    exact g_zret (pc := 23) C q d_S_hasItem_23 (by decide) (hq _ _ hw)
  · replace hw := hw.2 h3
    refine g_iload_n (pc := 4) C d_S_hasItem_4 1 rfl rfl ?_
    refine g_aload_n (pc := 5) C d_S_hasItem_5 0 rfl rfl ?_
    refine fS_size (pc := 6) C lk_S_19 d_S_hasItem_6 (v := S_size c) rfl ?_
    refine g_icmp_ge (pc := 9) (tgt := 22) C d_S_hasItem_9 (by decide) (fun h2 => ?_) (fun h2 => ?_)
    · replace hw := hw.1 h2
      refine g_iconst (pc := 22) C (v := 0) d_S_hasItem_22 (by decide) ?_
      exact g_zret (pc := 23) C q d_S_hasItem_23 (by decide) (hq _ _ hw)
    · replace hw := hw.2 h2
      refine g_iload_n (pc := 12) C d_S_hasItem_12 1 rfl rfl ?_
      refine g_bipush (pc := 13) C (v := 40) d_S_hasItem_13 (by decide) ?_
      refine g_icmp_ge (pc := 15) (tgt := 22) C d_S_hasItem_15 (by decide) (fun h1 => ?_) (fun h1 => ?_)
      · replace hw := hw.1 h1
        refine g_iconst (pc := 22) C (v := 0) d_S_hasItem_22 (by decide) ?_
        exact g_zret (pc := 23) C q d_S_hasItem_23 (by decide) (hq _ _ hw)
      · replace hw := hw.2 h1
        refine g_iconst (pc := 18) C (v := 1) d_S_hasItem_18 (by decide) ?_
        refine g_goto (pc := 19) (tgt := 23) C d_S_hasItem_19 (by decide) ?_
        exact g_zret (pc := 23) C q d_S_hasItem_23 (by decide) (hq _ _ hw)
set_option maxRecDepth 20000 in
theorem c_S_hasItem (l : Launch) (D : va_G) (t : Nat → ClassId) (ev : Nat → Nat) (a : Nat → Nat) (c : SSt) (x1 : Int32) (post : Int32 → SSt → Prop) (hw : wp_S_hasItem c x1 post) : Con l D t ev y_S_hasItem b_S_hasItem 2 ((some .boolean)) 0 (woS t a c) [.ref (a 0), .int x1] (qI (woS t a)  post) :=
  ConR.of (by decide +kernel) (Nat.le_of_ble_eq_true rfl) (fun X el eD et ee C q _ => by subst el; subst eD; subst et; subst ee; exact g_S_hasItem C q a c x1 post (fun v c1 h => ⟨⟨v, c1, rfl, rfl, h⟩, rfl⟩) hw)
def wp_S_narrowed (c : SSt) (x1 : Int32) (post : Int32 → SSt → Prop) : Prop :=
  (((S_sort c) = 0) → (post x1.toInt8.toInt32 c)) ∧ ((¬ (S_sort c) = 0) → ((((S_sort c) = 1) → (post x1.toInt16.toInt32 c)) ∧ ((¬ (S_sort c) = 1) → (post x1 c))))
set_option maxRecDepth 20000 in
theorem g_S_narrowed {X : GX} (C : GC X b_S_narrowed R_S 2 (rmd 0)) {Qp : Option Value → va_W → Prop} (q : RC X ((some .int)) Qp 0 0) (a : Nat → Nat) (c : SSt) (x1 : Int32) (post : Int32 → SSt → Prop) (hq : ∀ v c1, post v c1 → Qp (some (.int v)) (woS (xt X) a c1)) (hw : wp_S_narrowed c x1 post) : G X 0 0 (woS (xt X) a c) [(0, .ref (a 0)), (1, .int x1)] [] 0 := by
  unfold wp_S_narrowed at hw
  refine g_aload_n (pc := 0) C d_S_narrowed_0 0 rfl rfl ?_
  refine fS_sort (pc := 1) C lk_S_15 d_S_narrowed_1 (v := S_sort c) rfl ?_
  by_cases h1 : (S_sort c) = 0
  · replace hw := hw.1 h1
    refine g_lookup (pc := 4) (tgt := 32) C d_S_narrowed_4 (by decide) (off := 28) (by rw [h1]; rfl) (by decide) ?_
    refine g_iload_n (pc := 32) C d_S_narrowed_32 1 rfl rfl ?_
    refine g_i2b (pc := 33) C d_S_narrowed_33 ?_
    exact g_iret (pc := 34) C q d_S_narrowed_34 (hq _ _ hw)
  · replace hw := hw.2 h1
    by_cases h2 : (S_sort c) = 1
    · replace hw := hw.1 h2
      refine g_lookup (pc := 4) (tgt := 35) C d_S_narrowed_4 (by decide) (off := 31) (by rw [h2]; rfl) (by decide) ?_
      refine g_iload_n (pc := 35) C d_S_narrowed_35 1 rfl rfl ?_
      refine g_i2s (pc := 36) C d_S_narrowed_36 ?_
      exact g_iret (pc := 37) C q d_S_narrowed_37 (hq _ _ hw)
    · replace hw := hw.2 h2
      have h1_ := sw_ne (v := 0) h1 (by decide)
      have h2_ := sw_ne (v := 1) h2 (by decide)
      refine g_lookup (pc := 4) (tgt := 38) C d_S_narrowed_4 (by decide) (off := 34) (by simp [Op.lookupswitch.offset, h1_, h1_.symm, h2_, h2_.symm]) (by decide) ?_
      refine g_iload_n (pc := 38) C d_S_narrowed_38 1 rfl rfl ?_
      exact g_iret (pc := 39) C q d_S_narrowed_39 (hq _ _ hw)
set_option maxRecDepth 20000 in
theorem c_S_narrowed (l : Launch) (D : va_G) (t : Nat → ClassId) (ev : Nat → Nat) (a : Nat → Nat) (c : SSt) (x1 : Int32) (post : Int32 → SSt → Prop) (hw : wp_S_narrowed c x1 post) : Con l D t ev y_S_narrowed b_S_narrowed 2 ((some .int)) 0 (woS t a c) [.ref (a 0), .int x1] (qI (woS t a)  post) :=
  ConR.of (by decide +kernel) (Nat.le_of_ble_eq_true rfl) (fun X el eD et ee C q _ => by subst el; subst eD; subst et; subst ee; exact g_S_narrowed C q a c x1 post (fun v c1 h => ⟨⟨v, c1, rfl, rfl, h⟩, rfl⟩) hw)
def wp_H_clear (c : HSt) (post : HSt → Prop) : Prop :=
  post (H_what_ c 2)
set_option maxRecDepth 20000 in
theorem g_H_clear {X : GX} (C : GC X b_H_clear R_H 1 (rmd 0)) {Qp : Option Value → va_W → Prop} (q : RC X (none) Qp 0 0) (a : Nat → Nat) (c : HSt) (post : HSt → Prop) (hq : ∀ c1, post c1 → Qp none (woH (xt X) a c1)) (hw : wp_H_clear c post) : G X 0 0 (woH (xt X) a c) [(0, .ref (a 0))] [] 0 := by
  unfold wp_H_clear at hw
  refine g_aload_n (pc := 0) C d_H_clear_0 0 rfl rfl ?_
  refine g_iconst (pc := 1) C (v := 2) d_H_clear_1 (by decide) ?_
  refine pH_what (pc := 2) C lk_H_9 d_H_clear_2   ?_
  exact g_vret (pc := 5) C q d_H_clear_5 (hq (H_what_ c 2) hw)
set_option maxRecDepth 20000 in
theorem c_H_clear (l : Launch) (D : va_G) (t : Nat → ClassId) (ev : Nat → Nat) (a : Nat → Nat) (c : HSt) (post : HSt → Prop) (hw : wp_H_clear c post) : Con l D t ev y_H_clear b_H_clear 1 (none) 0 (woH t a c) [.ref (a 0)] (qV (woH t a)  post) :=
  ConR.of (by decide +kernel) (Nat.le_of_ble_eq_true rfl) (fun X el eD et ee C q _ => by subst el; subst eD; subst et; subst ee; exact g_H_clear C q a c post (fun c1 h => ⟨⟨c1, rfl, rfl, h⟩, rfl⟩) hw)
def wp_H_holdBarge (c : HSt) (x1 : Int32) (post : HSt → Prop) : Prop :=
  post (H_barge_ (H_what_ c 0) x1)
set_option maxRecDepth 20000 in
theorem g_H_holdBarge {X : GX} (C : GC X b_H_holdBarge R_H 2 (rmd 0)) {Qp : Option Value → va_W → Prop} (q : RC X (none) Qp 0 0) (a : Nat → Nat) (c : HSt) (x1 : Int32) (post : HSt → Prop) (hq : ∀ c1, post c1 → Qp none (woH (xt X) a c1)) (hw : wp_H_holdBarge c x1 post) : G X 0 0 (woH (xt X) a c) [(0, .ref (a 0)), (1, .int x1)] [] 0 := by
  unfold wp_H_holdBarge at hw
  refine g_aload_n (pc := 0) C d_H_holdBarge_0 0 rfl rfl ?_
  refine g_iconst (pc := 1) C (v := 0) d_H_holdBarge_1 (by decide) ?_
  refine pH_what (pc := 2) C lk_H_9 d_H_holdBarge_2   ?_
  refine g_aload_n (pc := 5) C d_H_holdBarge_5 0 rfl rfl ?_
  refine g_iload_n (pc := 6) C d_H_holdBarge_6 1 rfl rfl ?_
  refine pH_barge (pc := 7) C lk_H_15 d_H_holdBarge_7   ?_
  exact g_vret (pc := 10) C q d_H_holdBarge_10 (hq (H_barge_ (H_what_ c 0) x1) hw)
set_option maxRecDepth 20000 in
theorem c_H_holdBarge (l : Launch) (D : va_G) (t : Nat → ClassId) (ev : Nat → Nat) (a : Nat → Nat) (c : HSt) (x1 : Int32) (post : HSt → Prop) (hw : wp_H_holdBarge c x1 post) : Con l D t ev y_H_holdBarge b_H_holdBarge 2 (none) 0 (woH t a c) [.ref (a 0), .int x1] (qV (woH t a)  post) :=
  ConR.of (by decide +kernel) (Nat.le_of_ble_eq_true rfl) (fun X el eD et ee C q _ => by subst el; subst eD; subst et; subst ee; exact g_H_holdBarge C q a c x1 post (fun c1 h => ⟨⟨c1, rfl, rfl, h⟩, rfl⟩) hw)
def wp_H_holdRow (c : HSt) (x1 : Int32) (x2 : Int32) (post : HSt → Prop) : Prop :=
  ((x1 = (-1)) → (post (H_rowSize_ (H_rowSort_ (H_what_ c 2) x1) x2))) ∧ ((¬ x1 = (-1)) → (post (H_rowSize_ (H_rowSort_ (H_what_ c 1) x1) x2)))
set_option maxRecDepth 20000 in
theorem g_H_holdRow {X : GX} (C : GC X b_H_holdRow R_H 3 (rmd 0)) {Qp : Option Value → va_W → Prop} (q : RC X (none) Qp 0 0) (a : Nat → Nat) (c : HSt) (x1 : Int32) (x2 : Int32) (post : HSt → Prop) (hq : ∀ c1, post c1 → Qp none (woH (xt X) a c1)) (hw : wp_H_holdRow c x1 x2 post) : G X 0 0 (woH (xt X) a c) [(0, .ref (a 0)), (1, .int x1), (2, .int x2)] [] 0 := by
  unfold wp_H_holdRow at hw
  refine g_aload_n (pc := 0) C d_H_holdRow_0 0 rfl rfl ?_
  refine g_iload_n (pc := 1) C d_H_holdRow_1 1 rfl rfl ?_
  refine g_iconst (pc := 2) C (v := (-1)) d_H_holdRow_2 (by decide) ?_
  refine g_icmp_ne (pc := 3) (tgt := 10) C d_H_holdRow_3 (by decide) (fun h1 => ?_) (fun h1 => ?_)
  · replace hw := hw.2 h1
    refine g_iconst (pc := 10) C (v := 1) d_H_holdRow_10 (by decide) ?_
    refine pH_what (pc := 11) C lk_H_9 d_H_holdRow_11   ?_
    refine g_aload_n (pc := 14) C d_H_holdRow_14 0 rfl rfl ?_
    refine g_iload_n (pc := 15) C d_H_holdRow_15 1 rfl rfl ?_
    refine pH_rowSort (pc := 16) C lk_H_18 d_H_holdRow_16   ?_
    refine g_aload_n (pc := 19) C d_H_holdRow_19 0 rfl rfl ?_
    refine g_iload_n (pc := 20) C d_H_holdRow_20 2 rfl rfl ?_
    refine pH_rowSize (pc := 21) C lk_H_21 d_H_holdRow_21   ?_
    exact g_vret (pc := 24) C q d_H_holdRow_24 (hq (H_rowSize_ (H_rowSort_ (H_what_ c 1) x1) x2) hw)
  · replace hw := hw.1 h1
    refine g_iconst (pc := 6) C (v := 2) d_H_holdRow_6 (by decide) ?_
    refine g_goto (pc := 7) (tgt := 11) C d_H_holdRow_7 (by decide) ?_
    refine pH_what (pc := 11) C lk_H_9 d_H_holdRow_11   ?_
    refine g_aload_n (pc := 14) C d_H_holdRow_14 0 rfl rfl ?_
    refine g_iload_n (pc := 15) C d_H_holdRow_15 1 rfl rfl ?_
    refine pH_rowSort (pc := 16) C lk_H_18 d_H_holdRow_16   ?_
    refine g_aload_n (pc := 19) C d_H_holdRow_19 0 rfl rfl ?_
    refine g_iload_n (pc := 20) C d_H_holdRow_20 2 rfl rfl ?_
    refine pH_rowSize (pc := 21) C lk_H_21 d_H_holdRow_21   ?_
    exact g_vret (pc := 24) C q d_H_holdRow_24 (hq (H_rowSize_ (H_rowSort_ (H_what_ c 2) x1) x2) hw)
set_option maxRecDepth 20000 in
theorem c_H_holdRow (l : Launch) (D : va_G) (t : Nat → ClassId) (ev : Nat → Nat) (a : Nat → Nat) (c : HSt) (x1 : Int32) (x2 : Int32) (post : HSt → Prop) (hw : wp_H_holdRow c x1 x2 post) : Con l D t ev y_H_holdRow b_H_holdRow 3 (none) 0 (woH t a c) [.ref (a 0), .int x1, .int x2] (qV (woH t a)  post) :=
  ConR.of (by decide +kernel) (Nat.le_of_ble_eq_true rfl) (fun X el eD et ee C q _ => by subst el; subst eD; subst et; subst ee; exact g_H_holdRow C q a c x1 x2 post (fun c1 h => ⟨⟨c1, rfl, rfl, h⟩, rfl⟩) hw)
