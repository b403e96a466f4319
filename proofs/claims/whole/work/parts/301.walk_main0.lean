theorem rfS_cat (a : Nat → Nat) (j : Nat) : (rfS a j).category = 1 := by unfold rfS; split <;> rfl
theorem rfH_cat (a : Nat → Nat) (j : Nat) : (rfH a j).category = 1 := by unfold rfH; split <;> rfl
def w_X_feed_34  (post : Int32 → XSt → Prop)  : Nat → XSt → Int64 → Int32 → Int32 → Prop
  | 0, _, _, _, _ => False
  | n + 1, x, x1, x3, x4 =>
    ((x3 ≤ x4) → (post (T_size (X_tape x)) x)) ∧ ((¬ x3 ≤ x4) → (∀ y2 : Int32, y2 = 8 * x4 → (∀ y3 : Int32, y3 = (((x1.toUInt64 >>> (y2.toInt64.toUInt64 &&& Int64.toUInt64 63)).toInt64).toInt32).toInt8.toInt32 → (wp_T_append (X_tape x) y3 (fun c_4 => ∀ y5 : Int32, y5 = x4 + 1 → (w_X_feed_34  post  n (X_tape_ x c_4) x1 x3 y5))))))
set_option maxRecDepth 20000 in
theorem j_X_feed_34 {X : GX} (C : GC X b_X_feed R_X 5 (rmd 1)) {Qp : Option Value → va_W → Prop} (q : RC X ((some .int)) Qp 0 0) (a : Nat → Nat)   (post : Int32 → XSt → Prop) (hq : ∀ v c1, post v c1 → Qp (some (.int v)) (woX (xt X) a c1)) : ∀ (n : Nat) (x : XSt) (x1 : Int64) (x3 : Int32) (x4 : Int32), w_X_feed_34  post  n x x1 x3 x4 → G X 0 0 (woX (xt X) a x) [(0, .ref (a 0)), (1, .long x1), (3, .int x3), (4, .int x4)] [] 34 := by
  intro n
  induction n with
  | zero => intro x x1 x3 x4 hw; exact hw.elim
  | succ n ih =>
    intro x x1 x3 x4 hw
    rw [w_X_feed_34] at hw
    refine g_iload (pc := 34) C d_X_feed_34 3 rfl ?_
    refine g_iload_n (pc := 36) C d_X_feed_36 2 rfl rfl ?_
    refine g_icmp_ge (pc := 37) (tgt := 62) C d_X_feed_37 (by decide) (fun h6 => ?_) (fun h6 => ?_)
    · replace hw := hw.1 h6
      refine g_aload_n (pc := 62) C d_X_feed_62 0 rfl rfl ?_
      refine fX_tape (pc := 63) C lk_X_29 d_X_feed_63 ?_
      refine fX_tape_size (pc := 66) C lk_X_62 d_X_feed_66 (v := T_size (X_tape x)) rfl ?_
      exact g_iret (pc := 69) C q d_X_feed_69 (hq _ _ hw)
    · replace hw := hw.2 h6
      refine g_aload_n (pc := 40) C d_X_feed_40 0 rfl rfl ?_
      refine fX_tape (pc := 41) C lk_X_29 d_X_feed_41 ?_
      refine g_lload_n (pc := 44) C d_X_feed_44 1 rfl rfl ?_
      refine g_bipush (pc := 45) C (v := 8) d_X_feed_45 (by decide) ?_
      refine g_iload (pc := 47) C d_X_feed_47 3 rfl ?_
      refine g_imul (pc := 49) C d_X_feed_49 ?_
      refine g_topi (fun y2 ey2 => ?_)
      replace hw := hw y2 ey2
      refine g_lushr (pc := 50) C d_X_feed_50 ?_
      refine g_l2i (pc := 51) C d_X_feed_51 ?_
      refine g_i2b (pc := 52) C d_X_feed_52 ?_
      refine g_topi (fun y3 ey3 => ?_)
      replace hw := hw y3 ey3
      refine k_V (pc := 53) (co_V C (c_T_append (xl X) (xD X) (xt X) (xv X) (fun i => a (28 + i)) (X_tape x) y3 _ hw) mw_T_append lk_X_65 d_X_feed_53 [28, 29] (cC_X_tape (xt X) a a x) (by decide) (rec_w C 28 4 rfl rfl) rfl rfl ⟨Nat.le_of_ble_eq_true rfl, Nat.le_of_ble_eq_true rfl⟩ ⟨Nat.le_of_ble_eq_true rfl, Nat.le_of_ble_eq_true rfl⟩ (rest := []) rfl rfl (Nat.le_of_ble_eq_true rfl)) (fun c_4 => woX (xt X) a (X_tape_ x c_4)) (cS_X_tape (xt X) a a x) (fun c_4 hw => ?_)
      obtain ⟨y5, ey5⟩ : ∃ w, w = x4 + 1 := ⟨_, rfl⟩
      replace hw := hw y5 ey5
      refine g_iinc (pc := 56) C d_X_feed_56 3 rfl (v := y5) (by rw [ey5]; rfl) (Nat.le_of_ble_eq_true rfl) (lv' := [(0, .ref (a 0)), (1, .long x1), (3, .int x3), (4, .int y5)]) rfl ?_
      refine g_goto (pc := 59) (tgt := 34) C d_X_feed_59 (by decide) ?_
      exact ih (X_tape_ x c_4) x1 x3 y5 hw
def wp_X_feed (x : XSt) (x1 : Int64) (x3 : Int32) (post : Int32 → XSt → Prop) : Prop :=
  ((x3 < 1) → (post (-1) x)) ∧ ((¬ x3 < 1) → (((x3 ≤ 8) → (∀ y1 : Int32, y1 = (T_size (X_tape x)) + x3 → (((y1 ≤ 200) → (w_X_feed_34  post  2000 x x1 x3 0)) ∧ ((¬ y1 ≤ 200) → (post (-2) x))))) ∧ ((¬ x3 ≤ 8) → (post (-1) x))))
set_option maxRecDepth 20000 in
theorem g_X_feed {X : GX} (C : GC X b_X_feed R_X 5 (rmd 1)) {Qp : Option Value → va_W → Prop} (q : RC X ((some .int)) Qp 0 0) (a : Nat → Nat) (x : XSt) (x1 : Int64) (x3 : Int32) (post : Int32 → XSt → Prop) (hq : ∀ v c1, post v c1 → Qp (some (.int v)) (woX (xt X) a c1)) (hw : wp_X_feed x x1 x3 post) : G X 0 0 (woX (xt X) a x) [(0, .ref (a 0)), (1, .long x1), (3, .int x3)] [] 0 := by
  unfold wp_X_feed at hw
  refine g_iload_n (pc := 0) C d_X_feed_0 2 rfl rfl ?_
  refine g_iconst (pc := 1) C (v := 1) d_X_feed_1 (by decide) ?_
  refine g_icmp_lt (pc := 2) (tgt := 11) C d_X_feed_2 (by decide) (fun h9 => ?_) (fun h9 => ?_)
  · replace hw := hw.1 h9
    refine g_iconst (pc := 11) C (v := (-1)) d_X_feed_11 (by decide) ?_
    exact g_iret (pc := 12) C q d_X_feed_12 (hq _ _ hw)
  · replace hw := hw.2 h9
    refine g_iload_n (pc := 5) C d_X_feed_5 2 rfl rfl ?_
    refine g_bipush (pc := 6) C (v := 8) d_X_feed_6 (by decide) ?_
    refine g_icmp_le (pc := 8) (tgt := 13) C d_X_feed_8 (by decide) (fun h8 => ?_) (fun h8 => ?_)
    · replace hw := hw.1 h8
      refine g_aload_n (pc := 13) C d_X_feed_13 0 rfl rfl ?_
      refine fX_tape (pc := 14) C lk_X_29 d_X_feed_14 ?_
      refine fX_tape_size (pc := 17) C lk_X_62 d_X_feed_17 (v := T_size (X_tape x)) rfl ?_
      refine g_iload_n (pc := 20) C d_X_feed_20 2 rfl rfl ?_
      refine g_iadd (pc := 21) C d_X_feed_21 ?_
      refine g_topi (fun y1 ey1 => ?_)
      replace hw := hw y1 ey1
      refine g_sipush (pc := 22) C (v := 200) d_X_feed_22 (by decide) ?_
      refine g_icmp_le (pc := 25) (tgt := 31) C d_X_feed_25 (by decide) (fun h7 => ?_) (fun h7 => ?_)
      · replace hw := hw.1 h7
        refine g_iconst (pc := 31) C (v := 0) d_X_feed_31 (by decide) ?_
        refine g_istore (pc := 32) C d_X_feed_32 (Nat.le_of_ble_eq_true rfl) (lv' := [(0, .ref (a 0)), (1, .long x1), (3, .int x3), (4, .int 0)]) rfl ?_
        exact j_X_feed_34 C q a post hq  2000 x x1 x3 0 hw
      · replace hw := hw.2 h7
        refine g_bipush (pc := 28) C (v := (-2)) d_X_feed_28 (by decide) ?_
        exact g_iret (pc := 30) C q d_X_feed_30 (hq _ _ hw)
    · replace hw := hw.2 h8
      refine g_iconst (pc := 11) C (v := (-1)) d_X_feed_11 (by decide) ?_
      exact g_iret (pc := 12) C q d_X_feed_12 (hq _ _ hw)
set_option maxRecDepth 20000 in
theorem c_X_feed (l : Launch) (D : va_G) (t : Nat → ClassId) (ev : Nat → Nat) (a : Nat → Nat) (x : XSt) (x1 : Int64) (x3 : Int32) (post : Int32 → XSt → Prop) (hw : wp_X_feed x x1 x3 post) : Con l D t ev y_X_feed b_X_feed 5 ((some .int)) 1 (woX t a x) [.ref (a 0), .long x1, .int x3] (qI (woX t a)  post) :=
  ConR.of (by decide +kernel) (Nat.le_of_ble_eq_true rfl) (fun X el eD et ee C q _ => by subst el; subst eD; subst et; subst ee; exact g_X_feed C q a x x1 x3 post (fun v c1 h => ⟨⟨v, c1, rfl, rfl, h⟩, rfl⟩) hw)
def wp_X_canal (x : XSt) (post : Int32 → XSt → Prop) : Prop :=
  wp_C_copyFrom (X_tried x, X_now x) (fun p_1 => wp_C_clearAllButDraws p_1.1 (fun c_2 => wp_T_readInto (X_tape x, c_2) (fun v3 p_4 => ((v3 < 0) → (wp_C_copyFrom (p_1.2, p_4.2) (fun p_5 => post (C_count p_5.1) (X_rowCount_ (X_tried_ (X_now_ (X_tape_ (X_tried_ (X_tape_ (X_tried_ (X_now_ (X_tried_ x p_1.1) p_1.2) c_2) p_4.1) p_4.2) (T_size_ p_4.1 0)) p_5.1) p_5.2) 0)))) ∧ ((¬ v3 < 0) → (post ((-100) - v3) (X_tape_ (X_tried_ (X_tape_ (X_tried_ (X_now_ (X_tried_ x p_1.1) p_1.2) c_2) p_4.1) p_4.2) (T_size_ p_4.1 0)))))))
set_option maxRecDepth 20000 in
theorem g_X_canal {X : GX} (C : GC X b_X_canal R_X 2 (rmd 9)) {Qp : Option Value → va_W → Prop} (q : RC X ((some .int)) Qp 0 0) (a : Nat → Nat) (x : XSt) (post : Int32 → XSt → Prop) (hq : ∀ v c1, post v c1 → Qp (some (.int v)) (woX (xt X) a c1)) (hw : wp_X_canal x post) : G X 0 0 (woX (xt X) a x) [(0, .ref (a 0))] [] 0 := by
  unfold wp_X_canal at hw
  refine g_aload_n (pc := 0) C d_X_canal_0 0 rfl rfl ?_
  refine fX_tried (pc := 1) C lk_X_16 d_X_canal_1 ?_
  refine g_aload_n (pc := 4) C d_X_canal_4 0 rfl rfl ?_
  refine fX_now (pc := 5) C lk_X_10 d_X_canal_5 ?_
  refine k_V (pc := 8) (co_V C (c_C_copyFrom (xl X) (xD X) (xt X) (xv X) (fun i => a (10 + i)) (fun i => a (1 + i)) (X_tried x, X_now x) _ hw) mw_C_copyFrom lk_X_69 d_X_canal_8 [10, 11, 12, 13, 14, 15, 16, 17, 18, 1, 2, 3, 4, 5, 6, 7, 8, 9] (cC_X_tried_now (xt X) a a x) (by decide) (rec_w C 10 1 rfl rfl) rfl rfl ⟨Nat.le_of_ble_eq_true rfl, Nat.le_of_ble_eq_true rfl⟩ ⟨Nat.le_of_ble_eq_true rfl, Nat.le_of_ble_eq_true rfl⟩ (rest := []) rfl rfl (Nat.le_of_ble_eq_true rfl)) (fun p_1 => woX (xt X) a (X_now_ (X_tried_ x p_1.1) p_1.2)) (cS_X_tried_now (xt X) a a x) (fun p_1 hw => ?_)
  refine g_aload_n (pc := 11) C d_X_canal_11 0 rfl rfl ?_
  refine fX_tried (pc := 12) C lk_X_16 d_X_canal_12 ?_
  refine k_V (pc := 15) (co_V C (c_C_clearAllButDraws (xl X) (xD X) (xt X) (xv X) (fun i => a (10 + i)) p_1.1 _ hw) mw_C_clearAllButDraws lk_X_73 d_X_canal_15 [10, 11, 12, 13, 14, 15, 16, 17, 18] (cC_X_tried (xt X) a a (X_now_ (X_tried_ x p_1.1) p_1.2)) (by decide) (rec_w C 10 1 rfl rfl) rfl rfl ⟨Nat.le_of_ble_eq_true rfl, Nat.le_of_ble_eq_true rfl⟩ ⟨Nat.le_of_ble_eq_true rfl, Nat.le_of_ble_eq_true rfl⟩ (rest := []) rfl rfl (Nat.le_of_ble_eq_true rfl)) (fun c_2 => woX (xt X) a (X_tried_ (X_now_ (X_tried_ x p_1.1) p_1.2) c_2)) (cS_X_tried (xt X) a a (X_now_ (X_tried_ x p_1.1) p_1.2)) (fun c_2 hw => ?_)
  refine g_aload_n (pc := 18) C d_X_canal_18 0 rfl rfl ?_
  refine fX_tape (pc := 19) C lk_X_29 d_X_canal_19 ?_
  refine g_aload_n (pc := 22) C d_X_canal_22 0 rfl rfl ?_
  refine fX_tried (pc := 23) C lk_X_16 d_X_canal_23 ?_
  refine k_I (pc := 26) (co_V C (c_T_readInto (xl X) (xD X) (xt X) (xv X) (fun i => a (28 + i)) (fun i => a (10 + i)) (X_tape x, c_2) _ hw) mw_T_readInto lk_X_76 d_X_canal_26 [28, 29, 10, 11, 12, 13, 14, 15, 16, 17, 18] (cC_X_tape_tried (xt X) a a (X_tried_ (X_now_ (X_tried_ x p_1.1) p_1.2) c_2)) (by decide) (rec_w C 28 4 rfl rfl) rfl rfl ⟨Nat.le_of_ble_eq_true rfl, Nat.le_of_ble_eq_true rfl⟩ ⟨Nat.le_of_ble_eq_true rfl, Nat.le_of_ble_eq_true rfl⟩ (rest := []) rfl rfl (Nat.le_of_ble_eq_true rfl)) (fun p_4 => woX (xt X) a (X_tried_ (X_tape_ (X_tried_ (X_now_ (X_tried_ x p_1.1) p_1.2) c_2) p_4.1) p_4.2)) (cS_X_tape_tried (xt X) a a (X_tried_ (X_now_ (X_tried_ x p_1.1) p_1.2) c_2)) (fun v3 p_4 hw => ?_)
  refine g_istore_n (pc := 29) C d_X_canal_29 rfl (Nat.le_of_ble_eq_true rfl) (lv' := [(0, .ref (a 0)), (1, .int v3)]) rfl ?_
  refine g_aload_n (pc := 30) C d_X_canal_30 0 rfl rfl ?_
  refine fX_tape (pc := 31) C lk_X_29 d_X_canal_31 ?_
  refine g_iconst (pc := 34) C (v := 0) d_X_canal_34 (by decide) ?_
  refine pX_tape_size (pc := 35) C (c := p_4.1) rfl lk_X_62 d_X_canal_35   ?_
  refine g_iload_n (pc := 38) C d_X_canal_38 1 rfl rfl ?_
  refine g_if_lt (pc := 39) (tgt := 47) C d_X_canal_39 (by decide) (fun h6 => ?_) (fun h6 => ?_)
  · replace hw := hw.1 h6
    refine g_aload_n (pc := 47) C d_X_canal_47 0 rfl rfl ?_
    refine fX_now (pc := 48) C lk_X_10 d_X_canal_48 ?_
    refine g_aload_n (pc := 51) C d_X_canal_51 0 rfl rfl ?_
    refine fX_tried (pc := 52) C lk_X_16 d_X_canal_52 ?_
    refine k_V (pc := 55) (co_V C (c_C_copyFrom (xl X) (xD X) (xt X) (xv X) (fun i => a (1 + i)) (fun i => a (10 + i)) (p_1.2, p_4.2) _ hw) mw_C_copyFrom lk_X_69 d_X_canal_55 [1, 2, 3, 4, 5, 6, 7, 8, 9, 10, 11, 12, 13, 14, 15, 16, 17, 18] (cC_X_now_tried (xt X) a a (X_tape_ (X_tried_ (X_tape_ (X_tried_ (X_now_ (X_tried_ x p_1.1) p_1.2) c_2) p_4.1) p_4.2) (T_size_ p_4.1 0))) (by decide) (rec_w C 1 1 rfl rfl) rfl rfl ⟨Nat.le_of_ble_eq_true rfl, Nat.le_of_ble_eq_true rfl⟩ ⟨Nat.le_of_ble_eq_true rfl, Nat.le_of_ble_eq_true rfl⟩ (rest := []) rfl rfl (Nat.le_of_ble_eq_true rfl)) (fun p_5 => woX (xt X) a (X_tried_ (X_now_ (X_tape_ (X_tried_ (X_tape_ (X_tried_ (X_now_ (X_tried_ x p_1.1) p_1.2) c_2) p_4.1) p_4.2) (T_size_ p_4.1 0)) p_5.1) p_5.2)) (cS_X_now_tried (xt X) a a (X_tape_ (X_tried_ (X_tape_ (X_tried_ (X_now_ (X_tried_ x p_1.1) p_1.2) c_2) p_4.1) p_4.2) (T_size_ p_4.1 0))) (fun p_5 hw => ?_)
    refine g_aload_n (pc := 58) C d_X_canal_58 0 rfl rfl ?_
    refine g_iconst (pc := 59) C (v := 0) d_X_canal_59 (by decide) ?_
    refine pX_rowCount (pc := 60) C lk_X_37 d_X_canal_60   ?_
    refine g_aload_n (pc := 63) C d_X_canal_63 0 rfl rfl ?_
    refine fX_now (pc := 64) C lk_X_10 d_X_canal_64 ?_
    refine fX_now_count (pc := 67) C lk_X_80 d_X_canal_67 (v := C_count p_5.1) rfl ?_
    exact g_iret (pc := 70) C q d_X_canal_70 (hq _ _ hw)
  · replace hw := hw.2 h6
    refine g_bipush (pc := 42) C (v := (-100)) d_X_canal_42 (by decide) ?_
    refine g_iload_n (pc := 44) C d_X_canal_44 1 rfl rfl ?_
    refine g_isub (pc := 45) C d_X_canal_45 ?_
    exact g_iret (pc := 46) C q d_X_canal_46 (hq _ _ hw)
set_option maxRecDepth 20000 in
theorem c_X_canal (l : Launch) (D : va_G) (t : Nat → ClassId) (ev : Nat → Nat) (a : Nat → Nat) (x : XSt) (post : Int32 → XSt → Prop) (hw : wp_X_canal x post) : Con l D t ev y_X_canal b_X_canal 2 ((some .int)) 9 (woX t a x) [.ref (a 0)] (qI (woX t a)  post) :=
  ConR.of (by decide +kernel) (Nat.le_of_ble_eq_true rfl) (fun X el eD et ee C q _ => by subst el; subst eD; subst et; subst ee; exact g_X_canal C q a x post (fun v c1 h => ⟨⟨v, c1, rfl, rfl, h⟩, rfl⟩) hw)
def wp_X_set (x : XSt) (x1 : Int32) (x2 : Int32) (post : Int32 → XSt → Prop) : Prop :=
  wp_X_isLaw x1 (fun v1 => ((v1 = 0) → (post (-1) x)) ∧ ((¬ v1 = 0) → (((x2 < 0) → (post (-1) x)) ∧ ((¬ x2 < 0) → (vp_in x1 4 ∧ (((x2 ≤ (tbMost.getD x1.toNatClampNeg 0)) → (vp_in x1 4 ∧ (vp_in x1 4 ∧ (post ((C_laws (X_now x)) x1.toNatClampNeg) (X_now_ x (C_laws_ (X_now x) (upd (C_laws (X_now x)) x1.toNatClampNeg x2))))))) ∧ ((¬ x2 ≤ (tbMost.getD x1.toNatClampNeg 0)) → (post (-1) x))))))))
set_option maxRecDepth 20000 in
theorem g_X_set {X : GX} (C : GC X b_X_set R_X 4 (rmd 1)) {Qp : Option Value → va_W → Prop} (q : RC X ((some .int)) Qp 0 0) (a : Nat → Nat) (x : XSt) (x1 : Int32) (x2 : Int32) (post : Int32 → XSt → Prop) (hq : ∀ v c1, post v c1 → Qp (some (.int v)) (woX (xt X) a c1)) (hw : wp_X_set x x1 x2 post) : G X 0 0 (woX (xt X) a x) [(0, .ref (a 0)), (1, .int x1), (2, .int x2)] [] 0 := by
  unfold wp_X_set at hw
  refine g_iload_n (pc := 0) C d_X_set_0 1 rfl rfl ?_
  refine k_I0 (pc := 1) (co_S C (c_X_isLaw (xl X) (xD X) (xt X) (xv X) x1 _ hw) mw_X_isLaw lk_X_83 d_X_set_1 [] rfl (by decide)  rfl rfl ⟨Nat.le_of_ble_eq_true rfl, Nat.le_of_ble_eq_true rfl⟩ ⟨Nat.le_of_ble_eq_true rfl, Nat.le_of_ble_eq_true rfl⟩ (rest := []) rfl rfl (Nat.le_of_ble_eq_true rfl)) (fun v1 hw => ?_)
  refine g_if_eq (pc := 4) (tgt := 20) C d_X_set_4 (by decide) (fun h7 => ?_) (fun h7 => ?_)
  · replace hw := hw.1 h7
    refine g_iconst (pc := 20) C (v := (-1)) d_X_set_20 (by decide) ?_
    exact g_iret (pc := 21) C q d_X_set_21 (hq _ _ hw)
  · replace hw := hw.2 h7
    refine g_iload_n (pc := 7) C d_X_set_7 2 rfl rfl ?_
    refine g_if_lt (pc := 8) (tgt := 20) C d_X_set_8 (by decide) (fun h6 => ?_) (fun h6 => ?_)
    · replace hw := hw.1 h6
      refine g_iconst (pc := 20) C (v := (-1)) d_X_set_20 (by decide) ?_
      exact g_iret (pc := 21) C q d_X_set_21 (hq _ _ hw)
    · replace hw := hw.2 h6
      refine g_iload_n (pc := 11) C d_X_set_11 2 rfl rfl ?_
      refine g_gets (pc := 12) C C.2.2.2.2.2.2.2.1.2.1 lk_X_87 d_X_set_12 ?_
      refine g_iload_n (pc := 15) C d_X_set_15 1 rfl rfl ?_
      obtain ⟨h2, hw⟩ := hw
      refine g_tload (pc := 16) C C.2.2.2.2.2.2.2.1.2.1 d_X_set_16 h2 ?_
      refine g_icmp_le (pc := 17) (tgt := 22) C d_X_set_17 (by decide) (fun h5 => ?_) (fun h5 => ?_)
      · replace hw := hw.1 h5
        refine g_aload_n (pc := 22) C d_X_set_22 0 rfl rfl ?_
        refine fX_now (pc := 23) C lk_X_10 d_X_set_23 ?_
        refine fX_now_laws (pc := 26) C lk_X_90 d_X_set_26 ?_
        refine g_iload_n (pc := 29) C d_X_set_29 1 rfl rfl ?_
        obtain ⟨h3, hw⟩ := hw
        refine lX_now_laws (pc := 30) C d_X_set_30 (f := C_laws (X_now x)) rfl (N0 := x1.toNatClampNeg) rfl h3 ?_
        refine g_istore_n (pc := 31) C d_X_set_31 rfl (Nat.le_of_ble_eq_true rfl) (lv' := [(0, .ref (a 0)), (1, .int x1), (2, .int x2), (3, .int ((C_laws (X_now x)) x1.toNatClampNeg))]) rfl ?_
        refine g_aload_n (pc := 32) C d_X_set_32 0 rfl rfl ?_
        refine fX_now (pc := 33) C lk_X_10 d_X_set_33 ?_
        refine fX_now_laws (pc := 36) C lk_X_90 d_X_set_36 ?_
        refine g_iload_n (pc := 39) C d_X_set_39 1 rfl rfl ?_
        refine g_iload_n (pc := 40) C d_X_set_40 2 rfl rfl ?_
        obtain ⟨h4, hw⟩ := hw
        refine sX_now_laws (pc := 41) C (c := X_now x) rfl d_X_set_41 (f := C_laws (X_now x)) rfl (N0 := x1.toNatClampNeg) rfl h4 ?_
        refine g_iload_n (pc := 42) C d_X_set_42 3 rfl rfl ?_
        exact g_iret (pc := 43) C q d_X_set_43 (hq _ _ hw)
      · replace hw := hw.2 h5
        refine g_iconst (pc := 20) C (v := (-1)) d_X_set_20 (by decide) ?_
        exact g_iret (pc := 21) C q d_X_set_21 (hq _ _ hw)
set_option maxRecDepth 20000 in
theorem c_X_set (l : Launch) (D : va_G) (t : Nat → ClassId) (ev : Nat → Nat) (a : Nat → Nat) (x : XSt) (x1 : Int32) (x2 : Int32) (post : Int32 → XSt → Prop) (hw : wp_X_set x x1 x2 post) : Con l D t ev y_X_set b_X_set 4 ((some .int)) 1 (woX t a x) [.ref (a 0), .int x1, .int x2] (qI (woX t a)  post) :=
  ConR.of (by decide +kernel) (Nat.le_of_ble_eq_true rfl) (fun X el eD et ee C q _ => by subst el; subst eD; subst et; subst ee; exact g_X_set C q a x x1 x2 post (fun v c1 h => ⟨⟨v, c1, rfl, rfl, h⟩, rfl⟩) hw)
def wp_X_lawOf (x : XSt) (x1 : Int32) (post : Int32 → XSt → Prop) : Prop :=
  wp_X_isLaw x1 (fun v1 => ((v1 = 0) → (post (-1) x)) ∧ ((¬ v1 = 0) → (vp_in x1 4 ∧ (post ((C_laws (X_now x)) x1.toNatClampNeg) x))))
set_option maxRecDepth 20000 in
theorem g_X_lawOf {X : GX} (C : GC X b_X_lawOf R_X 2 (rmd 1)) {Qp : Option Value → va_W → Prop} (q : RC X ((some .int)) Qp 0 0) (a : Nat → Nat) (x : XSt) (x1 : Int32) (post : Int32 → XSt → Prop) (hq : ∀ v c1, post v c1 → Qp (some (.int v)) (woX (xt X) a c1)) (hw : wp_X_lawOf x x1 post) : G X 0 0 (woX (xt X) a x) [(0, .ref (a 0)), (1, .int x1)] [] 0 := by
  unfold wp_X_lawOf at hw
  refine g_iload_n (pc := 0) C d_X_lawOf_0 1 rfl rfl ?_
  refine k_I0 (pc := 1) (co_S C (c_X_isLaw (xl X) (xD X) (xt X) (xv X) x1 _ hw) mw_X_isLaw lk_X_83 d_X_lawOf_1 [] rfl (by decide)  rfl rfl ⟨Nat.le_of_ble_eq_true rfl, Nat.le_of_ble_eq_true rfl⟩ ⟨Nat.le_of_ble_eq_true rfl, Nat.le_of_ble_eq_true rfl⟩ (rest := []) rfl rfl (Nat.le_of_ble_eq_true rfl)) (fun v1 hw => ?_)
  refine g_if_eq (pc := 4) (tgt := 19) C d_X_lawOf_4 (by decide) (fun h3 => ?_) (fun h3 => ?_)
  · replace hw := hw.1 h3
    refine g_iconst (pc := 19) C (v := (-1)) d_X_lawOf_19 (by decide) ?_
    exact g_iret (pc := 20) C q d_X_lawOf_20 (hq _ _ hw)
  · replace hw := hw.2 h3
    refine g_aload_n (pc := 7) C d_X_lawOf_7 0 rfl rfl ?_
    refine fX_now (pc := 8) C lk_X_10 d_X_lawOf_8 ?_
    refine fX_now_laws (pc := 11) C lk_X_90 d_X_lawOf_11 ?_
    refine g_iload_n (pc := 14) C d_X_lawOf_14 1 rfl rfl ?_
    obtain ⟨h2, hw⟩ := hw
    refine lX_now_laws (pc := 15) C d_X_lawOf_15 (f := C_laws (X_now x)) rfl (N0 := x1.toNatClampNeg) rfl h2 ?_
    refine g_goto (pc := 16) (tgt := 20) C d_X_lawOf_16 (by decide) ?_
    exact g_iret (pc := 20) C q d_X_lawOf_20 (hq _ _ hw)
set_option maxRecDepth 20000 in
theorem c_X_lawOf (l : Launch) (D : va_G) (t : Nat → ClassId) (ev : Nat → Nat) (a : Nat → Nat) (x : XSt) (x1 : Int32) (post : Int32 → XSt → Prop) (hw : wp_X_lawOf x x1 post) : Con l D t ev y_X_lawOf b_X_lawOf 2 ((some .int)) 1 (woX t a x) [.ref (a 0), .int x1] (qI (woX t a)  post) :=
  ConR.of (by decide +kernel) (Nat.le_of_ble_eq_true rfl) (fun X el eD et ee C q _ => by subst el; subst eD; subst et; subst ee; exact g_X_lawOf C q a x x1 post (fun v c1 h => ⟨⟨v, c1, rfl, rfl, h⟩, rfl⟩) hw)
def wp_X_isKind (x0 : Int32) (post : Int32 → Prop) : Prop :=
  ((x0 < 0) → (post 0 )) ∧ ((¬ x0 < 0) → (((6 ≤ x0) → (post 0 )) ∧ ((¬ 6 ≤ x0) → (post 1 ))))
set_option maxRecDepth 20000 in
theorem g_X_isKind {X : GX} (C : GC X b_X_isKind R_X 1 (rmd 0)) {Qp : Option Value → va_W → Prop} (q : RC X ((some .boolean)) Qp 0 0) (x0 : Int32) (post : Int32 → Prop) (hq : ∀ v, post v → Qp (some (.int v)) []) (hw : wp_X_isKind x0 post) : G X 0 0 ([]) [(0, .int x0)] [] 0 := by
  unfold wp_X_isKind at hw
  refine g_iload_n (pc := 0) C d_X_isKind_0 0 rfl rfl ?_
  refine g_if_lt (pc := 1) (tgt := 14) C d_X_isKind_1 (by decide) (fun h2 => ?_) (fun h2 => ?_)
  · replace hw := hw.1 h2
    refine g_iconst (pc := 14) C (v := 0) d_X_isKind_14 (by decide) ?_
    exact g_zret (pc := 15) C q d_X_isKind_15 (by decide) (hq _ hw)
  · replace hw := hw.2 h2
    refine g_iload_n (pc := 4) C d_X_isKind_4 0 rfl rfl ?_
    refine g_bipush (pc := 5) C (v := 6) d_X_isKind_5 (by decide) ?_
    refine g_icmp_ge (pc := 7) (tgt := 14) C d_X_isKind_7 (by decide) (fun h1 => ?_) (fun h1 => ?_)
    · replace hw := hw.1 h1
      refine g_iconst (pc := 14) C (v := 0) d_X_isKind_14 (by decide) ?_
      exact g_zret (pc := 15) C q d_X_isKind_15 (by decide) (hq _ hw)
    · replace hw := hw.2 h1
      refine g_iconst (pc := 10) C (v := 1) d_X_isKind_10 (by decide) ?_
      refine g_goto (pc := 11) (tgt := 15) C d_X_isKind_11 (by decide) ?_
      exact g_zret (pc := 15) C q d_X_isKind_15 (by decide) (hq _ hw)
set_option maxRecDepth 20000 in
theorem c_X_isKind (l : Launch) (D : va_G) (t : Nat → ClassId) (ev : Nat → Nat) (x0 : Int32) (post : Int32 → Prop) (hw : wp_X_isKind x0 post) : Con l D t ev y_X_isKind b_X_isKind 1 ((some .boolean)) 0 ([]) [.int x0] (qI (fun _ : Unit => [])  (fun v _ => post v)) :=
  ConR.of (by decide +kernel) (Nat.le_of_ble_eq_true rfl) (fun X el eD et ee C q _ => by subst el; subst eD; subst et; subst ee; exact g_X_isKind C q x0 post (fun v h => ⟨⟨v, (), rfl, rfl, h⟩, rfl⟩) hw)
def wp_X_isLoad (x0 : Int32) (post : Int32 → Prop) : Prop :=
  ((x0 < 0) → (post 0 )) ∧ ((¬ x0 < 0) → (((99 < x0) → (post 0 )) ∧ ((¬ 99 < x0) → (post 1 ))))
set_option maxRecDepth 20000 in
theorem g_X_isLoad {X : GX} (C : GC X b_X_isLoad R_X 1 (rmd 0)) {Qp : Option Value → va_W → Prop} (q : RC X ((some .boolean)) Qp 0 0) (x0 : Int32) (post : Int32 → Prop) (hq : ∀ v, post v → Qp (some (.int v)) []) (hw : wp_X_isLoad x0 post) : G X 0 0 ([]) [(0, .int x0)] [] 0 := by
  unfold wp_X_isLoad at hw
  refine g_iload_n (pc := 0) C d_X_isLoad_0 0 rfl rfl ?_
  refine g_if_lt (pc := 1) (tgt := 14) C d_X_isLoad_1 (by decide) (fun h2 => ?_) (fun h2 => ?_)
  · replace hw := hw.1 h2
    refine g_iconst (pc := 14) C (v := 0) d_X_isLoad_14 (by decide) ?_
    exact g_zret (pc := 15) C q d_X_isLoad_15 (by decide) (hq _ hw)
  · replace hw := hw.2 h2
    refine g_iload_n (pc := 4) C d_X_isLoad_4 0 rfl rfl ?_
    refine g_bipush (pc := 5) C (v := 99) d_X_isLoad_5 (by decide) ?_
    refine g_icmp_gt (pc := 7) (tgt := 14) C d_X_isLoad_7 (by decide) (fun h1 => ?_) (fun h1 => ?_)
    · replace hw := hw.1 h1
      refine g_iconst (pc := 14) C (v := 0) d_X_isLoad_14 (by decide) ?_
      exact g_zret (pc := 15) C q d_X_isLoad_15 (by decide) (hq _ hw)
    · replace hw := hw.2 h1
      refine g_iconst (pc := 10) C (v := 1) d_X_isLoad_10 (by decide) ?_
      refine g_goto (pc := 11) (tgt := 15) C d_X_isLoad_11 (by decide) ?_
      exact g_zret (pc := 15) C q d_X_isLoad_15 (by decide) (hq _ hw)
set_option maxRecDepth 20000 in
theorem c_X_isLoad (l : Launch) (D : va_G) (t : Nat → ClassId) (ev : Nat → Nat) (x0 : Int32) (post : Int32 → Prop) (hw : wp_X_isLoad x0 post) : Con l D t ev y_X_isLoad b_X_isLoad 1 ((some .boolean)) 0 ([]) [.int x0] (qI (fun _ : Unit => [])  (fun v _ => post v)) :=
  ConR.of (by decide +kernel) (Nat.le_of_ble_eq_true rfl) (fun X el eD et ee C q _ => by subst el; subst eD; subst et; subst ee; exact g_X_isLoad C q x0 post (fun v h => ⟨⟨v, (), rfl, rfl, h⟩, rfl⟩) hw)
def wp_X_barge (x : XSt) (x1 : Int32) (x2 : Int32) (x3 : Int32) (x4 : Int32) (post : Int32 → XSt → Prop) : Prop :=
  wp_X_isKind x1 (fun v1 => ((v1 = 0) → (post (-1) x)) ∧ ((¬ v1 = 0) → (wp_X_isLoad x2 (fun v2 => ((v2 = 0) → (post (-1) x)) ∧ ((¬ v2 = 0) → (wp_X_isLock x3 (fun v3 => ((v3 = 0) → (post (-1) x)) ∧ ((¬ v3 = 0) → (wp_X_isLock x4 (fun v4 => ((v4 = 0) → (post (-1) x)) ∧ ((¬ v4 = 0) → ((((C_count (X_now x)) < 8) → (wp_C_add (X_now x) x1 x2 0 x3 x4 (fun c_5 => post ((C_count c_5) - 1) (X_now_ x c_5)))) ∧ ((¬ (C_count (X_now x)) < 8) → (post (-2) x))))))))))))))
set_option maxRecDepth 20000 in
theorem g_X_barge {X : GX} (C : GC X b_X_barge R_X 5 (rmd 1)) {Qp : Option Value → va_W → Prop} (q : RC X ((some .int)) Qp 0 0) (a : Nat → Nat) (x : XSt) (x1 : Int32) (x2 : Int32) (x3 : Int32) (x4 : Int32) (post : Int32 → XSt → Prop) (hq : ∀ v c1, post v c1 → Qp (some (.int v)) (woX (xt X) a c1)) (hw : wp_X_barge x x1 x2 x3 x4 post) : G X 0 0 (woX (xt X) a x) [(0, .ref (a 0)), (1, .int x1), (2, .int x2), (3, .int x3), (4, .int x4)] [] 0 := by
  unfold wp_X_barge at hw
  refine g_iload_n (pc := 0) C d_X_barge_0 1 rfl rfl ?_
  refine k_I0 (pc := 1) (co_S C (c_X_isKind (xl X) (xD X) (xt X) (xv X) x1 _ hw) mw_X_isKind lk_X_93 d_X_barge_1 [] rfl (by decide)  rfl rfl ⟨Nat.le_of_ble_eq_true rfl, Nat.le_of_ble_eq_true rfl⟩ ⟨Nat.le_of_ble_eq_true rfl, Nat.le_of_ble_eq_true rfl⟩ (rest := []) rfl rfl (Nat.le_of_ble_eq_true rfl)) (fun v1 hw => ?_)
  refine g_if_eq (pc := 4) (tgt := 29) C d_X_barge_4 (by decide) (fun h10 => ?_) (fun h10 => ?_)
  · replace hw := hw.1 h10
    refine g_iconst (pc := 29) C (v := (-1)) d_X_barge_29 (by decide) ?_
    exact g_iret (pc := 30) C q d_X_barge_30 (hq _ _ hw)
  · replace hw := hw.2 h10
    refine g_iload_n (pc := 7) C d_X_barge_7 2 rfl rfl ?_
    refine k_I0 (pc := 8) (co_S C (c_X_isLoad (xl X) (xD X) (xt X) (xv X) x2 _ hw) mw_X_isLoad lk_X_96 d_X_barge_8 [] rfl (by decide)  rfl rfl ⟨Nat.le_of_ble_eq_true rfl, Nat.le_of_ble_eq_true rfl⟩ ⟨Nat.le_of_ble_eq_true rfl, Nat.le_of_ble_eq_true rfl⟩ (rest := []) rfl rfl (Nat.le_of_ble_eq_true rfl)) (fun v2 hw => ?_)
    refine g_if_eq (pc := 11) (tgt := 29) C d_X_barge_11 (by decide) (fun h9 => ?_) (fun h9 => ?_)
    · replace hw := hw.1 h9
      refine g_iconst (pc := 29) C (v := (-1)) d_X_barge_29 (by decide) ?_
      exact g_iret (pc := 30) C q d_X_barge_30 (hq _ _ hw)
    · replace hw := hw.2 h9
      refine g_iload_n (pc := 14) C d_X_barge_14 3 rfl rfl ?_
      refine k_I0 (pc := 15) (co_S C (c_X_isLock (xl X) (xD X) (xt X) (xv X) x3 _ hw) mw_X_isLock lk_X_99 d_X_barge_15 [] rfl (by decide)  rfl rfl ⟨Nat.le_of_ble_eq_true rfl, Nat.le_of_ble_eq_true rfl⟩ ⟨Nat.le_of_ble_eq_true rfl, Nat.le_of_ble_eq_true rfl⟩ (rest := []) rfl rfl (Nat.le_of_ble_eq_true rfl)) (fun v3 hw => ?_)
      refine g_if_eq (pc := 18) (tgt := 29) C d_X_barge_18 (by decide) (fun h8 => ?_) (fun h8 => ?_)
      · replace hw := hw.1 h8
        refine g_iconst (pc := 29) C (v := (-1)) d_X_barge_29 (by decide) ?_
        exact g_iret (pc := 30) C q d_X_barge_30 (hq _ _ hw)
      · replace hw := hw.2 h8
        refine g_iload (pc := 21) C d_X_barge_21 4 rfl ?_
        refine k_I0 (pc := 23) (co_S C (c_X_isLock (xl X) (xD X) (xt X) (xv X) x4 _ hw) mw_X_isLock lk_X_99 d_X_barge_23 [] rfl (by decide)  rfl rfl ⟨Nat.le_of_ble_eq_true rfl, Nat.le_of_ble_eq_true rfl⟩ ⟨Nat.le_of_ble_eq_true rfl, Nat.le_of_ble_eq_true rfl⟩ (rest := []) rfl rfl (Nat.le_of_ble_eq_true rfl)) (fun v4 hw => ?_)
        refine g_if_ne (pc := 26) (tgt := 31) C d_X_barge_26 (by decide) (fun h7 => ?_) (fun h7 => ?_)
        · replace hw := hw.2 h7
          refine g_aload_n (pc := 31) C d_X_barge_31 0 rfl rfl ?_
          refine fX_now (pc := 32) C lk_X_10 d_X_barge_32 ?_
          refine fX_now_count (pc := 35) C lk_X_80 d_X_barge_35 (v := C_count (X_now x)) rfl ?_
          refine g_bipush (pc := 38) C (v := 8) d_X_barge_38 (by decide) ?_
          refine g_icmp_lt (pc := 40) (tgt := 46) C d_X_barge_40 (by decide) (fun h6 => ?_) (fun h6 => ?_)
          · replace hw := hw.1 h6
            refine g_aload_n (pc := 46) C d_X_barge_46 0 rfl rfl ?_
            refine fX_now (pc := 47) C lk_X_10 d_X_barge_47 ?_
            refine g_iload_n (pc := 50) C d_X_barge_50 1 rfl rfl ?_
            refine g_iload_n (pc := 51) C d_X_barge_51 2 rfl rfl ?_
            refine g_iconst (pc := 52) C (v := 0) d_X_barge_52 (by decide) ?_
            refine g_iload_n (pc := 53) C d_X_barge_53 3 rfl rfl ?_
            refine g_iload (pc := 54) C d_X_barge_54 4 rfl ?_
            refine k_V (pc := 56) (co_V C (c_C_add (xl X) (xD X) (xt X) (xv X) (fun i => a (1 + i)) (X_now x) x1 x2 0 x3 x4 _ hw) mw_C_add lk_X_102 d_X_barge_56 [1, 2, 3, 4, 5, 6, 7, 8, 9] (cC_X_now (xt X) a a x) (by decide) (rec_w C 1 1 rfl rfl) rfl rfl ⟨Nat.le_of_ble_eq_true rfl, Nat.le_of_ble_eq_true rfl⟩ ⟨Nat.le_of_ble_eq_true rfl, Nat.le_of_ble_eq_true rfl⟩ (rest := []) rfl rfl (Nat.le_of_ble_eq_true rfl)) (fun c_5 => woX (xt X) a (X_now_ x c_5)) (cS_X_now (xt X) a a x) (fun c_5 hw => ?_)
            refine g_aload_n (pc := 59) C d_X_barge_59 0 rfl rfl ?_
            refine fX_now (pc := 60) C lk_X_10 d_X_barge_60 ?_
            refine fX_now_count (pc := 63) C lk_X_80 d_X_barge_63 (v := C_count c_5) rfl ?_
            refine g_iconst (pc := 66) C (v := 1) d_X_barge_66 (by decide) ?_
            refine g_isub (pc := 67) C d_X_barge_67 ?_
            exact g_iret (pc := 68) C q d_X_barge_68 (hq _ _ hw)
          · replace hw := hw.2 h6
            refine g_bipush (pc := 43) C (v := (-2)) d_X_barge_43 (by decide) ?_
            exact g_iret (pc := 45) C q d_X_barge_45 (hq _ _ hw)
        · replace hw := hw.1 h7
          refine g_iconst (pc := 29) C (v := (-1)) d_X_barge_29 (by decide) ?_
          exact g_iret (pc := 30) C q d_X_barge_30 (hq _ _ hw)
set_option maxRecDepth 20000 in
theorem c_X_barge (l : Launch) (D : va_G) (t : Nat → ClassId) (ev : Nat → Nat) (a : Nat → Nat) (x : XSt) (x1 : Int32) (x2 : Int32) (x3 : Int32) (x4 : Int32) (post : Int32 → XSt → Prop) (hw : wp_X_barge x x1 x2 x3 x4 post) : Con l D t ev y_X_barge b_X_barge 5 ((some .int)) 1 (woX t a x) [.ref (a 0), .int x1, .int x2, .int x3, .int x4] (qI (woX t a)  post) :=
  ConR.of (by decide +kernel) (Nat.le_of_ble_eq_true rfl) (fun X el eD et ee C q _ => by subst el; subst eD; subst et; subst ee; exact g_X_barge C q a x x1 x2 x3 x4 post (fun v c1 h => ⟨⟨v, c1, rfl, rfl, h⟩, rfl⟩) hw)
def wp_X_isBarge (x : XSt) (x1 : Int32) (post : Int32 → XSt → Prop) : Prop :=
  ((x1 < 0) → (post 0 x)) ∧ ((¬ x1 < 0) → ((((C_count (X_now x)) ≤ x1) → (post 0 x)) ∧ ((¬ (C_count (X_now x)) ≤ x1) → (((8 ≤ x1) → (post 0 x)) ∧ ((¬ 8 ≤ x1) → (post 1 x))))))
set_option maxRecDepth 20000 in
theorem g_X_isBarge {X : GX} (C : GC X b_X_isBarge R_X 2 (rmd 0)) {Qp : Option Value → va_W → Prop} (q : RC X ((some .boolean)) Qp 0 0) (a : Nat → Nat) (x : XSt) (x1 : Int32) (post : Int32 → XSt → Prop) (hq : ∀ v c1, post v c1 → Qp (some (.int v)) (woX (xt X) a c1)) (hw : wp_X_isBarge x x1 post) : G X 0 0 (woX (xt X) a x) [(0, .ref (a 0)), (1, .int x1)] [] 0 := by
  unfold wp_X_isBarge at hw
  refine g_iload_n (pc := 0) C d_X_isBarge_0 1 rfl rfl ?_
  refine g_if_lt (pc := 1) (tgt := 25) C d_X_isBarge_1 (by decide) (fun h3 => ?_) (fun h3 => ?_)
  · replace hw := hw.1 h3
    refine g_iconst (pc := 25) C (v := 0) d_X_isBarge_25 (by decide) ?_
    exact g_zret (pc := 26) C q d_X_isBarge_26 (by decide) (hq _ _ hw)
  · replace hw := hw.2 h3
    refine g_iload_n (pc := 4) C d_X_isBarge_4 1 rfl rfl ?_
    refine g_aload_n (pc := 5) C d_X_isBarge_5 0 rfl rfl ?_
    refine fX_now (pc := 6) C lk_X_10 d_X_isBarge_6 ?_
    refine fX_now_count (pc := 9) C lk_X_80 d_X_isBarge_9 (v := C_count (X_now x)) rfl ?_
    refine g_icmp_ge (pc := 12) (tgt := 25) C d_X_isBarge_12 (by decide) (fun h2 => ?_) (fun h2 => ?_)
    · replace hw := hw.1 h2
      refine g_iconst (pc := 25) C (v := 0) d_X_isBarge_25 (by decide) ?_
      exact g_zret (pc := 26) C q d_X_isBarge_26 (by decide) (hq _ _ hw)
    · replace hw := hw.2 h2
      refine g_iload_n (pc := 15) C d_X_isBarge_15 1 rfl rfl ?_
      refine g_bipush (pc := 16) C (v := 8) d_X_isBarge_16 (by decide) ?_
      refine g_icmp_ge (pc := 18) (tgt := 25) C d_X_isBarge_18 (by decide) (fun h1 => ?_) (fun h1 => ?_)
      · replace hw := hw.1 h1
        refine g_iconst (pc := 25) C (v := 0) d_X_isBarge_25 (by decide) ?_
        exact g_zret (pc := 26) C q d_X_isBarge_26 (by decide) (hq _ _ hw)
      · replace hw := hw.2 h1
        refine g_iconst (pc := 21) C (v := 1) d_X_isBarge_21 (by decide) ?_
        refine g_goto (pc := 22) (tgt := 26) C d_X_isBarge_22 (by decide) ?_
        exact g_zret (pc := 26) C q d_X_isBarge_26 (by decide) (hq _ _ hw)
set_option maxRecDepth 20000 in
theorem c_X_isBarge (l : Launch) (D : va_G) (t : Nat → ClassId) (ev : Nat → Nat) (a : Nat → Nat) (x : XSt) (x1 : Int32) (post : Int32 → XSt → Prop) (hw : wp_X_isBarge x x1 post) : Con l D t ev y_X_isBarge b_X_isBarge 2 ((some .boolean)) 0 (woX t a x) [.ref (a 0), .int x1] (qI (woX t a)  post) :=
  ConR.of (by decide +kernel) (Nat.le_of_ble_eq_true rfl) (fun X el eD et ee C q _ => by subst el; subst eD; subst et; subst ee; exact g_X_isBarge C q a x x1 post (fun v c1 h => ⟨⟨v, c1, rfl, rfl, h⟩, rfl⟩) hw)
def wp_X_of (x : XSt) (x1 : Int32) (x2 : Int32) (post : Int32 → XSt → Prop) : Prop :=
  wp_X_isBarge x x1 (fun v1 x_2 => ((v1 = 0) → (post (-1) x_2)) ∧ ((¬ v1 = 0) → (((x2 = 0) → (vp_in x1 8 ∧ (post ((C_kind (X_now x_2)) x1.toNatClampNeg) x_2))) ∧ ((¬ x2 = 0) → (((x2 = 1) → (vp_in x1 8 ∧ (post ((C_load (X_now x_2)) x1.toNatClampNeg) x_2))) ∧ ((¬ x2 = 1) → (((x2 = 2) → (vp_in x1 8 ∧ (post ((C_sort (X_now x_2)) x1.toNatClampNeg) x_2))) ∧ ((¬ x2 = 2) → (((x2 = 3) → (vp_in x1 8 ∧ (post ((C_at (X_now x_2)) x1.toNatClampNeg) x_2))) ∧ ((¬ x2 = 3) → (((x2 = 4) → (vp_in x1 8 ∧ (post ((C_bound (X_now x_2)) x1.toNatClampNeg) x_2))) ∧ ((¬ x2 = 4) → (((x2 = 5) → (wp_C_hasLanded (X_now x_2) x1 (fun v8 c_9 => ((v8 = 0) → (post 0 (X_now_ x_2 c_9))) ∧ ((¬ v8 = 0) → (post 1 (X_now_ x_2 c_9)))))) ∧ ((¬ x2 = 5) → (post (-1) x_2)))))))))))))))
set_option maxRecDepth 20000 in
theorem g_X_of {X : GX} (C : GC X b_X_of R_X 3 (rmd 1)) {Qp : Option Value → va_W → Prop} (q : RC X ((some .int)) Qp 0 0) (a : Nat → Nat) (x : XSt) (x1 : Int32) (x2 : Int32) (post : Int32 → XSt → Prop) (hq : ∀ v c1, post v c1 → Qp (some (.int v)) (woX (xt X) a c1)) (hw : wp_X_of x x1 x2 post) : G X 0 0 (woX (xt X) a x) [(0, .ref (a 0)), (1, .int x1), (2, .int x2)] [] 0 := by
  unfold wp_X_of at hw
  refine g_aload_n (pc := 0) C d_X_of_0 0 rfl rfl ?_
  refine g_iload_n (pc := 1) C d_X_of_1 1 rfl rfl ?_
  refine k_Ia (pc := 2) (co_V C (c_X_isBarge (xl X) (xD X) (xt X) (xv X) a x x1 _ hw) mw_X_isBarge lk_X_106 d_X_of_2 (List.range _) (all_C _) (all_nd _) (rec_w C 0 5 rfl rfl) rfl rfl ⟨Nat.le_of_ble_eq_true rfl, Nat.le_of_ble_eq_true rfl⟩ ⟨Nat.le_of_ble_eq_true rfl, Nat.le_of_ble_eq_true rfl⟩ (rest := []) rfl rfl (Nat.le_of_ble_eq_true rfl)) (fun v1 x_2 hw => ?_)
  refine g_if_ne (pc := 5) (tgt := 10) C d_X_of_5 (by decide) (fun h17 => ?_) (fun h17 => ?_)
  · replace hw := hw.2 h17
    refine g_iload_n (pc := 10) C d_X_of_10 2 rfl rfl ?_
    by_cases h11 : x2 = 0
    · replace hw := hw.1 h11
      refine g_tabIn (pc := 11) (tgt := 48) C d_X_of_11 (by rw [h11]; decide) (by rw [h11]; decide) (off := 37) (by rw [h11]; rfl) (by decide) ?_
      refine g_aload_n (pc := 48) C d_X_of_48 0 rfl rfl ?_
      refine fX_now (pc := 49) C lk_X_10 d_X_of_49 ?_
      refine fX_now_kind (pc := 52) C lk_X_109 d_X_of_52 ?_
      refine g_iload_n (pc := 55) C d_X_of_55 1 rfl rfl ?_
      obtain ⟨h3, hw⟩ := hw
      refine lX_now_kind (pc := 56) C d_X_of_56 (f := C_kind (X_now x_2)) rfl (N0 := x1.toNatClampNeg) rfl h3 ?_
      exact g_iret (pc := 57) C q d_X_of_57 (hq _ _ hw)
    · replace hw := hw.2 h11
      by_cases h12 : x2 = 1
      · replace hw := hw.1 h12
        refine g_tabIn (pc := 11) (tgt := 58) C d_X_of_11 (by rw [h12]; decide) (by rw [h12]; decide) (off := 47) (by rw [h12]; rfl) (by decide) ?_
        refine g_aload_n (pc := 58) C d_X_of_58 0 rfl rfl ?_
        refine fX_now (pc := 59) C lk_X_10 d_X_of_59 ?_
        refine fX_now_load (pc := 62) C lk_X_112 d_X_of_62 ?_
        refine g_iload_n (pc := 65) C d_X_of_65 1 rfl rfl ?_
        obtain ⟨h4, hw⟩ := hw
        refine lX_now_load (pc := 66) C d_X_of_66 (f := C_load (X_now x_2)) rfl (N0 := x1.toNatClampNeg) rfl h4 ?_
        exact g_iret (pc := 67) C q d_X_of_67 (hq _ _ hw)
      · replace hw := hw.2 h12
        by_cases h13 : x2 = 2
        · replace hw := hw.1 h13
          refine g_tabIn (pc := 11) (tgt := 68) C d_X_of_11 (by rw [h13]; decide) (by rw [h13]; decide) (off := 57) (by rw [h13]; rfl) (by decide) ?_
          refine g_aload_n (pc := 68) C d_X_of_68 0 rfl rfl ?_
          refine fX_now (pc := 69) C lk_X_10 d_X_of_69 ?_
          refine fX_now_sort (pc := 72) C lk_X_115 d_X_of_72 ?_
          refine g_iload_n (pc := 75) C d_X_of_75 1 rfl rfl ?_
          obtain ⟨h5, hw⟩ := hw
          refine lX_now_sort (pc := 76) C d_X_of_76 (f := C_sort (X_now x_2)) rfl (N0 := x1.toNatClampNeg) rfl h5 ?_
          exact g_iret (pc := 77) C q d_X_of_77 (hq _ _ hw)
        · replace hw := hw.2 h13
          by_cases h14 : x2 = 3
          · replace hw := hw.1 h14
            refine g_tabIn (pc := 11) (tgt := 78) C d_X_of_11 (by rw [h14]; decide) (by rw [h14]; decide) (off := 67) (by rw [h14]; rfl) (by decide) ?_
            refine g_aload_n (pc := 78) C d_X_of_78 0 rfl rfl ?_
            refine fX_now (pc := 79) C lk_X_10 d_X_of_79 ?_
            refine fX_now_at (pc := 82) C lk_X_118 d_X_of_82 ?_
            refine g_iload_n (pc := 85) C d_X_of_85 1 rfl rfl ?_
            obtain ⟨h6, hw⟩ := hw
            refine lX_now_at (pc := 86) C d_X_of_86 (f := C_at (X_now x_2)) rfl (N0 := x1.toNatClampNeg) rfl h6 ?_
            exact g_iret (pc := 87) C q d_X_of_87 (hq _ _ hw)
          · replace hw := hw.2 h14
            by_cases h15 : x2 = 4
            · replace hw := hw.1 h15
              refine g_tabIn (pc := 11) (tgt := 88) C d_X_of_11 (by rw [h15]; decide) (by rw [h15]; decide) (off := 77) (by rw [h15]; rfl) (by decide) ?_
              refine g_aload_n (pc := 88) C d_X_of_88 0 rfl rfl ?_
              refine fX_now (pc := 89) C lk_X_10 d_X_of_89 ?_
              refine fX_now_bound (pc := 92) C lk_X_121 d_X_of_92 ?_
              refine g_iload_n (pc := 95) C d_X_of_95 1 rfl rfl ?_
              obtain ⟨h7, hw⟩ := hw
              refine lX_now_bound (pc := 96) C d_X_of_96 (f := C_bound (X_now x_2)) rfl (N0 := x1.toNatClampNeg) rfl h7 ?_
              exact g_iret (pc := 97) C q d_X_of_97 (hq _ _ hw)
            · replace hw := hw.2 h15
              by_cases h16 : x2 = 5
              · replace hw := hw.1 h16
                refine g_tabIn (pc := 11) (tgt := 98) C d_X_of_11 (by rw [h16]; decide) (by rw [h16]; decide) (off := 87) (by rw [h16]; rfl) (by decide) ?_
                refine g_aload_n (pc := 98) C d_X_of_98 0 rfl rfl ?_
                refine fX_now (pc := 99) C lk_X_10 d_X_of_99 ?_
                refine g_iload_n (pc := 102) C d_X_of_102 1 rfl rfl ?_
                refine k_I (pc := 103) (co_V C (c_C_hasLanded (xl X) (xD X) (xt X) (xv X) (fun i => a (1 + i)) (X_now x_2) x1 _ hw) mw_C_hasLanded lk_X_124 d_X_of_103 [1, 2, 3, 4, 5, 6, 7, 8, 9] (cC_X_now (xt X) a a x_2) (by decide) (rec_w C 1 1 rfl rfl) rfl rfl ⟨Nat.le_of_ble_eq_true rfl, Nat.le_of_ble_eq_true rfl⟩ ⟨Nat.le_of_ble_eq_true rfl, Nat.le_of_ble_eq_true rfl⟩ (rest := []) rfl rfl (Nat.le_of_ble_eq_true rfl)) (fun c_9 => woX (xt X) a (X_now_ x_2 c_9)) (cS_X_now (xt X) a a x_2) (fun v8 c_9 hw => ?_)
                refine g_if_eq (pc := 106) (tgt := 113) C d_X_of_106 (by decide) (fun h10 => ?_) (fun h10 => ?_)
                · replace hw := hw.1 h10
                  refine g_iconst (pc := 113) C (v := 0) d_X_of_113 (by decide) ?_
                  exact g_iret (pc := 114) C q d_X_of_114 (hq _ _ hw)
                · replace hw := hw.2 h10
                  refine g_iconst (pc := 109) C (v := 1) d_X_of_109 (by decide) ?_
                  refine g_goto (pc := 110) (tgt := 114) C d_X_of_110 (by decide) ?_
                  exact g_iret (pc := 114) C q d_X_of_114 (hq _ _ hw)
              · replace hw := hw.2 h16
                have h11_ := sw_ne (v := 0) h11 (by decide)
                have h12_ := sw_ne (v := 1) h12 (by decide)
                have h13_ := sw_ne (v := 2) h13 (by decide)
                have h14_ := sw_ne (v := 3) h14 (by decide)
                have h15_ := sw_ne (v := 4) h15 (by decide)
                have h16_ := sw_ne (v := 5) h16 (by decide)
                refine g_tabOut (pc := 11) (tgt := 115) C d_X_of_11 (by omega) (by decide) ?_
                refine g_iconst (pc := 115) C (v := (-1)) d_X_of_115 (by decide) ?_
                exact g_iret (pc := 116) C q d_X_of_116 (hq _ _ hw)
  · replace hw := hw.1 h17
    refine g_iconst (pc := 8) C (v := (-1)) d_X_of_8 (by decide) ?_
    exact g_iret (pc := 9) C q d_X_of_9 (hq _ _ hw)
set_option maxRecDepth 20000 in
theorem c_X_of (l : Launch) (D : va_G) (t : Nat → ClassId) (ev : Nat → Nat) (a : Nat → Nat) (x : XSt) (x1 : Int32) (x2 : Int32) (post : Int32 → XSt → Prop) (hw : wp_X_of x x1 x2 post) : Con l D t ev y_X_of b_X_of 3 ((some .int)) 1 (woX t a x) [.ref (a 0), .int x1, .int x2] (qI (woX t a)  post) :=
  ConR.of (by decide +kernel) (Nat.le_of_ble_eq_true rfl) (fun X el eD et ee C q _ => by subst el; subst eD; subst et; subst ee; exact g_X_of C q a x x1 x2 post (fun v c1 h => ⟨⟨v, c1, rfl, rfl, h⟩, rfl⟩) hw)
def wp_X_does (x : XSt) (x1 : Int32) (x2 : Int32) (post : Int32 → XSt → Prop) : Prop :=
  wp_X_isBarge x x1 (fun v1 x_2 => ((v1 = 0) → (post (-1) x_2)) ∧ ((¬ v1 = 0) → (((x2 < 0) → (post (-1) x_2)) ∧ ((¬ x2 < 0) → (((x2 ≤ 1) → (((x2 = 0) → (wp_C_paceOf (X_now x_2) x1 (fun v8 c_9 => post (1000 + v8) (X_now_ x_2 c_9)))) ∧ ((¬ x2 = 0) → (vp_in x1 8 ∧ (wp_C_noiseAt (X_now x_2) ((C_at (X_now x_2)) x1.toNatClampNeg) (fun v4 c_5 => wp_C_spillOf c_5 x1 v4 (fun v6 c_7 => post (1000 + v6) (X_now_ (X_now_ x_2 c_5) c_7)))))))) ∧ ((¬ x2 ≤ 1) → (post (-1) x_2)))))))
set_option maxRecDepth 20000 in
theorem g_X_does {X : GX} (C : GC X b_X_does R_X 3 (rmd 2)) {Qp : Option Value → va_W → Prop} (q : RC X ((some .int)) Qp 0 0) (a : Nat → Nat) (x : XSt) (x1 : Int32) (x2 : Int32) (post : Int32 → XSt → Prop) (hq : ∀ v c1, post v c1 → Qp (some (.int v)) (woX (xt X) a c1)) (hw : wp_X_does x x1 x2 post) : G X 0 0 (woX (xt X) a x) [(0, .ref (a 0)), (1, .int x1), (2, .int x2)] [] 0 := by
  unfold wp_X_does at hw
  refine g_aload_n (pc := 0) C d_X_does_0 0 rfl rfl ?_
  refine g_iload_n (pc := 1) C d_X_does_1 1 rfl rfl ?_
  refine k_Ia (pc := 2) (co_V C (c_X_isBarge (xl X) (xD X) (xt X) (xv X) a x x1 _ hw) mw_X_isBarge lk_X_106 d_X_does_2 (List.range _) (all_C _) (all_nd _) (rec_w C 0 5 rfl rfl) rfl rfl ⟨Nat.le_of_ble_eq_true rfl, Nat.le_of_ble_eq_true rfl⟩ ⟨Nat.le_of_ble_eq_true rfl, Nat.le_of_ble_eq_true rfl⟩ (rest := []) rfl rfl (Nat.le_of_ble_eq_true rfl)) (fun v1 x_2 hw => ?_)
  refine g_if_eq (pc := 5) (tgt := 17) C d_X_does_5 (by decide) (fun h13 => ?_) (fun h13 => ?_)
  · replace hw := hw.1 h13
    refine g_iconst (pc := 17) C (v := (-1)) d_X_does_17 (by decide) ?_
    exact g_iret (pc := 18) C q d_X_does_18 (hq _ _ hw)
  · replace hw := hw.2 h13
    refine g_iload_n (pc := 8) C d_X_does_8 2 rfl rfl ?_
    refine g_if_lt (pc := 9) (tgt := 17) C d_X_does_9 (by decide) (fun h12 => ?_) (fun h12 => ?_)
    · replace hw := hw.1 h12
      refine g_iconst (pc := 17) C (v := (-1)) d_X_does_17 (by decide) ?_
      exact g_iret (pc := 18) C q d_X_does_18 (hq _ _ hw)
    · replace hw := hw.2 h12
      refine g_iload_n (pc := 12) C d_X_does_12 2 rfl rfl ?_
      refine g_iconst (pc := 13) C (v := 1) d_X_does_13 (by decide) ?_
      refine g_icmp_le (pc := 14) (tgt := 19) C d_X_does_14 (by decide) (fun h11 => ?_) (fun h11 => ?_)
      · replace hw := hw.1 h11
        refine g_iload_n (pc := 19) C d_X_does_19 2 rfl rfl ?_
        refine g_if_ne (pc := 20) (tgt := 36) C d_X_does_20 (by decide) (fun h10 => ?_) (fun h10 => ?_)
        · replace hw := hw.2 h10
          refine g_sipush (pc := 36) C (v := 1000) d_X_does_36 (by decide) ?_
          refine g_aload_n (pc := 39) C d_X_does_39 0 rfl rfl ?_
          refine fX_now (pc := 40) C lk_X_10 d_X_does_40 ?_
          refine g_iload_n (pc := 43) C d_X_does_43 1 rfl rfl ?_
          refine g_aload_n (pc := 44) C d_X_does_44 0 rfl rfl ?_
          refine fX_now (pc := 45) C lk_X_10 d_X_does_45 ?_
          refine g_aload_n (pc := 48) C d_X_does_48 0 rfl rfl ?_
          refine fX_now (pc := 49) C lk_X_10 d_X_does_49 ?_
          refine fX_now_at (pc := 52) C lk_X_118 d_X_does_52 ?_
          refine g_iload_n (pc := 55) C d_X_does_55 1 rfl rfl ?_
          obtain ⟨h3, hw⟩ := hw
          refine lX_now_at (pc := 56) C d_X_does_56 (f := C_at (X_now x_2)) rfl (N0 := x1.toNatClampNeg) rfl h3 ?_
          refine k_I (pc := 57) (co_V C (c_C_noiseAt (xl X) (xD X) (xt X) (xv X) (fun i => a (1 + i)) (X_now x_2) ((C_at (X_now x_2)) x1.toNatClampNeg) _ hw) mw_C_noiseAt lk_X_131 d_X_does_57 [1, 2, 3, 4, 5, 6, 7, 8, 9] (cC_X_now (xt X) a a x_2) (by decide) (rec_w C 1 1 rfl rfl) rfl rfl ⟨Nat.le_of_ble_eq_true rfl, Nat.le_of_ble_eq_true rfl⟩ ⟨Nat.le_of_ble_eq_true rfl, Nat.le_of_ble_eq_true rfl⟩ (rest := [.int x1, .ref (a 1), .int 1000]) rfl rfl (Nat.le_of_ble_eq_true rfl)) (fun c_5 => woX (xt X) a (X_now_ x_2 c_5)) (cS_X_now (xt X) a a x_2) (fun v4 c_5 hw => ?_)
          refine k_I (pc := 60) (co_V C (c_C_spillOf (xl X) (xD X) (xt X) (xv X) (fun i => a (1 + i)) c_5 x1 v4 _ hw) mw_C_spillOf lk_X_134 d_X_does_60 [1, 2, 3, 4, 5, 6, 7, 8, 9] (cC_X_now (xt X) a a (X_now_ x_2 c_5)) (by decide) (rec_w C 1 1 rfl rfl) rfl rfl ⟨Nat.le_of_ble_eq_true rfl, Nat.le_of_ble_eq_true rfl⟩ ⟨Nat.le_of_ble_eq_true rfl, Nat.le_of_ble_eq_true rfl⟩ (rest := [.int 1000]) rfl rfl (Nat.le_of_ble_eq_true rfl)) (fun c_7 => woX (xt X) a (X_now_ (X_now_ x_2 c_5) c_7)) (cS_X_now (xt X) a a (X_now_ x_2 c_5)) (fun v6 c_7 hw => ?_)
          refine g_iadd (pc := 63) C d_X_does_63 ?_
          exact g_iret (pc := 64) C q d_X_does_64 (hq _ _ hw)
        · replace hw := hw.1 h10
          refine g_sipush (pc := 23) C (v := 1000) d_X_does_23 (by decide) ?_
          refine g_aload_n (pc := 26) C d_X_does_26 0 rfl rfl ?_
          refine fX_now (pc := 27) C lk_X_10 d_X_does_27 ?_
          refine g_iload_n (pc := 30) C d_X_does_30 1 rfl rfl ?_
          refine k_I (pc := 31) (co_V C (c_C_paceOf (xl X) (xD X) (xt X) (xv X) (fun i => a (1 + i)) (X_now x_2) x1 _ hw) mw_C_paceOf lk_X_127 d_X_does_31 [1, 2, 3, 4, 5, 6, 7, 8, 9] (cC_X_now (xt X) a a x_2) (by decide) (rec_w C 1 1 rfl rfl) rfl rfl ⟨Nat.le_of_ble_eq_true rfl, Nat.le_of_ble_eq_true rfl⟩ ⟨Nat.le_of_ble_eq_true rfl, Nat.le_of_ble_eq_true rfl⟩ (rest := [.int 1000]) rfl rfl (Nat.le_of_ble_eq_true rfl)) (fun c_9 => woX (xt X) a (X_now_ x_2 c_9)) (cS_X_now (xt X) a a x_2) (fun v8 c_9 hw => ?_)
          refine g_iadd (pc := 34) C d_X_does_34 ?_
          exact g_iret (pc := 35) C q d_X_does_35 (hq _ _ hw)
      · replace hw := hw.2 h11
        refine g_iconst (pc := 17) C (v := (-1)) d_X_does_17 (by decide) ?_
        exact g_iret (pc := 18) C q d_X_does_18 (hq _ _ hw)
set_option maxRecDepth 20000 in
theorem c_X_does (l : Launch) (D : va_G) (t : Nat → ClassId) (ev : Nat → Nat) (a : Nat → Nat) (x : XSt) (x1 : Int32) (x2 : Int32) (post : Int32 → XSt → Prop) (hw : wp_X_does x x1 x2 post) : Con l D t ev y_X_does b_X_does 3 ((some .int)) 2 (woX t a x) [.ref (a 0), .int x1, .int x2] (qI (woX t a)  post) :=
  ConR.of (by decide +kernel) (Nat.le_of_ble_eq_true rfl) (fun X el eD et ee C q _ => by subst el; subst eD; subst et; subst ee; exact g_X_does C q a x x1 x2 post (fun v c1 h => ⟨⟨v, c1, rfl, rfl, h⟩, rfl⟩) hw)
def wp_X_mind (x : XSt) (x1 : Int32) (x2 : Int32) (x3 : Int32) (post : Int32 → XSt → Prop) : Prop :=
  wp_X_isBarge x x1 (fun v1 x_2 => ((v1 = 0) → (post (-1) x_2)) ∧ ((¬ v1 = 0) → (wp_X_isKind x2 (fun v3 => ((v3 = 0) → (post (-1) x_2)) ∧ ((¬ v3 = 0) → (((x3 < 0) → (post (-1) x_2)) ∧ ((¬ x3 < 0) → (((x3 ≤ 1) → (vp_in x1 8 ∧ (vp_in x1 8 ∧ (vp_in x1 8 ∧ (post ((C_kind (X_now x_2)) x1.toNatClampNeg) (X_now_ (X_now_ x_2 (C_kind_ (X_now x_2) (upd (C_kind (X_now x_2)) x1.toNatClampNeg x2))) (C_sort_ (C_kind_ (X_now x_2) (upd (C_kind (X_now x_2)) x1.toNatClampNeg x2)) (upd (C_sort (X_now x_2)) x1.toNatClampNeg x3)))))))) ∧ ((¬ x3 ≤ 1) → (post (-1) x_2))))))))))
set_option maxRecDepth 20000 in
theorem g_X_mind {X : GX} (C : GC X b_X_mind R_X 5 (rmd 1)) {Qp : Option Value → va_W → Prop} (q : RC X ((some .int)) Qp 0 0) (a : Nat → Nat) (x : XSt) (x1 : Int32) (x2 : Int32) (x3 : Int32) (post : Int32 → XSt → Prop) (hq : ∀ v c1, post v c1 → Qp (some (.int v)) (woX (xt X) a c1)) (hw : wp_X_mind x x1 x2 x3 post) : G X 0 0 (woX (xt X) a x) [(0, .ref (a 0)), (1, .int x1), (2, .int x2), (3, .int x3)] [] 0 := by
  unfold wp_X_mind at hw
  refine g_aload_n (pc := 0) C d_X_mind_0 0 rfl rfl ?_
  refine g_iload_n (pc := 1) C d_X_mind_1 1 rfl rfl ?_
  refine k_Ia (pc := 2) (co_V C (c_X_isBarge (xl X) (xD X) (xt X) (xv X) a x x1 _ hw) mw_X_isBarge lk_X_106 d_X_mind_2 (List.range _) (all_C _) (all_nd _) (rec_w C 0 5 rfl rfl) rfl rfl ⟨Nat.le_of_ble_eq_true rfl, Nat.le_of_ble_eq_true rfl⟩ ⟨Nat.le_of_ble_eq_true rfl, Nat.le_of_ble_eq_true rfl⟩ (rest := []) rfl rfl (Nat.le_of_ble_eq_true rfl)) (fun v1 x_2 hw => ?_)
  refine g_if_eq (pc := 5) (tgt := 24) C d_X_mind_5 (by decide) (fun h10 => ?_) (fun h10 => ?_)
  · replace hw := hw.1 h10
    refine g_iconst (pc := 24) C (v := (-1)) d_X_mind_24 (by decide) ?_
    exact g_iret (pc := 25) C q d_X_mind_25 (hq _ _ hw)
  · replace hw := hw.2 h10
    refine g_iload_n (pc := 8) C d_X_mind_8 2 rfl rfl ?_
    refine k_I0 (pc := 9) (co_S C (c_X_isKind (xl X) (xD X) (xt X) (xv X) x2 _ hw) mw_X_isKind lk_X_93 d_X_mind_9 [] rfl (by decide)  rfl rfl ⟨Nat.le_of_ble_eq_true rfl, Nat.le_of_ble_eq_true rfl⟩ ⟨Nat.le_of_ble_eq_true rfl, Nat.le_of_ble_eq_true rfl⟩ (rest := []) rfl rfl (Nat.le_of_ble_eq_true rfl)) (fun v3 hw => ?_)
    refine g_if_eq (pc := 12) (tgt := 24) C d_X_mind_12 (by decide) (fun h9 => ?_) (fun h9 => ?_)
    · replace hw := hw.1 h9
      refine g_iconst (pc := 24) C (v := (-1)) d_X_mind_24 (by decide) ?_
      exact g_iret (pc := 25) C q d_X_mind_25 (hq _ _ hw)
    · replace hw := hw.2 h9
      refine g_iload_n (pc := 15) C d_X_mind_15 3 rfl rfl ?_
      refine g_if_lt (pc := 16) (tgt := 24) C d_X_mind_16 (by decide) (fun h8 => ?_) (fun h8 => ?_)
      · replace hw := hw.1 h8
        refine g_iconst (pc := 24) C (v := (-1)) d_X_mind_24 (by decide) ?_
        exact g_iret (pc := 25) C q d_X_mind_25 (hq _ _ hw)
      · replace hw := hw.2 h8
        refine g_iload_n (pc := 19) C d_X_mind_19 3 rfl rfl ?_
        refine g_iconst (pc := 20) C (v := 1) d_X_mind_20 (by decide) ?_
        refine g_icmp_le (pc := 21) (tgt := 26) C d_X_mind_21 (by decide) (fun h7 => ?_) (fun h7 => ?_)
        · replace hw := hw.1 h7
          refine g_aload_n (pc := 26) C d_X_mind_26 0 rfl rfl ?_
          refine fX_now (pc := 27) C lk_X_10 d_X_mind_27 ?_
          refine fX_now_kind (pc := 30) C lk_X_109 d_X_mind_30 ?_
          refine g_iload_n (pc := 33) C d_X_mind_33 1 rfl rfl ?_
          obtain ⟨h4, hw⟩ := hw
          refine lX_now_kind (pc := 34) C d_X_mind_34 (f := C_kind (X_now x_2)) rfl (N0 := x1.toNatClampNeg) rfl h4 ?_
          refine g_istore (pc := 35) C d_X_mind_35 (Nat.le_of_ble_eq_true rfl) (lv' := [(0, .ref (a 0)), (1, .int x1), (2, .int x2), (3, .int x3), (4, .int ((C_kind (X_now x_2)) x1.toNatClampNeg))]) rfl ?_
          refine g_aload_n (pc := 37) C d_X_mind_37 0 rfl rfl ?_
          refine fX_now (pc := 38) C lk_X_10 d_X_mind_38 ?_
          refine fX_now_kind (pc := 41) C lk_X_109 d_X_mind_41 ?_
          refine g_iload_n (pc := 44) C d_X_mind_44 1 rfl rfl ?_
          refine g_iload_n (pc := 45) C d_X_mind_45 2 rfl rfl ?_
          obtain ⟨h5, hw⟩ := hw
          refine sX_now_kind (pc := 46) C (c := X_now x_2) rfl d_X_mind_46 (f := C_kind (X_now x_2)) rfl (N0 := x1.toNatClampNeg) rfl h5 ?_
          refine g_aload_n (pc := 47) C d_X_mind_47 0 rfl rfl ?_
          refine fX_now (pc := 48) C lk_X_10 d_X_mind_48 ?_
          refine fX_now_sort (pc := 51) C lk_X_115 d_X_mind_51 ?_
          refine g_iload_n (pc := 54) C d_X_mind_54 1 rfl rfl ?_
          refine g_iload_n (pc := 55) C d_X_mind_55 3 rfl rfl ?_
          obtain ⟨h6, hw⟩ := hw
          refine sX_now_sort (pc := 56) C (c := C_kind_ (X_now x_2) (upd (C_kind (X_now x_2)) x1.toNatClampNeg x2)) rfl d_X_mind_56 (f := C_sort (X_now x_2)) rfl (N0 := x1.toNatClampNeg) rfl h6 ?_
          refine g_iload (pc := 57) C d_X_mind_57 4 rfl ?_
          exact g_iret (pc := 59) C q d_X_mind_59 (hq _ _ hw)
        · replace hw := hw.2 h7
          refine g_iconst (pc := 24) C (v := (-1)) d_X_mind_24 (by decide) ?_
          exact g_iret (pc := 25) C q d_X_mind_25 (hq _ _ hw)
set_option maxRecDepth 20000 in
theorem c_X_mind (l : Launch) (D : va_G) (t : Nat → ClassId) (ev : Nat → Nat) (a : Nat → Nat) (x : XSt) (x1 : Int32) (x2 : Int32) (x3 : Int32) (post : Int32 → XSt → Prop) (hw : wp_X_mind x x1 x2 x3 post) : Con l D t ev y_X_mind b_X_mind 5 ((some .int)) 1 (woX t a x) [.ref (a 0), .int x1, .int x2, .int x3] (qI (woX t a)  post) :=
  ConR.of (by decide +kernel) (Nat.le_of_ble_eq_true rfl) (fun X el eD et ee C q _ => by subst el; subst eD; subst et; subst ee; exact g_X_mind C q a x x1 x2 x3 post (fun v c1 h => ⟨⟨v, c1, rfl, rfl, h⟩, rfl⟩) hw)
def wp_X_fill (x : XSt) (x1 : Int32) (x2 : Int32) (post : Int32 → XSt → Prop) : Prop :=
  wp_X_isBarge x x1 (fun v1 x_2 => ((v1 = 0) → (post (-1) x_2)) ∧ ((¬ v1 = 0) → (wp_X_isLoad x2 (fun v3 => ((v3 = 0) → (post (-1) x_2)) ∧ ((¬ v3 = 0) → (vp_in x1 8 ∧ (vp_in x1 8 ∧ (post ((C_load (X_now x_2)) x1.toNatClampNeg) (X_now_ x_2 (C_load_ (X_now x_2) (upd (C_load (X_now x_2)) x1.toNatClampNeg x2)))))))))))
set_option maxRecDepth 20000 in
theorem g_X_fill {X : GX} (C : GC X b_X_fill R_X 4 (rmd 1)) {Qp : Option Value → va_W → Prop} (q : RC X ((some .int)) Qp 0 0) (a : Nat → Nat) (x : XSt) (x1 : Int32) (x2 : Int32) (post : Int32 → XSt → Prop) (hq : ∀ v c1, post v c1 → Qp (some (.int v)) (woX (xt X) a c1)) (hw : wp_X_fill x x1 x2 post) : G X 0 0 (woX (xt X) a x) [(0, .ref (a 0)), (1, .int x1), (2, .int x2)] [] 0 := by
  unfold wp_X_fill at hw
  refine g_aload_n (pc := 0) C d_X_fill_0 0 rfl rfl ?_
  refine g_iload_n (pc := 1) C d_X_fill_1 1 rfl rfl ?_
  refine k_Ia (pc := 2) (co_V C (c_X_isBarge (xl X) (xD X) (xt X) (xv X) a x x1 _ hw) mw_X_isBarge lk_X_106 d_X_fill_2 (List.range _) (all_C _) (all_nd _) (rec_w C 0 5 rfl rfl) rfl rfl ⟨Nat.le_of_ble_eq_true rfl, Nat.le_of_ble_eq_true rfl⟩ ⟨Nat.le_of_ble_eq_true rfl, Nat.le_of_ble_eq_true rfl⟩ (rest := []) rfl rfl (Nat.le_of_ble_eq_true rfl)) (fun v1 x_2 hw => ?_)
  refine g_if_eq (pc := 5) (tgt := 15) C d_X_fill_5 (by decide) (fun h7 => ?_) (fun h7 => ?_)
  · replace hw := hw.1 h7
    refine g_iconst (pc := 15) C (v := (-1)) d_X_fill_15 (by decide) ?_
    exact g_iret (pc := 16) C q d_X_fill_16 (hq _ _ hw)
  · replace hw := hw.2 h7
    refine g_iload_n (pc := 8) C d_X_fill_8 2 rfl rfl ?_
    refine k_I0 (pc := 9) (co_S C (c_X_isLoad (xl X) (xD X) (xt X) (xv X) x2 _ hw) mw_X_isLoad lk_X_96 d_X_fill_9 [] rfl (by decide)  rfl rfl ⟨Nat.le_of_ble_eq_true rfl, Nat.le_of_ble_eq_true rfl⟩ ⟨Nat.le_of_ble_eq_true rfl, Nat.le_of_ble_eq_true rfl⟩ (rest := []) rfl rfl (Nat.le_of_ble_eq_true rfl)) (fun v3 hw => ?_)
    refine g_if_ne (pc := 12) (tgt := 17) C d_X_fill_12 (by decide) (fun h6 => ?_) (fun h6 => ?_)
    · replace hw := hw.2 h6
      refine g_aload_n (pc := 17) C d_X_fill_17 0 rfl rfl ?_
      refine fX_now (pc := 18) C lk_X_10 d_X_fill_18 ?_
      refine fX_now_load (pc := 21) C lk_X_112 d_X_fill_21 ?_
      refine g_iload_n (pc := 24) C d_X_fill_24 1 rfl rfl ?_
      obtain ⟨h4, hw⟩ := hw
      refine lX_now_load (pc := 25) C d_X_fill_25 (f := C_load (X_now x_2)) rfl (N0 := x1.toNatClampNeg) rfl h4 ?_
      refine g_istore_n (pc := 26) C d_X_fill_26 rfl (Nat.le_of_ble_eq_true rfl) (lv' := [(0, .ref (a 0)), (1, .int x1), (2, .int x2), (3, .int ((C_load (X_now x_2)) x1.toNatClampNeg))]) rfl ?_
      refine g_aload_n (pc := 27) C d_X_fill_27 0 rfl rfl ?_
      refine fX_now (pc := 28) C lk_X_10 d_X_fill_28 ?_
      refine fX_now_load (pc := 31) C lk_X_112 d_X_fill_31 ?_
      refine g_iload_n (pc := 34) C d_X_fill_34 1 rfl rfl ?_
      refine g_iload_n (pc := 35) C d_X_fill_35 2 rfl rfl ?_
      obtain ⟨h5, hw⟩ := hw
      refine sX_now_load (pc := 36) C (c := X_now x_2) rfl d_X_fill_36 (f := C_load (X_now x_2)) rfl (N0 := x1.toNatClampNeg) rfl h5 ?_
      refine g_iload_n (pc := 37) C d_X_fill_37 3 rfl rfl ?_
      exact g_iret (pc := 38) C q d_X_fill_38 (hq _ _ hw)
    · replace hw := hw.1 h6
      refine g_iconst (pc := 15) C (v := (-1)) d_X_fill_15 (by decide) ?_
      exact g_iret (pc := 16) C q d_X_fill_16 (hq _ _ hw)
set_option maxRecDepth 20000 in
theorem c_X_fill (l : Launch) (D : va_G) (t : Nat → ClassId) (ev : Nat → Nat) (a : Nat → Nat) (x : XSt) (x1 : Int32) (x2 : Int32) (post : Int32 → XSt → Prop) (hw : wp_X_fill x x1 x2 post) : Con l D t ev y_X_fill b_X_fill 4 ((some .int)) 1 (woX t a x) [.ref (a 0), .int x1, .int x2] (qI (woX t a)  post) :=
  ConR.of (by decide +kernel) (Nat.le_of_ble_eq_true rfl) (fun X el eD et ee C q _ => by subst el; subst eD; subst et; subst ee; exact g_X_fill C q a x x1 x2 post (fun v c1 h => ⟨⟨v, c1, rfl, rfl, h⟩, rfl⟩) hw)
def wp_X_bring (x : XSt) (x1 : Int32) (x2 : Int32) (post : Int32 → XSt → Prop) : Prop :=
  wp_X_isBarge x x1 (fun v1 x_2 => ((v1 = 0) → (post (-1) x_2)) ∧ ((¬ v1 = 0) → (wp_X_isLock x2 (fun v3 => ((v3 = 0) → (post (-1) x_2)) ∧ ((¬ v3 = 0) → (vp_in x1 8 ∧ (vp_in x1 8 ∧ (post ((C_at (X_now x_2)) x1.toNatClampNeg) (X_now_ x_2 (C_at_ (X_now x_2) (upd (C_at (X_now x_2)) x1.toNatClampNeg x2)))))))))))
set_option maxRecDepth 20000 in
theorem g_X_bring {X : GX} (C : GC X b_X_bring R_X 4 (rmd 1)) {Qp : Option Value → va_W → Prop} (q : RC X ((some .int)) Qp 0 0) (a : Nat → Nat) (x : XSt) (x1 : Int32) (x2 : Int32) (post : Int32 → XSt → Prop) (hq : ∀ v c1, post v c1 → Qp (some (.int v)) (woX (xt X) a c1)) (hw : wp_X_bring x x1 x2 post) : G X 0 0 (woX (xt X) a x) [(0, .ref (a 0)), (1, .int x1), (2, .int x2)] [] 0 := by
  unfold wp_X_bring at hw
  refine g_aload_n (pc := 0) C d_X_bring_0 0 rfl rfl ?_
  refine g_iload_n (pc := 1) C d_X_bring_1 1 rfl rfl ?_
  refine k_Ia (pc := 2) (co_V C (c_X_isBarge (xl X) (xD X) (xt X) (xv X) a x x1 _ hw) mw_X_isBarge lk_X_106 d_X_bring_2 (List.range _) (all_C _) (all_nd _) (rec_w C 0 5 rfl rfl) rfl rfl ⟨Nat.le_of_ble_eq_true rfl, Nat.le_of_ble_eq_true rfl⟩ ⟨Nat.le_of_ble_eq_true rfl, Nat.le_of_ble_eq_true rfl⟩ (rest := []) rfl rfl (Nat.le_of_ble_eq_true rfl)) (fun v1 x_2 hw => ?_)
  refine g_if_eq (pc := 5) (tgt := 15) C d_X_bring_5 (by decide) (fun h7 => ?_) (fun h7 => ?_)
  · replace hw := hw.1 h7
    refine g_iconst (pc := 15) C (v := (-1)) d_X_bring_15 (by decide) ?_
    exact g_iret (pc := 16) C q d_X_bring_16 (hq _ _ hw)
  · replace hw := hw.2 h7
    refine g_iload_n (pc := 8) C d_X_bring_8 2 rfl rfl ?_
    refine k_I0 (pc := 9) (co_S C (c_X_isLock (xl X) (xD X) (xt X) (xv X) x2 _ hw) mw_X_isLock lk_X_99 d_X_bring_9 [] rfl (by decide)  rfl rfl ⟨Nat.le_of_ble_eq_true rfl, Nat.le_of_ble_eq_true rfl⟩ ⟨Nat.le_of_ble_eq_true rfl, Nat.le_of_ble_eq_true rfl⟩ (rest := []) rfl rfl (Nat.le_of_ble_eq_true rfl)) (fun v3 hw => ?_)
    refine g_if_ne (pc := 12) (tgt := 17) C d_X_bring_12 (by decide) (fun h6 => ?_) (fun h6 => ?_)
    · replace hw := hw.2 h6
      refine g_aload_n (pc := 17) C d_X_bring_17 0 rfl rfl ?_
      refine fX_now (pc := 18) C lk_X_10 d_X_bring_18 ?_
      refine fX_now_at (pc := 21) C lk_X_118 d_X_bring_21 ?_
      refine g_iload_n (pc := 24) C d_X_bring_24 1 rfl rfl ?_
      obtain ⟨h4, hw⟩ := hw
      refine lX_now_at (pc := 25) C d_X_bring_25 (f := C_at (X_now x_2)) rfl (N0 := x1.toNatClampNeg) rfl h4 ?_
      refine g_istore_n (pc := 26) C d_X_bring_26 rfl (Nat.le_of_ble_eq_true rfl) (lv' := [(0, .ref (a 0)), (1, .int x1), (2, .int x2), (3, .int ((C_at (X_now x_2)) x1.toNatClampNeg))]) rfl ?_
      refine g_aload_n (pc := 27) C d_X_bring_27 0 rfl rfl ?_
      refine fX_now (pc := 28) C lk_X_10 d_X_bring_28 ?_
      refine fX_now_at (pc := 31) C lk_X_118 d_X_bring_31 ?_
      refine g_iload_n (pc := 34) C d_X_bring_34 1 rfl rfl ?_
      refine g_iload_n (pc := 35) C d_X_bring_35 2 rfl rfl ?_
      obtain ⟨h5, hw⟩ := hw
      refine sX_now_at (pc := 36) C (c := X_now x_2) rfl d_X_bring_36 (f := C_at (X_now x_2)) rfl (N0 := x1.toNatClampNeg) rfl h5 ?_
      refine g_iload_n (pc := 37) C d_X_bring_37 3 rfl rfl ?_
      exact g_iret (pc := 38) C q d_X_bring_38 (hq _ _ hw)
    · replace hw := hw.1 h6
      refine g_iconst (pc := 15) C (v := (-1)) d_X_bring_15 (by decide) ?_
      exact g_iret (pc := 16) C q d_X_bring_16 (hq _ _ hw)
set_option maxRecDepth 20000 in
theorem c_X_bring (l : Launch) (D : va_G) (t : Nat → ClassId) (ev : Nat → Nat) (a : Nat → Nat) (x : XSt) (x1 : Int32) (x2 : Int32) (post : Int32 → XSt → Prop) (hw : wp_X_bring x x1 x2 post) : Con l D t ev y_X_bring b_X_bring 4 ((some .int)) 1 (woX t a x) [.ref (a 0), .int x1, .int x2] (qI (woX t a)  post) :=
  ConR.of (by decide +kernel) (Nat.le_of_ble_eq_true rfl) (fun X el eD et ee C q _ => by subst el; subst eD; subst et; subst ee; exact g_X_bring C q a x x1 x2 post (fun v c1 h => ⟨⟨v, c1, rfl, rfl, h⟩, rfl⟩) hw)
def wp_X_send (x : XSt) (x1 : Int32) (x2 : Int32) (post : Int32 → XSt → Prop) : Prop :=
  wp_X_isBarge x x1 (fun v1 x_2 => ((v1 = 0) → (post (-1) x_2)) ∧ ((¬ v1 = 0) → (wp_X_isLock x2 (fun v3 => ((v3 = 0) → (post (-1) x_2)) ∧ ((¬ v3 = 0) → (vp_in x1 8 ∧ (vp_in x1 8 ∧ (post ((C_bound (X_now x_2)) x1.toNatClampNeg) (X_now_ x_2 (C_bound_ (X_now x_2) (upd (C_bound (X_now x_2)) x1.toNatClampNeg x2)))))))))))
set_option maxRecDepth 20000 in
theorem g_X_send {X : GX} (C : GC X b_X_send R_X 4 (rmd 1)) {Qp : Option Value → va_W → Prop} (q : RC X ((some .int)) Qp 0 0) (a : Nat → Nat) (x : XSt) (x1 : Int32) (x2 : Int32) (post : Int32 → XSt → Prop) (hq : ∀ v c1, post v c1 → Qp (some (.int v)) (woX (xt X) a c1)) (hw : wp_X_send x x1 x2 post) : G X 0 0 (woX (xt X) a x) [(0, .ref (a 0)), (1, .int x1), (2, .int x2)] [] 0 := by
  unfold wp_X_send at hw
  refine g_aload_n (pc := 0) C d_X_send_0 0 rfl rfl ?_
  refine g_iload_n (pc := 1) C d_X_send_1 1 rfl rfl ?_
  refine k_Ia (pc := 2) (co_V C (c_X_isBarge (xl X) (xD X) (xt X) (xv X) a x x1 _ hw) mw_X_isBarge lk_X_106 d_X_send_2 (List.range _) (all_C _) (all_nd _) (rec_w C 0 5 rfl rfl) rfl rfl ⟨Nat.le_of_ble_eq_true rfl, Nat.le_of_ble_eq_true rfl⟩ ⟨Nat.le_of_ble_eq_true rfl, Nat.le_of_ble_eq_true rfl⟩ (rest := []) rfl rfl (Nat.le_of_ble_eq_true rfl)) (fun v1 x_2 hw => ?_)
  refine g_if_eq (pc := 5) (tgt := 15) C d_X_send_5 (by decide) (fun h7 => ?_) (fun h7 => ?_)
  · replace hw := hw.1 h7
    refine g_iconst (pc := 15) C (v := (-1)) d_X_send_15 (by decide) ?_
    exact g_iret (pc := 16) C q d_X_send_16 (hq _ _ hw)
  · replace hw := hw.2 h7
    refine g_iload_n (pc := 8) C d_X_send_8 2 rfl rfl ?_
    refine k_I0 (pc := 9) (co_S C (c_X_isLock (xl X) (xD X) (xt X) (xv X) x2 _ hw) mw_X_isLock lk_X_99 d_X_send_9 [] rfl (by decide)  rfl rfl ⟨Nat.le_of_ble_eq_true rfl, Nat.le_of_ble_eq_true rfl⟩ ⟨Nat.le_of_ble_eq_true rfl, Nat.le_of_ble_eq_true rfl⟩ (rest := []) rfl rfl (Nat.le_of_ble_eq_true rfl)) (fun v3 hw => ?_)
    refine g_if_ne (pc := 12) (tgt := 17) C d_X_send_12 (by decide) (fun h6 => ?_) (fun h6 => ?_)
    · replace hw := hw.2 h6
      refine g_aload_n (pc := 17) C d_X_send_17 0 rfl rfl ?_
      refine fX_now (pc := 18) C lk_X_10 d_X_send_18 ?_
      refine fX_now_bound (pc := 21) C lk_X_121 d_X_send_21 ?_
      refine g_iload_n (pc := 24) C d_X_send_24 1 rfl rfl ?_
      obtain ⟨h4, hw⟩ := hw
      refine lX_now_bound (pc := 25) C d_X_send_25 (f := C_bound (X_now x_2)) rfl (N0 := x1.toNatClampNeg) rfl h4 ?_
      refine g_istore_n (pc := 26) C d_X_send_26 rfl (Nat.le_of_ble_eq_true rfl) (lv' := [(0, .ref (a 0)), (1, .int x1), (2, .int x2), (3, .int ((C_bound (X_now x_2)) x1.toNatClampNeg))]) rfl ?_
      refine g_aload_n (pc := 27) C d_X_send_27 0 rfl rfl ?_
      refine fX_now (pc := 28) C lk_X_10 d_X_send_28 ?_
      refine fX_now_bound (pc := 31) C lk_X_121 d_X_send_31 ?_
      refine g_iload_n (pc := 34) C d_X_send_34 1 rfl rfl ?_
      refine g_iload_n (pc := 35) C d_X_send_35 2 rfl rfl ?_
      obtain ⟨h5, hw⟩ := hw
      refine sX_now_bound (pc := 36) C (c := X_now x_2) rfl d_X_send_36 (f := C_bound (X_now x_2)) rfl (N0 := x1.toNatClampNeg) rfl h5 ?_
      refine g_iload_n (pc := 37) C d_X_send_37 3 rfl rfl ?_
      exact g_iret (pc := 38) C q d_X_send_38 (hq _ _ hw)
    · replace hw := hw.1 h6
      refine g_iconst (pc := 15) C (v := (-1)) d_X_send_15 (by decide) ?_
      exact g_iret (pc := 16) C q d_X_send_16 (hq _ _ hw)
set_option maxRecDepth 20000 in
theorem c_X_send (l : Launch) (D : va_G) (t : Nat → ClassId) (ev : Nat → Nat) (a : Nat → Nat) (x : XSt) (x1 : Int32) (x2 : Int32) (post : Int32 → XSt → Prop) (hw : wp_X_send x x1 x2 post) : Con l D t ev y_X_send b_X_send 4 ((some .int)) 1 (woX t a x) [.ref (a 0), .int x1, .int x2] (qI (woX t a)  post) :=
  ConR.of (by decide +kernel) (Nat.le_of_ble_eq_true rfl) (fun X el eD et ee C q _ => by subst el; subst eD; subst et; subst ee; exact g_X_send C q a x x1 x2 post (fun v c1 h => ⟨⟨v, c1, rfl, rfl, h⟩, rfl⟩) hw)
def wp_X_noise (x : XSt) (x1 : Int32) (x2 : Int32) (post : Int32 → XSt → Prop) : Prop :=
  wp_X_isLock x1 (fun v1 => ((v1 = 0) → (post (-1) x)) ∧ ((¬ v1 = 0) → (((x2 < 0) → (post (-1) x)) ∧ ((¬ x2 < 0) → (((x2 ≤ 9) → (vp_in x1 10 ∧ (vp_in x1 10 ∧ (post ((C_noise (X_now x)) x1.toNatClampNeg) (X_now_ x (C_noise_ (X_now x) (upd (C_noise (X_now x)) x1.toNatClampNeg x2))))))) ∧ ((¬ x2 ≤ 9) → (post (-1) x)))))))
set_option maxRecDepth 20000 in
theorem g_X_noise {X : GX} (C : GC X b_X_noise R_X 4 (rmd 1)) {Qp : Option Value → va_W → Prop} (q : RC X ((some .int)) Qp 0 0) (a : Nat → Nat) (x : XSt) (x1 : Int32) (x2 : Int32) (post : Int32 → XSt → Prop) (hq : ∀ v c1, post v c1 → Qp (some (.int v)) (woX (xt X) a c1)) (hw : wp_X_noise x x1 x2 post) : G X 0 0 (woX (xt X) a x) [(0, .ref (a 0)), (1, .int x1), (2, .int x2)] [] 0 := by
  unfold wp_X_noise at hw
  refine g_iload_n (pc := 0) C d_X_noise_0 1 rfl rfl ?_
  refine k_I0 (pc := 1) (co_S C (c_X_isLock (xl X) (xD X) (xt X) (xv X) x1 _ hw) mw_X_isLock lk_X_99 d_X_noise_1 [] rfl (by decide)  rfl rfl ⟨Nat.le_of_ble_eq_true rfl, Nat.le_of_ble_eq_true rfl⟩ ⟨Nat.le_of_ble_eq_true rfl, Nat.le_of_ble_eq_true rfl⟩ (rest := []) rfl rfl (Nat.le_of_ble_eq_true rfl)) (fun v1 hw => ?_)
  refine g_if_eq (pc := 4) (tgt := 17) C d_X_noise_4 (by decide) (fun h6 => ?_) (fun h6 => ?_)
  · replace hw := hw.1 h6
    refine g_iconst (pc := 17) C (v := (-1)) d_X_noise_17 (by decide) ?_
    exact g_iret (pc := 18) C q d_X_noise_18 (hq _ _ hw)
  · replace hw := hw.2 h6
    refine g_iload_n (pc := 7) C d_X_noise_7 2 rfl rfl ?_
    refine g_if_lt (pc := 8) (tgt := 17) C d_X_noise_8 (by decide) (fun h5 => ?_) (fun h5 => ?_)
    · replace hw := hw.1 h5
      refine g_iconst (pc := 17) C (v := (-1)) d_X_noise_17 (by decide) ?_
      exact g_iret (pc := 18) C q d_X_noise_18 (hq _ _ hw)
    · replace hw := hw.2 h5
      refine g_iload_n (pc := 11) C d_X_noise_11 2 rfl rfl ?_
      refine g_bipush (pc := 12) C (v := 9) d_X_noise_12 (by decide) ?_
      refine g_icmp_le (pc := 14) (tgt := 19) C d_X_noise_14 (by decide) (fun h4 => ?_) (fun h4 => ?_)
      · replace hw := hw.1 h4
        refine g_aload_n (pc := 19) C d_X_noise_19 0 rfl rfl ?_
        refine fX_now (pc := 20) C lk_X_10 d_X_noise_20 ?_
        refine fX_now_noise (pc := 23) C lk_X_138 d_X_noise_23 ?_
        refine g_iload_n (pc := 26) C d_X_noise_26 1 rfl rfl ?_
        obtain ⟨h2, hw⟩ := hw
        refine lX_now_noise (pc := 27) C d_X_noise_27 (f := C_noise (X_now x)) rfl (N0 := x1.toNatClampNeg) rfl h2 ?_
        refine g_istore_n (pc := 28) C d_X_noise_28 rfl (Nat.le_of_ble_eq_true rfl) (lv' := [(0, .ref (a 0)), (1, .int x1), (2, .int x2), (3, .int ((C_noise (X_now x)) x1.toNatClampNeg))]) rfl ?_
        refine g_aload_n (pc := 29) C d_X_noise_29 0 rfl rfl ?_
        refine fX_now (pc := 30) C lk_X_10 d_X_noise_30 ?_
        refine fX_now_noise (pc := 33) C lk_X_138 d_X_noise_33 ?_
        refine g_iload_n (pc := 36) C d_X_noise_36 1 rfl rfl ?_
        refine g_iload_n (pc := 37) C d_X_noise_37 2 rfl rfl ?_
        obtain ⟨h3, hw⟩ := hw
        refine sX_now_noise (pc := 38) C (c := X_now x) rfl d_X_noise_38 (f := C_noise (X_now x)) rfl (N0 := x1.toNatClampNeg) rfl h3 ?_
        refine g_iload_n (pc := 39) C d_X_noise_39 3 rfl rfl ?_
        exact g_iret (pc := 40) C q d_X_noise_40 (hq _ _ hw)
      · replace hw := hw.2 h4
        refine g_iconst (pc := 17) C (v := (-1)) d_X_noise_17 (by decide) ?_
        exact g_iret (pc := 18) C q d_X_noise_18 (hq _ _ hw)
set_option maxRecDepth 20000 in
theorem c_X_noise (l : Launch) (D : va_G) (t : Nat → ClassId) (ev : Nat → Nat) (a : Nat → Nat) (x : XSt) (x1 : Int32) (x2 : Int32) (post : Int32 → XSt → Prop) (hw : wp_X_noise x x1 x2 post) : Con l D t ev y_X_noise b_X_noise 4 ((some .int)) 1 (woX t a x) [.ref (a 0), .int x1, .int x2] (qI (woX t a)  post) :=
  ConR.of (by decide +kernel) (Nat.le_of_ble_eq_true rfl) (fun X el eD et ee C q _ => by subst el; subst eD; subst et; subst ee; exact g_X_noise C q a x x1 x2 post (fun v c1 h => ⟨⟨v, c1, rfl, rfl, h⟩, rfl⟩) hw)
def wp_X_lock (x : XSt) (x1 : Int32) (x2 : Int32) (post : Int32 → XSt → Prop) : Prop :=
  wp_X_isLock x1 (fun v1 => ((v1 = 0) → (post (-1) x)) ∧ ((¬ v1 = 0) → (((x2 = 0) → (vp_in x1 10 ∧ (post ((C_noise (X_now x)) x1.toNatClampNeg) x))) ∧ ((¬ x2 = 0) → (((x2 = 1) → (vp_in x1 10 ∧ (post ((C_lost (X_now x)) x1.toNatClampNeg) x))) ∧ ((¬ x2 = 1) → (((x2 = 2) → (wp_C_bargesAt (X_now x) x1 (fun v4 c_5 => post v4 (X_now_ x c_5)))) ∧ ((¬ x2 = 2) → (post (-1) x)))))))))
set_option maxRecDepth 20000 in
theorem g_X_lock {X : GX} (C : GC X b_X_lock R_X 3 (rmd 1)) {Qp : Option Value → va_W → Prop} (q : RC X ((some .int)) Qp 0 0) (a : Nat → Nat) (x : XSt) (x1 : Int32) (x2 : Int32) (post : Int32 → XSt → Prop) (hq : ∀ v c1, post v c1 → Qp (some (.int v)) (woX (xt X) a c1)) (hw : wp_X_lock x x1 x2 post) : G X 0 0 (woX (xt X) a x) [(0, .ref (a 0)), (1, .int x1), (2, .int x2)] [] 0 := by
  unfold wp_X_lock at hw
  refine g_iload_n (pc := 0) C d_X_lock_0 1 rfl rfl ?_
  refine k_I0 (pc := 1) (co_S C (c_X_isLock (xl X) (xD X) (xt X) (xv X) x1 _ hw) mw_X_isLock lk_X_99 d_X_lock_1 [] rfl (by decide)  rfl rfl ⟨Nat.le_of_ble_eq_true rfl, Nat.le_of_ble_eq_true rfl⟩ ⟨Nat.le_of_ble_eq_true rfl, Nat.le_of_ble_eq_true rfl⟩ (rest := []) rfl rfl (Nat.le_of_ble_eq_true rfl)) (fun v1 hw => ?_)
  refine g_if_ne (pc := 4) (tgt := 9) C d_X_lock_4 (by decide) (fun h9 => ?_) (fun h9 => ?_)
  · replace hw := hw.2 h9
    refine g_iload_n (pc := 9) C d_X_lock_9 2 rfl rfl ?_
    by_cases h6 : x2 = 0
    · replace hw := hw.1 h6
      refine g_tabIn (pc := 10) (tgt := 36) C d_X_lock_10 (by rw [h6]; decide) (by rw [h6]; decide) (off := 26) (by rw [h6]; rfl) (by decide) ?_
      refine g_aload_n (pc := 36) C d_X_lock_36 0 rfl rfl ?_
      refine fX_now (pc := 37) C lk_X_10 d_X_lock_37 ?_
      refine fX_now_noise (pc := 40) C lk_X_138 d_X_lock_40 ?_
      refine g_iload_n (pc := 43) C d_X_lock_43 1 rfl rfl ?_
      obtain ⟨h2, hw⟩ := hw
      refine lX_now_noise (pc := 44) C d_X_lock_44 (f := C_noise (X_now x)) rfl (N0 := x1.toNatClampNeg) rfl h2 ?_
      exact g_iret (pc := 45) C q d_X_lock_45 (hq _ _ hw)
    · replace hw := hw.2 h6
      by_cases h7 : x2 = 1
      · replace hw := hw.1 h7
        refine g_tabIn (pc := 10) (tgt := 46) C d_X_lock_10 (by rw [h7]; decide) (by rw [h7]; decide) (off := 36) (by rw [h7]; rfl) (by decide) ?_
        refine g_aload_n (pc := 46) C d_X_lock_46 0 rfl rfl ?_
        refine fX_now (pc := 47) C lk_X_10 d_X_lock_47 ?_
        refine fX_now_lost (pc := 50) C lk_X_141 d_X_lock_50 ?_
        refine g_iload_n (pc := 53) C d_X_lock_53 1 rfl rfl ?_
        obtain ⟨h3, hw⟩ := hw
        refine lX_now_lost (pc := 54) C d_X_lock_54 (f := C_lost (X_now x)) rfl (N0 := x1.toNatClampNeg) rfl h3 ?_
        exact g_iret (pc := 55) C q d_X_lock_55 (hq _ _ hw)
      · replace hw := hw.2 h7
        by_cases h8 : x2 = 2
        · replace hw := hw.1 h8
          refine g_tabIn (pc := 10) (tgt := 56) C d_X_lock_10 (by rw [h8]; decide) (by rw [h8]; decide) (off := 46) (by rw [h8]; rfl) (by decide) ?_
          refine g_aload_n (pc := 56) C d_X_lock_56 0 rfl rfl ?_
          refine fX_now (pc := 57) C lk_X_10 d_X_lock_57 ?_
          refine g_iload_n (pc := 60) C d_X_lock_60 1 rfl rfl ?_
          refine k_I (pc := 61) (co_V C (c_C_bargesAt (xl X) (xD X) (xt X) (xv X) (fun i => a (1 + i)) (X_now x) x1 _ hw) mw_C_bargesAt lk_X_144 d_X_lock_61 [1, 2, 3, 4, 5, 6, 7, 8, 9] (cC_X_now (xt X) a a x) (by decide) (rec_w C 1 1 rfl rfl) rfl rfl ⟨Nat.le_of_ble_eq_true rfl, Nat.le_of_ble_eq_true rfl⟩ ⟨Nat.le_of_ble_eq_true rfl, Nat.le_of_ble_eq_true rfl⟩ (rest := []) rfl rfl (Nat.le_of_ble_eq_true rfl)) (fun c_5 => woX (xt X) a (X_now_ x c_5)) (cS_X_now (xt X) a a x) (fun v4 c_5 hw => ?_)
          exact g_iret (pc := 64) C q d_X_lock_64 (hq _ _ hw)
        · replace hw := hw.2 h8
          have h6_ := sw_ne (v := 0) h6 (by decide)
          have h7_ := sw_ne (v := 1) h7 (by decide)
          have h8_ := sw_ne (v := 2) h8 (by decide)
          refine g_tabOut (pc := 10) (tgt := 65) C d_X_lock_10 (by omega) (by decide) ?_
          refine g_iconst (pc := 65) C (v := (-1)) d_X_lock_65 (by decide) ?_
          exact g_iret (pc := 66) C q d_X_lock_66 (hq _ _ hw)
  · replace hw := hw.1 h9
    refine g_iconst (pc := 7) C (v := (-1)) d_X_lock_7 (by decide) ?_
    exact g_iret (pc := 8) C q d_X_lock_8 (hq _ _ hw)
set_option maxRecDepth 20000 in
theorem c_X_lock (l : Launch) (D : va_G) (t : Nat → ClassId) (ev : Nat → Nat) (a : Nat → Nat) (x : XSt) (x1 : Int32) (x2 : Int32) (post : Int32 → XSt → Prop) (hw : wp_X_lock x x1 x2 post) : Con l D t ev y_X_lock b_X_lock 3 ((some .int)) 1 (woX t a x) [.ref (a 0), .int x1, .int x2] (qI (woX t a)  post) :=
  ConR.of (by decide +kernel) (Nat.le_of_ble_eq_true rfl) (fun X el eD et ee C q _ => by subst el; subst eD; subst et; subst ee; exact g_X_lock C q a x x1 x2 post (fun v c1 h => ⟨⟨v, c1, rfl, rfl, h⟩, rfl⟩) hw)
def wp_X_hours (x : XSt) (x1 : Int32) (post : Int32 → XSt → Prop) : Prop :=
  ((x1 < 1) → (post (-1) x)) ∧ ((¬ x1 < 1) → (((x1 ≤ 60) → (wp_C_passHours (X_now x) x1 (fun c_1 => wp_C_allLoads c_1 (fun v2 c_3 => post v2 (X_now_ (X_now_ x c_1) c_3))))) ∧ ((¬ x1 ≤ 60) → (post (-1) x))))
set_option maxRecDepth 20000 in
theorem g_X_hours {X : GX} (C : GC X b_X_hours R_X 2 (rmd 5)) {Qp : Option Value → va_W → Prop} (q : RC X ((some .int)) Qp 0 0) (a : Nat → Nat) (x : XSt) (x1 : Int32) (post : Int32 → XSt → Prop) (hq : ∀ v c1, post v c1 → Qp (some (.int v)) (woX (xt X) a c1)) (hw : wp_X_hours x x1 post) : G X 0 0 (woX (xt X) a x) [(0, .ref (a 0)), (1, .int x1)] [] 0 := by
  unfold wp_X_hours at hw
  refine g_iload_n (pc := 0) C d_X_hours_0 1 rfl rfl ?_
  refine g_iconst (pc := 1) C (v := 1) d_X_hours_1 (by decide) ?_
  refine g_icmp_lt (pc := 2) (tgt := 11) C d_X_hours_2 (by decide) (fun h5 => ?_) (fun h5 => ?_)
  · replace hw := hw.1 h5
    refine g_iconst (pc := 11) C (v := (-1)) d_X_hours_11 (by decide) ?_
    exact g_iret (pc := 12) C q d_X_hours_12 (hq _ _ hw)
  · replace hw := hw.2 h5
    refine g_iload_n (pc := 5) C d_X_hours_5 1 rfl rfl ?_
    refine g_bipush (pc := 6) C (v := 60) d_X_hours_6 (by decide) ?_
    refine g_icmp_le (pc := 8) (tgt := 13) C d_X_hours_8 (by decide) (fun h4 => ?_) (fun h4 => ?_)
    · replace hw := hw.1 h4
      refine g_aload_n (pc := 13) C d_X_hours_13 0 rfl rfl ?_
      refine fX_now (pc := 14) C lk_X_10 d_X_hours_14 ?_
      refine g_iload_n (pc := 17) C d_X_hours_17 1 rfl rfl ?_
      refine k_V (pc := 18) (co_V C (c_C_passHours (xl X) (xD X) (xt X) (xv X) (fun i => a (1 + i)) (X_now x) x1 _ hw) mw_C_passHours lk_X_147 d_X_hours_18 [1, 2, 3, 4, 5, 6, 7, 8, 9] (cC_X_now (xt X) a a x) (by decide) (rec_w C 1 1 rfl rfl) rfl rfl ⟨Nat.le_of_ble_eq_true rfl, Nat.le_of_ble_eq_true rfl⟩ ⟨Nat.le_of_ble_eq_true rfl, Nat.le_of_ble_eq_true rfl⟩ (rest := []) rfl rfl (Nat.le_of_ble_eq_true rfl)) (fun c_1 => woX (xt X) a (X_now_ x c_1)) (cS_X_now (xt X) a a x) (fun c_1 hw => ?_)
      refine g_aload_n (pc := 21) C d_X_hours_21 0 rfl rfl ?_
      refine fX_now (pc := 22) C lk_X_10 d_X_hours_22 ?_
      refine k_I (pc := 25) (co_V C (c_C_allLoads (xl X) (xD X) (xt X) (xv X) (fun i => a (1 + i)) c_1 _ hw) mw_C_allLoads lk_X_151 d_X_hours_25 [1, 2, 3, 4, 5, 6, 7, 8, 9] (cC_X_now (xt X) a a (X_now_ x c_1)) (by decide) (rec_w C 1 1 rfl rfl) rfl rfl ⟨Nat.le_of_ble_eq_true rfl, Nat.le_of_ble_eq_true rfl⟩ ⟨Nat.le_of_ble_eq_true rfl, Nat.le_of_ble_eq_true rfl⟩ (rest := []) rfl rfl (Nat.le_of_ble_eq_true rfl)) (fun c_3 => woX (xt X) a (X_now_ (X_now_ x c_1) c_3)) (cS_X_now (xt X) a a (X_now_ x c_1)) (fun v2 c_3 hw => ?_)
      exact g_iret (pc := 28) C q d_X_hours_28 (hq _ _ hw)
    · replace hw := hw.2 h4
      refine g_iconst (pc := 11) C (v := (-1)) d_X_hours_11 (by decide) ?_
      exact g_iret (pc := 12) C q d_X_hours_12 (hq _ _ hw)
set_option maxRecDepth 20000 in
theorem c_X_hours (l : Launch) (D : va_G) (t : Nat → ClassId) (ev : Nat → Nat) (a : Nat → Nat) (x : XSt) (x1 : Int32) (post : Int32 → XSt → Prop) (hw : wp_X_hours x x1 post) : Con l D t ev y_X_hours b_X_hours 2 ((some .int)) 5 (woX t a x) [.ref (a 0), .int x1] (qI (woX t a)  post) :=
  ConR.of (by decide +kernel) (Nat.le_of_ble_eq_true rfl) (fun X el eD et ee C q _ => by subst el; subst eD; subst et; subst ee; exact g_X_hours C q a x x1 post (fun v c1 h => ⟨⟨v, c1, rfl, rfl, h⟩, rfl⟩) hw)
def wp_X_seed (x : XSt) (x1 : Int32) (post : Int32 → XSt → Prop) : Prop :=
  post (C_z (X_now x)) (X_now_ x (C_z_ (X_now x) x1))
set_option maxRecDepth 20000 in
theorem g_X_seed {X : GX} (C : GC X b_X_seed R_X 3 (rmd 0)) {Qp : Option Value → va_W → Prop} (q : RC X ((some .int)) Qp 0 0) (a : Nat → Nat) (x : XSt) (x1 : Int32) (post : Int32 → XSt → Prop) (hq : ∀ v c1, post v c1 → Qp (some (.int v)) (woX (xt X) a c1)) (hw : wp_X_seed x x1 post) : G X 0 0 (woX (xt X) a x) [(0, .ref (a 0)), (1, .int x1)] [] 0 := by
  unfold wp_X_seed at hw
  refine g_aload_n (pc := 0) C d_X_seed_0 0 rfl rfl ?_
  refine fX_now (pc := 1) C lk_X_10 d_X_seed_1 ?_
  refine fX_now_z (pc := 4) C lk_X_155 d_X_seed_4 (v := C_z (X_now x)) rfl ?_
  refine g_istore_n (pc := 7) C d_X_seed_7 rfl (Nat.le_of_ble_eq_true rfl) (lv' := [(0, .ref (a 0)), (1, .int x1), (2, .int (C_z (X_now x)))]) rfl ?_
  refine g_aload_n (pc := 8) C d_X_seed_8 0 rfl rfl ?_
  refine fX_now (pc := 9) C lk_X_10 d_X_seed_9 ?_
  refine g_iload_n (pc := 12) C d_X_seed_12 1 rfl rfl ?_
  refine pX_now_z (pc := 13) C (c := X_now x) rfl lk_X_155 d_X_seed_13   ?_
  refine g_iload_n (pc := 16) C d_X_seed_16 2 rfl rfl ?_
  exact g_iret (pc := 17) C q d_X_seed_17 (hq _ _ hw)
set_option maxRecDepth 20000 in
theorem c_X_seed (l : Launch) (D : va_G) (t : Nat → ClassId) (ev : Nat → Nat) (a : Nat → Nat) (x : XSt) (x1 : Int32) (post : Int32 → XSt → Prop) (hw : wp_X_seed x x1 post) : Con l D t ev y_X_seed b_X_seed 3 ((some .int)) 0 (woX t a x) [.ref (a 0), .int x1] (qI (woX t a)  post) :=
  ConR.of (by decide +kernel) (Nat.le_of_ble_eq_true rfl) (fun X el eD et ee C q _ => by subst el; subst eD; subst et; subst ee; exact g_X_seed C q a x x1 post (fun v c1 h => ⟨⟨v, c1, rfl, rfl, h⟩, rfl⟩) hw)
def wp_X_hour (x : XSt) (post : Int32 → XSt → Prop) : Prop :=
  wp_C_passHourByDraws (X_now x) (fun c_1 => wp_C_allLoads c_1 (fun v2 c_3 => post v2 (X_now_ (X_now_ x c_1) c_3)))
set_option maxRecDepth 20000 in
theorem g_X_hour {X : GX} (C : GC X b_X_hour R_X 1 (rmd 5)) {Qp : Option Value → va_W → Prop} (q : RC X ((some .int)) Qp 0 0) (a : Nat → Nat) (x : XSt) (post : Int32 → XSt → Prop) (hq : ∀ v c1, post v c1 → Qp (some (.int v)) (woX (xt X) a c1)) (hw : wp_X_hour x post) : G X 0 0 (woX (xt X) a x) [(0, .ref (a 0))] [] 0 := by
  unfold wp_X_hour at hw
  refine g_aload_n (pc := 0) C d_X_hour_0 0 rfl rfl ?_
  refine fX_now (pc := 1) C lk_X_10 d_X_hour_1 ?_
  refine k_V (pc := 4) (co_V C (c_C_passHourByDraws (xl X) (xD X) (xt X) (xv X) (fun i => a (1 + i)) (X_now x) _ hw) mw_C_passHourByDraws lk_X_158 d_X_hour_4 [1, 2, 3, 4, 5, 6, 7, 8, 9] (cC_X_now (xt X) a a x) (by decide) (rec_w C 1 1 rfl rfl) rfl rfl ⟨Nat.le_of_ble_eq_true rfl, Nat.le_of_ble_eq_true rfl⟩ ⟨Nat.le_of_ble_eq_true rfl, Nat.le_of_ble_eq_true rfl⟩ (rest := []) rfl rfl (Nat.le_of_ble_eq_true rfl)) (fun c_1 => woX (xt X) a (X_now_ x c_1)) (cS_X_now (xt X) a a x) (fun c_1 hw => ?_)
  refine g_aload_n (pc := 7) C d_X_hour_7 0 rfl rfl ?_
  refine fX_now (pc := 8) C lk_X_10 d_X_hour_8 ?_
  refine k_I (pc := 11) (co_V C (c_C_allLoads (xl X) (xD X) (xt X) (xv X) (fun i => a (1 + i)) c_1 _ hw) mw_C_allLoads lk_X_151 d_X_hour_11 [1, 2, 3, 4, 5, 6, 7, 8, 9] (cC_X_now (xt X) a a (X_now_ x c_1)) (by decide) (rec_w C 1 1 rfl rfl) rfl rfl ⟨Nat.le_of_ble_eq_true rfl, Nat.le_of_ble_eq_true rfl⟩ ⟨Nat.le_of_ble_eq_true rfl, Nat.le_of_ble_eq_true rfl⟩ (rest := []) rfl rfl (Nat.le_of_ble_eq_true rfl)) (fun c_3 => woX (xt X) a (X_now_ (X_now_ x c_1) c_3)) (cS_X_now (xt X) a a (X_now_ x c_1)) (fun v2 c_3 hw => ?_)
  exact g_iret (pc := 14) C q d_X_hour_14 (hq _ _ hw)
set_option maxRecDepth 20000 in
theorem c_X_hour (l : Launch) (D : va_G) (t : Nat → ClassId) (ev : Nat → Nat) (a : Nat → Nat) (x : XSt) (post : Int32 → XSt → Prop) (hw : wp_X_hour x post) : Con l D t ev y_X_hour b_X_hour 1 ((some .int)) 5 (woX t a x) [.ref (a 0)] (qI (woX t a)  post) :=
  ConR.of (by decide +kernel) (Nat.le_of_ble_eq_true rfl) (fun X el eD et ee C q _ => by subst el; subst eD; subst et; subst ee; exact g_X_hour C q a x post (fun v c1 h => ⟨⟨v, c1, rfl, rfl, h⟩, rfl⟩) hw)
def wp_X_triedCargo (x : XSt) (x1 : Int32) (x2 : Int32) (x3 : Int32) (post : Int32 → XSt → Prop) : Prop :=
  wp_C_copyFrom (X_tried x, X_now x) (fun p_1 => wp_C_still p_1.1 x2 (fun c_2 => wp_C_passHours (C_heldBack_ c_2 x3) x1 (fun c_3 => wp_C_allLoads c_3 (fun v4 c_5 => post v4 (X_tried_ (X_tried_ (X_tried_ (X_tried_ (X_now_ (X_tried_ x p_1.1) p_1.2) c_2) (C_heldBack_ c_2 x3)) c_3) c_5)))))
set_option maxRecDepth 20000 in
theorem g_X_triedCargo {X : GX} (C : GC X b_X_triedCargo R_X 4 (rmd 5)) {Qp : Option Value → va_W → Prop} (q : RC X ((some .int)) Qp 0 0) (a : Nat → Nat) (x : XSt) (x1 : Int32) (x2 : Int32) (x3 : Int32) (post : Int32 → XSt → Prop) (hq : ∀ v c1, post v c1 → Qp (some (.int v)) (woX (xt X) a c1)) (hw : wp_X_triedCargo x x1 x2 x3 post) : G X 0 0 (woX (xt X) a x) [(0, .ref (a 0)), (1, .int x1), (2, .int x2), (3, .int x3)] [] 0 := by
  unfold wp_X_triedCargo at hw
  refine g_aload_n (pc := 0) C d_X_triedCargo_0 0 rfl rfl ?_
  refine fX_tried (pc := 1) C lk_X_16 d_X_triedCargo_1 ?_
  refine g_aload_n (pc := 4) C d_X_triedCargo_4 0 rfl rfl ?_
  refine fX_now (pc := 5) C lk_X_10 d_X_triedCargo_5 ?_
  refine k_V (pc := 8) (co_V C (c_C_copyFrom (xl X) (xD X) (xt X) (xv X) (fun i => a (10 + i)) (fun i => a (1 + i)) (X_tried x, X_now x) _ hw) mw_C_copyFrom lk_X_69 d_X_triedCargo_8 [10, 11, 12, 13, 14, 15, 16, 17, 18, 1, 2, 3, 4, 5, 6, 7, 8, 9] (cC_X_tried_now (xt X) a a x) (by decide) (rec_w C 10 1 rfl rfl) rfl rfl ⟨Nat.le_of_ble_eq_true rfl, Nat.le_of_ble_eq_true rfl⟩ ⟨Nat.le_of_ble_eq_true rfl, Nat.le_of_ble_eq_true rfl⟩ (rest := []) rfl rfl (Nat.le_of_ble_eq_true rfl)) (fun p_1 => woX (xt X) a (X_now_ (X_tried_ x p_1.1) p_1.2)) (cS_X_tried_now (xt X) a a x) (fun p_1 hw => ?_)
  refine g_aload_n (pc := 11) C d_X_triedCargo_11 0 rfl rfl ?_
  refine fX_tried (pc := 12) C lk_X_16 d_X_triedCargo_12 ?_
  refine g_iload_n (pc := 15) C d_X_triedCargo_15 2 rfl rfl ?_
  refine k_V (pc := 16) (co_V C (c_C_still (xl X) (xD X) (xt X) (xv X) (fun i => a (10 + i)) p_1.1 x2 _ hw) mw_C_still lk_X_292 d_X_triedCargo_16 [10, 11, 12, 13, 14, 15, 16, 17, 18] (cC_X_tried (xt X) a a (X_now_ (X_tried_ x p_1.1) p_1.2)) (by decide) (rec_w C 10 1 rfl rfl) rfl rfl ⟨Nat.le_of_ble_eq_true rfl, Nat.le_of_ble_eq_true rfl⟩ ⟨Nat.le_of_ble_eq_true rfl, Nat.le_of_ble_eq_true rfl⟩ (rest := []) rfl rfl (Nat.le_of_ble_eq_true rfl)) (fun c_2 => woX (xt X) a (X_tried_ (X_now_ (X_tried_ x p_1.1) p_1.2) c_2)) (cS_X_tried (xt X) a a (X_now_ (X_tried_ x p_1.1) p_1.2)) (fun c_2 hw => ?_)
  refine g_aload_n (pc := 19) C d_X_triedCargo_19 0 rfl rfl ?_
  refine fX_tried (pc := 20) C lk_X_16 d_X_triedCargo_20 ?_
  refine g_iload_n (pc := 23) C d_X_triedCargo_23 3 rfl rfl ?_
  refine pX_tried_heldBack (pc := 24) C (c := c_2) rfl lk_X_295 d_X_triedCargo_24   ?_
  refine g_aload_n (pc := 27) C d_X_triedCargo_27 0 rfl rfl ?_
  refine fX_tried (pc := 28) C lk_X_16 d_X_triedCargo_28 ?_
  refine g_iload_n (pc := 31) C d_X_triedCargo_31 1 rfl rfl ?_
  refine k_V (pc := 32) (co_V C (c_C_passHours (xl X) (xD X) (xt X) (xv X) (fun i => a (10 + i)) (C_heldBack_ c_2 x3) x1 _ hw) mw_C_passHours lk_X_147 d_X_triedCargo_32 [10, 11, 12, 13, 14, 15, 16, 17, 18] (cC_X_tried (xt X) a a (X_tried_ (X_tried_ (X_now_ (X_tried_ x p_1.1) p_1.2) c_2) (C_heldBack_ c_2 x3))) (by decide) (rec_w C 10 1 rfl rfl) rfl rfl ⟨Nat.le_of_ble_eq_true rfl, Nat.le_of_ble_eq_true rfl⟩ ⟨Nat.le_of_ble_eq_true rfl, Nat.le_of_ble_eq_true rfl⟩ (rest := []) rfl rfl (Nat.le_of_ble_eq_true rfl)) (fun c_3 => woX (xt X) a (X_tried_ (X_tried_ (X_tried_ (X_now_ (X_tried_ x p_1.1) p_1.2) c_2) (C_heldBack_ c_2 x3)) c_3)) (cS_X_tried (xt X) a a (X_tried_ (X_tried_ (X_now_ (X_tried_ x p_1.1) p_1.2) c_2) (C_heldBack_ c_2 x3))) (fun c_3 hw => ?_)
  refine g_aload_n (pc := 35) C d_X_triedCargo_35 0 rfl rfl ?_
  refine fX_tried (pc := 36) C lk_X_16 d_X_triedCargo_36 ?_
  refine k_I (pc := 39) (co_V C (c_C_allLoads (xl X) (xD X) (xt X) (xv X) (fun i => a (10 + i)) c_3 _ hw) mw_C_allLoads lk_X_151 d_X_triedCargo_39 [10, 11, 12, 13, 14, 15, 16, 17, 18] (cC_X_tried (xt X) a a (X_tried_ (X_tried_ (X_tried_ (X_now_ (X_tried_ x p_1.1) p_1.2) c_2) (C_heldBack_ c_2 x3)) c_3)) (by decide) (rec_w C 10 1 rfl rfl) rfl rfl ⟨Nat.le_of_ble_eq_true rfl, Nat.le_of_ble_eq_true rfl⟩ ⟨Nat.le_of_ble_eq_true rfl, Nat.le_of_ble_eq_true rfl⟩ (rest := []) rfl rfl (Nat.le_of_ble_eq_true rfl)) (fun c_5 => woX (xt X) a (X_tried_ (X_tried_ (X_tried_ (X_tried_ (X_now_ (X_tried_ x p_1.1) p_1.2) c_2) (C_heldBack_ c_2 x3)) c_3) c_5)) (cS_X_tried (xt X) a a (X_tried_ (X_tried_ (X_tried_ (X_now_ (X_tried_ x p_1.1) p_1.2) c_2) (C_heldBack_ c_2 x3)) c_3)) (fun v4 c_5 hw => ?_)
  exact g_iret (pc := 42) C q d_X_triedCargo_42 (hq _ _ hw)
set_option maxRecDepth 20000 in
theorem c_X_triedCargo (l : Launch) (D : va_G) (t : Nat → ClassId) (ev : Nat → Nat) (a : Nat → Nat) (x : XSt) (x1 : Int32) (x2 : Int32) (x3 : Int32) (post : Int32 → XSt → Prop) (hw : wp_X_triedCargo x x1 x2 x3 post) : Con l D t ev y_X_triedCargo b_X_triedCargo 4 ((some .int)) 5 (woX t a x) [.ref (a 0), .int x1, .int x2, .int x3] (qI (woX t a)  post) :=
  ConR.of (by decide +kernel) (Nat.le_of_ble_eq_true rfl) (fun X el eD et ee C q _ => by subst el; subst eD; subst et; subst ee; exact g_X_triedCargo C q a x x1 x2 x3 post (fun v c1 h => ⟨⟨v, c1, rfl, rfl, h⟩, rfl⟩) hw)
