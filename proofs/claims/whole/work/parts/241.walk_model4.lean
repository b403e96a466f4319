def w_M_shelf_130  (post : Int32 → MSt → Prop)  (m : MSt) (x1 : Int32) (x3 : Int32) (x5 : Int32) (s1 : Int32) (s2 : Int32) : Prop :=
  vp_in s1 4 ∧ (((x5 = 0) → (vp_in x1 4 ∧ (post 1 (M_shelfSize_ (M_shelfWhich_ m (upd (M_shelfWhich m) s1.toNatClampNeg s2)) (upd (M_shelfSize m) x1.toNatClampNeg 0))))) ∧ ((¬ x5 = 0) → (vp_in x3 4 ∧ (vp_in x1 4 ∧ (post 1 (M_shelfSize_ (M_shelfWhich_ m (upd (M_shelfWhich m) s1.toNatClampNeg s2)) (upd (M_shelfSize m) x1.toNatClampNeg ((M_sizeOf m) x3.toNatClampNeg))))))))
set_option maxRecDepth 20000 in
theorem j_M_shelf_130 {X : GX} (C : GC X b_M_shelf R_M 6 (rmd 2)) {Qp : Option Value → va_W → Prop} (q : RC X ((some .int)) Qp 0 0) (a : Nat → Nat)   (post : Int32 → MSt → Prop) (hq : ∀ v c1, post v c1 → Qp (some (.int v)) (woM (xt X) a c1)) : ∀ (m : MSt) (x1 : Int32) (x3 : Int32) (x5 : Int32) (s1 : Int32) (s2 : Int32), w_M_shelf_130  post  m x1 x3 x5 s1 s2 → G X 0 0 (woM (xt X) a m) [(0, .ref (a 0)), (1, .int x1), (3, .int x3), (5, .int x5)] [.int s2, .int s1, .ref (a 11)] 130 := by
  intro m x1 x3 x5 s1 s2 hw
  unfold w_M_shelf_130 at hw
  obtain ⟨h4, hw⟩ := hw
  refine sM_shelfWhich (pc := 130) C d_M_shelf_130 (f := M_shelfWhich m) rfl (N0 := s1.toNatClampNeg) rfl h4 ?_
  refine g_aload_n (pc := 131) C d_M_shelf_131 0 rfl rfl ?_
  refine fM_shelfSize (pc := 132) C lk_M_49 d_M_shelf_132 ?_
  refine g_iload_n (pc := 135) C d_M_shelf_135 1 rfl rfl ?_
  refine g_iload (pc := 136) C d_M_shelf_136 3 rfl ?_
  refine g_if_eq (pc := 138) (tgt := 150) C d_M_shelf_138 (by decide) (fun h8 => ?_) (fun h8 => ?_)
  · replace hw := hw.1 h8
    refine g_iconst (pc := 150) C (v := 0) d_M_shelf_150 (by decide) ?_
    obtain ⟨h5, hw⟩ := hw
    refine sM_shelfSize (pc := 151) C d_M_shelf_151 (f := M_shelfSize m) rfl (N0 := x1.toNatClampNeg) rfl h5 ?_
    refine g_iconst (pc := 152) C (v := 1) d_M_shelf_152 (by decide) ?_
    exact g_iret (pc := 153) C q d_M_shelf_153 (hq _ _ hw)
  · replace hw := hw.2 h8
    refine g_aload_n (pc := 141) C d_M_shelf_141 0 rfl rfl ?_
    refine fM_sizeOf (pc := 142) C lk_M_36 d_M_shelf_142 ?_
    refine g_iload_n (pc := 145) C d_M_shelf_145 2 rfl rfl ?_
    obtain ⟨h6, hw⟩ := hw
    refine lM_sizeOf (pc := 146) C d_M_shelf_146 (f := M_sizeOf m) rfl (N0 := x3.toNatClampNeg) rfl h6 ?_
    refine g_goto (pc := 147) (tgt := 151) C d_M_shelf_147 (by decide) ?_
    obtain ⟨h7, hw⟩ := hw
    refine sM_shelfSize (pc := 151) C d_M_shelf_151 (f := M_shelfSize m) rfl (N0 := x1.toNatClampNeg) rfl h7 ?_
    refine g_iconst (pc := 152) C (v := 1) d_M_shelf_152 (by decide) ?_
    exact g_iret (pc := 153) C q d_M_shelf_153 (hq _ _ hw)
def w_M_shelf_99  (post : Int32 → MSt → Prop)  (m : MSt) (x1 : Int32) (x2 : Int32) (x3 : Int32) (x5 : Int32) (s1 : Int32) (s2 : Int32) : Prop :=
  vp_in s1 4 ∧ (((x2 = 0) → (w_M_shelf_130  post  (M_shelfHas_ m (upd (M_shelfHas m) s1.toNatClampNeg s2)) x1 x3 x5 x1 x3)) ∧ ((¬ x2 = 0) → (((x5 = 0) → (w_M_shelf_130  post  (M_shelfHas_ m (upd (M_shelfHas m) s1.toNatClampNeg s2)) x1 x3 x5 x1 0)) ∧ ((¬ x5 = 0) → (vp_in x3 4 ∧ (∀ y10 : Int32, y10 = ((M_sortOf m) x3.toNatClampNeg) - 1 → (w_M_shelf_130  post  (M_shelfHas_ m (upd (M_shelfHas m) s1.toNatClampNeg s2)) x1 x3 x5 x1 y10)))))))
set_option maxRecDepth 20000 in
theorem j_M_shelf_99 {X : GX} (C : GC X b_M_shelf R_M 6 (rmd 2)) {Qp : Option Value → va_W → Prop} (q : RC X ((some .int)) Qp 0 0) (a : Nat → Nat)   (post : Int32 → MSt → Prop) (hq : ∀ v c1, post v c1 → Qp (some (.int v)) (woM (xt X) a c1)) : ∀ (m : MSt) (x1 : Int32) (x2 : Int32) (x3 : Int32) (x5 : Int32) (s1 : Int32) (s2 : Int32), w_M_shelf_99  post  m x1 x2 x3 x5 s1 s2 → G X 0 0 (woM (xt X) a m) [(0, .ref (a 0)), (1, .int x1), (2, .int x2), (3, .int x3), (5, .int x5)] [.int s2, .int s1, .ref (a 10)] 99 := by
  intro m x1 x2 x3 x5 s1 s2 hw
  unfold w_M_shelf_99 at hw
  obtain ⟨h3, hw⟩ := hw
  refine sM_shelfHas (pc := 99) C d_M_shelf_99 (f := M_shelfHas m) rfl (N0 := s1.toNatClampNeg) rfl h3 ?_
  refine g_aload_n (pc := 100) C d_M_shelf_100 0 rfl rfl ?_
  refine fM_shelfWhich (pc := 101) C lk_M_46 d_M_shelf_101 ?_
  refine g_iload_n (pc := 104) C d_M_shelf_104 1 rfl rfl ?_
  refine g_iload_n (pc := 105) C d_M_shelf_105 2 rfl rfl ?_
  refine g_if_ne (pc := 106) (tgt := 113) C d_M_shelf_106 (by decide) (fun h12 => ?_) (fun h12 => ?_)
  · replace hw := hw.2 h12
    refine g_iload (pc := 113) C d_M_shelf_113 4 rfl ?_
    refine g_if_eq (pc := 115) (tgt := 129) C d_M_shelf_115 (by decide) (fun h11 => ?_) (fun h11 => ?_)
    · replace hw := hw.1 h11
      refine g_iconst (pc := 129) C (v := 0) d_M_shelf_129 (by decide) ?_
      refine g_sub [0, 1, 3, 4] (lv' := [(0, .ref (a 0)), (1, .int x1), (3, .int x3), (5, .int x5)]) rfl ?_
      exact j_M_shelf_130 C q a post hq  (M_shelfHas_ m (upd (M_shelfHas m) s1.toNatClampNeg s2)) x1 x3 x5 x1 0 hw
    · replace hw := hw.2 h11
      refine g_aload_n (pc := 118) C d_M_shelf_118 0 rfl rfl ?_
      refine fM_sortOf (pc := 119) C lk_M_33 d_M_shelf_119 ?_
      refine g_iload_n (pc := 122) C d_M_shelf_122 3 rfl rfl ?_
      obtain ⟨h9, hw⟩ := hw
      refine lM_sortOf (pc := 123) C d_M_shelf_123 (f := M_sortOf m) rfl (N0 := x3.toNatClampNeg) rfl h9 ?_
      refine g_iconst (pc := 124) C (v := 1) d_M_shelf_124 (by decide) ?_
      refine g_isub (pc := 125) C d_M_shelf_125 ?_
      refine g_topi (fun y10 ey10 => ?_)
      replace hw := hw y10 ey10
      refine g_goto (pc := 126) (tgt := 130) C d_M_shelf_126 (by decide) ?_
      refine g_sub [0, 1, 3, 4] (lv' := [(0, .ref (a 0)), (1, .int x1), (3, .int x3), (5, .int x5)]) rfl ?_
      exact j_M_shelf_130 C q a post hq  (M_shelfHas_ m (upd (M_shelfHas m) s1.toNatClampNeg s2)) x1 x3 x5 x1 y10 hw
  · replace hw := hw.1 h12
    refine g_iload_n (pc := 109) C d_M_shelf_109 3 rfl rfl ?_
    refine g_goto (pc := 110) (tgt := 130) C d_M_shelf_110 (by decide) ?_
    refine g_sub [0, 1, 3, 4] (lv' := [(0, .ref (a 0)), (1, .int x1), (3, .int x3), (5, .int x5)]) rfl ?_
    exact j_M_shelf_130 C q a post hq  (M_shelfHas_ m (upd (M_shelfHas m) s1.toNatClampNeg s2)) x1 x3 x5 x1 x3 hw
def w_M_shelf_74  (post : Int32 → MSt → Prop)  (m : MSt) (x1 : Int32) (x2 : Int32) (x3 : Int32) (s0 : Int32) : Prop :=
  ((x2 = 0) → (w_M_shelf_99  post  m x1 x2 x3 s0 x1 1)) ∧ ((¬ x2 = 0) → (((s0 = 0) → (w_M_shelf_99  post  m x1 x2 x3 s0 x1 0)) ∧ ((¬ s0 = 0) → (w_M_shelf_99  post  m x1 x2 x3 s0 x1 2))))
set_option maxRecDepth 20000 in
theorem j_M_shelf_74 {X : GX} (C : GC X b_M_shelf R_M 6 (rmd 2)) {Qp : Option Value → va_W → Prop} (q : RC X ((some .int)) Qp 0 0) (a : Nat → Nat)   (post : Int32 → MSt → Prop) (hq : ∀ v c1, post v c1 → Qp (some (.int v)) (woM (xt X) a c1)) : ∀ (m : MSt) (x1 : Int32) (x2 : Int32) (x3 : Int32) (s0 : Int32), w_M_shelf_74  post  m x1 x2 x3 s0 → G X 0 0 (woM (xt X) a m) [(0, .ref (a 0)), (1, .int x1), (2, .int x2), (3, .int x3)] [.int s0] 74 := by
  intro m x1 x2 x3 s0 hw
  unfold w_M_shelf_74 at hw
  refine g_istore (pc := 74) C d_M_shelf_74 (Nat.le_of_ble_eq_true rfl) (lv' := [(0, .ref (a 0)), (1, .int x1), (2, .int x2), (3, .int x3), (5, .int s0)]) rfl ?_
  refine g_aload_n (pc := 76) C d_M_shelf_76 0 rfl rfl ?_
  refine fM_shelfHas (pc := 77) C lk_M_43 d_M_shelf_77 ?_
  refine g_iload_n (pc := 80) C d_M_shelf_80 1 rfl rfl ?_
  refine g_iload_n (pc := 81) C d_M_shelf_81 2 rfl rfl ?_
  refine g_if_ne (pc := 82) (tgt := 89) C d_M_shelf_82 (by decide) (fun h14 => ?_) (fun h14 => ?_)
  · replace hw := hw.2 h14
    refine g_iload (pc := 89) C d_M_shelf_89 4 rfl ?_
    refine g_if_eq (pc := 91) (tgt := 98) C d_M_shelf_91 (by decide) (fun h13 => ?_) (fun h13 => ?_)
    · replace hw := hw.1 h13
      refine g_iconst (pc := 98) C (v := 0) d_M_shelf_98 (by decide) ?_
      exact j_M_shelf_99 C q a post hq  m x1 x2 x3 s0 x1 0 hw
    · replace hw := hw.2 h13
      refine g_iconst (pc := 94) C (v := 2) d_M_shelf_94 (by decide) ?_
      refine g_goto (pc := 95) (tgt := 99) C d_M_shelf_95 (by decide) ?_
      exact j_M_shelf_99 C q a post hq  m x1 x2 x3 s0 x1 2 hw
  · replace hw := hw.1 h14
    refine g_iconst (pc := 85) C (v := 1) d_M_shelf_85 (by decide) ?_
    refine g_goto (pc := 86) (tgt := 99) C d_M_shelf_86 (by decide) ?_
    exact j_M_shelf_99 C q a post hq  m x1 x2 x3 s0 x1 1 hw
def w_M_shelf_34  (post : Int32 → MSt → Prop)  (m : MSt) (x1 : Int32) (x2 : Int32) (x3 : Int32) (s0 : Int32) : Prop :=
  ∀ y1 : Int64, y1 = x1.toInt64 → (wp_M_in y1 0 3 (fun v2 => ((v2 = 0) → (post (-1) m)) ∧ ((¬ v2 = 0) → (((s0 = 0) → (post (-1) m)) ∧ ((¬ s0 = 0) → (((x2 = 1) → (vp_in x3 4 ∧ (((((M_sortOf m) x3.toNatClampNeg) ≤ 0) → (w_M_shelf_74  post  m x1 x2 x3 0)) ∧ ((¬ ((M_sortOf m) x3.toNatClampNeg) ≤ 0) → (w_M_shelf_74  post  m x1 x2 x3 1))))) ∧ ((¬ x2 = 1) → (w_M_shelf_74  post  m x1 x2 x3 0))))))))
set_option maxRecDepth 20000 in
theorem j_M_shelf_34 {X : GX} (C : GC X b_M_shelf R_M 6 (rmd 2)) {Qp : Option Value → va_W → Prop} (q : RC X ((some .int)) Qp 0 0) (a : Nat → Nat)   (post : Int32 → MSt → Prop) (hq : ∀ v c1, post v c1 → Qp (some (.int v)) (woM (xt X) a c1)) : ∀ (m : MSt) (x1 : Int32) (x2 : Int32) (x3 : Int32) (s0 : Int32), w_M_shelf_34  post  m x1 x2 x3 s0 → G X 0 0 (woM (xt X) a m) [(0, .ref (a 0)), (1, .int x1), (2, .int x2), (3, .int x3)] [.int s0] 34 := by
  intro m x1 x2 x3 s0 hw
  unfold w_M_shelf_34 at hw
  refine g_istore (pc := 34) C d_M_shelf_34 (Nat.le_of_ble_eq_true rfl) (lv' := [(0, .ref (a 0)), (1, .int x1), (2, .int x2), (3, .int x3), (4, .int s0)]) rfl ?_
  refine g_iload_n (pc := 36) C d_M_shelf_36 1 rfl rfl ?_
  refine g_i2l (pc := 37) C d_M_shelf_37 ?_
  refine g_topl (fun y1 ey1 => ?_)
  replace hw := hw y1 ey1
  refine g_lconst (pc := 38) C (v := 0) d_M_shelf_38 (by decide) ?_
  refine g_ldc2_w (pc := 39) C (v := 3) d_M_shelf_39 lk_M_98 ?_
  refine k_I0 (pc := 42) (co_S C (c_M_in (xl X) (xD X) (xt X) (xv X) y1 0 3 _ hw) mw_M_in lk_M_58 d_M_shelf_42 [] rfl (by decide)  rfl rfl ⟨Nat.le_of_ble_eq_true rfl, Nat.le_of_ble_eq_true rfl⟩ ⟨Nat.le_of_ble_eq_true rfl, Nat.le_of_ble_eq_true rfl⟩ (rest := []) rfl rfl (Nat.le_of_ble_eq_true rfl)) (fun v2 hw => ?_)
  refine g_if_eq (pc := 45) (tgt := 53) C d_M_shelf_45 (by decide) (fun h19 => ?_) (fun h19 => ?_)
  · replace hw := hw.1 h19
    refine g_iconst (pc := 53) C (v := (-1)) d_M_shelf_53 (by decide) ?_
    exact g_iret (pc := 54) C q d_M_shelf_54 (hq _ _ hw)
  · replace hw := hw.2 h19
    refine g_iload (pc := 48) C d_M_shelf_48 4 rfl ?_
    refine g_if_ne (pc := 50) (tgt := 55) C d_M_shelf_50 (by decide) (fun h18 => ?_) (fun h18 => ?_)
    · replace hw := hw.2 h18
      refine g_iload_n (pc := 55) C d_M_shelf_55 2 rfl rfl ?_
      refine g_iconst (pc := 56) C (v := 1) d_M_shelf_56 (by decide) ?_
      refine g_icmp_ne (pc := 57) (tgt := 73) C d_M_shelf_57 (by decide) (fun h17 => ?_) (fun h17 => ?_)
      · replace hw := hw.2 h17
        refine g_iconst (pc := 73) C (v := 0) d_M_shelf_73 (by decide) ?_
        refine g_sub [0, 1, 2, 3] (lv' := [(0, .ref (a 0)), (1, .int x1), (2, .int x2), (3, .int x3)]) rfl ?_
        exact j_M_shelf_74 C q a post hq  m x1 x2 x3 0 hw
      · replace hw := hw.1 h17
        refine g_aload_n (pc := 60) C d_M_shelf_60 0 rfl rfl ?_
        refine fM_sortOf (pc := 61) C lk_M_33 d_M_shelf_61 ?_
        refine g_iload_n (pc := 64) C d_M_shelf_64 3 rfl rfl ?_
        obtain ⟨h15, hw⟩ := hw
        refine lM_sortOf (pc := 65) C d_M_shelf_65 (f := M_sortOf m) rfl (N0 := x3.toNatClampNeg) rfl h15 ?_
        refine g_if_le (pc := 66) (tgt := 73) C d_M_shelf_66 (by decide) (fun h16 => ?_) (fun h16 => ?_)
        · replace hw := hw.1 h16
          refine g_iconst (pc := 73) C (v := 0) d_M_shelf_73 (by decide) ?_
          refine g_sub [0, 1, 2, 3] (lv' := [(0, .ref (a 0)), (1, .int x1), (2, .int x2), (3, .int x3)]) rfl ?_
          exact j_M_shelf_74 C q a post hq  m x1 x2 x3 0 hw
        · replace hw := hw.2 h16
          refine g_iconst (pc := 69) C (v := 1) d_M_shelf_69 (by decide) ?_
          refine g_goto (pc := 70) (tgt := 74) C d_M_shelf_70 (by decide) ?_
          refine g_sub [0, 1, 2, 3] (lv' := [(0, .ref (a 0)), (1, .int x1), (2, .int x2), (3, .int x3)]) rfl ?_
          exact j_M_shelf_74 C q a post hq  m x1 x2 x3 1 hw
    · replace hw := hw.1 h18
      refine g_iconst (pc := 53) C (v := (-1)) d_M_shelf_53 (by decide) ?_
      exact g_iret (pc := 54) C q d_M_shelf_54 (hq _ _ hw)
def wp_M_shelf (m : MSt) (x1 : Int32) (x2 : Int32) (x3 : Int32) (post : Int32 → MSt → Prop) : Prop :=
  ((x2 = 0) → (wp_M_isBarge m x3 (fun v23 m_24 => w_M_shelf_34  post  m_24 x1 x2 x3 v23))) ∧ ((¬ x2 = 0) → (((x2 = 1) → (wp_M_isSheet x3 (fun v21 => w_M_shelf_34  post  m x1 x2 x3 v21))) ∧ ((¬ x2 = 1) → (((x2 = 2) → (w_M_shelf_34  post  m x1 x2 x3 1)) ∧ ((¬ x2 = 2) → (w_M_shelf_34  post  m x1 x2 x3 0))))))
set_option maxRecDepth 20000 in
theorem g_M_shelf {X : GX} (C : GC X b_M_shelf R_M 6 (rmd 2)) {Qp : Option Value → va_W → Prop} (q : RC X ((some .int)) Qp 0 0) (a : Nat → Nat) (m : MSt) (x1 : Int32) (x2 : Int32) (x3 : Int32) (post : Int32 → MSt → Prop) (hq : ∀ v c1, post v c1 → Qp (some (.int v)) (woM (xt X) a c1)) (hw : wp_M_shelf m x1 x2 x3 post) : G X 0 0 (woM (xt X) a m) [(0, .ref (a 0)), (1, .int x1), (2, .int x2), (3, .int x3)] [] 0 := by
  unfold wp_M_shelf at hw
  refine g_iload_n (pc := 0) C d_M_shelf_0 2 rfl rfl ?_
  refine g_if_ne (pc := 1) (tgt := 12) C d_M_shelf_1 (by decide) (fun h25 => ?_) (fun h25 => ?_)
  · replace hw := hw.2 h25
    refine g_iload_n (pc := 12) C d_M_shelf_12 2 rfl rfl ?_
    refine g_iconst (pc := 13) C (v := 1) d_M_shelf_13 (by decide) ?_
    refine g_icmp_ne (pc := 14) (tgt := 24) C d_M_shelf_14 (by decide) (fun h22 => ?_) (fun h22 => ?_)
    · replace hw := hw.2 h22
      refine g_iload_n (pc := 24) C d_M_shelf_24 2 rfl rfl ?_
      refine g_iconst (pc := 25) C (v := 2) d_M_shelf_25 (by decide) ?_
      refine g_icmp_ne (pc := 26) (tgt := 33) C d_M_shelf_26 (by decide) (fun h20 => ?_) (fun h20 => ?_)
      · replace hw := hw.2 h20
        refine g_iconst (pc := 33) C (v := 0) d_M_shelf_33 (by decide) ?_
        exact j_M_shelf_34 C q a post hq  m x1 x2 x3 0 hw
      · replace hw := hw.1 h20
        refine g_iconst (pc := 29) C (v := 1) d_M_shelf_29 (by decide) ?_
        refine g_goto (pc := 30) (tgt := 34) C d_M_shelf_30 (by decide) ?_
        exact j_M_shelf_34 C q a post hq  m x1 x2 x3 1 hw
    · replace hw := hw.1 h22
      refine g_iload_n (pc := 17) C d_M_shelf_17 3 rfl rfl ?_
      refine k_I0 (pc := 18) (co_S C (c_M_isSheet (xl X) (xD X) (xt X) (xv X) x3 _ hw) mw_M_isSheet lk_M_178 d_M_shelf_18 [] rfl (by decide)  rfl rfl ⟨Nat.le_of_ble_eq_true rfl, Nat.le_of_ble_eq_true rfl⟩ ⟨Nat.le_of_ble_eq_true rfl, Nat.le_of_ble_eq_true rfl⟩ (rest := []) rfl rfl (Nat.le_of_ble_eq_true rfl)) (fun v21 hw => ?_)
      refine g_goto (pc := 21) (tgt := 34) C d_M_shelf_21 (by decide) ?_
      exact j_M_shelf_34 C q a post hq  m x1 x2 x3 v21 hw
  · replace hw := hw.1 h25
    refine g_aload_n (pc := 4) C d_M_shelf_4 0 rfl rfl ?_
    refine g_iload_n (pc := 5) C d_M_shelf_5 3 rfl rfl ?_
    refine k_Ia (pc := 6) (co_V C (c_M_isBarge (xl X) (xD X) (xt X) (xv X) a m x3 _ hw) mw_M_isBarge lk_M_118 d_M_shelf_6 (List.range _) (all_C _) (all_nd _) (rec_w C 0 6 rfl rfl) rfl rfl ⟨Nat.le_of_ble_eq_true rfl, Nat.le_of_ble_eq_true rfl⟩ ⟨Nat.le_of_ble_eq_true rfl, Nat.le_of_ble_eq_true rfl⟩ (rest := []) rfl rfl (Nat.le_of_ble_eq_true rfl)) (fun v23 m_24 hw => ?_)
    refine g_goto (pc := 9) (tgt := 34) C d_M_shelf_9 (by decide) ?_
    exact j_M_shelf_34 C q a post hq  m_24 x1 x2 x3 v23 hw
set_option maxRecDepth 20000 in
theorem c_M_shelf (l : Launch) (D : va_G) (t : Nat → ClassId) (ev : Nat → Nat) (a : Nat → Nat) (m : MSt) (x1 : Int32) (x2 : Int32) (x3 : Int32) (post : Int32 → MSt → Prop) (hw : wp_M_shelf m x1 x2 x3 post) : Con l D t ev y_M_shelf b_M_shelf 6 ((some .int)) 2 (woM t a m) [.ref (a 0), .int x1, .int x2, .int x3] (qI (woM t a)  post) :=
  ConR.of (by decide +kernel) (Nat.le_of_ble_eq_true rfl) (fun X el eD et ee C q _ => by subst el; subst eD; subst et; subst ee; exact g_M_shelf C q a m x1 x2 x3 post (fun v c1 h => ⟨⟨v, c1, rfl, rfl, h⟩, rfl⟩) hw)
def wp_M_holdsNothing (m : MSt) (x1 : Int32) (post : Int32 → MSt → Prop) : Prop :=
  vp_in x1 4 ∧ (((((M_shelfHas m) x1.toNatClampNeg) = 0) → (post 1 m)) ∧ ((¬ ((M_shelfHas m) x1.toNatClampNeg) = 0) → (vp_in x1 4 ∧ (((((M_shelfHas m) x1.toNatClampNeg) = 1) → (vp_in x1 4 ∧ (wp_M_isBarge m ((M_shelfWhich m) x1.toNatClampNeg) (fun v4 m_5 => ((v4 = 0) → (post 1 m_5)) ∧ ((¬ v4 = 0) → (post 0 m_5)))))) ∧ ((¬ ((M_shelfHas m) x1.toNatClampNeg) = 1) → (post 0 m))))))
set_option maxRecDepth 20000 in
theorem g_M_holdsNothing {X : GX} (C : GC X b_M_holdsNothing R_M 2 (rmd 2)) {Qp : Option Value → va_W → Prop} (q : RC X ((some .boolean)) Qp 0 0) (a : Nat → Nat) (m : MSt) (x1 : Int32) (post : Int32 → MSt → Prop) (hq : ∀ v c1, post v c1 → Qp (some (.int v)) (woM (xt X) a c1)) (hw : wp_M_holdsNothing m x1 post) : G X 0 0 (woM (xt X) a m) [(0, .ref (a 0)), (1, .int x1)] [] 0 := by
  unfold wp_M_holdsNothing at hw
  refine g_aload_n (pc := 0) C d_M_holdsNothing_0 0 rfl rfl ?_
  refine fM_shelfHas (pc := 1) C lk_M_43 d_M_holdsNothing_1 ?_
  refine g_iload_n (pc := 4) C d_M_holdsNothing_4 1 rfl rfl ?_
  obtain ⟨h1, hw⟩ := hw
  refine lM_shelfHas (pc := 5) C d_M_holdsNothing_5 (f := M_shelfHas m) rfl (N0 := x1.toNatClampNeg) rfl h1 ?_
  refine g_if_eq (pc := 6) (tgt := 32) C d_M_holdsNothing_6 (by decide) (fun h8 => ?_) (fun h8 => ?_)
  · replace hw := hw.1 h8
    refine g_iconst (pc := 32) C (v := 1) d_M_holdsNothing_32 (by decide) ?_
    refine g_goto (pc := 33) (tgt := 37) C d_M_holdsNothing_33 (by decide) ?_
    exact g_zret (pc := 37) C q d_M_holdsNothing_37 (by decide) (hq _ _ hw)
  · replace hw := hw.2 h8
    refine g_aload_n (pc := 9) C d_M_holdsNothing_9 0 rfl rfl ?_
    refine fM_shelfHas (pc := 10) C lk_M_43 d_M_holdsNothing_10 ?_
    refine g_iload_n (pc := 13) C d_M_holdsNothing_13 1 rfl rfl ?_
    obtain ⟨h2, hw⟩ := hw
    refine lM_shelfHas (pc := 14) C d_M_holdsNothing_14 (f := M_shelfHas m) rfl (N0 := x1.toNatClampNeg) rfl h2 ?_
    refine g_iconst (pc := 15) C (v := 1) d_M_holdsNothing_15 (by decide) ?_
    refine g_icmp_ne (pc := 16) (tgt := 36) C d_M_holdsNothing_16 (by decide) (fun h7 => ?_) (fun h7 => ?_)
    · replace hw := hw.2 h7
      refine g_iconst (pc := 36) C (v := 0) d_M_holdsNothing_36 (by decide) ?_
      exact g_zret (pc := 37) C q d_M_holdsNothing_37 (by decide) (hq _ _ hw)
    · replace hw := hw.1 h7
      refine g_aload_n (pc := 19) C d_M_holdsNothing_19 0 rfl rfl ?_
      refine g_aload_n (pc := 20) C d_M_holdsNothing_20 0 rfl rfl ?_
      refine fM_shelfWhich (pc := 21) C lk_M_46 d_M_holdsNothing_21 ?_
      refine g_iload_n (pc := 24) C d_M_holdsNothing_24 1 rfl rfl ?_
      obtain ⟨h3, hw⟩ := hw
      refine lM_shelfWhich (pc := 25) C d_M_holdsNothing_25 (f := M_shelfWhich m) rfl (N0 := x1.toNatClampNeg) rfl h3 ?_
      refine k_Ia (pc := 26) (co_V C (c_M_isBarge (xl X) (xD X) (xt X) (xv X) a m ((M_shelfWhich m) x1.toNatClampNeg) _ hw) mw_M_isBarge lk_M_118 d_M_holdsNothing_26 (List.range _) (all_C _) (all_nd _) (rec_w C 0 6 rfl rfl) rfl rfl ⟨Nat.le_of_ble_eq_true rfl, Nat.le_of_ble_eq_true rfl⟩ ⟨Nat.le_of_ble_eq_true rfl, Nat.le_of_ble_eq_true rfl⟩ (rest := []) rfl rfl (Nat.le_of_ble_eq_true rfl)) (fun v4 m_5 hw => ?_)
      refine g_if_ne (pc := 29) (tgt := 36) C d_M_holdsNothing_29 (by decide) (fun h6 => ?_) (fun h6 => ?_)
      · replace hw := hw.2 h6
        refine g_iconst (pc := 36) C (v := 0) d_M_holdsNothing_36 (by decide) ?_
        exact g_zret (pc := 37) C q d_M_holdsNothing_37 (by decide) (hq _ _ hw)
      · replace hw := hw.1 h6
        refine g_iconst (pc := 32) C (v := 1) d_M_holdsNothing_32 (by decide) ?_
        refine g_goto (pc := 33) (tgt := 37) C d_M_holdsNothing_33 (by decide) ?_
        exact g_zret (pc := 37) C q d_M_holdsNothing_37 (by decide) (hq _ _ hw)
set_option maxRecDepth 20000 in
theorem c_M_holdsNothing (l : Launch) (D : va_G) (t : Nat → ClassId) (ev : Nat → Nat) (a : Nat → Nat) (m : MSt) (x1 : Int32) (post : Int32 → MSt → Prop) (hw : wp_M_holdsNothing m x1 post) : Con l D t ev y_M_holdsNothing b_M_holdsNothing 2 ((some .boolean)) 2 (woM t a m) [.ref (a 0), .int x1] (qI (woM t a)  post) :=
  ConR.of (by decide +kernel) (Nat.le_of_ble_eq_true rfl) (fun X el eD et ee C q _ => by subst el; subst eD; subst et; subst ee; exact g_M_holdsNothing C q a m x1 post (fun v c1 h => ⟨⟨v, c1, rfl, rfl, h⟩, rfl⟩) hw)
def wp_M_above (x0 : Int32) (post : Int32 → Prop) : Prop :=
  ((x0 = 3) → (post 1 )) ∧ ((¬ x0 = 3) → (((x0 = 4) → (post 2 )) ∧ ((¬ x0 = 4) → (post 0 ))))
set_option maxRecDepth 20000 in
theorem g_M_above {X : GX} (C : GC X b_M_above R_M 1 (rmd 0)) {Qp : Option Value → va_W → Prop} (q : RC X ((some .int)) Qp 0 0) (x0 : Int32) (post : Int32 → Prop) (hq : ∀ v, post v → Qp (some (.int v)) []) (hw : wp_M_above x0 post) : G X 0 0 ([]) [(0, .int x0)] [] 0 := by
  unfold wp_M_above at hw
  refine g_iload_n (pc := 0) C d_M_above_0 0 rfl rfl ?_
  refine g_iconst (pc := 1) C (v := 3) d_M_above_1 (by decide) ?_
  refine g_icmp_ne (pc := 2) (tgt := 9) C d_M_above_2 (by decide) (fun h2 => ?_) (fun h2 => ?_)
  · replace hw := hw.2 h2
    refine g_iload_n (pc := 9) C d_M_above_9 0 rfl rfl ?_
    refine g_iconst (pc := 10) C (v := 4) d_M_above_10 (by decide) ?_
    refine g_icmp_ne (pc := 11) (tgt := 18) C d_M_above_11 (by decide) (fun h1 => ?_) (fun h1 => ?_)
    · replace hw := hw.2 h1
      refine g_iconst (pc := 18) C (v := 0) d_M_above_18 (by decide) ?_
      exact g_iret (pc := 19) C q d_M_above_19 (hq _ hw)
    · replace hw := hw.1 h1
      refine g_iconst (pc := 14) C (v := 2) d_M_above_14 (by decide) ?_
      refine g_goto (pc := 15) (tgt := 19) C d_M_above_15 (by decide) ?_
      exact g_iret (pc := 19) C q d_M_above_19 (hq _ hw)
  · replace hw := hw.1 h2
    refine g_iconst (pc := 5) C (v := 1) d_M_above_5 (by decide) ?_
    refine g_goto (pc := 6) (tgt := 19) C d_M_above_6 (by decide) ?_
    exact g_iret (pc := 19) C q d_M_above_19 (hq _ hw)
set_option maxRecDepth 20000 in
theorem c_M_above (l : Launch) (D : va_G) (t : Nat → ClassId) (ev : Nat → Nat) (x0 : Int32) (post : Int32 → Prop) (hw : wp_M_above x0 post) : Con l D t ev y_M_above b_M_above 1 ((some .int)) 0 ([]) [.int x0] (qI (fun _ : Unit => [])  (fun v _ => post v)) :=
  ConR.of (by decide +kernel) (Nat.le_of_ble_eq_true rfl) (fun X el eD et ee C q _ => by subst el; subst eD; subst et; subst ee; exact g_M_above C q x0 post (fun v h => ⟨⟨v, (), rfl, rfl, h⟩, rfl⟩) hw)
def w_M_taken_40  (post : Int32 → MSt → Prop)  (m : MSt) (x1 : Int32) (x2 : Int32) : Prop :=
  wp_M_holdsNothing m x1 (fun v5 m_6 => ((v5 = 0) → (vp_in x1 4 ∧ (((((M_shelfHas m_6) x1.toNatClampNeg) = 2) → (vp_in x1 4 ∧ (((((M_shelfWhich m_6) x1.toNatClampNeg) = (x2 - 10)) → (vp_in x1 4 ∧ (post ((M_shelfSize m_6) x1.toNatClampNeg) m_6))) ∧ ((¬ ((M_shelfWhich m_6) x1.toNatClampNeg) = (x2 - 10)) → (post (-13) m_6))))) ∧ ((¬ ((M_shelfHas m_6) x1.toNatClampNeg) = 2) → (vp_in x1 4 ∧ (wp_M_get m_6 ((M_shelfWhich m_6) x1.toNatClampNeg) 0 (fun v9 m_10 => ((10 ≤ x2) → (post (-13) m_10)) ∧ ((¬ 10 ≤ x2) → (((x2 = 0) → (vp_in x1 4 ∧ (post ((M_shelfWhich m_10) x1.toNatClampNeg) m_10))) ∧ ((¬ x2 = 0) → (((v9 = x2) → (vp_in x1 4 ∧ (post ((M_shelfWhich m_10) x1.toNatClampNeg) m_10))) ∧ ((¬ v9 = x2) → (wp_M_above v9 (fun v13 => ((v13 = x2) → (vp_in x1 4 ∧ (post ((M_shelfWhich m_10) x1.toNatClampNeg) m_10))) ∧ ((¬ v13 = x2) → (post (-13) m_10)))))))))))))))) ∧ ((¬ v5 = 0) → (post (-11) m_6)))
set_option maxRecDepth 20000 in
theorem j_M_taken_40 {X : GX} (C : GC X b_M_taken R_M 4 (rmd 3)) {Qp : Option Value → va_W → Prop} (q : RC X ((some .int)) Qp 0 0) (a : Nat → Nat)   (post : Int32 → MSt → Prop) (hq : ∀ v c1, post v c1 → Qp (some (.int v)) (woM (xt X) a c1)) : ∀ (m : MSt) (x1 : Int32) (x2 : Int32), w_M_taken_40  post  m x1 x2 → G X 0 0 (woM (xt X) a m) [(0, .ref (a 0)), (1, .int x1), (2, .int x2)] [] 40 := by
  intro m x1 x2 hw
  unfold w_M_taken_40 at hw
  refine g_aload_n (pc := 40) C d_M_taken_40 0 rfl rfl ?_
  refine g_iload_n (pc := 41) C d_M_taken_41 1 rfl rfl ?_
  refine k_Ia (pc := 42) (co_V C (c_M_holdsNothing (xl X) (xD X) (xt X) (xv X) a m x1 _ hw) mw_M_holdsNothing lk_M_263 d_M_taken_42 (List.range _) (all_C _) (all_nd _) (rec_w C 0 6 rfl rfl) rfl rfl ⟨Nat.le_of_ble_eq_true rfl, Nat.le_of_ble_eq_true rfl⟩ ⟨Nat.le_of_ble_eq_true rfl, Nat.le_of_ble_eq_true rfl⟩ (rest := []) rfl rfl (Nat.le_of_ble_eq_true rfl)) (fun v5 m_6 hw => ?_)
  refine g_if_eq (pc := 45) (tgt := 51) C d_M_taken_45 (by decide) (fun h23 => ?_) (fun h23 => ?_)
  · replace hw := hw.1 h23
    refine g_aload_n (pc := 51) C d_M_taken_51 0 rfl rfl ?_
    refine fM_shelfHas (pc := 52) C lk_M_43 d_M_taken_52 ?_
    refine g_iload_n (pc := 55) C d_M_taken_55 1 rfl rfl ?_
    obtain ⟨h7, hw⟩ := hw
    refine lM_shelfHas (pc := 56) C d_M_taken_56 (f := M_shelfHas m_6) rfl (N0 := x1.toNatClampNeg) rfl h7 ?_
    refine g_iconst (pc := 57) C (v := 2) d_M_taken_57 (by decide) ?_
    refine g_icmp_ne (pc := 58) (tgt := 86) C d_M_taken_58 (by decide) (fun h22 => ?_) (fun h22 => ?_)
    · replace hw := hw.2 h22
      refine g_aload_n (pc := 86) C d_M_taken_86 0 rfl rfl ?_
      refine g_aload_n (pc := 87) C d_M_taken_87 0 rfl rfl ?_
      refine fM_shelfWhich (pc := 88) C lk_M_46 d_M_taken_88 ?_
      refine g_iload_n (pc := 91) C d_M_taken_91 1 rfl rfl ?_
      obtain ⟨h8, hw⟩ := hw
      refine lM_shelfWhich (pc := 92) C d_M_taken_92 (f := M_shelfWhich m_6) rfl (N0 := x1.toNatClampNeg) rfl h8 ?_
      refine g_iconst (pc := 93) C (v := 0) d_M_taken_93 (by decide) ?_
      refine k_Ia (pc := 94) (co_V C (c_M_get (xl X) (xD X) (xt X) (xv X) a m_6 ((M_shelfWhich m_6) x1.toNatClampNeg) 0 _ hw) mw_M_get lk_M_64 d_M_taken_94 (List.range _) (all_C _) (all_nd _) (rec_w C 0 6 rfl rfl) rfl rfl ⟨Nat.le_of_ble_eq_true rfl, Nat.le_of_ble_eq_true rfl⟩ ⟨Nat.le_of_ble_eq_true rfl, Nat.le_of_ble_eq_true rfl⟩ (rest := []) rfl rfl (Nat.le_of_ble_eq_true rfl)) (fun v9 m_10 hw => ?_)
      refine g_istore_n (pc := 97) C d_M_taken_97 rfl (Nat.le_of_ble_eq_true rfl) (lv' := [(0, .ref (a 0)), (1, .int x1), (2, .int x2), (3, .int v9)]) rfl ?_
      refine g_iload_n (pc := 98) C d_M_taken_98 2 rfl rfl ?_
      refine g_bipush (pc := 99) C (v := 10) d_M_taken_99 (by decide) ?_
      refine g_icmp_ge (pc := 101) (tgt := 130) C d_M_taken_101 (by decide) (fun h18 => ?_) (fun h18 => ?_)
      · replace hw := hw.1 h18
        refine g_bipush (pc := 130) C (v := (-13)) d_M_taken_130 (by decide) ?_
        exact g_iret (pc := 132) C q d_M_taken_132 (hq _ _ hw)
      · replace hw := hw.2 h18
        refine g_iload_n (pc := 104) C d_M_taken_104 2 rfl rfl ?_
        refine g_if_eq (pc := 105) (tgt := 121) C d_M_taken_105 (by decide) (fun h17 => ?_) (fun h17 => ?_)
        · replace hw := hw.1 h17
          refine g_aload_n (pc := 121) C d_M_taken_121 0 rfl rfl ?_
          refine fM_shelfWhich (pc := 122) C lk_M_46 d_M_taken_122 ?_
          refine g_iload_n (pc := 125) C d_M_taken_125 1 rfl rfl ?_
          obtain ⟨h11, hw⟩ := hw
          refine lM_shelfWhich (pc := 126) C d_M_taken_126 (f := M_shelfWhich m_10) rfl (N0 := x1.toNatClampNeg) rfl h11 ?_
          refine g_goto (pc := 127) (tgt := 132) C d_M_taken_127 (by decide) ?_
          exact g_iret (pc := 132) C q d_M_taken_132 (hq _ _ hw)
        · replace hw := hw.2 h17
          refine g_iload_n (pc := 108) C d_M_taken_108 3 rfl rfl ?_
          refine g_iload_n (pc := 109) C d_M_taken_109 2 rfl rfl ?_
          refine g_icmp_eq (pc := 110) (tgt := 121) C d_M_taken_110 (by decide) (fun h16 => ?_) (fun h16 => ?_)
          · replace hw := hw.1 h16
            refine g_aload_n (pc := 121) C d_M_taken_121 0 rfl rfl ?_
            refine fM_shelfWhich (pc := 122) C lk_M_46 d_M_taken_122 ?_
            refine g_iload_n (pc := 125) C d_M_taken_125 1 rfl rfl ?_
            obtain ⟨h12, hw⟩ := hw
            refine lM_shelfWhich (pc := 126) C d_M_taken_126 (f := M_shelfWhich m_10) rfl (N0 := x1.toNatClampNeg) rfl h12 ?_
            refine g_goto (pc := 127) (tgt := 132) C d_M_taken_127 (by decide) ?_
            exact g_iret (pc := 132) C q d_M_taken_132 (hq _ _ hw)
          · replace hw := hw.2 h16
            refine g_iload_n (pc := 113) C d_M_taken_113 3 rfl rfl ?_
            refine k_I0 (pc := 114) (co_S C (c_M_above (xl X) (xD X) (xt X) (xv X) v9 _ hw) mw_M_above lk_M_266 d_M_taken_114 [] rfl (by decide)  rfl rfl ⟨Nat.le_of_ble_eq_true rfl, Nat.le_of_ble_eq_true rfl⟩ ⟨Nat.le_of_ble_eq_true rfl, Nat.le_of_ble_eq_true rfl⟩ (rest := []) rfl rfl (Nat.le_of_ble_eq_true rfl)) (fun v13 hw => ?_)
            refine g_iload_n (pc := 117) C d_M_taken_117 2 rfl rfl ?_
            refine g_icmp_ne (pc := 118) (tgt := 130) C d_M_taken_118 (by decide) (fun h15 => ?_) (fun h15 => ?_)
            · replace hw := hw.2 h15
              refine g_bipush (pc := 130) C (v := (-13)) d_M_taken_130 (by decide) ?_
              exact g_iret (pc := 132) C q d_M_taken_132 (hq _ _ hw)
            · replace hw := hw.1 h15
              refine g_aload_n (pc := 121) C d_M_taken_121 0 rfl rfl ?_
              refine fM_shelfWhich (pc := 122) C lk_M_46 d_M_taken_122 ?_
              refine g_iload_n (pc := 125) C d_M_taken_125 1 rfl rfl ?_
              obtain ⟨h14, hw⟩ := hw
              refine lM_shelfWhich (pc := 126) C d_M_taken_126 (f := M_shelfWhich m_10) rfl (N0 := x1.toNatClampNeg) rfl h14 ?_
              refine g_goto (pc := 127) (tgt := 132) C d_M_taken_127 (by decide) ?_
              exact g_iret (pc := 132) C q d_M_taken_132 (hq _ _ hw)
    · replace hw := hw.1 h22
      refine g_aload_n (pc := 61) C d_M_taken_61 0 rfl rfl ?_
      refine fM_shelfWhich (pc := 62) C lk_M_46 d_M_taken_62 ?_
      refine g_iload_n (pc := 65) C d_M_taken_65 1 rfl rfl ?_
      obtain ⟨h19, hw⟩ := hw
      refine lM_shelfWhich (pc := 66) C d_M_taken_66 (f := M_shelfWhich m_6) rfl (N0 := x1.toNatClampNeg) rfl h19 ?_
      refine g_iload_n (pc := 67) C d_M_taken_67 2 rfl rfl ?_
      refine g_bipush (pc := 68) C (v := 10) d_M_taken_68 (by decide) ?_
      refine g_isub (pc := 70) C d_M_taken_70 ?_
      refine g_icmp_ne (pc := 71) (tgt := 83) C d_M_taken_71 (by decide) (fun h21 => ?_) (fun h21 => ?_)
      · replace hw := hw.2 h21
        refine g_bipush (pc := 83) C (v := (-13)) d_M_taken_83 (by decide) ?_
        exact g_iret (pc := 85) C q d_M_taken_85 (hq _ _ hw)
      · replace hw := hw.1 h21
        refine g_aload_n (pc := 74) C d_M_taken_74 0 rfl rfl ?_
        refine fM_shelfSize (pc := 75) C lk_M_49 d_M_taken_75 ?_
        refine g_iload_n (pc := 78) C d_M_taken_78 1 rfl rfl ?_
        obtain ⟨h20, hw⟩ := hw
        refine lM_shelfSize (pc := 79) C d_M_taken_79 (f := M_shelfSize m_6) rfl (N0 := x1.toNatClampNeg) rfl h20 ?_
        refine g_goto (pc := 80) (tgt := 85) C d_M_taken_80 (by decide) ?_
        exact g_iret (pc := 85) C q d_M_taken_85 (hq _ _ hw)
  · replace hw := hw.2 h23
    refine g_bipush (pc := 48) C (v := (-11)) d_M_taken_48 (by decide) ?_
    exact g_iret (pc := 50) C q d_M_taken_50 (hq _ _ hw)
def wp_M_taken (m : MSt) (x1 : Int32) (x2 : Int32) (post : Int32 → MSt → Prop) : Prop :=
  ∀ y1 : Int64, y1 = x1.toInt64 → (wp_M_in y1 0 3 (fun v2 => ((v2 = 0) → (post (-1) m)) ∧ ((¬ v2 = 0) → (∀ y3 : Int64, y3 = x2.toInt64 → (wp_M_in y3 0 5 (fun v4 => ((v4 = 0) → (∀ y24 : Int64, y24 = x2.toInt64 → (wp_M_in y24 10 13 (fun v25 => ((v25 = 0) → (post (-1) m)) ∧ ((¬ v25 = 0) → (w_M_taken_40  post  m x1 x2)))))) ∧ ((¬ v4 = 0) → (w_M_taken_40  post  m x1 x2))))))))
set_option maxRecDepth 20000 in
theorem g_M_taken {X : GX} (C : GC X b_M_taken R_M 4 (rmd 3)) {Qp : Option Value → va_W → Prop} (q : RC X ((some .int)) Qp 0 0) (a : Nat → Nat) (m : MSt) (x1 : Int32) (x2 : Int32) (post : Int32 → MSt → Prop) (hq : ∀ v c1, post v c1 → Qp (some (.int v)) (woM (xt X) a c1)) (hw : wp_M_taken m x1 x2 post) : G X 0 0 (woM (xt X) a m) [(0, .ref (a 0)), (1, .int x1), (2, .int x2)] [] 0 := by
  unfold wp_M_taken at hw
  refine g_iload_n (pc := 0) C d_M_taken_0 1 rfl rfl ?_
  refine g_i2l (pc := 1) C d_M_taken_1 ?_
  refine g_topl (fun y1 ey1 => ?_)
  replace hw := hw y1 ey1
  refine g_lconst (pc := 2) C (v := 0) d_M_taken_2 (by decide) ?_
  refine g_ldc2_w (pc := 3) C (v := 3) d_M_taken_3 lk_M_98 ?_
  refine k_I0 (pc := 6) (co_S C (c_M_in (xl X) (xD X) (xt X) (xv X) y1 0 3 _ hw) mw_M_in lk_M_58 d_M_taken_6 [] rfl (by decide)  rfl rfl ⟨Nat.le_of_ble_eq_true rfl, Nat.le_of_ble_eq_true rfl⟩ ⟨Nat.le_of_ble_eq_true rfl, Nat.le_of_ble_eq_true rfl⟩ (rest := []) rfl rfl (Nat.le_of_ble_eq_true rfl)) (fun v2 hw => ?_)
  refine g_if_eq (pc := 9) (tgt := 38) C d_M_taken_9 (by decide) (fun h28 => ?_) (fun h28 => ?_)
  · replace hw := hw.1 h28
    refine g_iconst (pc := 38) C (v := (-1)) d_M_taken_38 (by decide) ?_
    exact g_iret (pc := 39) C q d_M_taken_39 (hq _ _ hw)
  · replace hw := hw.2 h28
    refine g_iload_n (pc := 12) C d_M_taken_12 2 rfl rfl ?_
    refine g_i2l (pc := 13) C d_M_taken_13 ?_
    refine g_topl (fun y3 ey3 => ?_)
    replace hw := hw y3 ey3
    refine g_lconst (pc := 14) C (v := 0) d_M_taken_14 (by decide) ?_
    refine g_ldc2_w (pc := 15) C (v := 5) d_M_taken_15 lk_M_109 ?_
    refine k_I0 (pc := 18) (co_S C (c_M_in (xl X) (xD X) (xt X) (xv X) y3 0 5 _ hw) mw_M_in lk_M_58 d_M_taken_18 [] rfl (by decide)  rfl rfl ⟨Nat.le_of_ble_eq_true rfl, Nat.le_of_ble_eq_true rfl⟩ ⟨Nat.le_of_ble_eq_true rfl, Nat.le_of_ble_eq_true rfl⟩ (rest := []) rfl rfl (Nat.le_of_ble_eq_true rfl)) (fun v4 hw => ?_)
    refine g_if_ne (pc := 21) (tgt := 40) C d_M_taken_21 (by decide) (fun h27 => ?_) (fun h27 => ?_)
    · replace hw := hw.2 h27
      exact j_M_taken_40 C q a post hq  m x1 x2 hw
    · replace hw := hw.1 h27
      refine g_iload_n (pc := 24) C d_M_taken_24 2 rfl rfl ?_
      refine g_i2l (pc := 25) C d_M_taken_25 ?_
      refine g_topl (fun y24 ey24 => ?_)
      replace hw := hw y24 ey24
      refine g_ldc2_w (pc := 26) C (v := 10) d_M_taken_26 lk_M_256 ?_
      refine g_ldc2_w (pc := 29) C (v := 13) d_M_taken_29 lk_M_261 ?_
      refine k_I0 (pc := 32) (co_S C (c_M_in (xl X) (xD X) (xt X) (xv X) y24 10 13 _ hw) mw_M_in lk_M_58 d_M_taken_32 [] rfl (by decide)  rfl rfl ⟨Nat.le_of_ble_eq_true rfl, Nat.le_of_ble_eq_true rfl⟩ ⟨Nat.le_of_ble_eq_true rfl, Nat.le_of_ble_eq_true rfl⟩ (rest := []) rfl rfl (Nat.le_of_ble_eq_true rfl)) (fun v25 hw => ?_)
      refine g_if_ne (pc := 35) (tgt := 40) C d_M_taken_35 (by decide) (fun h26 => ?_) (fun h26 => ?_)
      · replace hw := hw.2 h26
        exact j_M_taken_40 C q a post hq  m x1 x2 hw
      · replace hw := hw.1 h26
        refine g_iconst (pc := 38) C (v := (-1)) d_M_taken_38 (by decide) ?_
        exact g_iret (pc := 39) C q d_M_taken_39 (hq _ _ hw)
set_option maxRecDepth 20000 in
theorem c_M_taken (l : Launch) (D : va_G) (t : Nat → ClassId) (ev : Nat → Nat) (a : Nat → Nat) (m : MSt) (x1 : Int32) (x2 : Int32) (post : Int32 → MSt → Prop) (hw : wp_M_taken m x1 x2 post) : Con l D t ev y_M_taken b_M_taken 4 ((some .int)) 3 (woM t a m) [.ref (a 0), .int x1, .int x2] (qI (woM t a)  post) :=
  ConR.of (by decide +kernel) (Nat.le_of_ble_eq_true rfl) (fun X el eD et ee C q _ => by subst el; subst eD; subst et; subst ee; exact g_M_taken C q a m x1 x2 post (fun v c1 h => ⟨⟨v, c1, rfl, rfl, h⟩, rfl⟩) hw)
def wp_M_ran (m : MSt) (x1 : Int32) (post : MSt → Prop) : Prop :=
  ((30 ≤ (M_traceMany m)) → (post m)) ∧ ((¬ 30 ≤ (M_traceMany m)) → ((((M_isParted m) = 0) → (vp_in (M_traceMany m) 30 ∧ (∀ y2 : Int32, y2 = (M_traceMany m) + 1 → (post (M_traceMany_ (M_traced_ m (upd (M_traced m) (M_traceMany m).toNatClampNeg x1)) y2))))) ∧ ((¬ (M_isParted m) = 0) → (post m))))
set_option maxRecDepth 20000 in
theorem g_M_ran {X : GX} (C : GC X b_M_ran R_M 2 (rmd 0)) {Qp : Option Value → va_W → Prop} (q : RC X (none) Qp 0 0) (a : Nat → Nat) (m : MSt) (x1 : Int32) (post : MSt → Prop) (hq : ∀ c1, post c1 → Qp none (woM (xt X) a c1)) (hw : wp_M_ran m x1 post) : G X 0 0 (woM (xt X) a m) [(0, .ref (a 0)), (1, .int x1)] [] 0 := by
  unfold wp_M_ran at hw
  refine g_aload_n (pc := 0) C d_M_ran_0 0 rfl rfl ?_
  refine fM_traceMany (pc := 1) C lk_M_269 d_M_ran_1 (v := M_traceMany m) rfl ?_
  refine g_bipush (pc := 4) C (v := 30) d_M_ran_4 (by decide) ?_
  refine g_icmp_ge (pc := 6) (tgt := 36) C d_M_ran_6 (by decide) (fun h4 => ?_) (fun h4 => ?_)
  · replace hw := hw.1 h4
    exact g_vret (pc := 36) C q d_M_ran_36 (hq m hw)
  · replace hw := hw.2 h4
    refine g_aload_n (pc := 9) C d_M_ran_9 0 rfl rfl ?_
    refine fM_isParted (pc := 10) C lk_M_272 d_M_ran_10 (v := M_isParted m) rfl ?_
    refine g_if_ne (pc := 13) (tgt := 36) C d_M_ran_13 (by decide) (fun h3 => ?_) (fun h3 => ?_)
    · replace hw := hw.2 h3
      exact g_vret (pc := 36) C q d_M_ran_36 (hq m hw)
    · replace hw := hw.1 h3
      refine g_aload_n (pc := 16) C d_M_ran_16 0 rfl rfl ?_
      refine fM_traced (pc := 17) C lk_M_52 d_M_ran_17 ?_
      refine g_aload_n (pc := 20) C d_M_ran_20 0 rfl rfl ?_
      refine fM_traceMany (pc := 21) C lk_M_269 d_M_ran_21 (v := M_traceMany m) rfl ?_
      refine g_iload_n (pc := 24) C d_M_ran_24 1 rfl rfl ?_
      obtain ⟨h1, hw⟩ := hw
      refine sM_traced (pc := 25) C d_M_ran_25 (f := M_traced m) rfl (N0 := (M_traceMany m).toNatClampNeg) rfl h1 ?_
      refine g_aload_n (pc := 26) C d_M_ran_26 0 rfl rfl ?_
      refine g_dup (pc := 27) C d_M_ran_27 rfl ?_
      refine fM_traceMany (pc := 28) C lk_M_269 d_M_ran_28 (v := M_traceMany m) rfl ?_
      refine g_iconst (pc := 31) C (v := 1) d_M_ran_31 (by decide) ?_
      refine g_iadd (pc := 32) C d_M_ran_32 ?_
      refine g_topi (fun y2 ey2 => ?_)
      replace hw := hw y2 ey2
      refine pM_traceMany (pc := 33) C lk_M_269 d_M_ran_33   ?_
      exact g_vret (pc := 36) C q d_M_ran_36 (hq (M_traceMany_ (M_traced_ m (upd (M_traced m) (M_traceMany m).toNatClampNeg x1)) y2) hw)
set_option maxRecDepth 20000 in
theorem c_M_ran (l : Launch) (D : va_G) (t : Nat → ClassId) (ev : Nat → Nat) (a : Nat → Nat) (m : MSt) (x1 : Int32) (post : MSt → Prop) (hw : wp_M_ran m x1 post) : Con l D t ev y_M_ran b_M_ran 2 (none) 0 (woM t a m) [.ref (a 0), .int x1] (qV (woM t a)  post) :=
  ConR.of (by decide +kernel) (Nat.le_of_ble_eq_true rfl) (fun X el eD et ee C q _ => by subst el; subst eD; subst et; subst ee; exact g_M_ran C q a m x1 post (fun c1 h => ⟨⟨c1, rfl, rfl, h⟩, rfl⟩) hw)
def w_M_floatsBy (rc : MSt → Int32 → Int32 → (Int32 → MSt → Prop) → Prop) (m : MSt) (x1 : Int32) (x2 : Int32) (post : Int32 → MSt → Prop) : Prop :=
  ((x1 = 0) → (wp_M_ran m 10 (fun m_1 => ∀ y2 : Int32, y2 = x2 * 3 → (post (y2 + (M_who m_1)) m_1)))) ∧ ((¬ x1 = 0) → (((x1 = 2) → (wp_M_ran m 30 (fun m_3 => rc m_3 0 x2 (fun v4 m_5 => post (v4 + 4) m_5)))) ∧ ((¬ x1 = 2) → (((x1 = 3) → (wp_M_ran m 51 (fun m_6 => rc m_6 1 x2 (fun v7 m_8 => post (v7 - 7) m_8)))) ∧ ((¬ x1 = 3) → (((x1 = 4) → (wp_M_ran m 40 (fun m_9 => rc m_9 2 x2 (fun v10 m_11 => post (v10 * 2) m_11)))) ∧ ((¬ x1 = 4) → (rc m 0 x2 (fun v12 m_13 => post v12 m_13)))))))))
def wp_M_floatsBy : Nat → MSt → Int32 → Int32 → (Int32 → MSt → Prop) → Prop
  | 0, _, _, _, _ => False
  | n + 1, m, x1, x2, post => w_M_floatsBy (wp_M_floatsBy n) m x1 x2 post
set_option maxRecDepth 20000 in
theorem g_M_floatsBy {X : GX} (e0 : Nat) (he0 : 1 ≤ e0) (C : GC X b_M_floatsBy R_M 3 (rmd (e0 + 1))) {Qp : Option Value → va_W → Prop} (q : RC X ((some .int)) Qp 0 0) (a : Nat → Nat) (rc : MSt → Int32 → Int32 → (Int32 → MSt → Prop) → Prop) (hrc : ∀ (m : MSt) (x1 : Int32) (x2 : Int32) (post : Int32 → MSt → Prop), rc m x1 x2 post → Con (xl X) (xD X) (xt X) (xv X) y_M_floatsBy b_M_floatsBy 3 ((some .int)) e0 (woM (xt X) a m) [.ref (a 0), .int x1, .int x2] (qI (woM (xt X) a) post)) (m : MSt) (x1 : Int32) (x2 : Int32) (post : Int32 → MSt → Prop) (hq : ∀ v c1, post v c1 → Qp (some (.int v)) (woM (xt X) a c1)) (hw : w_M_floatsBy rc m x1 x2 post) : G X 0 0 (woM (xt X) a m) [(0, .ref (a 0)), (1, .int x1), (2, .int x2)] [] 0 := by
  unfold w_M_floatsBy at hw
  refine g_iload_n (pc := 0) C d_M_floatsBy_0 1 rfl rfl ?_
  by_cases h14 : x1 = 0
  · replace hw := hw.1 h14
    refine g_tabIn (pc := 1) (tgt := 36) C d_M_floatsBy_1 (by rw [h14]; decide) (by rw [h14]; decide) (off := 35) (by rw [h14]; rfl) (by decide) ?_
    refine g_aload_n (pc := 36) C d_M_floatsBy_36 0 rfl rfl ?_
    refine g_bipush (pc := 37) C (v := 10) d_M_floatsBy_37 (by decide) ?_
    refine k_Va (pc := 39) (co_V C (c_M_ran (xl X) (xD X) (xt X) (xv X) a m 10 _ hw) mw_M_ran lk_M_276 d_M_floatsBy_39 (List.range _) (all_C _) (all_nd _) (rec_w C 0 6 rfl rfl) rfl rfl (rm_o (by omega) (by decide)) ⟨Nat.le_of_ble_eq_true rfl, Nat.le_of_ble_eq_true rfl⟩ (rest := []) rfl rfl (Nat.le_of_ble_eq_true rfl)) (fun m_1 hw => ?_)
    refine g_iload_n (pc := 42) C d_M_floatsBy_42 2 rfl rfl ?_
    refine g_iconst (pc := 43) C (v := 3) d_M_floatsBy_43 (by decide) ?_
    refine g_imul (pc := 44) C d_M_floatsBy_44 ?_
    refine g_topi (fun y2 ey2 => ?_)
    replace hw := hw y2 ey2
    refine g_aload_n (pc := 45) C d_M_floatsBy_45 0 rfl rfl ?_
    refine fM_who (pc := 46) C lk_M_279 d_M_floatsBy_46 (v := M_who m_1) rfl ?_
    refine g_iadd (pc := 49) C d_M_floatsBy_49 ?_
    exact g_iret (pc := 50) C q d_M_floatsBy_50 (hq _ _ hw)
  · replace hw := hw.2 h14
    by_cases h15 : x1 = 2
    · replace hw := hw.1 h15
      refine g_tabIn (pc := 1) (tgt := 51) C d_M_floatsBy_1 (by rw [h15]; decide) (by rw [h15]; decide) (off := 50) (by rw [h15]; rfl) (by decide) ?_
      refine g_aload_n (pc := 51) C d_M_floatsBy_51 0 rfl rfl ?_
      refine g_bipush (pc := 52) C (v := 30) d_M_floatsBy_52 (by decide) ?_
      refine k_Va (pc := 54) (co_V C (c_M_ran (xl X) (xD X) (xt X) (xv X) a m 30 _ hw) mw_M_ran lk_M_276 d_M_floatsBy_54 (List.range _) (all_C _) (all_nd _) (rec_w C 0 6 rfl rfl) rfl rfl (rm_o (by omega) (by decide)) ⟨Nat.le_of_ble_eq_true rfl, Nat.le_of_ble_eq_true rfl⟩ (rest := []) rfl rfl (Nat.le_of_ble_eq_true rfl)) (fun m_3 hw => ?_)
      refine g_aload_n (pc := 57) C d_M_floatsBy_57 0 rfl rfl ?_
      refine g_iconst (pc := 58) C (v := 0) d_M_floatsBy_58 (by decide) ?_
      refine g_iload_n (pc := 59) C d_M_floatsBy_59 2 rfl rfl ?_
      refine k_Ia (pc := 60) (co_V C (hrc m_3 0 x2 _ hw) mw_M_floatsBy lk_M_282 d_M_floatsBy_60 (List.range _) (all_C _) (all_nd _) (rec_w C 0 6 rfl rfl) rfl rfl (rm_s e0 (by decide)) ⟨Nat.le_of_ble_eq_true rfl, Nat.le_of_ble_eq_true rfl⟩ (rest := []) rfl rfl (Nat.le_of_ble_eq_true rfl)) (fun v4 m_5 hw => ?_)
      refine g_iconst (pc := 63) C (v := 4) d_M_floatsBy_63 (by decide) ?_
      refine g_iadd (pc := 64) C d_M_floatsBy_64 ?_
      exact g_iret (pc := 65) C q d_M_floatsBy_65 (hq _ _ hw)
    · replace hw := hw.2 h15
      by_cases h16 : x1 = 3
      · replace hw := hw.1 h16
        refine g_tabIn (pc := 1) (tgt := 81) C d_M_floatsBy_1 (by rw [h16]; decide) (by rw [h16]; decide) (off := 80) (by rw [h16]; rfl) (by decide) ?_
        refine g_aload_n (pc := 81) C d_M_floatsBy_81 0 rfl rfl ?_
        refine g_bipush (pc := 82) C (v := 51) d_M_floatsBy_82 (by decide) ?_
        refine k_Va (pc := 84) (co_V C (c_M_ran (xl X) (xD X) (xt X) (xv X) a m 51 _ hw) mw_M_ran lk_M_276 d_M_floatsBy_84 (List.range _) (all_C _) (all_nd _) (rec_w C 0 6 rfl rfl) rfl rfl (rm_o (by omega) (by decide)) ⟨Nat.le_of_ble_eq_true rfl, Nat.le_of_ble_eq_true rfl⟩ (rest := []) rfl rfl (Nat.le_of_ble_eq_true rfl)) (fun m_6 hw => ?_)
        refine g_aload_n (pc := 87) C d_M_floatsBy_87 0 rfl rfl ?_
        refine g_iconst (pc := 88) C (v := 1) d_M_floatsBy_88 (by decide) ?_
        refine g_iload_n (pc := 89) C d_M_floatsBy_89 2 rfl rfl ?_
        refine k_Ia (pc := 90) (co_V C (hrc m_6 1 x2 _ hw) mw_M_floatsBy lk_M_282 d_M_floatsBy_90 (List.range _) (all_C _) (all_nd _) (rec_w C 0 6 rfl rfl) rfl rfl (rm_s e0 (by decide)) ⟨Nat.le_of_ble_eq_true rfl, Nat.le_of_ble_eq_true rfl⟩ (rest := []) rfl rfl (Nat.le_of_ble_eq_true rfl)) (fun v7 m_8 hw => ?_)
        refine g_bipush (pc := 93) C (v := 7) d_M_floatsBy_93 (by decide) ?_
        refine g_isub (pc := 95) C d_M_floatsBy_95 ?_
        exact g_iret (pc := 96) C q d_M_floatsBy_96 (hq _ _ hw)
      · replace hw := hw.2 h16
        by_cases h17 : x1 = 4
        · replace hw := hw.1 h17
          refine g_tabIn (pc := 1) (tgt := 66) C d_M_floatsBy_1 (by rw [h17]; decide) (by rw [h17]; decide) (off := 65) (by rw [h17]; rfl) (by decide) ?_
          refine g_aload_n (pc := 66) C d_M_floatsBy_66 0 rfl rfl ?_
          refine g_bipush (pc := 67) C (v := 40) d_M_floatsBy_67 (by decide) ?_
          refine k_Va (pc := 69) (co_V C (c_M_ran (xl X) (xD X) (xt X) (xv X) a m 40 _ hw) mw_M_ran lk_M_276 d_M_floatsBy_69 (List.range _) (all_C _) (all_nd _) (rec_w C 0 6 rfl rfl) rfl rfl (rm_o (by omega) (by decide)) ⟨Nat.le_of_ble_eq_true rfl, Nat.le_of_ble_eq_true rfl⟩ (rest := []) rfl rfl (Nat.le_of_ble_eq_true rfl)) (fun m_9 hw => ?_)
          refine g_aload_n (pc := 72) C d_M_floatsBy_72 0 rfl rfl ?_
          refine g_iconst (pc := 73) C (v := 2) d_M_floatsBy_73 (by decide) ?_
          refine g_iload_n (pc := 74) C d_M_floatsBy_74 2 rfl rfl ?_
          refine k_Ia (pc := 75) (co_V C (hrc m_9 2 x2 _ hw) mw_M_floatsBy lk_M_282 d_M_floatsBy_75 (List.range _) (all_C _) (all_nd _) (rec_w C 0 6 rfl rfl) rfl rfl (rm_s e0 (by decide)) ⟨Nat.le_of_ble_eq_true rfl, Nat.le_of_ble_eq_true rfl⟩ (rest := []) rfl rfl (Nat.le_of_ble_eq_true rfl)) (fun v10 m_11 hw => ?_)
          refine g_iconst (pc := 78) C (v := 2) d_M_floatsBy_78 (by decide) ?_
          refine g_imul (pc := 79) C d_M_floatsBy_79 ?_
          exact g_iret (pc := 80) C q d_M_floatsBy_80 (hq _ _ hw)
        · replace hw := hw.2 h17
          have h14_ := sw_ne (v := 0) h14 (by decide)
          have h15_ := sw_ne (v := 2) h15 (by decide)
          have h16_ := sw_ne (v := 3) h16 (by decide)
          have h17_ := sw_ne (v := 4) h17 (by decide)
          have hdf : G X 0 0 (woM (xt X) a m) [(0, .ref (a 0)), (1, .int x1), (2, .int x2)] [] 97 := by
            refine g_aload_n (pc := 97) C d_M_floatsBy_97 0 rfl rfl ?_
            refine g_iconst (pc := 98) C (v := 0) d_M_floatsBy_98 (by decide) ?_
            refine g_iload_n (pc := 99) C d_M_floatsBy_99 2 rfl rfl ?_
            refine k_Ia (pc := 100) (co_V C (hrc m 0 x2 _ hw) mw_M_floatsBy lk_M_282 d_M_floatsBy_100 (List.range _) (all_C _) (all_nd _) (rec_w C 0 6 rfl rfl) rfl rfl (rm_s e0 (by decide)) ⟨Nat.le_of_ble_eq_true rfl, Nat.le_of_ble_eq_true rfl⟩ (rest := []) rfl rfl (Nat.le_of_ble_eq_true rfl)) (fun v12 m_13 hw => ?_)
            exact g_iret (pc := 103) C q d_M_floatsBy_103 (hq _ _ hw)
          by_cases h9 : (x1).toInt < 0 ∨ 4 < (x1).toInt
          · exact g_tabOut (pc := 1) (tgt := 97) C d_M_floatsBy_1 h9 (by decide) hdf
          · have h8 : (x1).toInt = 1 := by omega
            rcases h8 with h8 <;> exact g_tabIn (pc := 1) (tgt := 97) C d_M_floatsBy_1 (by rw [h8]; decide) (by rw [h8]; decide) (off := 96) (by rw [h8]; rfl) (by decide) hdf
set_option maxRecDepth 20000 in
theorem c_M_floatsBy (l : Launch) (D : va_G) (t : Nat → ClassId) (ev : Nat → Nat) (a : Nat → Nat) : ∀ (n : Nat) (m : MSt) (x1 : Int32) (x2 : Int32) (post : Int32 → MSt → Prop), wp_M_floatsBy n m x1 x2 post → Con l D t ev y_M_floatsBy b_M_floatsBy 3 ((some .int)) (1 + n) (woM t a m) [.ref (a 0), .int x1, .int x2] (qI (woM t a) post) := by
  intro n
  induction n with
  | zero => intro m x1 x2 post hw; exact hw.elim
  | succ n ih =>
    intro m x1 x2 post hw
    exact ConR.of (by decide +kernel) (Nat.le_of_ble_eq_true rfl) (fun X el eD et ee C q _ => by subst el; subst eD; subst et; subst ee; exact g_M_floatsBy (1 + n) (by omega) C q a (wp_M_floatsBy n) ih m x1 x2 post (fun v c1 h => ⟨⟨v, c1, rfl, rfl, h⟩, rfl⟩) hw)
def w_M_slopsBy (rc : MSt → Int32 → Int32 → (Int32 → MSt → Prop) → Prop) (m : MSt) (x1 : Int32) (x2 : Int32) (post : Int32 → MSt → Prop) : Prop :=
  ((x1 = 0) → (wp_M_ran m 11 (fun m_1 => wp_M_get m_1 (M_who m_1) 0 (fun v2 m_3 => wp_M_floatsBy 10 m_3 v2 x2 (fun v4 m_5 => wp_M_get m_5 (M_who m_5) 3 (fun v6 m_7 => post (v4 - (v6 * 2)) m_7)))))) ∧ ((¬ x1 = 0) → (((x1 = 1) → (wp_M_ran m 20 (fun m_8 => rc m_8 0 x2 (fun v9 m_10 => post (0 - v9) m_10)))) ∧ ((¬ x1 = 1) → (((x1 = 4) → (wp_M_ran m 41 (fun m_11 => rc m_11 2 x2 (fun v12 m_13 => wp_M_get m_13 (M_who m_13) 0 (fun v14 m_15 => wp_M_get m_15 (M_who m_15) 3 (fun v16 m_17 => wp_M_floatsBy 10 m_17 v14 v16 (fun v18 m_19 => post (v12 + v18) m_19))))))) ∧ ((¬ x1 = 4) → (wp_M_above x1 (fun v20 => rc m v20 x2 (fun v21 m_22 => post v21 m_22))))))))
def wp_M_slopsBy : Nat → MSt → Int32 → Int32 → (Int32 → MSt → Prop) → Prop
  | 0, _, _, _, _ => False
  | n + 1, m, x1, x2, post => w_M_slopsBy (wp_M_slopsBy n) m x1 x2 post
set_option maxRecDepth 20000 in
theorem g_M_slopsBy {X : GX} (e0 : Nat) (he0 : 12 ≤ e0) (C : GC X b_M_slopsBy R_M 4 (rmd (e0 + 1))) {Qp : Option Value → va_W → Prop} (q : RC X ((some .int)) Qp 0 0) (a : Nat → Nat) (rc : MSt → Int32 → Int32 → (Int32 → MSt → Prop) → Prop) (hrc : ∀ (m : MSt) (x1 : Int32) (x2 : Int32) (post : Int32 → MSt → Prop), rc m x1 x2 post → Con (xl X) (xD X) (xt X) (xv X) y_M_slopsBy b_M_slopsBy 4 ((some .int)) e0 (woM (xt X) a m) [.ref (a 0), .int x1, .int x2] (qI (woM (xt X) a) post)) (m : MSt) (x1 : Int32) (x2 : Int32) (post : Int32 → MSt → Prop) (hq : ∀ v c1, post v c1 → Qp (some (.int v)) (woM (xt X) a c1)) (hw : w_M_slopsBy rc m x1 x2 post) : G X 0 0 (woM (xt X) a m) [(0, .ref (a 0)), (1, .int x1), (2, .int x2)] [] 0 := by
  unfold w_M_slopsBy at hw
  refine g_iconst (pc := 0) C (v := 0) d_M_slopsBy_0 (by decide) ?_
  refine g_istore_n (pc := 1) C d_M_slopsBy_1 rfl (Nat.le_of_ble_eq_true rfl) (lv' := [(0, .ref (a 0)), (1, .int x1), (2, .int x2), (3, .int 0)]) rfl ?_
  refine g_iload_n (pc := 2) C d_M_slopsBy_2 1 rfl rfl ?_
  by_cases h23 : x1 = 0
  · replace hw := hw.1 h23
    refine g_tabIn (pc := 3) (tgt := 36) C d_M_slopsBy_3 (by rw [h23]; decide) (by rw [h23]; decide) (off := 33) (by rw [h23]; rfl) (by decide) ?_
    refine g_aload_n (pc := 36) C d_M_slopsBy_36 0 rfl rfl ?_
    refine g_bipush (pc := 37) C (v := 11) d_M_slopsBy_37 (by decide) ?_
    refine k_Va (pc := 39) (co_V C (c_M_ran (xl X) (xD X) (xt X) (xv X) a m 11 _ hw) mw_M_ran lk_M_276 d_M_slopsBy_39 (List.range _) (all_C _) (all_nd _) (rec_w C 0 6 rfl rfl) rfl rfl (rm_o (by omega) (by decide)) ⟨Nat.le_of_ble_eq_true rfl, Nat.le_of_ble_eq_true rfl⟩ (rest := []) rfl rfl (Nat.le_of_ble_eq_true rfl)) (fun m_1 hw => ?_)
    refine g_aload_n (pc := 42) C d_M_slopsBy_42 0 rfl rfl ?_
    refine g_aload_n (pc := 43) C d_M_slopsBy_43 0 rfl rfl ?_
    refine g_aload_n (pc := 44) C d_M_slopsBy_44 0 rfl rfl ?_
    refine fM_who (pc := 45) C lk_M_279 d_M_slopsBy_45 (v := M_who m_1) rfl ?_
    refine g_iconst (pc := 48) C (v := 0) d_M_slopsBy_48 (by decide) ?_
    refine k_Ia (pc := 49) (co_V C (c_M_get (xl X) (xD X) (xt X) (xv X) a m_1 (M_who m_1) 0 _ hw) mw_M_get lk_M_64 d_M_slopsBy_49 (List.range _) (all_C _) (all_nd _) (rec_w C 0 6 rfl rfl) rfl rfl (rm_o (by omega) (by decide)) ⟨Nat.le_of_ble_eq_true rfl, Nat.le_of_ble_eq_true rfl⟩ (rest := [.ref (a 0)]) rfl rfl (Nat.le_of_ble_eq_true rfl)) (fun v2 m_3 hw => ?_)
    refine g_iload_n (pc := 52) C d_M_slopsBy_52 2 rfl rfl ?_
    refine k_Ia (pc := 53) (co_V C (c_M_floatsBy (xl X) (xD X) (xt X) (xv X) a 10 m_3 v2 x2 _ hw) mw_M_floatsBy lk_M_282 d_M_slopsBy_53 (List.range _) (all_C _) (all_nd _) (rec_w C 0 6 rfl rfl) rfl rfl (rm_o (by omega) (by decide)) ⟨Nat.le_of_ble_eq_true rfl, Nat.le_of_ble_eq_true rfl⟩ (rest := []) rfl rfl (Nat.le_of_ble_eq_true rfl)) (fun v4 m_5 hw => ?_)
    refine g_aload_n (pc := 56) C d_M_slopsBy_56 0 rfl rfl ?_
    refine g_aload_n (pc := 57) C d_M_slopsBy_57 0 rfl rfl ?_
    refine fM_who (pc := 58) C lk_M_279 d_M_slopsBy_58 (v := M_who m_5) rfl ?_
    refine g_iconst (pc := 61) C (v := 3) d_M_slopsBy_61 (by decide) ?_
    refine k_Ia (pc := 62) (co_V C (c_M_get (xl X) (xD X) (xt X) (xv X) a m_5 (M_who m_5) 3 _ hw) mw_M_get lk_M_64 d_M_slopsBy_62 (List.range _) (all_C _) (all_nd _) (rec_w C 0 6 rfl rfl) rfl rfl (rm_o (by omega) (by decide)) ⟨Nat.le_of_ble_eq_true rfl, Nat.le_of_ble_eq_true rfl⟩ (rest := [.int v4]) rfl rfl (Nat.le_of_ble_eq_true rfl)) (fun v6 m_7 hw => ?_)
    refine g_iconst (pc := 65) C (v := 2) d_M_slopsBy_65 (by decide) ?_
    refine g_imul (pc := 66) C d_M_slopsBy_66 ?_
    refine g_isub (pc := 67) C d_M_slopsBy_67 ?_
    exact g_iret (pc := 68) C q d_M_slopsBy_68 (hq _ _ hw)
  · replace hw := hw.2 h23
    by_cases h24 : x1 = 1
    · replace hw := hw.1 h24
      refine g_tabIn (pc := 3) (tgt := 69) C d_M_slopsBy_3 (by rw [h24]; decide) (by rw [h24]; decide) (off := 66) (by rw [h24]; rfl) (by decide) ?_
      refine g_aload_n (pc := 69) C d_M_slopsBy_69 0 rfl rfl ?_
      refine g_bipush (pc := 70) C (v := 20) d_M_slopsBy_70 (by decide) ?_
      refine k_Va (pc := 72) (co_V C (c_M_ran (xl X) (xD X) (xt X) (xv X) a m 20 _ hw) mw_M_ran lk_M_276 d_M_slopsBy_72 (List.range _) (all_C _) (all_nd _) (rec_w C 0 6 rfl rfl) rfl rfl (rm_o (by omega) (by decide)) ⟨Nat.le_of_ble_eq_true rfl, Nat.le_of_ble_eq_true rfl⟩ (rest := []) rfl rfl (Nat.le_of_ble_eq_true rfl)) (fun m_8 hw => ?_)
      refine g_iconst (pc := 75) C (v := 0) d_M_slopsBy_75 (by decide) ?_
      refine g_aload_n (pc := 76) C d_M_slopsBy_76 0 rfl rfl ?_
      refine g_iconst (pc := 77) C (v := 0) d_M_slopsBy_77 (by decide) ?_
      refine g_iload_n (pc := 78) C d_M_slopsBy_78 2 rfl rfl ?_
      refine k_Ia (pc := 79) (co_V C (hrc m_8 0 x2 _ hw) mw_M_slopsBy lk_M_285 d_M_slopsBy_79 (List.range _) (all_C _) (all_nd _) (rec_w C 0 6 rfl rfl) rfl rfl (rm_s e0 (by decide)) ⟨Nat.le_of_ble_eq_true rfl, Nat.le_of_ble_eq_true rfl⟩ (rest := [.int 0]) rfl rfl (Nat.le_of_ble_eq_true rfl)) (fun v9 m_10 hw => ?_)
      refine g_isub (pc := 82) C d_M_slopsBy_82 ?_
      exact g_iret (pc := 83) C q d_M_slopsBy_83 (hq _ _ hw)
    · replace hw := hw.2 h24
      by_cases h25 : x1 = 4
      · replace hw := hw.1 h25
        refine g_tabIn (pc := 3) (tgt := 84) C d_M_slopsBy_3 (by rw [h25]; decide) (by rw [h25]; decide) (off := 81) (by rw [h25]; rfl) (by decide) ?_
        refine g_aload_n (pc := 84) C d_M_slopsBy_84 0 rfl rfl ?_
        refine g_bipush (pc := 85) C (v := 41) d_M_slopsBy_85 (by decide) ?_
        refine k_Va (pc := 87) (co_V C (c_M_ran (xl X) (xD X) (xt X) (xv X) a m 41 _ hw) mw_M_ran lk_M_276 d_M_slopsBy_87 (List.range _) (all_C _) (all_nd _) (rec_w C 0 6 rfl rfl) rfl rfl (rm_o (by omega) (by decide)) ⟨Nat.le_of_ble_eq_true rfl, Nat.le_of_ble_eq_true rfl⟩ (rest := []) rfl rfl (Nat.le_of_ble_eq_true rfl)) (fun m_11 hw => ?_)
        refine g_aload_n (pc := 90) C d_M_slopsBy_90 0 rfl rfl ?_
        refine g_iconst (pc := 91) C (v := 2) d_M_slopsBy_91 (by decide) ?_
        refine g_iload_n (pc := 92) C d_M_slopsBy_92 2 rfl rfl ?_
        refine k_Ia (pc := 93) (co_V C (hrc m_11 2 x2 _ hw) mw_M_slopsBy lk_M_285 d_M_slopsBy_93 (List.range _) (all_C _) (all_nd _) (rec_w C 0 6 rfl rfl) rfl rfl (rm_s e0 (by decide)) ⟨Nat.le_of_ble_eq_true rfl, Nat.le_of_ble_eq_true rfl⟩ (rest := []) rfl rfl (Nat.le_of_ble_eq_true rfl)) (fun v12 m_13 hw => ?_)
        refine g_istore_n (pc := 96) C d_M_slopsBy_96 rfl (Nat.le_of_ble_eq_true rfl) (lv' := [(0, .ref (a 0)), (1, .int x1), (2, .int x2), (3, .int v12)]) rfl ?_
        refine g_iload_n (pc := 97) C d_M_slopsBy_97 3 rfl rfl ?_
        refine g_aload_n (pc := 98) C d_M_slopsBy_98 0 rfl rfl ?_
        refine g_aload_n (pc := 99) C d_M_slopsBy_99 0 rfl rfl ?_
        refine g_aload_n (pc := 100) C d_M_slopsBy_100 0 rfl rfl ?_
        refine fM_who (pc := 101) C lk_M_279 d_M_slopsBy_101 (v := M_who m_13) rfl ?_
        refine g_iconst (pc := 104) C (v := 0) d_M_slopsBy_104 (by decide) ?_
        refine k_Ia (pc := 105) (co_V C (c_M_get (xl X) (xD X) (xt X) (xv X) a m_13 (M_who m_13) 0 _ hw) mw_M_get lk_M_64 d_M_slopsBy_105 (List.range _) (all_C _) (all_nd _) (rec_w C 0 6 rfl rfl) rfl rfl (rm_o (by omega) (by decide)) ⟨Nat.le_of_ble_eq_true rfl, Nat.le_of_ble_eq_true rfl⟩ (rest := [.ref (a 0), .int v12]) rfl rfl (Nat.le_of_ble_eq_true rfl)) (fun v14 m_15 hw => ?_)
        refine g_aload_n (pc := 108) C d_M_slopsBy_108 0 rfl rfl ?_
        refine g_aload_n (pc := 109) C d_M_slopsBy_109 0 rfl rfl ?_
        refine fM_who (pc := 110) C lk_M_279 d_M_slopsBy_110 (v := M_who m_15) rfl ?_
        refine g_iconst (pc := 113) C (v := 3) d_M_slopsBy_113 (by decide) ?_
        refine k_Ia (pc := 114) (co_V C (c_M_get (xl X) (xD X) (xt X) (xv X) a m_15 (M_who m_15) 3 _ hw) mw_M_get lk_M_64 d_M_slopsBy_114 (List.range _) (all_C _) (all_nd _) (rec_w C 0 6 rfl rfl) rfl rfl (rm_o (by omega) (by decide)) ⟨Nat.le_of_ble_eq_true rfl, Nat.le_of_ble_eq_true rfl⟩ (rest := [.int v14, .ref (a 0), .int v12]) rfl rfl (Nat.le_of_ble_eq_true rfl)) (fun v16 m_17 hw => ?_)
        refine k_Ia (pc := 117) (co_V C (c_M_floatsBy (xl X) (xD X) (xt X) (xv X) a 10 m_17 v14 v16 _ hw) mw_M_floatsBy lk_M_282 d_M_slopsBy_117 (List.range _) (all_C _) (all_nd _) (rec_w C 0 6 rfl rfl) rfl rfl (rm_o (by omega) (by decide)) ⟨Nat.le_of_ble_eq_true rfl, Nat.le_of_ble_eq_true rfl⟩ (rest := [.int v12]) rfl rfl (Nat.le_of_ble_eq_true rfl)) (fun v18 m_19 hw => ?_)
        refine g_iadd (pc := 120) C d_M_slopsBy_120 ?_
        exact g_iret (pc := 121) C q d_M_slopsBy_121 (hq _ _ hw)
      · replace hw := hw.2 h25
        have h23_ := sw_ne (v := 0) h23 (by decide)
        have h24_ := sw_ne (v := 1) h24 (by decide)
        have h25_ := sw_ne (v := 4) h25 (by decide)
        have hdf : G X 0 0 (woM (xt X) a m) [(0, .ref (a 0)), (1, .int x1), (2, .int x2), (3, .int 0)] [] 122 := by
          refine g_aload_n (pc := 122) C d_M_slopsBy_122 0 rfl rfl ?_
          refine g_iload_n (pc := 123) C d_M_slopsBy_123 1 rfl rfl ?_
          refine k_I0 (pc := 124) (co_S C (c_M_above (xl X) (xD X) (xt X) (xv X) x1 _ hw) mw_M_above lk_M_266 d_M_slopsBy_124 [] rfl (by decide)  rfl rfl (rm_o (by omega) (by decide)) ⟨Nat.le_of_ble_eq_true rfl, Nat.le_of_ble_eq_true rfl⟩ (rest := [.ref (a 0)]) rfl rfl (Nat.le_of_ble_eq_true rfl)) (fun v20 hw => ?_)
          refine g_iload_n (pc := 127) C d_M_slopsBy_127 2 rfl rfl ?_
          refine k_Ia (pc := 128) (co_V C (hrc m v20 x2 _ hw) mw_M_slopsBy lk_M_285 d_M_slopsBy_128 (List.range _) (all_C _) (all_nd _) (rec_w C 0 6 rfl rfl) rfl rfl (rm_s e0 (by decide)) ⟨Nat.le_of_ble_eq_true rfl, Nat.le_of_ble_eq_true rfl⟩ (rest := []) rfl rfl (Nat.le_of_ble_eq_true rfl)) (fun v21 m_22 hw => ?_)
          exact g_iret (pc := 131) C q d_M_slopsBy_131 (hq _ _ hw)
        by_cases h9 : (x1).toInt < 0 ∨ 4 < (x1).toInt
        · exact g_tabOut (pc := 3) (tgt := 122) C d_M_slopsBy_3 h9 (by decide) hdf
        · have h8 : (x1).toInt = 2 ∨ (x1).toInt = 3 := by omega
          rcases h8 with h8 | h8 <;> exact g_tabIn (pc := 3) (tgt := 122) C d_M_slopsBy_3 (by rw [h8]; decide) (by rw [h8]; decide) (off := 119) (by rw [h8]; rfl) (by decide) hdf
set_option maxRecDepth 20000 in
theorem c_M_slopsBy (l : Launch) (D : va_G) (t : Nat → ClassId) (ev : Nat → Nat) (a : Nat → Nat) : ∀ (n : Nat) (m : MSt) (x1 : Int32) (x2 : Int32) (post : Int32 → MSt → Prop), wp_M_slopsBy n m x1 x2 post → Con l D t ev y_M_slopsBy b_M_slopsBy 4 ((some .int)) (12 + n) (woM t a m) [.ref (a 0), .int x1, .int x2] (qI (woM t a) post) := by
  intro n
  induction n with
  | zero => intro m x1 x2 post hw; exact hw.elim
  | succ n ih =>
    intro m x1 x2 post hw
    exact ConR.of (by decide +kernel) (Nat.le_of_ble_eq_true rfl) (fun X el eD et ee C q _ => by subst el; subst eD; subst et; subst ee; exact g_M_slopsBy (12 + n) (by omega) C q a (wp_M_slopsBy n) ih m x1 x2 post (fun v c1 h => ⟨⟨v, c1, rfl, rfl, h⟩, rfl⟩) hw)
def w_M_partsBy_74 (rc : MSt → Int32 → Int32 → (Int32 → MSt → Prop) → Prop)  (post : Int32 → MSt → Prop)  (m : MSt) (x2 : Int32) (x3 : Int32) (s1 : Int32) : Prop :=
  narrow .boolean (.int s1) = .int s1 ∧ (fits .boolean (.int s1) = true ∧ (((x3 = 0) → (post 0 (M_isParted_ m s1))) ∧ ((¬ x3 = 0) → (¬ x3 = 0 ∧ (post (x2 / x3) (M_isParted_ m s1))))))
set_option maxRecDepth 20000 in
theorem j_M_partsBy_74 {X : GX} (e0 : Nat) (he0 : 12 ≤ e0) (C : GC X b_M_partsBy R_M 4 (rmd (e0 + 1))) {Qp : Option Value → va_W → Prop} (q : RC X ((some .int)) Qp 0 0) (a : Nat → Nat) (rc : MSt → Int32 → Int32 → (Int32 → MSt → Prop) → Prop)  (hrc : ∀ (m : MSt) (x1 : Int32) (x2 : Int32) (post : Int32 → MSt → Prop), rc m x1 x2 post → Con (xl X) (xD X) (xt X) (xv X) y_M_partsBy b_M_partsBy 4 ((some .int)) e0 (woM (xt X) a m) [.ref (a 0), .int x1, .int x2] (qI (woM (xt X) a) post)) (post : Int32 → MSt → Prop) (hq : ∀ v c1, post v c1 → Qp (some (.int v)) (woM (xt X) a c1)) : ∀ (m : MSt) (x2 : Int32) (x3 : Int32) (s1 : Int32), w_M_partsBy_74 rc post  m x2 x3 s1 → G X 0 0 (woM (xt X) a m) [(0, .ref (a 0)), (2, .int x2), (3, .int x3)] [.int s1, .ref (a 0)] 74 := by
  intro m x2 x3 s1 hw
  unfold w_M_partsBy_74 at hw
  obtain ⟨h5, h6, hw⟩ := hw
  refine pM_isParted (pc := 74) C lk_M_272 d_M_partsBy_74 h5 h6 ?_
  refine g_iload_n (pc := 77) C d_M_partsBy_77 2 rfl rfl ?_
  refine g_if_ne (pc := 78) (tgt := 85) C d_M_partsBy_78 (by decide) (fun h8 => ?_) (fun h8 => ?_)
  · replace hw := hw.2 h8
    refine g_iload_n (pc := 85) C d_M_partsBy_85 1 rfl rfl ?_
    refine g_iload_n (pc := 86) C d_M_partsBy_86 2 rfl rfl ?_
    obtain ⟨h7, hw⟩ := hw
    refine g_idiv (pc := 87) C d_M_partsBy_87 h7 ?_
    exact g_iret (pc := 88) C q d_M_partsBy_88 (hq _ _ hw)
  · replace hw := hw.1 h8
    refine g_iconst (pc := 81) C (v := 0) d_M_partsBy_81 (by decide) ?_
    refine g_goto (pc := 82) (tgt := 88) C d_M_partsBy_82 (by decide) ?_
    exact g_iret (pc := 88) C q d_M_partsBy_88 (hq _ _ hw)
def w_M_partsBy (rc : MSt → Int32 → Int32 → (Int32 → MSt → Prop) → Prop) (m : MSt) (x1 : Int32) (x2 : Int32) (post : Int32 → MSt → Prop) : Prop :=
  ((x1 = 0) → (wp_M_ran m 12 (fun m_1 => wp_M_get m_1 (M_who m_1) 3 (fun v2 m_3 => ∀ y4 : Int32, y4 = v2 - (M_who m_3) → ((((M_isParted m_3) = 0) → (((y4 = 0) → (w_M_partsBy_74 rc post  m_3 x2 y4 1)) ∧ ((¬ y4 = 0) → (w_M_partsBy_74 rc post  m_3 x2 y4 0)))) ∧ ((¬ (M_isParted m_3) = 0) → (w_M_partsBy_74 rc post  m_3 x2 y4 1))))))) ∧ ((¬ x1 = 0) → (((x1 = 3) → (wp_M_ran m 50 (fun m_11 => wp_M_get m_11 (M_who m_11) 3 (fun v12 m_13 => ∀ y14 : Int32, y14 = x2 + v12 → (rc m_13 1 y14 (fun v15 m_16 => post (v15 ^^^ (M_who m_16)) m_16)))))) ∧ ((¬ x1 = 3) → (((x1 = 5) → (wp_M_ran m 61 (fun m_17 => rc m_17 0 x2 (fun v18 m_19 => wp_M_get m_19 (M_who m_19) 0 (fun v20 m_21 => wp_M_floatsBy 10 m_21 v20 (M_who m_21) (fun v22 m_23 => post (v18 - v22) m_23)))))) ∧ ((¬ x1 = 5) → (wp_M_above x1 (fun v24 => rc m v24 x2 (fun v25 m_26 => post v25 m_26))))))))
def wp_M_partsBy : Nat → MSt → Int32 → Int32 → (Int32 → MSt → Prop) → Prop
  | 0, _, _, _, _ => False
  | n + 1, m, x1, x2, post => w_M_partsBy (wp_M_partsBy n) m x1 x2 post
set_option maxRecDepth 20000 in
theorem g_M_partsBy {X : GX} (e0 : Nat) (he0 : 12 ≤ e0) (C : GC X b_M_partsBy R_M 4 (rmd (e0 + 1))) {Qp : Option Value → va_W → Prop} (q : RC X ((some .int)) Qp 0 0) (a : Nat → Nat) (rc : MSt → Int32 → Int32 → (Int32 → MSt → Prop) → Prop) (hrc : ∀ (m : MSt) (x1 : Int32) (x2 : Int32) (post : Int32 → MSt → Prop), rc m x1 x2 post → Con (xl X) (xD X) (xt X) (xv X) y_M_partsBy b_M_partsBy 4 ((some .int)) e0 (woM (xt X) a m) [.ref (a 0), .int x1, .int x2] (qI (woM (xt X) a) post)) (m : MSt) (x1 : Int32) (x2 : Int32) (post : Int32 → MSt → Prop) (hq : ∀ v c1, post v c1 → Qp (some (.int v)) (woM (xt X) a c1)) (hw : w_M_partsBy rc m x1 x2 post) : G X 0 0 (woM (xt X) a m) [(0, .ref (a 0)), (1, .int x1), (2, .int x2)] [] 0 := by
  unfold w_M_partsBy at hw
  refine g_iconst (pc := 0) C (v := 0) d_M_partsBy_0 (by decide) ?_
  refine g_istore_n (pc := 1) C d_M_partsBy_1 rfl (Nat.le_of_ble_eq_true rfl) (lv' := [(0, .ref (a 0)), (1, .int x1), (2, .int x2), (3, .int 0)]) rfl ?_
  refine g_iload_n (pc := 2) C d_M_partsBy_2 1 rfl rfl ?_
  by_cases h27 : x1 = 0
  · replace hw := hw.1 h27
    refine g_lookup (pc := 3) (tgt := 36) C d_M_partsBy_3 (by decide) (off := 33) (by rw [h27]; rfl) (by decide) ?_
    refine g_aload_n (pc := 36) C d_M_partsBy_36 0 rfl rfl ?_
    refine g_bipush (pc := 37) C (v := 12) d_M_partsBy_37 (by decide) ?_
    refine k_Va (pc := 39) (co_V C (c_M_ran (xl X) (xD X) (xt X) (xv X) a m 12 _ hw) mw_M_ran lk_M_276 d_M_partsBy_39 (List.range _) (all_C _) (all_nd _) (rec_w C 0 6 rfl rfl) rfl rfl (rm_o (by omega) (by decide)) ⟨Nat.le_of_ble_eq_true rfl, Nat.le_of_ble_eq_true rfl⟩ (rest := []) rfl rfl (Nat.le_of_ble_eq_true rfl)) (fun m_1 hw => ?_)
    refine g_aload_n (pc := 42) C d_M_partsBy_42 0 rfl rfl ?_
    refine g_aload_n (pc := 43) C d_M_partsBy_43 0 rfl rfl ?_
    refine fM_who (pc := 44) C lk_M_279 d_M_partsBy_44 (v := M_who m_1) rfl ?_
    refine g_iconst (pc := 47) C (v := 3) d_M_partsBy_47 (by decide) ?_
    refine k_Ia (pc := 48) (co_V C (c_M_get (xl X) (xD X) (xt X) (xv X) a m_1 (M_who m_1) 3 _ hw) mw_M_get lk_M_64 d_M_partsBy_48 (List.range _) (all_C _) (all_nd _) (rec_w C 0 6 rfl rfl) rfl rfl (rm_o (by omega) (by decide)) ⟨Nat.le_of_ble_eq_true rfl, Nat.le_of_ble_eq_true rfl⟩ (rest := []) rfl rfl (Nat.le_of_ble_eq_true rfl)) (fun v2 m_3 hw => ?_)
    refine g_aload_n (pc := 51) C d_M_partsBy_51 0 rfl rfl ?_
    refine fM_who (pc := 52) C lk_M_279 d_M_partsBy_52 (v := M_who m_3) rfl ?_
    refine g_isub (pc := 55) C d_M_partsBy_55 ?_
    refine g_topi (fun y4 ey4 => ?_)
    replace hw := hw y4 ey4
    refine g_istore_n (pc := 56) C d_M_partsBy_56 rfl (Nat.le_of_ble_eq_true rfl) (lv' := [(0, .ref (a 0)), (1, .int x1), (2, .int x2), (3, .int y4)]) rfl ?_
    refine g_aload_n (pc := 57) C d_M_partsBy_57 0 rfl rfl ?_
    refine g_aload_n (pc := 58) C d_M_partsBy_58 0 rfl rfl ?_
    refine fM_isParted (pc := 59) C lk_M_272 d_M_partsBy_59 (v := M_isParted m_3) rfl ?_
    refine g_if_ne (pc := 62) (tgt := 69) C d_M_partsBy_62 (by decide) (fun h10 => ?_) (fun h10 => ?_)
    · replace hw := hw.2 h10
      refine g_iconst (pc := 69) C (v := 1) d_M_partsBy_69 (by decide) ?_
      refine g_goto (pc := 70) (tgt := 74) C d_M_partsBy_70 (by decide) ?_
      refine g_sub [0, 2, 3] (lv' := [(0, .ref (a 0)), (2, .int x2), (3, .int y4)]) rfl ?_
      exact j_M_partsBy_74 e0 he0 C q a rc hrc post hq  m_3 x2 y4 1 hw
    · replace hw := hw.1 h10
      refine g_iload_n (pc := 65) C d_M_partsBy_65 3 rfl rfl ?_
      refine g_if_ne (pc := 66) (tgt := 73) C d_M_partsBy_66 (by decide) (fun h9 => ?_) (fun h9 => ?_)
      · replace hw := hw.2 h9
        refine g_iconst (pc := 73) C (v := 0) d_M_partsBy_73 (by decide) ?_
        refine g_sub [0, 2, 3] (lv' := [(0, .ref (a 0)), (2, .int x2), (3, .int y4)]) rfl ?_
        exact j_M_partsBy_74 e0 he0 C q a rc hrc post hq  m_3 x2 y4 0 hw
      · replace hw := hw.1 h9
        refine g_iconst (pc := 69) C (v := 1) d_M_partsBy_69 (by decide) ?_
        refine g_goto (pc := 70) (tgt := 74) C d_M_partsBy_70 (by decide) ?_
        refine g_sub [0, 2, 3] (lv' := [(0, .ref (a 0)), (2, .int x2), (3, .int y4)]) rfl ?_
        exact j_M_partsBy_74 e0 he0 C q a rc hrc post hq  m_3 x2 y4 1 hw
  · replace hw := hw.2 h27
    by_cases h28 : x1 = 3
    · replace hw := hw.1 h28
      refine g_lookup (pc := 3) (tgt := 89) C d_M_partsBy_3 (by decide) (off := 86) (by rw [h28]; rfl) (by decide) ?_
      refine g_aload_n (pc := 89) C d_M_partsBy_89 0 rfl rfl ?_
      refine g_bipush (pc := 90) C (v := 50) d_M_partsBy_90 (by decide) ?_
      refine k_Va (pc := 92) (co_V C (c_M_ran (xl X) (xD X) (xt X) (xv X) a m 50 _ hw) mw_M_ran lk_M_276 d_M_partsBy_92 (List.range _) (all_C _) (all_nd _) (rec_w C 0 6 rfl rfl) rfl rfl (rm_o (by omega) (by decide)) ⟨Nat.le_of_ble_eq_true rfl, Nat.le_of_ble_eq_true rfl⟩ (rest := []) rfl rfl (Nat.le_of_ble_eq_true rfl)) (fun m_11 hw => ?_)
      refine g_aload_n (pc := 95) C d_M_partsBy_95 0 rfl rfl ?_
      refine g_iconst (pc := 96) C (v := 1) d_M_partsBy_96 (by decide) ?_
      refine g_iload_n (pc := 97) C d_M_partsBy_97 2 rfl rfl ?_
      refine g_aload_n (pc := 98) C d_M_partsBy_98 0 rfl rfl ?_
      refine g_aload_n (pc := 99) C d_M_partsBy_99 0 rfl rfl ?_
      refine fM_who (pc := 100) C lk_M_279 d_M_partsBy_100 (v := M_who m_11) rfl ?_
      refine g_iconst (pc := 103) C (v := 3) d_M_partsBy_103 (by decide) ?_
      refine k_Ia (pc := 104) (co_V C (c_M_get (xl X) (xD X) (xt X) (xv X) a m_11 (M_who m_11) 3 _ hw) mw_M_get lk_M_64 d_M_partsBy_104 (List.range _) (all_C _) (all_nd _) (rec_w C 0 6 rfl rfl) rfl rfl (rm_o (by omega) (by decide)) ⟨Nat.le_of_ble_eq_true rfl, Nat.le_of_ble_eq_true rfl⟩ (rest := [.int x2, .int 1, .ref (a 0)]) rfl rfl (Nat.le_of_ble_eq_true rfl)) (fun v12 m_13 hw => ?_)
      refine g_iadd (pc := 107) C d_M_partsBy_107 ?_
      refine g_topi (fun y14 ey14 => ?_)
      replace hw := hw y14 ey14
      refine k_Ia (pc := 108) (co_V C (hrc m_13 1 y14 _ hw) mw_M_partsBy lk_M_288 d_M_partsBy_108 (List.range _) (all_C _) (all_nd _) (rec_w C 0 6 rfl rfl) rfl rfl (rm_s e0 (by decide)) ⟨Nat.le_of_ble_eq_true rfl, Nat.le_of_ble_eq_true rfl⟩ (rest := []) rfl rfl (Nat.le_of_ble_eq_true rfl)) (fun v15 m_16 hw => ?_)
      refine g_aload_n (pc := 111) C d_M_partsBy_111 0 rfl rfl ?_
      refine fM_who (pc := 112) C lk_M_279 d_M_partsBy_112 (v := M_who m_16) rfl ?_
      refine g_ixor (pc := 115) C d_M_partsBy_115 ?_
      exact g_iret (pc := 116) C q d_M_partsBy_116 (hq _ _ hw)
    · replace hw := hw.2 h28
      by_cases h29 : x1 = 5
      · replace hw := hw.1 h29
        refine g_lookup (pc := 3) (tgt := 117) C d_M_partsBy_3 (by decide) (off := 114) (by rw [h29]; rfl) (by decide) ?_
        refine g_aload_n (pc := 117) C d_M_partsBy_117 0 rfl rfl ?_
        refine g_bipush (pc := 118) C (v := 61) d_M_partsBy_118 (by decide) ?_
        refine k_Va (pc := 120) (co_V C (c_M_ran (xl X) (xD X) (xt X) (xv X) a m 61 _ hw) mw_M_ran lk_M_276 d_M_partsBy_120 (List.range _) (all_C _) (all_nd _) (rec_w C 0 6 rfl rfl) rfl rfl (rm_o (by omega) (by decide)) ⟨Nat.le_of_ble_eq_true rfl, Nat.le_of_ble_eq_true rfl⟩ (rest := []) rfl rfl (Nat.le_of_ble_eq_true rfl)) (fun m_17 hw => ?_)
        refine g_aload_n (pc := 123) C d_M_partsBy_123 0 rfl rfl ?_
        refine g_iconst (pc := 124) C (v := 0) d_M_partsBy_124 (by decide) ?_
        refine g_iload_n (pc := 125) C d_M_partsBy_125 2 rfl rfl ?_
        refine k_Ia (pc := 126) (co_V C (hrc m_17 0 x2 _ hw) mw_M_partsBy lk_M_288 d_M_partsBy_126 (List.range _) (all_C _) (all_nd _) (rec_w C 0 6 rfl rfl) rfl rfl (rm_s e0 (by decide)) ⟨Nat.le_of_ble_eq_true rfl, Nat.le_of_ble_eq_true rfl⟩ (rest := []) rfl rfl (Nat.le_of_ble_eq_true rfl)) (fun v18 m_19 hw => ?_)
        refine g_istore_n (pc := 129) C d_M_partsBy_129 rfl (Nat.le_of_ble_eq_true rfl) (lv' := [(0, .ref (a 0)), (1, .int x1), (2, .int x2), (3, .int v18)]) rfl ?_
        refine g_iload_n (pc := 130) C d_M_partsBy_130 3 rfl rfl ?_
        refine g_aload_n (pc := 131) C d_M_partsBy_131 0 rfl rfl ?_
        refine g_aload_n (pc := 132) C d_M_partsBy_132 0 rfl rfl ?_
        refine g_aload_n (pc := 133) C d_M_partsBy_133 0 rfl rfl ?_
        refine fM_who (pc := 134) C lk_M_279 d_M_partsBy_134 (v := M_who m_19) rfl ?_
        refine g_iconst (pc := 137) C (v := 0) d_M_partsBy_137 (by decide) ?_
        refine k_Ia (pc := 138) (co_V C (c_M_get (xl X) (xD X) (xt X) (xv X) a m_19 (M_who m_19) 0 _ hw) mw_M_get lk_M_64 d_M_partsBy_138 (List.range _) (all_C _) (all_nd _) (rec_w C 0 6 rfl rfl) rfl rfl (rm_o (by omega) (by decide)) ⟨Nat.le_of_ble_eq_true rfl, Nat.le_of_ble_eq_true rfl⟩ (rest := [.ref (a 0), .int v18]) rfl rfl (Nat.le_of_ble_eq_true rfl)) (fun v20 m_21 hw => ?_)
        refine g_aload_n (pc := 141) C d_M_partsBy_141 0 rfl rfl ?_
        refine fM_who (pc := 142) C lk_M_279 d_M_partsBy_142 (v := M_who m_21) rfl ?_
        refine k_Ia (pc := 145) (co_V C (c_M_floatsBy (xl X) (xD X) (xt X) (xv X) a 10 m_21 v20 (M_who m_21) _ hw) mw_M_floatsBy lk_M_282 d_M_partsBy_145 (List.range _) (all_C _) (all_nd _) (rec_w C 0 6 rfl rfl) rfl rfl (rm_o (by omega) (by decide)) ⟨Nat.le_of_ble_eq_true rfl, Nat.le_of_ble_eq_true rfl⟩ (rest := [.int v18]) rfl rfl (Nat.le_of_ble_eq_true rfl)) (fun v22 m_23 hw => ?_)
        refine g_isub (pc := 148) C d_M_partsBy_148 ?_
        exact g_iret (pc := 149) C q d_M_partsBy_149 (hq _ _ hw)
      · replace hw := hw.2 h29
        have h27_ := sw_ne (v := 0) h27 (by decide)
        have h28_ := sw_ne (v := 3) h28 (by decide)
        have h29_ := sw_ne (v := 5) h29 (by decide)
        refine g_lookup (pc := 3) (tgt := 150) C d_M_partsBy_3 (by decide) (off := 147) (by simp [Op.lookupswitch.offset, h27_, h27_.symm, h28_, h28_.symm, h29_, h29_.symm]) (by decide) ?_
        refine g_aload_n (pc := 150) C d_M_partsBy_150 0 rfl rfl ?_
        refine g_iload_n (pc := 151) C d_M_partsBy_151 1 rfl rfl ?_
        refine k_I0 (pc := 152) (co_S C (c_M_above (xl X) (xD X) (xt X) (xv X) x1 _ hw) mw_M_above lk_M_266 d_M_partsBy_152 [] rfl (by decide)  rfl rfl (rm_o (by omega) (by decide)) ⟨Nat.le_of_ble_eq_true rfl, Nat.le_of_ble_eq_true rfl⟩ (rest := [.ref (a 0)]) rfl rfl (Nat.le_of_ble_eq_true rfl)) (fun v24 hw => ?_)
        refine g_iload_n (pc := 155) C d_M_partsBy_155 2 rfl rfl ?_
        refine k_Ia (pc := 156) (co_V C (hrc m v24 x2 _ hw) mw_M_partsBy lk_M_288 d_M_partsBy_156 (List.range _) (all_C _) (all_nd _) (rec_w C 0 6 rfl rfl) rfl rfl (rm_s e0 (by decide)) ⟨Nat.le_of_ble_eq_true rfl, Nat.le_of_ble_eq_true rfl⟩ (rest := []) rfl rfl (Nat.le_of_ble_eq_true rfl)) (fun v25 m_26 hw => ?_)
        exact g_iret (pc := 159) C q d_M_partsBy_159 (hq _ _ hw)
set_option maxRecDepth 20000 in
theorem c_M_partsBy (l : Launch) (D : va_G) (t : Nat → ClassId) (ev : Nat → Nat) (a : Nat → Nat) : ∀ (n : Nat) (m : MSt) (x1 : Int32) (x2 : Int32) (post : Int32 → MSt → Prop), wp_M_partsBy n m x1 x2 post → Con l D t ev y_M_partsBy b_M_partsBy 4 ((some .int)) (12 + n) (woM t a m) [.ref (a 0), .int x1, .int x2] (qI (woM t a) post) := by
  intro n
  induction n with
  | zero => intro m x1 x2 post hw; exact hw.elim
  | succ n ih =>
    intro m x1 x2 post hw
    exact ConR.of (by decide +kernel) (Nat.le_of_ble_eq_true rfl) (fun X el eD et ee C q _ => by subst el; subst eD; subst et; subst ee; exact g_M_partsBy (12 + n) (by omega) C q a (wp_M_partsBy n) ih m x1 x2 post (fun v c1 h => ⟨⟨v, c1, rfl, rfl, h⟩, rfl⟩) hw)
def w_M_landsBy (rc : MSt → Int32 → Int32 → (Int32 → MSt → Prop) → Prop) (m : MSt) (x1 : Int32) (x2 : Int32) (post : Int32 → MSt → Prop) : Prop :=
  ((x1 = 0) → (wp_M_ran m 13 (fun m_1 => wp_M_get m_1 (M_who m_1) 0 (fun v2 m_3 => wp_M_slopsBy 10 m_3 v2 x2 (fun v4 m_5 => post (v4 ^^^ 170) m_5))))) ∧ ((¬ x1 = 0) → (((x1 = 2) → (wp_M_ran m 31 (fun m_6 => rc m_6 0 x2 (fun v7 m_8 => wp_M_get m_8 (M_who m_8) 0 (fun v9 m_10 => wp_M_partsBy 10 m_10 v9 (M_who m_10) (fun v11 m_12 => post (v7 - v11) m_12)))))) ∧ ((¬ x1 = 2) → (((x1 = 5) → (wp_M_ran m 60 (fun m_13 => rc m_13 0 x2 (fun v14 m_15 => post (v14 * 5) m_15)))) ∧ ((¬ x1 = 5) → (wp_M_above x1 (fun v16 => rc m v16 x2 (fun v17 m_18 => post v17 m_18))))))))
def wp_M_landsBy : Nat → MSt → Int32 → Int32 → (Int32 → MSt → Prop) → Prop
  | 0, _, _, _, _ => False
  | n + 1, m, x1, x2, post => w_M_landsBy (wp_M_landsBy n) m x1 x2 post
set_option maxRecDepth 20000 in
theorem g_M_landsBy {X : GX} (e0 : Nat) (he0 : 23 ≤ e0) (C : GC X b_M_landsBy R_M 4 (rmd (e0 + 1))) {Qp : Option Value → va_W → Prop} (q : RC X ((some .int)) Qp 0 0) (a : Nat → Nat) (rc : MSt → Int32 → Int32 → (Int32 → MSt → Prop) → Prop) (hrc : ∀ (m : MSt) (x1 : Int32) (x2 : Int32) (post : Int32 → MSt → Prop), rc m x1 x2 post → Con (xl X) (xD X) (xt X) (xv X) y_M_landsBy b_M_landsBy 4 ((some .int)) e0 (woM (xt X) a m) [.ref (a 0), .int x1, .int x2] (qI (woM (xt X) a) post)) (m : MSt) (x1 : Int32) (x2 : Int32) (post : Int32 → MSt → Prop) (hq : ∀ v c1, post v c1 → Qp (some (.int v)) (woM (xt X) a c1)) (hw : w_M_landsBy rc m x1 x2 post) : G X 0 0 (woM (xt X) a m) [(0, .ref (a 0)), (1, .int x1), (2, .int x2)] [] 0 := by
  unfold w_M_landsBy at hw
  refine g_iconst (pc := 0) C (v := 0) d_M_landsBy_0 (by decide) ?_
  refine g_istore_n (pc := 1) C d_M_landsBy_1 rfl (Nat.le_of_ble_eq_true rfl) (lv' := [(0, .ref (a 0)), (1, .int x1), (2, .int x2), (3, .int 0)]) rfl ?_
  refine g_iload_n (pc := 2) C d_M_landsBy_2 1 rfl rfl ?_
  by_cases h19 : x1 = 0
  · replace hw := hw.1 h19
    refine g_lookup (pc := 3) (tgt := 36) C d_M_landsBy_3 (by decide) (off := 33) (by rw [h19]; rfl) (by decide) ?_
    refine g_aload_n (pc := 36) C d_M_landsBy_36 0 rfl rfl ?_
    refine g_bipush (pc := 37) C (v := 13) d_M_landsBy_37 (by decide) ?_
    refine k_Va (pc := 39) (co_V C (c_M_ran (xl X) (xD X) (xt X) (xv X) a m 13 _ hw) mw_M_ran lk_M_276 d_M_landsBy_39 (List.range _) (all_C _) (all_nd _) (rec_w C 0 6 rfl rfl) rfl rfl (rm_o (by omega) (by decide)) ⟨Nat.le_of_ble_eq_true rfl, Nat.le_of_ble_eq_true rfl⟩ (rest := []) rfl rfl (Nat.le_of_ble_eq_true rfl)) (fun m_1 hw => ?_)
    refine g_aload_n (pc := 42) C d_M_landsBy_42 0 rfl rfl ?_
    refine g_aload_n (pc := 43) C d_M_landsBy_43 0 rfl rfl ?_
    refine g_aload_n (pc := 44) C d_M_landsBy_44 0 rfl rfl ?_
    refine fM_who (pc := 45) C lk_M_279 d_M_landsBy_45 (v := M_who m_1) rfl ?_
    refine g_iconst (pc := 48) C (v := 0) d_M_landsBy_48 (by decide) ?_
    refine k_Ia (pc := 49) (co_V C (c_M_get (xl X) (xD X) (xt X) (xv X) a m_1 (M_who m_1) 0 _ hw) mw_M_get lk_M_64 d_M_landsBy_49 (List.range _) (all_C _) (all_nd _) (rec_w C 0 6 rfl rfl) rfl rfl (rm_o (by omega) (by decide)) ⟨Nat.le_of_ble_eq_true rfl, Nat.le_of_ble_eq_true rfl⟩ (rest := [.ref (a 0)]) rfl rfl (Nat.le_of_ble_eq_true rfl)) (fun v2 m_3 hw => ?_)
    refine g_iload_n (pc := 52) C d_M_landsBy_52 2 rfl rfl ?_
    refine k_Ia (pc := 53) (co_V C (c_M_slopsBy (xl X) (xD X) (xt X) (xv X) a 10 m_3 v2 x2 _ hw) mw_M_slopsBy lk_M_285 d_M_landsBy_53 (List.range _) (all_C _) (all_nd _) (rec_w C 0 6 rfl rfl) rfl rfl (rm_o (by omega) (by decide)) ⟨Nat.le_of_ble_eq_true rfl, Nat.le_of_ble_eq_true rfl⟩ (rest := []) rfl rfl (Nat.le_of_ble_eq_true rfl)) (fun v4 m_5 hw => ?_)
    refine g_sipush (pc := 56) C (v := 170) d_M_landsBy_56 (by decide) ?_
    refine g_ixor (pc := 59) C d_M_landsBy_59 ?_
    exact g_iret (pc := 60) C q d_M_landsBy_60 (hq _ _ hw)
  · replace hw := hw.2 h19
    by_cases h20 : x1 = 2
    · replace hw := hw.1 h20
      refine g_lookup (pc := 3) (tgt := 61) C d_M_landsBy_3 (by decide) (off := 58) (by rw [h20]; rfl) (by decide) ?_
      refine g_aload_n (pc := 61) C d_M_landsBy_61 0 rfl rfl ?_
      refine g_bipush (pc := 62) C (v := 31) d_M_landsBy_62 (by decide) ?_
      refine k_Va (pc := 64) (co_V C (c_M_ran (xl X) (xD X) (xt X) (xv X) a m 31 _ hw) mw_M_ran lk_M_276 d_M_landsBy_64 (List.range _) (all_C _) (all_nd _) (rec_w C 0 6 rfl rfl) rfl rfl (rm_o (by omega) (by decide)) ⟨Nat.le_of_ble_eq_true rfl, Nat.le_of_ble_eq_true rfl⟩ (rest := []) rfl rfl (Nat.le_of_ble_eq_true rfl)) (fun m_6 hw => ?_)
      refine g_aload_n (pc := 67) C d_M_landsBy_67 0 rfl rfl ?_
      refine g_iconst (pc := 68) C (v := 0) d_M_landsBy_68 (by decide) ?_
      refine g_iload_n (pc := 69) C d_M_landsBy_69 2 rfl rfl ?_
      refine k_Ia (pc := 70) (co_V C (hrc m_6 0 x2 _ hw) mw_M_landsBy lk_M_291 d_M_landsBy_70 (List.range _) (all_C _) (all_nd _) (rec_w C 0 6 rfl rfl) rfl rfl (rm_s e0 (by decide)) ⟨Nat.le_of_ble_eq_true rfl, Nat.le_of_ble_eq_true rfl⟩ (rest := []) rfl rfl (Nat.le_of_ble_eq_true rfl)) (fun v7 m_8 hw => ?_)
      refine g_istore_n (pc := 73) C d_M_landsBy_73 rfl (Nat.le_of_ble_eq_true rfl) (lv' := [(0, .ref (a 0)), (1, .int x1), (2, .int x2), (3, .int v7)]) rfl ?_
      refine g_iload_n (pc := 74) C d_M_landsBy_74 3 rfl rfl ?_
      refine g_aload_n (pc := 75) C d_M_landsBy_75 0 rfl rfl ?_
      refine g_aload_n (pc := 76) C d_M_landsBy_76 0 rfl rfl ?_
      refine g_aload_n (pc := 77) C d_M_landsBy_77 0 rfl rfl ?_
      refine fM_who (pc := 78) C lk_M_279 d_M_landsBy_78 (v := M_who m_8) rfl ?_
      refine g_iconst (pc := 81) C (v := 0) d_M_landsBy_81 (by decide) ?_
      refine k_Ia (pc := 82) (co_V C (c_M_get (xl X) (xD X) (xt X) (xv X) a m_8 (M_who m_8) 0 _ hw) mw_M_get lk_M_64 d_M_landsBy_82 (List.range _) (all_C _) (all_nd _) (rec_w C 0 6 rfl rfl) rfl rfl (rm_o (by omega) (by decide)) ⟨Nat.le_of_ble_eq_true rfl, Nat.le_of_ble_eq_true rfl⟩ (rest := [.ref (a 0), .int v7]) rfl rfl (Nat.le_of_ble_eq_true rfl)) (fun v9 m_10 hw => ?_)
      refine g_aload_n (pc := 85) C d_M_landsBy_85 0 rfl rfl ?_
      refine fM_who (pc := 86) C lk_M_279 d_M_landsBy_86 (v := M_who m_10) rfl ?_
      refine k_Ia (pc := 89) (co_V C (c_M_partsBy (xl X) (xD X) (xt X) (xv X) a 10 m_10 v9 (M_who m_10) _ hw) mw_M_partsBy lk_M_288 d_M_landsBy_89 (List.range _) (all_C _) (all_nd _) (rec_w C 0 6 rfl rfl) rfl rfl (rm_o (by omega) (by decide)) ⟨Nat.le_of_ble_eq_true rfl, Nat.le_of_ble_eq_true rfl⟩ (rest := [.int v7]) rfl rfl (Nat.le_of_ble_eq_true rfl)) (fun v11 m_12 hw => ?_)
      refine g_isub (pc := 92) C d_M_landsBy_92 ?_
      exact g_iret (pc := 93) C q d_M_landsBy_93 (hq _ _ hw)
    · replace hw := hw.2 h20
      by_cases h21 : x1 = 5
      · replace hw := hw.1 h21
        refine g_lookup (pc := 3) (tgt := 94) C d_M_landsBy_3 (by decide) (off := 91) (by rw [h21]; rfl) (by decide) ?_
        refine g_aload_n (pc := 94) C d_M_landsBy_94 0 rfl rfl ?_
        refine g_bipush (pc := 95) C (v := 60) d_M_landsBy_95 (by decide) ?_
        refine k_Va (pc := 97) (co_V C (c_M_ran (xl X) (xD X) (xt X) (xv X) a m 60 _ hw) mw_M_ran lk_M_276 d_M_landsBy_97 (List.range _) (all_C _) (all_nd _) (rec_w C 0 6 rfl rfl) rfl rfl (rm_o (by omega) (by decide)) ⟨Nat.le_of_ble_eq_true rfl, Nat.le_of_ble_eq_true rfl⟩ (rest := []) rfl rfl (Nat.le_of_ble_eq_true rfl)) (fun m_13 hw => ?_)
        refine g_aload_n (pc := 100) C d_M_landsBy_100 0 rfl rfl ?_
        refine g_iconst (pc := 101) C (v := 0) d_M_landsBy_101 (by decide) ?_
        refine g_iload_n (pc := 102) C d_M_landsBy_102 2 rfl rfl ?_
        refine k_Ia (pc := 103) (co_V C (hrc m_13 0 x2 _ hw) mw_M_landsBy lk_M_291 d_M_landsBy_103 (List.range _) (all_C _) (all_nd _) (rec_w C 0 6 rfl rfl) rfl rfl (rm_s e0 (by decide)) ⟨Nat.le_of_ble_eq_true rfl, Nat.le_of_ble_eq_true rfl⟩ (rest := []) rfl rfl (Nat.le_of_ble_eq_true rfl)) (fun v14 m_15 hw => ?_)
        refine g_iconst (pc := 106) C (v := 5) d_M_landsBy_106 (by decide) ?_
        refine g_imul (pc := 107) C d_M_landsBy_107 ?_
        exact g_iret (pc := 108) C q d_M_landsBy_108 (hq _ _ hw)
      · replace hw := hw.2 h21
        have h19_ := sw_ne (v := 0) h19 (by decide)
        have h20_ := sw_ne (v := 2) h20 (by decide)
        have h21_ := sw_ne (v := 5) h21 (by decide)
        refine g_lookup (pc := 3) (tgt := 109) C d_M_landsBy_3 (by decide) (off := 106) (by simp [Op.lookupswitch.offset, h19_, h19_.symm, h20_, h20_.symm, h21_, h21_.symm]) (by decide) ?_
        refine g_aload_n (pc := 109) C d_M_landsBy_109 0 rfl rfl ?_
        refine g_iload_n (pc := 110) C d_M_landsBy_110 1 rfl rfl ?_
        refine k_I0 (pc := 111) (co_S C (c_M_above (xl X) (xD X) (xt X) (xv X) x1 _ hw) mw_M_above lk_M_266 d_M_landsBy_111 [] rfl (by decide)  rfl rfl (rm_o (by omega) (by decide)) ⟨Nat.le_of_ble_eq_true rfl, Nat.le_of_ble_eq_true rfl⟩ (rest := [.ref (a 0)]) rfl rfl (Nat.le_of_ble_eq_true rfl)) (fun v16 hw => ?_)
        refine g_iload_n (pc := 114) C d_M_landsBy_114 2 rfl rfl ?_
        refine k_Ia (pc := 115) (co_V C (hrc m v16 x2 _ hw) mw_M_landsBy lk_M_291 d_M_landsBy_115 (List.range _) (all_C _) (all_nd _) (rec_w C 0 6 rfl rfl) rfl rfl (rm_s e0 (by decide)) ⟨Nat.le_of_ble_eq_true rfl, Nat.le_of_ble_eq_true rfl⟩ (rest := []) rfl rfl (Nat.le_of_ble_eq_true rfl)) (fun v17 m_18 hw => ?_)
        exact g_iret (pc := 118) C q d_M_landsBy_118 (hq _ _ hw)
set_option maxRecDepth 20000 in
theorem c_M_landsBy (l : Launch) (D : va_G) (t : Nat → ClassId) (ev : Nat → Nat) (a : Nat → Nat) : ∀ (n : Nat) (m : MSt) (x1 : Int32) (x2 : Int32) (post : Int32 → MSt → Prop), wp_M_landsBy n m x1 x2 post → Con l D t ev y_M_landsBy b_M_landsBy 4 ((some .int)) (23 + n) (woM t a m) [.ref (a 0), .int x1, .int x2] (qI (woM t a) post) := by
  intro n
  induction n with
  | zero => intro m x1 x2 post hw; exact hw.elim
  | succ n ih =>
    intro m x1 x2 post hw
    exact ConR.of (by decide +kernel) (Nat.le_of_ble_eq_true rfl) (fun X el eD et ee C q _ => by subst el; subst eD; subst et; subst ee; exact g_M_landsBy (23 + n) (by omega) C q a (wp_M_landsBy n) ih m x1 x2 post (fun v c1 h => ⟨⟨v, c1, rfl, rfl, h⟩, rfl⟩) hw)
def wp_M_act (m : MSt) (x1 : Int32) (x2 : Int32) (x3 : Int32) (post : Int32 → MSt → Prop) : Prop :=
  ∀ y1 : Int64, y1 = x1.toInt64 → (wp_M_in y1 0 3 (fun v2 => ((v2 = 0) → (post 0 (M_isParted_ (M_traceMany_ m 0) 0))) ∧ ((¬ v2 = 0) → (∀ y3 : Int64, y3 = x2.toInt64 → (wp_M_in y3 0 3 (fun v4 => ((v4 = 0) → (post 0 (M_isParted_ (M_traceMany_ m 0) 0))) ∧ ((¬ v4 = 0) → (wp_M_holdsNothing (M_isParted_ (M_traceMany_ m 0) 0) x1 (fun v5 m_6 => ((v5 = 0) → (vp_in x1 4 ∧ (((((M_shelfHas m_6) x1.toNatClampNeg) = 2) → (post 0 m_6)) ∧ ((¬ ((M_shelfHas m_6) x1.toNatClampNeg) = 2) → (vp_in x1 4 ∧ (wp_M_get (M_who_ m_6 ((M_shelfWhich m_6) x1.toNatClampNeg)) ((M_shelfWhich m_6) x1.toNatClampNeg) 0 (fun v9 m_10 => ((x2 = 0) → (wp_M_floatsBy 10 m_10 v9 x3 (fun v22 m_23 => (((M_isParted m_23) = 0) → (post v22 m_23)) ∧ ((¬ (M_isParted m_23) = 0) → (post (-15) m_23))))) ∧ ((¬ x2 = 0) → (((x2 = 1) → (wp_M_slopsBy 10 m_10 v9 x3 (fun v18 m_19 => (((M_isParted m_19) = 0) → (post v18 m_19)) ∧ ((¬ (M_isParted m_19) = 0) → (post (-15) m_19))))) ∧ ((¬ x2 = 1) → (((x2 = 2) → (wp_M_partsBy 10 m_10 v9 x3 (fun v14 m_15 => (((M_isParted m_15) = 0) → (post v14 m_15)) ∧ ((¬ (M_isParted m_15) = 0) → (post (-15) m_15))))) ∧ ((¬ x2 = 2) → (wp_M_landsBy 10 m_10 v9 x3 (fun v11 m_12 => (((M_isParted m_12) = 0) → (post v11 m_12)) ∧ ((¬ (M_isParted m_12) = 0) → (post (-15) m_12)))))))))))))))) ∧ ((¬ v5 = 0) → (post 0 m_6)))))))))))
set_option maxRecDepth 20000 in
theorem g_M_act {X : GX} (C : GC X b_M_act R_M 6 (rmd 34)) {Qp : Option Value → va_W → Prop} (q : RC X ((some .int)) Qp 0 0) (a : Nat → Nat) (m : MSt) (x1 : Int32) (x2 : Int32) (x3 : Int32) (post : Int32 → MSt → Prop) (hq : ∀ v c1, post v c1 → Qp (some (.int v)) (woM (xt X) a c1)) (hw : wp_M_act m x1 x2 x3 post) : G X 0 0 (woM (xt X) a m) [(0, .ref (a 0)), (1, .int x1), (2, .int x2), (3, .int x3)] [] 0 := by
  unfold wp_M_act at hw
  refine g_aload_n (pc := 0) C d_M_act_0 0 rfl rfl ?_
  refine g_iconst (pc := 1) C (v := 0) d_M_act_1 (by decide) ?_
  refine pM_traceMany (pc := 2) C lk_M_269 d_M_act_2   ?_
  refine g_aload_n (pc := 5) C d_M_act_5 0 rfl rfl ?_
  refine g_iconst (pc := 6) C (v := 0) d_M_act_6 (by decide) ?_
  refine pM_isParted (pc := 7) C lk_M_272 d_M_act_7 (by decide) (by decide) ?_
  refine g_iload_n (pc := 10) C d_M_act_10 1 rfl rfl ?_
  refine g_i2l (pc := 11) C d_M_act_11 ?_
  refine g_topl (fun y1 ey1 => ?_)
  replace hw := hw y1 ey1
  refine g_lconst (pc := 12) C (v := 0) d_M_act_12 (by decide) ?_
  refine g_ldc2_w (pc := 13) C (v := 3) d_M_act_13 lk_M_98 ?_
  refine k_I0 (pc := 16) (co_S C (c_M_in (xl X) (xD X) (xt X) (xv X) y1 0 3 _ hw) mw_M_in lk_M_58 d_M_act_16 [] rfl (by decide)  rfl rfl ⟨Nat.le_of_ble_eq_true rfl, Nat.le_of_ble_eq_true rfl⟩ ⟨Nat.le_of_ble_eq_true rfl, Nat.le_of_ble_eq_true rfl⟩ (rest := []) rfl rfl (Nat.le_of_ble_eq_true rfl)) (fun v2 hw => ?_)
  refine g_if_eq (pc := 19) (tgt := 52) C d_M_act_19 (by decide) (fun h29 => ?_) (fun h29 => ?_)
  · replace hw := hw.1 h29
    refine g_iconst (pc := 52) C (v := 0) d_M_act_52 (by decide) ?_
    exact g_iret (pc := 53) C q d_M_act_53 (hq _ _ hw)
  · replace hw := hw.2 h29
    refine g_iload_n (pc := 22) C d_M_act_22 2 rfl rfl ?_
    refine g_i2l (pc := 23) C d_M_act_23 ?_
    refine g_topl (fun y3 ey3 => ?_)
    replace hw := hw y3 ey3
    refine g_lconst (pc := 24) C (v := 0) d_M_act_24 (by decide) ?_
    refine g_ldc2_w (pc := 25) C (v := 3) d_M_act_25 lk_M_98 ?_
    refine k_I0 (pc := 28) (co_S C (c_M_in (xl X) (xD X) (xt X) (xv X) y3 0 3 _ hw) mw_M_in lk_M_58 d_M_act_28 [] rfl (by decide)  rfl rfl ⟨Nat.le_of_ble_eq_true rfl, Nat.le_of_ble_eq_true rfl⟩ ⟨Nat.le_of_ble_eq_true rfl, Nat.le_of_ble_eq_true rfl⟩ (rest := []) rfl rfl (Nat.le_of_ble_eq_true rfl)) (fun v4 hw => ?_)
    refine g_if_eq (pc := 31) (tgt := 52) C d_M_act_31 (by decide) (fun h28 => ?_) (fun h28 => ?_)
    · replace hw := hw.1 h28
      refine g_iconst (pc := 52) C (v := 0) d_M_act_52 (by decide) ?_
      exact g_iret (pc := 53) C q d_M_act_53 (hq _ _ hw)
    · replace hw := hw.2 h28
      refine g_aload_n (pc := 34) C d_M_act_34 0 rfl rfl ?_
      refine g_iload_n (pc := 35) C d_M_act_35 1 rfl rfl ?_
      refine k_Ia (pc := 36) (co_V C (c_M_holdsNothing (xl X) (xD X) (xt X) (xv X) a (M_isParted_ (M_traceMany_ m 0) 0) x1 _ hw) mw_M_holdsNothing lk_M_263 d_M_act_36 (List.range _) (all_C _) (all_nd _) (rec_w C 0 6 rfl rfl) rfl rfl ⟨Nat.le_of_ble_eq_true rfl, Nat.le_of_ble_eq_true rfl⟩ ⟨Nat.le_of_ble_eq_true rfl, Nat.le_of_ble_eq_true rfl⟩ (rest := []) rfl rfl (Nat.le_of_ble_eq_true rfl)) (fun v5 m_6 hw => ?_)
      refine g_if_ne (pc := 39) (tgt := 52) C d_M_act_39 (by decide) (fun h27 => ?_) (fun h27 => ?_)
      · replace hw := hw.2 h27
        refine g_iconst (pc := 52) C (v := 0) d_M_act_52 (by decide) ?_
        exact g_iret (pc := 53) C q d_M_act_53 (hq _ _ hw)
      · replace hw := hw.1 h27
        refine g_aload_n (pc := 42) C d_M_act_42 0 rfl rfl ?_
        refine fM_shelfHas (pc := 43) C lk_M_43 d_M_act_43 ?_
        refine g_iload_n (pc := 46) C d_M_act_46 1 rfl rfl ?_
        obtain ⟨h7, hw⟩ := hw
        refine lM_shelfHas (pc := 47) C d_M_act_47 (f := M_shelfHas m_6) rfl (N0 := x1.toNatClampNeg) rfl h7 ?_
        refine g_iconst (pc := 48) C (v := 2) d_M_act_48 (by decide) ?_
        refine g_icmp_ne (pc := 49) (tgt := 54) C d_M_act_49 (by decide) (fun h26 => ?_) (fun h26 => ?_)
        · replace hw := hw.2 h26
          refine g_aload_n (pc := 54) C d_M_act_54 0 rfl rfl ?_
          refine g_aload_n (pc := 55) C d_M_act_55 0 rfl rfl ?_
          refine fM_shelfWhich (pc := 56) C lk_M_46 d_M_act_56 ?_
          refine g_iload_n (pc := 59) C d_M_act_59 1 rfl rfl ?_
          obtain ⟨h8, hw⟩ := hw
          refine lM_shelfWhich (pc := 60) C d_M_act_60 (f := M_shelfWhich m_6) rfl (N0 := x1.toNatClampNeg) rfl h8 ?_
          refine pM_who (pc := 61) C lk_M_279 d_M_act_61   ?_
          refine g_aload_n (pc := 64) C d_M_act_64 0 rfl rfl ?_
          refine g_aload_n (pc := 65) C d_M_act_65 0 rfl rfl ?_
          refine fM_who (pc := 66) C lk_M_279 d_M_act_66 (v := (M_shelfWhich m_6) x1.toNatClampNeg) rfl ?_
          refine g_iconst (pc := 69) C (v := 0) d_M_act_69 (by decide) ?_
          refine k_Ia (pc := 70) (co_V C (c_M_get (xl X) (xD X) (xt X) (xv X) a (M_who_ m_6 ((M_shelfWhich m_6) x1.toNatClampNeg)) ((M_shelfWhich m_6) x1.toNatClampNeg) 0 _ hw) mw_M_get lk_M_64 d_M_act_70 (List.range _) (all_C _) (all_nd _) (rec_w C 0 6 rfl rfl) rfl rfl ⟨Nat.le_of_ble_eq_true rfl, Nat.le_of_ble_eq_true rfl⟩ ⟨Nat.le_of_ble_eq_true rfl, Nat.le_of_ble_eq_true rfl⟩ (rest := []) rfl rfl (Nat.le_of_ble_eq_true rfl)) (fun v9 m_10 hw => ?_)
          refine g_istore (pc := 73) C d_M_act_73 (Nat.le_of_ble_eq_true rfl) (lv' := [(0, .ref (a 0)), (1, .int x1), (2, .int x2), (3, .int x3), (4, .int v9)]) rfl ?_
          refine g_iload_n (pc := 75) C d_M_act_75 2 rfl rfl ?_
          refine g_if_ne (pc := 76) (tgt := 89) C d_M_act_76 (by decide) (fun h25 => ?_) (fun h25 => ?_)
          · replace hw := hw.2 h25
            refine g_iload_n (pc := 89) C d_M_act_89 2 rfl rfl ?_
            refine g_iconst (pc := 90) C (v := 1) d_M_act_90 (by decide) ?_
            refine g_icmp_ne (pc := 91) (tgt := 104) C d_M_act_91 (by decide) (fun h21 => ?_) (fun h21 => ?_)
            · replace hw := hw.2 h21
              refine g_iload_n (pc := 104) C d_M_act_104 2 rfl rfl ?_
              refine g_iconst (pc := 105) C (v := 2) d_M_act_105 (by decide) ?_
              refine g_icmp_ne (pc := 106) (tgt := 119) C d_M_act_106 (by decide) (fun h17 => ?_) (fun h17 => ?_)
              · replace hw := hw.2 h17
                refine g_aload_n (pc := 119) C d_M_act_119 0 rfl rfl ?_
                refine g_iload (pc := 120) C d_M_act_120 4 rfl ?_
                refine g_iload_n (pc := 122) C d_M_act_122 3 rfl rfl ?_
                refine k_Ia (pc := 123) (co_V C (c_M_landsBy (xl X) (xD X) (xt X) (xv X) a 10 m_10 v9 x3 _ hw) mw_M_landsBy lk_M_291 d_M_act_123 (List.range _) (all_C _) (all_nd _) (rec_w C 0 6 rfl rfl) rfl rfl ⟨Nat.le_of_ble_eq_true rfl, Nat.le_of_ble_eq_true rfl⟩ ⟨Nat.le_of_ble_eq_true rfl, Nat.le_of_ble_eq_true rfl⟩ (rest := []) rfl rfl (Nat.le_of_ble_eq_true rfl)) (fun v11 m_12 hw => ?_)
                refine g_istore (pc := 126) C d_M_act_126 (Nat.le_of_ble_eq_true rfl) (lv' := [(0, .ref (a 0)), (1, .int x1), (2, .int x2), (3, .int x3), (4, .int v9), (5, .int v11)]) rfl ?_
                refine g_aload_n (pc := 128) C d_M_act_128 0 rfl rfl ?_
                refine fM_isParted (pc := 129) C lk_M_272 d_M_act_129 (v := M_isParted m_12) rfl ?_
                refine g_if_eq (pc := 132) (tgt := 140) C d_M_act_132 (by decide) (fun h13 => ?_) (fun h13 => ?_)
                · replace hw := hw.1 h13
                  refine g_iload (pc := 140) C d_M_act_140 5 rfl ?_
                  exact g_iret (pc := 142) C q d_M_act_142 (hq _ _ hw)
                · replace hw := hw.2 h13
                  refine g_bipush (pc := 135) C (v := (-15)) d_M_act_135 (by decide) ?_
                  refine g_goto (pc := 137) (tgt := 142) C d_M_act_137 (by decide) ?_
                  exact g_iret (pc := 142) C q d_M_act_142 (hq _ _ hw)
              · replace hw := hw.1 h17
                refine g_aload_n (pc := 109) C d_M_act_109 0 rfl rfl ?_
                refine g_iload (pc := 110) C d_M_act_110 4 rfl ?_
                refine g_iload_n (pc := 112) C d_M_act_112 3 rfl rfl ?_
                refine k_Ia (pc := 113) (co_V C (c_M_partsBy (xl X) (xD X) (xt X) (xv X) a 10 m_10 v9 x3 _ hw) mw_M_partsBy lk_M_288 d_M_act_113 (List.range _) (all_C _) (all_nd _) (rec_w C 0 6 rfl rfl) rfl rfl ⟨Nat.le_of_ble_eq_true rfl, Nat.le_of_ble_eq_true rfl⟩ ⟨Nat.le_of_ble_eq_true rfl, Nat.le_of_ble_eq_true rfl⟩ (rest := []) rfl rfl (Nat.le_of_ble_eq_true rfl)) (fun v14 m_15 hw => ?_)
                refine g_goto (pc := 116) (tgt := 126) C d_M_act_116 (by decide) ?_
                refine g_istore (pc := 126) C d_M_act_126 (Nat.le_of_ble_eq_true rfl) (lv' := [(0, .ref (a 0)), (1, .int x1), (2, .int x2), (3, .int x3), (4, .int v9), (5, .int v14)]) rfl ?_
                refine g_aload_n (pc := 128) C d_M_act_128 0 rfl rfl ?_
                refine fM_isParted (pc := 129) C lk_M_272 d_M_act_129 (v := M_isParted m_15) rfl ?_
                refine g_if_eq (pc := 132) (tgt := 140) C d_M_act_132 (by decide) (fun h16 => ?_) (fun h16 => ?_)
                · replace hw := hw.1 h16
                  refine g_iload (pc := 140) C d_M_act_140 5 rfl ?_
                  exact g_iret (pc := 142) C q d_M_act_142 (hq _ _ hw)
                · replace hw := hw.2 h16
                  refine g_bipush (pc := 135) C (v := (-15)) d_M_act_135 (by decide) ?_
                  refine g_goto (pc := 137) (tgt := 142) C d_M_act_137 (by decide) ?_
                  exact g_iret (pc := 142) C q d_M_act_142 (hq _ _ hw)
            · replace hw := hw.1 h21
              refine g_aload_n (pc := 94) C d_M_act_94 0 rfl rfl ?_
              refine g_iload (pc := 95) C d_M_act_95 4 rfl ?_
              refine g_iload_n (pc := 97) C d_M_act_97 3 rfl rfl ?_
              refine k_Ia (pc := 98) (co_V C (c_M_slopsBy (xl X) (xD X) (xt X) (xv X) a 10 m_10 v9 x3 _ hw) mw_M_slopsBy lk_M_285 d_M_act_98 (List.range _) (all_C _) (all_nd _) (rec_w C 0 6 rfl rfl) rfl rfl ⟨Nat.le_of_ble_eq_true rfl, Nat.le_of_ble_eq_true rfl⟩ ⟨Nat.le_of_ble_eq_true rfl, Nat.le_of_ble_eq_true rfl⟩ (rest := []) rfl rfl (Nat.le_of_ble_eq_true rfl)) (fun v18 m_19 hw => ?_)
              refine g_goto (pc := 101) (tgt := 126) C d_M_act_101 (by decide) ?_
              refine g_istore (pc := 126) C d_M_act_126 (Nat.le_of_ble_eq_true rfl) (lv' := [(0, .ref (a 0)), (1, .int x1), (2, .int x2), (3, .int x3), (4, .int v9), (5, .int v18)]) rfl ?_
              refine g_aload_n (pc := 128) C d_M_act_128 0 rfl rfl ?_
              refine fM_isParted (pc := 129) C lk_M_272 d_M_act_129 (v := M_isParted m_19) rfl ?_
              refine g_if_eq (pc := 132) (tgt := 140) C d_M_act_132 (by decide) (fun h20 => ?_) (fun h20 => ?_)
              · replace hw := hw.1 h20
                refine g_iload (pc := 140) C d_M_act_140 5 rfl ?_
                exact g_iret (pc := 142) C q d_M_act_142 (hq _ _ hw)
              · replace hw := hw.2 h20
                refine g_bipush (pc := 135) C (v := (-15)) d_M_act_135 (by decide) ?_
                refine g_goto (pc := 137) (tgt := 142) C d_M_act_137 (by decide) ?_
                exact g_iret (pc := 142) C q d_M_act_142 (hq _ _ hw)
          · replace hw := hw.1 h25
            refine g_aload_n (pc := 79) C d_M_act_79 0 rfl rfl ?_
            refine g_iload (pc := 80) C d_M_act_80 4 rfl ?_
            refine g_iload_n (pc := 82) C d_M_act_82 3 rfl rfl ?_
            refine k_Ia (pc := 83) (co_V C (c_M_floatsBy (xl X) (xD X) (xt X) (xv X) a 10 m_10 v9 x3 _ hw) mw_M_floatsBy lk_M_282 d_M_act_83 (List.range _) (all_C _) (all_nd _) (rec_w C 0 6 rfl rfl) rfl rfl ⟨Nat.le_of_ble_eq_true rfl, Nat.le_of_ble_eq_true rfl⟩ ⟨Nat.le_of_ble_eq_true rfl, Nat.le_of_ble_eq_true rfl⟩ (rest := []) rfl rfl (Nat.le_of_ble_eq_true rfl)) (fun v22 m_23 hw => ?_)
            refine g_goto (pc := 86) (tgt := 126) C d_M_act_86 (by decide) ?_
            refine g_istore (pc := 126) C d_M_act_126 (Nat.le_of_ble_eq_true rfl) (lv' := [(0, .ref (a 0)), (1, .int x1), (2, .int x2), (3, .int x3), (4, .int v9), (5, .int v22)]) rfl ?_
            refine g_aload_n (pc := 128) C d_M_act_128 0 rfl rfl ?_
            refine fM_isParted (pc := 129) C lk_M_272 d_M_act_129 (v := M_isParted m_23) rfl ?_
            refine g_if_eq (pc := 132) (tgt := 140) C d_M_act_132 (by decide) (fun h24 => ?_) (fun h24 => ?_)
            · replace hw := hw.1 h24
              refine g_iload (pc := 140) C d_M_act_140 5 rfl ?_
              exact g_iret (pc := 142) C q d_M_act_142 (hq _ _ hw)
            · replace hw := hw.2 h24
              refine g_bipush (pc := 135) C (v := (-15)) d_M_act_135 (by decide) ?_
              refine g_goto (pc := 137) (tgt := 142) C d_M_act_137 (by decide) ?_
              exact g_iret (pc := 142) C q d_M_act_142 (hq _ _ hw)
        · replace hw := hw.1 h26
          refine g_iconst (pc := 52) C (v := 0) d_M_act_52 (by decide) ?_
          exact g_iret (pc := 53) C q d_M_act_53 (hq _ _ hw)
set_option maxRecDepth 20000 in
theorem c_M_act (l : Launch) (D : va_G) (t : Nat → ClassId) (ev : Nat → Nat) (a : Nat → Nat) (m : MSt) (x1 : Int32) (x2 : Int32) (x3 : Int32) (post : Int32 → MSt → Prop) (hw : wp_M_act m x1 x2 x3 post) : Con l D t ev y_M_act b_M_act 6 ((some .int)) 34 (woM t a m) [.ref (a 0), .int x1, .int x2, .int x3] (qI (woM t a)  post) :=
  ConR.of (by decide +kernel) (Nat.le_of_ble_eq_true rfl) (fun X el eD et ee C q _ => by subst el; subst eD; subst et; subst ee; exact g_M_act C q a m x1 x2 x3 post (fun v c1 h => ⟨⟨v, c1, rfl, rfl, h⟩, rfl⟩) hw)
def wp_M_trace (m : MSt) (x1 : Int32) (post : Int32 → MSt → Prop) : Prop :=
  ∀ y1 : Int64, y1 = x1.toInt64 → (∀ y2 : Int64, y2 = ((M_traceMany m) - 1).toInt64 → (wp_M_in y1 0 y2 (fun v3 => ((v3 = 0) → (post (-3) m)) ∧ ((¬ v3 = 0) → (vp_in x1 30 ∧ (post ((M_traced m) x1.toNatClampNeg) m))))))
set_option maxRecDepth 20000 in
theorem g_M_trace {X : GX} (C : GC X b_M_trace R_M 2 (rmd 1)) {Qp : Option Value → va_W → Prop} (q : RC X ((some .int)) Qp 0 0) (a : Nat → Nat) (m : MSt) (x1 : Int32) (post : Int32 → MSt → Prop) (hq : ∀ v c1, post v c1 → Qp (some (.int v)) (woM (xt X) a c1)) (hw : wp_M_trace m x1 post) : G X 0 0 (woM (xt X) a m) [(0, .ref (a 0)), (1, .int x1)] [] 0 := by
  unfold wp_M_trace at hw
  refine g_iload_n (pc := 0) C d_M_trace_0 1 rfl rfl ?_
  refine g_i2l (pc := 1) C d_M_trace_1 ?_
  refine g_topl (fun y1 ey1 => ?_)
  replace hw := hw y1 ey1
  refine g_lconst (pc := 2) C (v := 0) d_M_trace_2 (by decide) ?_
  refine g_aload_n (pc := 3) C d_M_trace_3 0 rfl rfl ?_
  refine fM_traceMany (pc := 4) C lk_M_269 d_M_trace_4 (v := M_traceMany m) rfl ?_
  refine g_iconst (pc := 7) C (v := 1) d_M_trace_7 (by decide) ?_
  refine g_isub (pc := 8) C d_M_trace_8 ?_
  refine g_i2l (pc := 9) C d_M_trace_9 ?_
  refine g_topl (fun y2 ey2 => ?_)
  replace hw := hw y2 ey2
  refine k_I0 (pc := 10) (co_S C (c_M_in (xl X) (xD X) (xt X) (xv X) y1 0 y2 _ hw) mw_M_in lk_M_58 d_M_trace_10 [] rfl (by decide)  rfl rfl ⟨Nat.le_of_ble_eq_true rfl, Nat.le_of_ble_eq_true rfl⟩ ⟨Nat.le_of_ble_eq_true rfl, Nat.le_of_ble_eq_true rfl⟩ (rest := []) rfl rfl (Nat.le_of_ble_eq_true rfl)) (fun v3 hw => ?_)
  refine g_if_eq (pc := 13) (tgt := 25) C d_M_trace_13 (by decide) (fun h5 => ?_) (fun h5 => ?_)
  · replace hw := hw.1 h5
    refine g_bipush (pc := 25) C (v := (-3)) d_M_trace_25 (by decide) ?_
    exact g_iret (pc := 27) C q d_M_trace_27 (hq _ _ hw)
  · replace hw := hw.2 h5
    refine g_aload_n (pc := 16) C d_M_trace_16 0 rfl rfl ?_
    refine fM_traced (pc := 17) C lk_M_52 d_M_trace_17 ?_
    refine g_iload_n (pc := 20) C d_M_trace_20 1 rfl rfl ?_
    obtain ⟨h4, hw⟩ := hw
    refine lM_traced (pc := 21) C d_M_trace_21 (f := M_traced m) rfl (N0 := x1.toNatClampNeg) rfl h4 ?_
    refine g_goto (pc := 22) (tgt := 27) C d_M_trace_22 (by decide) ?_
    exact g_iret (pc := 27) C q d_M_trace_27 (hq _ _ hw)
set_option maxRecDepth 20000 in
theorem c_M_trace (l : Launch) (D : va_G) (t : Nat → ClassId) (ev : Nat → Nat) (a : Nat → Nat) (m : MSt) (x1 : Int32) (post : Int32 → MSt → Prop) (hw : wp_M_trace m x1 post) : Con l D t ev y_M_trace b_M_trace 2 ((some .int)) 1 (woM t a m) [.ref (a 0), .int x1] (qI (woM t a)  post) :=
  ConR.of (by decide +kernel) (Nat.le_of_ble_eq_true rfl) (fun X el eD et ee C q _ => by subst el; subst eD; subst et; subst ee; exact g_M_trace C q a m x1 post (fun v c1 h => ⟨⟨v, c1, rfl, rfl, h⟩, rfl⟩) hw)
def w_M_spoiltLocks_4  (post : Int32 → MSt → Prop)  : Nat → MSt → Int32 → Int32 → Prop
  | 0, _, _, _ => False
  | n + 1, m, x1, x2 =>
    ((10 ≤ x2) → (post x1 m)) ∧ ((¬ 10 ≤ x2) → (∀ y1 : Int32, y1 = 17 + x2 → (vp_in y1 67 ∧ (((((M_d m) y1.toNatClampNeg) ≤ 0) → (∀ y3 : Int32, y3 = x1 + 0 → (∀ y4 : Int32, y4 = x2 + 1 → (w_M_spoiltLocks_4  post  n m y3 y4)))) ∧ ((¬ ((M_d m) y1.toNatClampNeg) ≤ 0) → (∀ y5 : Int32, y5 = x1 + 1 → (∀ y6 : Int32, y6 = x2 + 1 → (w_M_spoiltLocks_4  post  n m y5 y6))))))))
set_option maxRecDepth 20000 in
theorem j_M_spoiltLocks_4 {X : GX} (C : GC X b_M_spoiltLocks R_M 3 (rmd 0)) {Qp : Option Value → va_W → Prop} (q : RC X ((some .int)) Qp 0 0) (a : Nat → Nat)   (post : Int32 → MSt → Prop) (hq : ∀ v c1, post v c1 → Qp (some (.int v)) (woM (xt X) a c1)) : ∀ (n : Nat) (m : MSt) (x1 : Int32) (x2 : Int32), w_M_spoiltLocks_4  post  n m x1 x2 → G X 0 0 (woM (xt X) a m) [(0, .ref (a 0)), (1, .int x1), (2, .int x2)] [] 4 := by
  intro n
  induction n with
  | zero => intro m x1 x2 hw; exact hw.elim
  | succ n ih =>
    intro m x1 x2 hw
    rw [w_M_spoiltLocks_4] at hw
    refine g_iload_n (pc := 4) C d_M_spoiltLocks_4 2 rfl rfl ?_
    refine g_bipush (pc := 5) C (v := 10) d_M_spoiltLocks_5 (by decide) ?_
    refine g_icmp_ge (pc := 7) (tgt := 36) C d_M_spoiltLocks_7 (by decide) (fun h8 => ?_) (fun h8 => ?_)
    · replace hw := hw.1 h8
      refine g_iload_n (pc := 36) C d_M_spoiltLocks_36 1 rfl rfl ?_
      exact g_iret (pc := 37) C q d_M_spoiltLocks_37 (hq _ _ hw)
    · replace hw := hw.2 h8
      refine g_iload_n (pc := 10) C d_M_spoiltLocks_10 1 rfl rfl ?_
      refine g_aload_n (pc := 11) C d_M_spoiltLocks_11 0 rfl rfl ?_
      refine fM_d (pc := 12) C lk_M_7 d_M_spoiltLocks_12 ?_
      refine g_bipush (pc := 15) C (v := 17) d_M_spoiltLocks_15 (by decide) ?_
      refine g_iload_n (pc := 17) C d_M_spoiltLocks_17 2 rfl rfl ?_
      refine g_iadd (pc := 18) C d_M_spoiltLocks_18 ?_
      refine g_topi (fun y1 ey1 => ?_)
      replace hw := hw y1 ey1
      obtain ⟨h2, hw⟩ := hw
      refine lM_d (pc := 19) C d_M_spoiltLocks_19 (f := M_d m) rfl (N0 := y1.toNatClampNeg) rfl h2 ?_
      refine g_if_le (pc := 20) (tgt := 27) C d_M_spoiltLocks_20 (by decide) (fun h7 => ?_) (fun h7 => ?_)
      · replace hw := hw.1 h7
        refine g_iconst (pc := 27) C (v := 0) d_M_spoiltLocks_27 (by decide) ?_
        refine g_iadd (pc := 28) C d_M_spoiltLocks_28 ?_
        refine g_topi (fun y3 ey3 => ?_)
        replace hw := hw y3 ey3
        refine g_istore_n (pc := 29) C d_M_spoiltLocks_29 rfl (Nat.le_of_ble_eq_true rfl) (lv' := [(0, .ref (a 0)), (1, .int y3), (2, .int x2)]) rfl ?_
        obtain ⟨y4, ey4⟩ : ∃ w, w = x2 + 1 := ⟨_, rfl⟩
        replace hw := hw y4 ey4
        refine g_iinc (pc := 30) C d_M_spoiltLocks_30 2 rfl (v := y4) (by rw [ey4]; rfl) (Nat.le_of_ble_eq_true rfl) (lv' := [(0, .ref (a 0)), (1, .int y3), (2, .int y4)]) rfl ?_
        refine g_goto (pc := 33) (tgt := 4) C d_M_spoiltLocks_33 (by decide) ?_
        exact ih m y3 y4 hw
      · replace hw := hw.2 h7
        refine g_iconst (pc := 23) C (v := 1) d_M_spoiltLocks_23 (by decide) ?_
        refine g_goto (pc := 24) (tgt := 28) C d_M_spoiltLocks_24 (by decide) ?_
        refine g_iadd (pc := 28) C d_M_spoiltLocks_28 ?_
        refine g_topi (fun y5 ey5 => ?_)
        replace hw := hw y5 ey5
        refine g_istore_n (pc := 29) C d_M_spoiltLocks_29 rfl (Nat.le_of_ble_eq_true rfl) (lv' := [(0, .ref (a 0)), (1, .int y5), (2, .int x2)]) rfl ?_
        obtain ⟨y6, ey6⟩ : ∃ w, w = x2 + 1 := ⟨_, rfl⟩
        replace hw := hw y6 ey6
        refine g_iinc (pc := 30) C d_M_spoiltLocks_30 2 rfl (v := y6) (by rw [ey6]; rfl) (Nat.le_of_ble_eq_true rfl) (lv' := [(0, .ref (a 0)), (1, .int y5), (2, .int y6)]) rfl ?_
        refine g_goto (pc := 33) (tgt := 4) C d_M_spoiltLocks_33 (by decide) ?_
        exact ih m y5 y6 hw
def wp_M_spoiltLocks (m : MSt) (post : Int32 → MSt → Prop) : Prop :=
  w_M_spoiltLocks_4  post  2000 m 0 0
set_option maxRecDepth 20000 in
theorem g_M_spoiltLocks {X : GX} (C : GC X b_M_spoiltLocks R_M 3 (rmd 0)) {Qp : Option Value → va_W → Prop} (q : RC X ((some .int)) Qp 0 0) (a : Nat → Nat) (m : MSt) (post : Int32 → MSt → Prop) (hq : ∀ v c1, post v c1 → Qp (some (.int v)) (woM (xt X) a c1)) (hw : wp_M_spoiltLocks m post) : G X 0 0 (woM (xt X) a m) [(0, .ref (a 0))] [] 0 := by
  unfold wp_M_spoiltLocks at hw
  refine g_iconst (pc := 0) C (v := 0) d_M_spoiltLocks_0 (by decide) ?_
  refine g_istore_n (pc := 1) C d_M_spoiltLocks_1 rfl (Nat.le_of_ble_eq_true rfl) (lv' := [(0, .ref (a 0)), (1, .int 0)]) rfl ?_
  refine g_iconst (pc := 2) C (v := 0) d_M_spoiltLocks_2 (by decide) ?_
  refine g_istore_n (pc := 3) C d_M_spoiltLocks_3 rfl (Nat.le_of_ble_eq_true rfl) (lv' := [(0, .ref (a 0)), (1, .int 0), (2, .int 0)]) rfl ?_
  exact j_M_spoiltLocks_4 C q a post hq  2000 m 0 0 hw
set_option maxRecDepth 20000 in
theorem c_M_spoiltLocks (l : Launch) (D : va_G) (t : Nat → ClassId) (ev : Nat → Nat) (a : Nat → Nat) (m : MSt) (post : Int32 → MSt → Prop) (hw : wp_M_spoiltLocks m post) : Con l D t ev y_M_spoiltLocks b_M_spoiltLocks 3 ((some .int)) 0 (woM t a m) [.ref (a 0)] (qI (woM t a)  post) :=
  ConR.of (by decide +kernel) (Nat.le_of_ble_eq_true rfl) (fun X el eD et ee C q _ => by subst el; subst eD; subst et; subst ee; exact g_M_spoiltLocks C q a m post (fun v c1 h => ⟨⟨v, c1, rfl, rfl, h⟩, rfl⟩) hw)
def wp_M_many (m : MSt) (x1 : Int32) (post : Int32 → MSt → Prop) : Prop :=
  ((x1 = 0) → (post ((M_d m) 4) m)) ∧ ((¬ x1 = 0) → (((x1 = 1) → (wp_M_landed m (fun v1 m_2 => wp_M_bits v1 (fun v3 => post v3 m_2)))) ∧ ((¬ x1 = 1) → (((x1 = 2) → (wp_M_places m (fun v4 m_5 => wp_M_bits v4 (fun v6 => post v6 m_5)))) ∧ ((¬ x1 = 2) → (((x1 = 3) → (wp_M_spoiltLocks m (fun v7 m_8 => post v7 m_8))) ∧ ((¬ x1 = 3) → (((x1 = 4) → (post (M_rows m) m)) ∧ ((¬ x1 = 4) → (((x1 = 5) → (post (M_taped m) m)) ∧ ((¬ x1 = 5) → (((x1 = 6) → (post (M_traceMany m) m)) ∧ ((¬ x1 = 6) → (post (-1) m))))))))))))))
set_option maxRecDepth 20000 in
theorem g_M_many {X : GX} (C : GC X b_M_many R_M 2 (rmd 3)) {Qp : Option Value → va_W → Prop} (q : RC X ((some .int)) Qp 0 0) (a : Nat → Nat) (m : MSt) (x1 : Int32) (post : Int32 → MSt → Prop) (hq : ∀ v c1, post v c1 → Qp (some (.int v)) (woM (xt X) a c1)) (hw : wp_M_many m x1 post) : G X 0 0 (woM (xt X) a m) [(0, .ref (a 0)), (1, .int x1)] [] 0 := by
  unfold wp_M_many at hw
  refine g_iload_n (pc := 0) C d_M_many_0 1 rfl rfl ?_
  by_cases h9 : x1 = 0
  · replace hw := hw.1 h9
    refine g_tabIn (pc := 1) (tgt := 44) C d_M_many_1 (by rw [h9]; decide) (by rw [h9]; decide) (off := 43) (by rw [h9]; rfl) (by decide) ?_
    refine g_aload_n (pc := 44) C d_M_many_44 0 rfl rfl ?_
    refine fM_d (pc := 45) C lk_M_7 d_M_many_45 ?_
    refine g_iconst (pc := 48) C (v := 4) d_M_many_48 (by decide) ?_
    refine lM_d (pc := 49) C d_M_many_49 (f := M_d m) rfl (N0 := 4) (by decide) (by unfold vp_in; decide) ?_
    exact g_iret (pc := 50) C q d_M_many_50 (hq _ _ hw)
  · replace hw := hw.2 h9
    by_cases h10 : x1 = 1
    · replace hw := hw.1 h10
      refine g_tabIn (pc := 1) (tgt := 51) C d_M_many_1 (by rw [h10]; decide) (by rw [h10]; decide) (off := 50) (by rw [h10]; rfl) (by decide) ?_
      refine g_aload_n (pc := 51) C d_M_many_51 0 rfl rfl ?_
      refine k_Ia (pc := 52) (co_V C (c_M_landed (xl X) (xD X) (xt X) (xv X) a m _ hw) mw_M_landed lk_M_153 d_M_many_52 (List.range _) (all_C _) (all_nd _) (rec_w C 0 6 rfl rfl) rfl rfl ⟨Nat.le_of_ble_eq_true rfl, Nat.le_of_ble_eq_true rfl⟩ ⟨Nat.le_of_ble_eq_true rfl, Nat.le_of_ble_eq_true rfl⟩ (rest := []) rfl rfl (Nat.le_of_ble_eq_true rfl)) (fun v1 m_2 hw => ?_)
      refine k_I0 (pc := 55) (co_S C (c_M_bits (xl X) (xD X) (xt X) (xv X) v1 _ hw) mw_M_bits lk_M_175 d_M_many_55 [] rfl (by decide)  rfl rfl ⟨Nat.le_of_ble_eq_true rfl, Nat.le_of_ble_eq_true rfl⟩ ⟨Nat.le_of_ble_eq_true rfl, Nat.le_of_ble_eq_true rfl⟩ (rest := []) rfl rfl (Nat.le_of_ble_eq_true rfl)) (fun v3 hw => ?_)
      exact g_iret (pc := 58) C q d_M_many_58 (hq _ _ hw)
    · replace hw := hw.2 h10
      by_cases h11 : x1 = 2
      · replace hw := hw.1 h11
        refine g_tabIn (pc := 1) (tgt := 59) C d_M_many_1 (by rw [h11]; decide) (by rw [h11]; decide) (off := 58) (by rw [h11]; rfl) (by decide) ?_
        refine g_aload_n (pc := 59) C d_M_many_59 0 rfl rfl ?_
        refine k_Ia (pc := 60) (co_V C (c_M_places (xl X) (xD X) (xt X) (xv X) a m _ hw) mw_M_places lk_M_156 d_M_many_60 (List.range _) (all_C _) (all_nd _) (rec_w C 0 6 rfl rfl) rfl rfl ⟨Nat.le_of_ble_eq_true rfl, Nat.le_of_ble_eq_true rfl⟩ ⟨Nat.le_of_ble_eq_true rfl, Nat.le_of_ble_eq_true rfl⟩ (rest := []) rfl rfl (Nat.le_of_ble_eq_true rfl)) (fun v4 m_5 hw => ?_)
        refine k_I0 (pc := 63) (co_S C (c_M_bits (xl X) (xD X) (xt X) (xv X) v4 _ hw) mw_M_bits lk_M_175 d_M_many_63 [] rfl (by decide)  rfl rfl ⟨Nat.le_of_ble_eq_true rfl, Nat.le_of_ble_eq_true rfl⟩ ⟨Nat.le_of_ble_eq_true rfl, Nat.le_of_ble_eq_true rfl⟩ (rest := []) rfl rfl (Nat.le_of_ble_eq_true rfl)) (fun v6 hw => ?_)
        exact g_iret (pc := 66) C q d_M_many_66 (hq _ _ hw)
      · replace hw := hw.2 h11
        by_cases h12 : x1 = 3
        · replace hw := hw.1 h12
          refine g_tabIn (pc := 1) (tgt := 67) C d_M_many_1 (by rw [h12]; decide) (by rw [h12]; decide) (off := 66) (by rw [h12]; rfl) (by decide) ?_
          refine g_aload_n (pc := 67) C d_M_many_67 0 rfl rfl ?_
          refine k_Ia (pc := 68) (co_V C (c_M_spoiltLocks (xl X) (xD X) (xt X) (xv X) a m _ hw) mw_M_spoiltLocks lk_M_294 d_M_many_68 (List.range _) (all_C _) (all_nd _) (rec_w C 0 6 rfl rfl) rfl rfl ⟨Nat.le_of_ble_eq_true rfl, Nat.le_of_ble_eq_true rfl⟩ ⟨Nat.le_of_ble_eq_true rfl, Nat.le_of_ble_eq_true rfl⟩ (rest := []) rfl rfl (Nat.le_of_ble_eq_true rfl)) (fun v7 m_8 hw => ?_)
          exact g_iret (pc := 71) C q d_M_many_71 (hq _ _ hw)
        · replace hw := hw.2 h12
          by_cases h13 : x1 = 4
          · replace hw := hw.1 h13
            refine g_tabIn (pc := 1) (tgt := 72) C d_M_many_1 (by rw [h13]; decide) (by rw [h13]; decide) (off := 71) (by rw [h13]; rfl) (by decide) ?_
            refine g_aload_n (pc := 72) C d_M_many_72 0 rfl rfl ?_
            refine fM_rows (pc := 73) C lk_M_253 d_M_many_73 (v := M_rows m) rfl ?_
            exact g_iret (pc := 76) C q d_M_many_76 (hq _ _ hw)
          · replace hw := hw.2 h13
            by_cases h14 : x1 = 5
            · replace hw := hw.1 h14
              refine g_tabIn (pc := 1) (tgt := 77) C d_M_many_1 (by rw [h14]; decide) (by rw [h14]; decide) (off := 76) (by rw [h14]; rfl) (by decide) ?_
              refine g_aload_n (pc := 77) C d_M_many_77 0 rfl rfl ?_
              refine fM_taped (pc := 78) C lk_M_199 d_M_many_78 (v := M_taped m) rfl ?_
              exact g_iret (pc := 81) C q d_M_many_81 (hq _ _ hw)
            · replace hw := hw.2 h14
              by_cases h15 : x1 = 6
              · replace hw := hw.1 h15
                refine g_tabIn (pc := 1) (tgt := 82) C d_M_many_1 (by rw [h15]; decide) (by rw [h15]; decide) (off := 81) (by rw [h15]; rfl) (by decide) ?_
                refine g_aload_n (pc := 82) C d_M_many_82 0 rfl rfl ?_
                refine fM_traceMany (pc := 83) C lk_M_269 d_M_many_83 (v := M_traceMany m) rfl ?_
                exact g_iret (pc := 86) C q d_M_many_86 (hq _ _ hw)
              · replace hw := hw.2 h15
                have h9_ := sw_ne (v := 0) h9 (by decide)
                have h10_ := sw_ne (v := 1) h10 (by decide)
                have h11_ := sw_ne (v := 2) h11 (by decide)
                have h12_ := sw_ne (v := 3) h12 (by decide)
                have h13_ := sw_ne (v := 4) h13 (by decide)
                have h14_ := sw_ne (v := 5) h14 (by decide)
                have h15_ := sw_ne (v := 6) h15 (by decide)
                refine g_tabOut (pc := 1) (tgt := 87) C d_M_many_1 (by omega) (by decide) ?_
                refine g_iconst (pc := 87) C (v := (-1)) d_M_many_87 (by decide) ?_
                exact g_iret (pc := 88) C q d_M_many_88 (hq _ _ hw)
set_option maxRecDepth 20000 in
theorem c_M_many (l : Launch) (D : va_G) (t : Nat → ClassId) (ev : Nat → Nat) (a : Nat → Nat) (m : MSt) (x1 : Int32) (post : Int32 → MSt → Prop) (hw : wp_M_many m x1 post) : Con l D t ev y_M_many b_M_many 2 ((some .int)) 3 (woM t a m) [.ref (a 0), .int x1] (qI (woM t a)  post) :=
  ConR.of (by decide +kernel) (Nat.le_of_ble_eq_true rfl) (fun X el eD et ee C q _ => by subst el; subst eD; subst et; subst ee; exact g_M_many C q a m x1 post (fun v c1 h => ⟨⟨v, c1, rfl, rfl, h⟩, rfl⟩) hw)
def w_M_keep_2  (post : Int32 → MSt → Prop)  : Nat → MSt → Int32 → Prop
  | 0, _, _ => False
  | n + 1, m, x1 =>
    ((67 ≤ x1) → (post 1 (M_isKept_ m 1))) ∧ ((¬ 67 ≤ x1) → (vp_in x1 67 ∧ (vp_in x1 67 ∧ (∀ y3 : Int32, y3 = x1 + 1 → (w_M_keep_2  post  n (M_kept_ m (upd (M_kept m) x1.toNatClampNeg ((M_d m) x1.toNatClampNeg))) y3)))))
set_option maxRecDepth 20000 in
theorem j_M_keep_2 {X : GX} (C : GC X b_M_keep R_M 2 (rmd 0)) {Qp : Option Value → va_W → Prop} (q : RC X ((some .int)) Qp 0 0) (a : Nat → Nat)   (post : Int32 → MSt → Prop) (hq : ∀ v c1, post v c1 → Qp (some (.int v)) (woM (xt X) a c1)) : ∀ (n : Nat) (m : MSt) (x1 : Int32), w_M_keep_2  post  n m x1 → G X 0 0 (woM (xt X) a m) [(0, .ref (a 0)), (1, .int x1)] [] 2 := by
  intro n
  induction n with
  | zero => intro m x1 hw; exact hw.elim
  | succ n ih =>
    intro m x1 hw
    rw [w_M_keep_2] at hw
    refine g_iload_n (pc := 2) C d_M_keep_2 1 rfl rfl ?_
    refine g_bipush (pc := 3) C (v := 67) d_M_keep_3 (by decide) ?_
    refine g_icmp_ge (pc := 5) (tgt := 26) C d_M_keep_5 (by decide) (fun h4 => ?_) (fun h4 => ?_)
    · replace hw := hw.1 h4
      refine g_aload_n (pc := 26) C d_M_keep_26 0 rfl rfl ?_
      refine g_iconst (pc := 27) C (v := 1) d_M_keep_27 (by decide) ?_
      refine pM_isKept (pc := 28) C lk_M_297 d_M_keep_28 (by decide) (by decide) ?_
      refine g_iconst (pc := 31) C (v := 1) d_M_keep_31 (by decide) ?_
      exact g_iret (pc := 32) C q d_M_keep_32 (hq _ _ hw)
    · replace hw := hw.2 h4
      refine g_aload_n (pc := 8) C d_M_keep_8 0 rfl rfl ?_
      refine fM_kept (pc := 9) C lk_M_16 d_M_keep_9 ?_
      refine g_iload_n (pc := 12) C d_M_keep_12 1 rfl rfl ?_
      refine g_aload_n (pc := 13) C d_M_keep_13 0 rfl rfl ?_
      refine fM_d (pc := 14) C lk_M_7 d_M_keep_14 ?_
      refine g_iload_n (pc := 17) C d_M_keep_17 1 rfl rfl ?_
      obtain ⟨h1, hw⟩ := hw
      refine lM_d (pc := 18) C d_M_keep_18 (f := M_d m) rfl (N0 := x1.toNatClampNeg) rfl h1 ?_
      obtain ⟨h2, hw⟩ := hw
      refine sM_kept (pc := 19) C d_M_keep_19 (f := M_kept m) rfl (N0 := x1.toNatClampNeg) rfl h2 ?_
      obtain ⟨y3, ey3⟩ : ∃ w, w = x1 + 1 := ⟨_, rfl⟩
      replace hw := hw y3 ey3
      refine g_iinc (pc := 20) C d_M_keep_20 1 rfl (v := y3) (by rw [ey3]; rfl) (Nat.le_of_ble_eq_true rfl) (lv' := [(0, .ref (a 0)), (1, .int y3)]) rfl ?_
      refine g_goto (pc := 23) (tgt := 2) C d_M_keep_23 (by decide) ?_
      exact ih (M_kept_ m (upd (M_kept m) x1.toNatClampNeg ((M_d m) x1.toNatClampNeg))) y3 hw
def wp_M_keep (m : MSt) (post : Int32 → MSt → Prop) : Prop :=
  w_M_keep_2  post  2000 m 0
set_option maxRecDepth 20000 in
theorem g_M_keep {X : GX} (C : GC X b_M_keep R_M 2 (rmd 0)) {Qp : Option Value → va_W → Prop} (q : RC X ((some .int)) Qp 0 0) (a : Nat → Nat) (m : MSt) (post : Int32 → MSt → Prop) (hq : ∀ v c1, post v c1 → Qp (some (.int v)) (woM (xt X) a c1)) (hw : wp_M_keep m post) : G X 0 0 (woM (xt X) a m) [(0, .ref (a 0))] [] 0 := by
  unfold wp_M_keep at hw
  refine g_iconst (pc := 0) C (v := 0) d_M_keep_0 (by decide) ?_
  refine g_istore_n (pc := 1) C d_M_keep_1 rfl (Nat.le_of_ble_eq_true rfl) (lv' := [(0, .ref (a 0)), (1, .int 0)]) rfl ?_
  exact j_M_keep_2 C q a post hq  2000 m 0 hw
set_option maxRecDepth 20000 in
theorem c_M_keep (l : Launch) (D : va_G) (t : Nat → ClassId) (ev : Nat → Nat) (a : Nat → Nat) (m : MSt) (post : Int32 → MSt → Prop) (hw : wp_M_keep m post) : Con l D t ev y_M_keep b_M_keep 2 ((some .int)) 0 (woM t a m) [.ref (a 0)] (qI (woM t a)  post) :=
  ConR.of (by decide +kernel) (Nat.le_of_ble_eq_true rfl) (fun X el eD et ee C q _ => by subst el; subst eD; subst et; subst ee; exact g_M_keep C q a m post (fun v c1 h => ⟨⟨v, c1, rfl, rfl, h⟩, rfl⟩) hw)
def w_M_again_12  (post : Int32 → MSt → Prop)  : Nat → MSt → Int32 → Prop
  | 0, _, _ => False
  | n + 1, m, x1 =>
    ((67 ≤ x1) → (post ((M_d m) 4) m)) ∧ ((¬ 67 ≤ x1) → (vp_in x1 67 ∧ (vp_in x1 67 ∧ (∀ y3 : Int32, y3 = x1 + 1 → (w_M_again_12  post  n (M_d_ m (upd (M_d m) x1.toNatClampNeg ((M_kept m) x1.toNatClampNeg))) y3)))))
set_option maxRecDepth 20000 in
theorem j_M_again_12 {X : GX} (C : GC X b_M_again R_M 2 (rmd 0)) {Qp : Option Value → va_W → Prop} (q : RC X ((some .int)) Qp 0 0) (a : Nat → Nat)   (post : Int32 → MSt → Prop) (hq : ∀ v c1, post v c1 → Qp (some (.int v)) (woM (xt X) a c1)) : ∀ (n : Nat) (m : MSt) (x1 : Int32), w_M_again_12  post  n m x1 → G X 0 0 (woM (xt X) a m) [(0, .ref (a 0)), (1, .int x1)] [] 12 := by
  intro n
  induction n with
  | zero => intro m x1 hw; exact hw.elim
  | succ n ih =>
    intro m x1 hw
    rw [w_M_again_12] at hw
    refine g_iload_n (pc := 12) C d_M_again_12 1 rfl rfl ?_
    refine g_bipush (pc := 13) C (v := 67) d_M_again_13 (by decide) ?_
    refine g_icmp_ge (pc := 15) (tgt := 36) C d_M_again_15 (by decide) (fun h4 => ?_) (fun h4 => ?_)
    · replace hw := hw.1 h4
      refine g_aload_n (pc := 36) C d_M_again_36 0 rfl rfl ?_
      refine fM_d (pc := 37) C lk_M_7 d_M_again_37 ?_
      refine g_iconst (pc := 40) C (v := 4) d_M_again_40 (by decide) ?_
      refine lM_d (pc := 41) C d_M_again_41 (f := M_d m) rfl (N0 := 4) (by decide) (by unfold vp_in; decide) ?_
      exact g_iret (pc := 42) C q d_M_again_42 (hq _ _ hw)
    · replace hw := hw.2 h4
      refine g_aload_n (pc := 18) C d_M_again_18 0 rfl rfl ?_
      refine fM_d (pc := 19) C lk_M_7 d_M_again_19 ?_
      refine g_iload_n (pc := 22) C d_M_again_22 1 rfl rfl ?_
      refine g_aload_n (pc := 23) C d_M_again_23 0 rfl rfl ?_
      refine fM_kept (pc := 24) C lk_M_16 d_M_again_24 ?_
      refine g_iload_n (pc := 27) C d_M_again_27 1 rfl rfl ?_
      obtain ⟨h1, hw⟩ := hw
      refine lM_kept (pc := 28) C d_M_again_28 (f := M_kept m) rfl (N0 := x1.toNatClampNeg) rfl h1 ?_
      obtain ⟨h2, hw⟩ := hw
      refine sM_d (pc := 29) C d_M_again_29 (f := M_d m) rfl (N0 := x1.toNatClampNeg) rfl h2 ?_
      obtain ⟨y3, ey3⟩ : ∃ w, w = x1 + 1 := ⟨_, rfl⟩
      replace hw := hw y3 ey3
      refine g_iinc (pc := 30) C d_M_again_30 1 rfl (v := y3) (by rw [ey3]; rfl) (Nat.le_of_ble_eq_true rfl) (lv' := [(0, .ref (a 0)), (1, .int y3)]) rfl ?_
      refine g_goto (pc := 33) (tgt := 12) C d_M_again_33 (by decide) ?_
      exact ih (M_d_ m (upd (M_d m) x1.toNatClampNeg ((M_kept m) x1.toNatClampNeg))) y3 hw
def wp_M_again (m : MSt) (post : Int32 → MSt → Prop) : Prop :=
  (((M_isKept m) = 0) → (post (-3) m)) ∧ ((¬ (M_isKept m) = 0) → (w_M_again_12  post  2000 m 0))
set_option maxRecDepth 20000 in
theorem g_M_again {X : GX} (C : GC X b_M_again R_M 2 (rmd 0)) {Qp : Option Value → va_W → Prop} (q : RC X ((some .int)) Qp 0 0) (a : Nat → Nat) (m : MSt) (post : Int32 → MSt → Prop) (hq : ∀ v c1, post v c1 → Qp (some (.int v)) (woM (xt X) a c1)) (hw : wp_M_again m post) : G X 0 0 (woM (xt X) a m) [(0, .ref (a 0))] [] 0 := by
  unfold wp_M_again at hw
  refine g_aload_n (pc := 0) C d_M_again_0 0 rfl rfl ?_
  refine fM_isKept (pc := 1) C lk_M_297 d_M_again_1 (v := M_isKept m) rfl ?_
  refine g_if_ne (pc := 4) (tgt := 10) C d_M_again_4 (by decide) (fun h5 => ?_) (fun h5 => ?_)
  · replace hw := hw.2 h5
    refine g_iconst (pc := 10) C (v := 0) d_M_again_10 (by decide) ?_
    refine g_istore_n (pc := 11) C d_M_again_11 rfl (Nat.le_of_ble_eq_true rfl) (lv' := [(0, .ref (a 0)), (1, .int 0)]) rfl ?_
    exact j_M_again_12 C q a post hq  2000 m 0 hw
  · replace hw := hw.1 h5
    refine g_bipush (pc := 7) C (v := (-3)) d_M_again_7 (by decide) ?_
    exact g_iret (pc := 9) C q d_M_again_9 (hq _ _ hw)
set_option maxRecDepth 20000 in
theorem c_M_again (l : Launch) (D : va_G) (t : Nat → ClassId) (ev : Nat → Nat) (a : Nat → Nat) (m : MSt) (post : Int32 → MSt → Prop) (hw : wp_M_again m post) : Con l D t ev y_M_again b_M_again 2 ((some .int)) 0 (woM t a m) [.ref (a 0)] (qI (woM t a)  post) :=
  ConR.of (by decide +kernel) (Nat.le_of_ble_eq_true rfl) (fun X el eD et ee C q _ => by subst el; subst eD; subst et; subst ee; exact g_M_again C q a m post (fun v c1 h => ⟨⟨v, c1, rfl, rfl, h⟩, rfl⟩) hw)
