def w_M_hushedFor_66  (post : Int32 → MSt → Prop) (k36 : MSt → Int32 → Int32 → Int32 → Int32 → Prop) : Nat → MSt → Int32 → Int32 → Int32 → Int32 → Int32 → Prop
  | 0, _, _, _, _, _, _ => False
  | n + 1, m, x1, x2, x3, x4, x5 =>
    ((10 ≤ x5) → (wp_M_cargoBehind m x1 (fun v6 m_7 => ((v6 < x2) → (∀ y8 : Int32, y8 = x4 + 1 → (k36 m_7 x1 x2 x3 y8))) ∧ ((¬ v6 < x2) → (∀ y9 : Int32, y9 = x4 + 1 → (k36 m_7 x1 x2 x4 y9)))))) ∧ ((¬ 10 ≤ x5) → (∀ y11 : Int32, y11 = 7 + x5 → (∀ y12 : Int32, y12 = x4 >>> (x5 &&& 31) → (∀ y13 : Int32, y13 = y12 &&& 1 → (((y13 = 1) → (vp_in y11 67 ∧ (∀ y19 : Int32, y19 = x5 + 1 → (w_M_hushedFor_66  post k36 n (M_d_ m (upd (M_d m) y11.toNatClampNeg 0)) x1 x2 x3 x4 y19)))) ∧ ((¬ y13 = 1) → (∀ y14 : Int32, y14 = 7 + x5 → (vp_in y14 67 ∧ (vp_in y11 67 ∧ (∀ y17 : Int32, y17 = x5 + 1 → (w_M_hushedFor_66  post k36 n (M_d_ m (upd (M_d m) y11.toNatClampNeg ((M_d m) y14.toNatClampNeg))) x1 x2 x3 x4 y17)))))))))))
set_option maxRecDepth 20000 in
theorem j_M_hushedFor_66 {X : GX} (C : GC X b_M_hushedFor R_M 6 (rmd 6)) {Qp : Option Value → va_W → Prop} (q : RC X ((some .int)) Qp 0 0) (a : Nat → Nat)   (post : Int32 → MSt → Prop) (hq : ∀ v c1, post v c1 → Qp (some (.int v)) (woM (xt X) a c1)) {k36 : MSt → Int32 → Int32 → Int32 → Int32 → Prop} (hk36 : ∀ (m : MSt) (x1 : Int32) (x2 : Int32) (x3 : Int32) (x4 : Int32), k36 m x1 x2 x3 x4 → G X 0 0 (woM (xt X) a m) [(0, .ref (a 0)), (1, .int x1), (2, .int x2), (3, .int x3), (4, .int x4)] [] 36) : ∀ (n : Nat) (m : MSt) (x1 : Int32) (x2 : Int32) (x3 : Int32) (x4 : Int32) (x5 : Int32), w_M_hushedFor_66  post k36 n m x1 x2 x3 x4 x5 → G X 0 0 (woM (xt X) a m) [(0, .ref (a 0)), (1, .int x1), (2, .int x2), (3, .int x3), (4, .int x4), (5, .int x5)] [] 66 := by
  intro n
  induction n with
  | zero => intro m x1 x2 x3 x4 x5 hw; exact hw.elim
  | succ n ih =>
    intro m x1 x2 x3 x4 x5 hw
    rw [w_M_hushedFor_66] at hw
    refine g_iload (pc := 66) C d_M_hushedFor_66 5 rfl ?_
    refine g_bipush (pc := 68) C (v := 10) d_M_hushedFor_68 (by decide) ?_
    refine g_icmp_ge (pc := 70) (tgt := 114) C d_M_hushedFor_70 (by decide) (fun h21 => ?_) (fun h21 => ?_)
    · replace hw := hw.1 h21
      refine g_aload_n (pc := 114) C d_M_hushedFor_114 0 rfl rfl ?_
      refine g_iload_n (pc := 115) C d_M_hushedFor_115 1 rfl rfl ?_
      refine k_Ia (pc := 116) (co_V C (c_M_cargoBehind (xl X) (xD X) (xt X) (xv X) a m x1 _ hw) mw_M_cargoBehind lk_M_141 d_M_hushedFor_116 (List.range _) (all_C _) (all_nd _) (rec_w C 0 6 rfl rfl) rfl rfl ⟨Nat.le_of_ble_eq_true rfl, Nat.le_of_ble_eq_true rfl⟩ ⟨Nat.le_of_ble_eq_true rfl, Nat.le_of_ble_eq_true rfl⟩ (rest := []) rfl rfl (Nat.le_of_ble_eq_true rfl)) (fun v6 m_7 hw => ?_)
      refine g_iload_n (pc := 119) C d_M_hushedFor_119 2 rfl rfl ?_
      refine g_icmp_lt (pc := 120) (tgt := 128) C d_M_hushedFor_120 (by decide) (fun h10 => ?_) (fun h10 => ?_)
      · replace hw := hw.1 h10
        refine g_iload_n (pc := 128) C d_M_hushedFor_128 3 rfl rfl ?_
        refine g_istore_n (pc := 129) C d_M_hushedFor_129 rfl (Nat.le_of_ble_eq_true rfl) (lv' := [(0, .ref (a 0)), (1, .int x1), (2, .int x2), (3, .int x3), (4, .int x4), (5, .int x5)]) rfl ?_
        obtain ⟨y8, ey8⟩ : ∃ w, w = x4 + 1 := ⟨_, rfl⟩
        replace hw := hw y8 ey8
        refine g_iinc (pc := 130) C d_M_hushedFor_130 4 rfl (v := y8) (by rw [ey8]; rfl) (Nat.le_of_ble_eq_true rfl) (lv' := [(0, .ref (a 0)), (1, .int x1), (2, .int x2), (3, .int x3), (4, .int y8), (5, .int x5)]) rfl ?_
        refine g_goto (pc := 133) (tgt := 36) C d_M_hushedFor_133 (by decide) ?_
        refine g_sub [0, 1, 2, 3, 4] (lv' := [(0, .ref (a 0)), (1, .int x1), (2, .int x2), (3, .int x3), (4, .int y8)]) rfl ?_
        exact hk36 m_7 x1 x2 x3 y8 hw
      · replace hw := hw.2 h10
        refine g_iload (pc := 123) C d_M_hushedFor_123 4 rfl ?_
        refine g_goto (pc := 125) (tgt := 129) C d_M_hushedFor_125 (by decide) ?_
        refine g_istore_n (pc := 129) C d_M_hushedFor_129 rfl (Nat.le_of_ble_eq_true rfl) (lv' := [(0, .ref (a 0)), (1, .int x1), (2, .int x2), (3, .int x4), (4, .int x4), (5, .int x5)]) rfl ?_
        obtain ⟨y9, ey9⟩ : ∃ w, w = x4 + 1 := ⟨_, rfl⟩
        replace hw := hw y9 ey9
        refine g_iinc (pc := 130) C d_M_hushedFor_130 4 rfl (v := y9) (by rw [ey9]; rfl) (Nat.le_of_ble_eq_true rfl) (lv' := [(0, .ref (a 0)), (1, .int x1), (2, .int x2), (3, .int x4), (4, .int y9), (5, .int x5)]) rfl ?_
        refine g_goto (pc := 133) (tgt := 36) C d_M_hushedFor_133 (by decide) ?_
        refine g_sub [0, 1, 2, 3, 4] (lv' := [(0, .ref (a 0)), (1, .int x1), (2, .int x2), (3, .int x4), (4, .int y9)]) rfl ?_
        exact hk36 m_7 x1 x2 x4 y9 hw
    · replace hw := hw.2 h21
      refine g_aload_n (pc := 73) C d_M_hushedFor_73 0 rfl rfl ?_
      refine fM_d (pc := 74) C lk_M_7 d_M_hushedFor_74 ?_
      refine g_bipush (pc := 77) C (v := 7) d_M_hushedFor_77 (by decide) ?_
      refine g_iload (pc := 79) C d_M_hushedFor_79 5 rfl ?_
      refine g_iadd (pc := 81) C d_M_hushedFor_81 ?_
      refine g_topi (fun y11 ey11 => ?_)
      replace hw := hw y11 ey11
      refine g_iload (pc := 82) C d_M_hushedFor_82 4 rfl ?_
      refine g_iload (pc := 84) C d_M_hushedFor_84 5 rfl ?_
      refine g_ishr (pc := 86) C d_M_hushedFor_86 ?_
      refine g_topi (fun y12 ey12 => ?_)
      replace hw := hw y12 ey12
      refine g_iconst (pc := 87) C (v := 1) d_M_hushedFor_87 (by decide) ?_
      refine g_iand (pc := 88) C d_M_hushedFor_88 ?_
      refine g_topi (fun y13 ey13 => ?_)
      replace hw := hw y13 ey13
      refine g_iconst (pc := 89) C (v := 1) d_M_hushedFor_89 (by decide) ?_
      refine g_icmp_ne (pc := 90) (tgt := 97) C d_M_hushedFor_90 (by decide) (fun h20 => ?_) (fun h20 => ?_)
      · replace hw := hw.2 h20
        refine g_aload_n (pc := 97) C d_M_hushedFor_97 0 rfl rfl ?_
        refine fM_d (pc := 98) C lk_M_7 d_M_hushedFor_98 ?_
        refine g_bipush (pc := 101) C (v := 7) d_M_hushedFor_101 (by decide) ?_
        refine g_iload (pc := 103) C d_M_hushedFor_103 5 rfl ?_
        refine g_iadd (pc := 105) C d_M_hushedFor_105 ?_
        refine g_topi (fun y14 ey14 => ?_)
        replace hw := hw y14 ey14
        obtain ⟨h15, hw⟩ := hw
        refine lM_d (pc := 106) C d_M_hushedFor_106 (f := M_d m) rfl (N0 := y14.toNatClampNeg) rfl h15 ?_
        obtain ⟨h16, hw⟩ := hw
        refine sM_d (pc := 107) C d_M_hushedFor_107 (f := M_d m) rfl (N0 := y11.toNatClampNeg) rfl h16 ?_
        obtain ⟨y17, ey17⟩ : ∃ w, w = x5 + 1 := ⟨_, rfl⟩
        replace hw := hw y17 ey17
        refine g_iinc (pc := 108) C d_M_hushedFor_108 5 rfl (v := y17) (by rw [ey17]; rfl) (Nat.le_of_ble_eq_true rfl) (lv' := [(0, .ref (a 0)), (1, .int x1), (2, .int x2), (3, .int x3), (4, .int x4), (5, .int y17)]) rfl ?_
        refine g_goto (pc := 111) (tgt := 66) C d_M_hushedFor_111 (by decide) ?_
        exact ih (M_d_ m (upd (M_d m) y11.toNatClampNeg ((M_d m) y14.toNatClampNeg))) x1 x2 x3 x4 y17 hw
      · replace hw := hw.1 h20
        refine g_iconst (pc := 93) C (v := 0) d_M_hushedFor_93 (by decide) ?_
        refine g_goto (pc := 94) (tgt := 107) C d_M_hushedFor_94 (by decide) ?_
        obtain ⟨h18, hw⟩ := hw
        refine sM_d (pc := 107) C d_M_hushedFor_107 (f := M_d m) rfl (N0 := y11.toNatClampNeg) rfl h18 ?_
        obtain ⟨y19, ey19⟩ : ∃ w, w = x5 + 1 := ⟨_, rfl⟩
        replace hw := hw y19 ey19
        refine g_iinc (pc := 108) C d_M_hushedFor_108 5 rfl (v := y19) (by rw [ey19]; rfl) (Nat.le_of_ble_eq_true rfl) (lv' := [(0, .ref (a 0)), (1, .int x1), (2, .int x2), (3, .int x3), (4, .int x4), (5, .int y19)]) rfl ?_
        refine g_goto (pc := 111) (tgt := 66) C d_M_hushedFor_111 (by decide) ?_
        exact ih (M_d_ m (upd (M_d m) y11.toNatClampNeg 0)) x1 x2 x3 x4 y19 hw
def w_M_hushedFor_36  (post : Int32 → MSt → Prop)  : Nat → MSt → Int32 → Int32 → Int32 → Int32 → Prop
  | 0, _, _, _, _, _ => False
  | n + 1, m, x1, x2, x3, x4 =>
    ((1024 ≤ x4) → (post x3 m)) ∧ ((¬ 1024 ≤ x4) → (((x3 < 0) → (w_M_hushedFor_66  post (w_M_hushedFor_36  post  n) 2000 m x1 x2 x3 x4 0)) ∧ ((¬ x3 < 0) → (wp_M_bits x4 (fun v22 => wp_M_bits x3 (fun v23 => ((v22 < v23) → (w_M_hushedFor_66  post (w_M_hushedFor_36  post  n) 2000 m x1 x2 x3 x4 0)) ∧ ((¬ v22 < v23) → (∀ y24 : Int32, y24 = x4 + 1 → (w_M_hushedFor_36  post  n m x1 x2 x3 y24)))))))))
set_option maxRecDepth 20000 in
theorem j_M_hushedFor_36 {X : GX} (C : GC X b_M_hushedFor R_M 6 (rmd 6)) {Qp : Option Value → va_W → Prop} (q : RC X ((some .int)) Qp 0 0) (a : Nat → Nat)   (post : Int32 → MSt → Prop) (hq : ∀ v c1, post v c1 → Qp (some (.int v)) (woM (xt X) a c1)) : ∀ (n : Nat) (m : MSt) (x1 : Int32) (x2 : Int32) (x3 : Int32) (x4 : Int32), w_M_hushedFor_36  post  n m x1 x2 x3 x4 → G X 0 0 (woM (xt X) a m) [(0, .ref (a 0)), (1, .int x1), (2, .int x2), (3, .int x3), (4, .int x4)] [] 36 := by
  intro n
  induction n with
  | zero => intro m x1 x2 x3 x4 hw; exact hw.elim
  | succ n ih =>
    intro m x1 x2 x3 x4 hw
    rw [w_M_hushedFor_36] at hw
    refine g_iload (pc := 36) C d_M_hushedFor_36 4 rfl ?_
    refine g_sipush (pc := 38) C (v := 1024) d_M_hushedFor_38 (by decide) ?_
    refine g_icmp_ge (pc := 41) (tgt := 136) C d_M_hushedFor_41 (by decide) (fun h27 => ?_) (fun h27 => ?_)
    · replace hw := hw.1 h27
      refine g_iload_n (pc := 136) C d_M_hushedFor_136 3 rfl rfl ?_
      exact g_iret (pc := 137) C q d_M_hushedFor_137 (hq _ _ hw)
    · replace hw := hw.2 h27
      refine g_iload_n (pc := 44) C d_M_hushedFor_44 3 rfl rfl ?_
      refine g_if_lt (pc := 45) (tgt := 63) C d_M_hushedFor_45 (by decide) (fun h26 => ?_) (fun h26 => ?_)
      · replace hw := hw.1 h26
        refine g_iconst (pc := 63) C (v := 0) d_M_hushedFor_63 (by decide) ?_
        refine g_istore (pc := 64) C d_M_hushedFor_64 (Nat.le_of_ble_eq_true rfl) (lv' := [(0, .ref (a 0)), (1, .int x1), (2, .int x2), (3, .int x3), (4, .int x4), (5, .int 0)]) rfl ?_
        exact j_M_hushedFor_66 C q a post hq ih 2000 m x1 x2 x3 x4 0 hw
      · replace hw := hw.2 h26
        refine g_iload (pc := 48) C d_M_hushedFor_48 4 rfl ?_
        refine k_I0 (pc := 50) (co_S C (c_M_bits (xl X) (xD X) (xt X) (xv X) x4 _ hw) mw_M_bits lk_M_175 d_M_hushedFor_50 [] rfl (by decide)  rfl rfl ⟨Nat.le_of_ble_eq_true rfl, Nat.le_of_ble_eq_true rfl⟩ ⟨Nat.le_of_ble_eq_true rfl, Nat.le_of_ble_eq_true rfl⟩ (rest := []) rfl rfl (Nat.le_of_ble_eq_true rfl)) (fun v22 hw => ?_)
        refine g_iload_n (pc := 53) C d_M_hushedFor_53 3 rfl rfl ?_
        refine k_I0 (pc := 54) (co_S C (c_M_bits (xl X) (xD X) (xt X) (xv X) x3 _ hw) mw_M_bits lk_M_175 d_M_hushedFor_54 [] rfl (by decide)  rfl rfl ⟨Nat.le_of_ble_eq_true rfl, Nat.le_of_ble_eq_true rfl⟩ ⟨Nat.le_of_ble_eq_true rfl, Nat.le_of_ble_eq_true rfl⟩ (rest := [.int v22]) rfl rfl (Nat.le_of_ble_eq_true rfl)) (fun v23 hw => ?_)
        refine g_icmp_lt (pc := 57) (tgt := 63) C d_M_hushedFor_57 (by decide) (fun h25 => ?_) (fun h25 => ?_)
        · replace hw := hw.1 h25
          refine g_iconst (pc := 63) C (v := 0) d_M_hushedFor_63 (by decide) ?_
          refine g_istore (pc := 64) C d_M_hushedFor_64 (Nat.le_of_ble_eq_true rfl) (lv' := [(0, .ref (a 0)), (1, .int x1), (2, .int x2), (3, .int x3), (4, .int x4), (5, .int 0)]) rfl ?_
          exact j_M_hushedFor_66 C q a post hq ih 2000 m x1 x2 x3 x4 0 hw
        · replace hw := hw.2 h25
          refine g_goto (pc := 60) (tgt := 130) C d_M_hushedFor_60 (by decide) ?_
          obtain ⟨y24, ey24⟩ : ∃ w, w = x4 + 1 := ⟨_, rfl⟩
          replace hw := hw y24 ey24
          refine g_iinc (pc := 130) C d_M_hushedFor_130 4 rfl (v := y24) (by rw [ey24]; rfl) (Nat.le_of_ble_eq_true rfl) (lv' := [(0, .ref (a 0)), (1, .int x1), (2, .int x2), (3, .int x3), (4, .int y24)]) rfl ?_
          refine g_goto (pc := 133) (tgt := 36) C d_M_hushedFor_133 (by decide) ?_
          exact ih m x1 x2 x3 y24 hw
def wp_M_hushedFor (m : MSt) (x1 : Int32) (x2 : Int32) (post : Int32 → MSt → Prop) : Prop :=
  ∀ y1 : Int64, y1 = x1.toInt64 → (wp_M_in y1 1 20 (fun v2 => ((v2 = 0) → (post (-1) m)) ∧ ((¬ v2 = 0) → (∀ y3 : Int64, y3 = x2.toInt64 → (wp_M_in y3 0 999 (fun v4 => ((v4 = 0) → (post (-1) m)) ∧ ((¬ v4 = 0) → (wp_M_keepAside m (fun m_5 => w_M_hushedFor_36  post  2000 m_5 x1 x2 (-3) 0)))))))))
set_option maxRecDepth 20000 in
theorem g_M_hushedFor {X : GX} (C : GC X b_M_hushedFor R_M 6 (rmd 6)) {Qp : Option Value → va_W → Prop} (q : RC X ((some .int)) Qp 0 0) (a : Nat → Nat) (m : MSt) (x1 : Int32) (x2 : Int32) (post : Int32 → MSt → Prop) (hq : ∀ v c1, post v c1 → Qp (some (.int v)) (woM (xt X) a c1)) (hw : wp_M_hushedFor m x1 x2 post) : G X 0 0 (woM (xt X) a m) [(0, .ref (a 0)), (1, .int x1), (2, .int x2)] [] 0 := by
  unfold wp_M_hushedFor at hw
  refine g_iload_n (pc := 0) C d_M_hushedFor_0 1 rfl rfl ?_
  refine g_i2l (pc := 1) C d_M_hushedFor_1 ?_
  refine g_topl (fun y1 ey1 => ?_)
  replace hw := hw y1 ey1
  refine g_lconst (pc := 2) C (v := 1) d_M_hushedFor_2 (by decide) ?_
  refine g_ldc2_w (pc := 3) C (v := 20) d_M_hushedFor_3 lk_M_171 ?_
  refine k_I0 (pc := 6) (co_S C (c_M_in (xl X) (xD X) (xt X) (xv X) y1 1 20 _ hw) mw_M_in lk_M_58 d_M_hushedFor_6 [] rfl (by decide)  rfl rfl ⟨Nat.le_of_ble_eq_true rfl, Nat.le_of_ble_eq_true rfl⟩ ⟨Nat.le_of_ble_eq_true rfl, Nat.le_of_ble_eq_true rfl⟩ (rest := []) rfl rfl (Nat.le_of_ble_eq_true rfl)) (fun v2 hw => ?_)
  refine g_if_eq (pc := 9) (tgt := 24) C d_M_hushedFor_9 (by decide) (fun h29 => ?_) (fun h29 => ?_)
  · replace hw := hw.1 h29
    refine g_iconst (pc := 24) C (v := (-1)) d_M_hushedFor_24 (by decide) ?_
    exact g_iret (pc := 25) C q d_M_hushedFor_25 (hq _ _ hw)
  · replace hw := hw.2 h29
    refine g_iload_n (pc := 12) C d_M_hushedFor_12 2 rfl rfl ?_
    refine g_i2l (pc := 13) C d_M_hushedFor_13 ?_
    refine g_topl (fun y3 ey3 => ?_)
    replace hw := hw y3 ey3
    refine g_lconst (pc := 14) C (v := 0) d_M_hushedFor_14 (by decide) ?_
    refine g_ldc2_w (pc := 15) C (v := 999) d_M_hushedFor_15 lk_M_173 ?_
    refine k_I0 (pc := 18) (co_S C (c_M_in (xl X) (xD X) (xt X) (xv X) y3 0 999 _ hw) mw_M_in lk_M_58 d_M_hushedFor_18 [] rfl (by decide)  rfl rfl ⟨Nat.le_of_ble_eq_true rfl, Nat.le_of_ble_eq_true rfl⟩ ⟨Nat.le_of_ble_eq_true rfl, Nat.le_of_ble_eq_true rfl⟩ (rest := []) rfl rfl (Nat.le_of_ble_eq_true rfl)) (fun v4 hw => ?_)
    refine g_if_ne (pc := 21) (tgt := 26) C d_M_hushedFor_21 (by decide) (fun h28 => ?_) (fun h28 => ?_)
    · replace hw := hw.2 h28
      refine g_aload_n (pc := 26) C d_M_hushedFor_26 0 rfl rfl ?_
      refine k_Va (pc := 27) (co_V C (c_M_keepAside (xl X) (xD X) (xt X) (xv X) a m _ hw) mw_M_keepAside lk_M_138 d_M_hushedFor_27 (List.range _) (all_C _) (all_nd _) (rec_w C 0 6 rfl rfl) rfl rfl ⟨Nat.le_of_ble_eq_true rfl, Nat.le_of_ble_eq_true rfl⟩ ⟨Nat.le_of_ble_eq_true rfl, Nat.le_of_ble_eq_true rfl⟩ (rest := []) rfl rfl (Nat.le_of_ble_eq_true rfl)) (fun m_5 hw => ?_)
      refine g_bipush (pc := 30) C (v := (-3)) d_M_hushedFor_30 (by decide) ?_
      refine g_istore_n (pc := 32) C d_M_hushedFor_32 rfl (Nat.le_of_ble_eq_true rfl) (lv' := [(0, .ref (a 0)), (1, .int x1), (2, .int x2), (3, .int (-3))]) rfl ?_
      refine g_iconst (pc := 33) C (v := 0) d_M_hushedFor_33 (by decide) ?_
      refine g_istore (pc := 34) C d_M_hushedFor_34 (Nat.le_of_ble_eq_true rfl) (lv' := [(0, .ref (a 0)), (1, .int x1), (2, .int x2), (3, .int (-3)), (4, .int 0)]) rfl ?_
      exact j_M_hushedFor_36 C q a post hq  2000 m_5 x1 x2 (-3) 0 hw
    · replace hw := hw.1 h28
      refine g_iconst (pc := 24) C (v := (-1)) d_M_hushedFor_24 (by decide) ?_
      exact g_iret (pc := 25) C q d_M_hushedFor_25 (hq _ _ hw)
set_option maxRecDepth 20000 in
theorem c_M_hushedFor (l : Launch) (D : va_G) (t : Nat → ClassId) (ev : Nat → Nat) (a : Nat → Nat) (m : MSt) (x1 : Int32) (x2 : Int32) (post : Int32 → MSt → Prop) (hw : wp_M_hushedFor m x1 x2 post) : Con l D t ev y_M_hushedFor b_M_hushedFor 6 ((some .int)) 6 (woM t a m) [.ref (a 0), .int x1, .int x2] (qI (woM t a)  post) :=
  ConR.of (by decide +kernel) (Nat.le_of_ble_eq_true rfl) (fun X el eD et ee C q _ => by subst el; subst eD; subst et; subst ee; exact g_M_hushedFor C q a m x1 x2 post (fun v c1 h => ⟨⟨v, c1, rfl, rfl, h⟩, rfl⟩) hw)
def w_M_holdFor_25  (post : Int32 → MSt → Prop)  : Nat → MSt → Int32 → Int32 → Int32 → Int32 → Prop
  | 0, _, _, _, _, _ => False
  | n + 1, m, x1, x2, x3, x4 =>
    ((((M_d m) 4) ≤ x4) → (post x2 (M_still_ m (-1)))) ∧ ((¬ ((M_d m) 4) ≤ x4) → (wp_M_cargoBehind (M_still_ m x4) x1 (fun v5 m_6 => ((v5 ≤ x3) → (∀ y7 : Int32, y7 = x4 + 1 → (w_M_holdFor_25  post  n m_6 x1 x2 x3 y7))) ∧ ((¬ v5 ≤ x3) → (∀ y8 : Int32, y8 = x4 + 1 → (w_M_holdFor_25  post  n m_6 x1 x4 v5 y8))))))
set_option maxRecDepth 20000 in
theorem j_M_holdFor_25 {X : GX} (C : GC X b_M_holdFor R_M 6 (rmd 6)) {Qp : Option Value → va_W → Prop} (q : RC X ((some .int)) Qp 0 0) (a : Nat → Nat)   (post : Int32 → MSt → Prop) (hq : ∀ v c1, post v c1 → Qp (some (.int v)) (woM (xt X) a c1)) : ∀ (n : Nat) (m : MSt) (x1 : Int32) (x2 : Int32) (x3 : Int32) (x4 : Int32), w_M_holdFor_25  post  n m x1 x2 x3 x4 → G X 0 0 (woM (xt X) a m) [(0, .ref (a 0)), (1, .int x1), (2, .int x2), (3, .int x3), (4, .int x4)] [] 25 := by
  intro n
  induction n with
  | zero => intro m x1 x2 x3 x4 hw; exact hw.elim
  | succ n ih =>
    intro m x1 x2 x3 x4 hw
    rw [w_M_holdFor_25] at hw
    refine g_iload (pc := 25) C d_M_holdFor_25 4 rfl ?_
    refine g_aload_n (pc := 27) C d_M_holdFor_27 0 rfl rfl ?_
    refine fM_d (pc := 28) C lk_M_7 d_M_holdFor_28 ?_
    refine g_iconst (pc := 31) C (v := 4) d_M_holdFor_31 (by decide) ?_
    refine lM_d (pc := 32) C d_M_holdFor_32 (f := M_d m) rfl (N0 := 4) (by decide) (by unfold vp_in; decide) ?_
    refine g_icmp_ge (pc := 33) (tgt := 67) C d_M_holdFor_33 (by decide) (fun h10 => ?_) (fun h10 => ?_)
    · replace hw := hw.1 h10
      refine g_aload_n (pc := 67) C d_M_holdFor_67 0 rfl rfl ?_
      refine g_iconst (pc := 68) C (v := (-1)) d_M_holdFor_68 (by decide) ?_
      refine pM_still (pc := 69) C lk_M_19 d_M_holdFor_69   ?_
      refine g_iload_n (pc := 72) C d_M_holdFor_72 2 rfl rfl ?_
      exact g_iret (pc := 73) C q d_M_holdFor_73 (hq _ _ hw)
    · replace hw := hw.2 h10
      refine g_aload_n (pc := 36) C d_M_holdFor_36 0 rfl rfl ?_
      refine g_iload (pc := 37) C d_M_holdFor_37 4 rfl ?_
      refine pM_still (pc := 39) C lk_M_19 d_M_holdFor_39   ?_
      refine g_aload_n (pc := 42) C d_M_holdFor_42 0 rfl rfl ?_
      refine g_iload_n (pc := 43) C d_M_holdFor_43 1 rfl rfl ?_
      refine k_Ia (pc := 44) (co_V C (c_M_cargoBehind (xl X) (xD X) (xt X) (xv X) a (M_still_ m x4) x1 _ hw) mw_M_cargoBehind lk_M_141 d_M_holdFor_44 (List.range _) (all_C _) (all_nd _) (rec_w C 0 6 rfl rfl) rfl rfl ⟨Nat.le_of_ble_eq_true rfl, Nat.le_of_ble_eq_true rfl⟩ ⟨Nat.le_of_ble_eq_true rfl, Nat.le_of_ble_eq_true rfl⟩ (rest := []) rfl rfl (Nat.le_of_ble_eq_true rfl)) (fun v5 m_6 hw => ?_)
      refine g_istore (pc := 47) C d_M_holdFor_47 (Nat.le_of_ble_eq_true rfl) (lv' := [(0, .ref (a 0)), (1, .int x1), (2, .int x2), (3, .int x3), (4, .int x4), (5, .int v5)]) rfl ?_
      refine g_iload (pc := 49) C d_M_holdFor_49 5 rfl ?_
      refine g_iload_n (pc := 51) C d_M_holdFor_51 3 rfl rfl ?_
      refine g_icmp_le (pc := 52) (tgt := 61) C d_M_holdFor_52 (by decide) (fun h9 => ?_) (fun h9 => ?_)
      · replace hw := hw.1 h9
        obtain ⟨y7, ey7⟩ : ∃ w, w = x4 + 1 := ⟨_, rfl⟩
        replace hw := hw y7 ey7
        refine g_iinc (pc := 61) C d_M_holdFor_61 4 rfl (v := y7) (by rw [ey7]; rfl) (Nat.le_of_ble_eq_true rfl) (lv' := [(0, .ref (a 0)), (1, .int x1), (2, .int x2), (3, .int x3), (4, .int y7), (5, .int v5)]) rfl ?_
        refine g_goto (pc := 64) (tgt := 25) C d_M_holdFor_64 (by decide) ?_
        refine g_sub [0, 1, 2, 3, 4] (lv' := [(0, .ref (a 0)), (1, .int x1), (2, .int x2), (3, .int x3), (4, .int y7)]) rfl ?_
        exact ih m_6 x1 x2 x3 y7 hw
      · replace hw := hw.2 h9
        refine g_iload (pc := 55) C d_M_holdFor_55 4 rfl ?_
        refine g_istore_n (pc := 57) C d_M_holdFor_57 rfl (Nat.le_of_ble_eq_true rfl) (lv' := [(0, .ref (a 0)), (1, .int x1), (2, .int x4), (3, .int x3), (4, .int x4), (5, .int v5)]) rfl ?_
        refine g_iload (pc := 58) C d_M_holdFor_58 5 rfl ?_
        refine g_istore_n (pc := 60) C d_M_holdFor_60 rfl (Nat.le_of_ble_eq_true rfl) (lv' := [(0, .ref (a 0)), (1, .int x1), (2, .int x4), (3, .int v5), (4, .int x4), (5, .int v5)]) rfl ?_
        obtain ⟨y8, ey8⟩ : ∃ w, w = x4 + 1 := ⟨_, rfl⟩
        replace hw := hw y8 ey8
        refine g_iinc (pc := 61) C d_M_holdFor_61 4 rfl (v := y8) (by rw [ey8]; rfl) (Nat.le_of_ble_eq_true rfl) (lv' := [(0, .ref (a 0)), (1, .int x1), (2, .int x4), (3, .int v5), (4, .int y8), (5, .int v5)]) rfl ?_
        refine g_goto (pc := 64) (tgt := 25) C d_M_holdFor_64 (by decide) ?_
        refine g_sub [0, 1, 2, 3, 4] (lv' := [(0, .ref (a 0)), (1, .int x1), (2, .int x4), (3, .int v5), (4, .int y8)]) rfl ?_
        exact ih m_6 x1 x4 v5 y8 hw
def wp_M_holdFor (m : MSt) (x1 : Int32) (post : Int32 → MSt → Prop) : Prop :=
  wp_M_isShort x1 (fun v1 => ((v1 = 0) → (post (-1) m)) ∧ ((¬ v1 = 0) → (wp_M_keepAside m (fun m_2 => wp_M_cargoBehind m_2 x1 (fun v3 m_4 => w_M_holdFor_25  post  2000 m_4 x1 (-3) v3 0)))))
set_option maxRecDepth 20000 in
theorem g_M_holdFor {X : GX} (C : GC X b_M_holdFor R_M 6 (rmd 6)) {Qp : Option Value → va_W → Prop} (q : RC X ((some .int)) Qp 0 0) (a : Nat → Nat) (m : MSt) (x1 : Int32) (post : Int32 → MSt → Prop) (hq : ∀ v c1, post v c1 → Qp (some (.int v)) (woM (xt X) a c1)) (hw : wp_M_holdFor m x1 post) : G X 0 0 (woM (xt X) a m) [(0, .ref (a 0)), (1, .int x1)] [] 0 := by
  unfold wp_M_holdFor at hw
  refine g_iload_n (pc := 0) C d_M_holdFor_0 1 rfl rfl ?_
  refine k_I0 (pc := 1) (co_S C (c_M_isShort (xl X) (xD X) (xt X) (xv X) x1 _ hw) mw_M_isShort lk_M_168 d_M_holdFor_1 [] rfl (by decide)  rfl rfl ⟨Nat.le_of_ble_eq_true rfl, Nat.le_of_ble_eq_true rfl⟩ ⟨Nat.le_of_ble_eq_true rfl, Nat.le_of_ble_eq_true rfl⟩ (rest := []) rfl rfl (Nat.le_of_ble_eq_true rfl)) (fun v1 hw => ?_)
  refine g_if_ne (pc := 4) (tgt := 9) C d_M_holdFor_4 (by decide) (fun h11 => ?_) (fun h11 => ?_)
  · replace hw := hw.2 h11
    refine g_aload_n (pc := 9) C d_M_holdFor_9 0 rfl rfl ?_
    refine k_Va (pc := 10) (co_V C (c_M_keepAside (xl X) (xD X) (xt X) (xv X) a m _ hw) mw_M_keepAside lk_M_138 d_M_holdFor_10 (List.range _) (all_C _) (all_nd _) (rec_w C 0 6 rfl rfl) rfl rfl ⟨Nat.le_of_ble_eq_true rfl, Nat.le_of_ble_eq_true rfl⟩ ⟨Nat.le_of_ble_eq_true rfl, Nat.le_of_ble_eq_true rfl⟩ (rest := []) rfl rfl (Nat.le_of_ble_eq_true rfl)) (fun m_2 hw => ?_)
    refine g_bipush (pc := 13) C (v := (-3)) d_M_holdFor_13 (by decide) ?_
    refine g_istore_n (pc := 15) C d_M_holdFor_15 rfl (Nat.le_of_ble_eq_true rfl) (lv' := [(0, .ref (a 0)), (1, .int x1), (2, .int (-3))]) rfl ?_
    refine g_aload_n (pc := 16) C d_M_holdFor_16 0 rfl rfl ?_
    refine g_iload_n (pc := 17) C d_M_holdFor_17 1 rfl rfl ?_
    refine k_Ia (pc := 18) (co_V C (c_M_cargoBehind (xl X) (xD X) (xt X) (xv X) a m_2 x1 _ hw) mw_M_cargoBehind lk_M_141 d_M_holdFor_18 (List.range _) (all_C _) (all_nd _) (rec_w C 0 6 rfl rfl) rfl rfl ⟨Nat.le_of_ble_eq_true rfl, Nat.le_of_ble_eq_true rfl⟩ ⟨Nat.le_of_ble_eq_true rfl, Nat.le_of_ble_eq_true rfl⟩ (rest := []) rfl rfl (Nat.le_of_ble_eq_true rfl)) (fun v3 m_4 hw => ?_)
    refine g_istore_n (pc := 21) C d_M_holdFor_21 rfl (Nat.le_of_ble_eq_true rfl) (lv' := [(0, .ref (a 0)), (1, .int x1), (2, .int (-3)), (3, .int v3)]) rfl ?_
    refine g_iconst (pc := 22) C (v := 0) d_M_holdFor_22 (by decide) ?_
    refine g_istore (pc := 23) C d_M_holdFor_23 (Nat.le_of_ble_eq_true rfl) (lv' := [(0, .ref (a 0)), (1, .int x1), (2, .int (-3)), (3, .int v3), (4, .int 0)]) rfl ?_
    exact j_M_holdFor_25 C q a post hq  2000 m_4 x1 (-3) v3 0 hw
  · replace hw := hw.1 h11
    refine g_iconst (pc := 7) C (v := (-1)) d_M_holdFor_7 (by decide) ?_
    exact g_iret (pc := 8) C q d_M_holdFor_8 (hq _ _ hw)
set_option maxRecDepth 20000 in
theorem c_M_holdFor (l : Launch) (D : va_G) (t : Nat → ClassId) (ev : Nat → Nat) (a : Nat → Nat) (m : MSt) (x1 : Int32) (post : Int32 → MSt → Prop) (hw : wp_M_holdFor m x1 post) : Con l D t ev y_M_holdFor b_M_holdFor 6 ((some .int)) 6 (woM t a m) [.ref (a 0), .int x1] (qI (woM t a)  post) :=
  ConR.of (by decide +kernel) (Nat.le_of_ble_eq_true rfl) (fun X el eD et ee C q _ => by subst el; subst eD; subst et; subst ee; exact g_M_holdFor C q a m x1 post (fun v c1 h => ⟨⟨v, c1, rfl, rfl, h⟩, rfl⟩) hw)
def wp_M_isSheet (x0 : Int32) (post : Int32 → Prop) : Prop :=
  ∀ y1 : Int64, y1 = x0.toInt64 → (wp_M_in y1 0 3 (fun v2 => narrow .boolean (.int v2) = .int v2 ∧ post v2 ))
set_option maxRecDepth 20000 in
theorem g_M_isSheet {X : GX} (C : GC X b_M_isSheet R_M 1 (rmd 1)) {Qp : Option Value → va_W → Prop} (q : RC X ((some .boolean)) Qp 0 0) (x0 : Int32) (post : Int32 → Prop) (hq : ∀ v, post v → Qp (some (.int v)) []) (hw : wp_M_isSheet x0 post) : G X 0 0 ([]) [(0, .int x0)] [] 0 := by
  unfold wp_M_isSheet at hw
  refine g_iload_n (pc := 0) C d_M_isSheet_0 0 rfl rfl ?_
  refine g_i2l (pc := 1) C d_M_isSheet_1 ?_
  refine g_topl (fun y1 ey1 => ?_)
  replace hw := hw y1 ey1
  refine g_lconst (pc := 2) C (v := 0) d_M_isSheet_2 (by decide) ?_
  refine g_ldc2_w (pc := 3) C (v := 3) d_M_isSheet_3 lk_M_98 ?_
  refine k_I0 (pc := 6) (co_S C (c_M_in (xl X) (xD X) (xt X) (xv X) y1 0 3 _ hw) mw_M_in lk_M_58 d_M_isSheet_6 [] rfl (by decide)  rfl rfl ⟨Nat.le_of_ble_eq_true rfl, Nat.le_of_ble_eq_true rfl⟩ ⟨Nat.le_of_ble_eq_true rfl, Nat.le_of_ble_eq_true rfl⟩ (rest := []) rfl rfl (Nat.le_of_ble_eq_true rfl)) (fun v2 hw => ?_)
  obtain ⟨h3, hw⟩ := hw
  exact g_zret (pc := 9) C q d_M_isSheet_9 h3 (hq _ hw)
set_option maxRecDepth 20000 in
theorem c_M_isSheet (l : Launch) (D : va_G) (t : Nat → ClassId) (ev : Nat → Nat) (x0 : Int32) (post : Int32 → Prop) (hw : wp_M_isSheet x0 post) : Con l D t ev y_M_isSheet b_M_isSheet 1 ((some .boolean)) 1 ([]) [.int x0] (qI (fun _ : Unit => [])  (fun v _ => post v)) :=
  ConR.of (by decide +kernel) (Nat.le_of_ble_eq_true rfl) (fun X el eD et ee C q _ => by subst el; subst eD; subst et; subst ee; exact g_M_isSheet C q x0 post (fun v h => ⟨⟨v, (), rfl, rfl, h⟩, rfl⟩) hw)
def w_M_fits_158  (post : Int32 → MSt → Prop) (k54 : MSt → Int32 → Int32 → Int32 → Int32 → Int32 → Int32 → Prop) (m : MSt) (x1 : Int32) (x2 : Int32) (x3 : Int32) (x5 : Int32) (x6 : Int32) (x7 : Int32) (s0 : Int32) (s1 : Int32) : Prop :=
  ∀ y12 : Int32, y12 = s0 + s1 → (((x7 = 0) → (∀ y13 : Int32, y13 = x6 + (-1) → (k54 m x1 x2 x3 y12 x5 y13))) ∧ ((¬ x7 = 0) → (∀ y14 : Int32, y14 = x6 + (-1) → (k54 m x1 x2 x3 y12 x6 y14))))
set_option maxRecDepth 20000 in
theorem j_M_fits_158 {X : GX} (C : GC X b_M_fits R_M 11 (rmd 4)) {Qp : Option Value → va_W → Prop} (q : RC X ((some .int)) Qp 0 0) (a : Nat → Nat)   (post : Int32 → MSt → Prop) (hq : ∀ v c1, post v c1 → Qp (some (.int v)) (woM (xt X) a c1)) {k54 : MSt → Int32 → Int32 → Int32 → Int32 → Int32 → Int32 → Prop} (hk54 : ∀ (m : MSt) (x1 : Int32) (x2 : Int32) (x3 : Int32) (x4 : Int32) (x5 : Int32) (x6 : Int32), k54 m x1 x2 x3 x4 x5 x6 → G X 0 0 (woM (xt X) a m) [(0, .ref (a 0)), (1, .int x1), (2, .int x2), (3, .int x3), (4, .int x4), (5, .int x5), (6, .int x6)] [] 54) : ∀ (m : MSt) (x1 : Int32) (x2 : Int32) (x3 : Int32) (x5 : Int32) (x6 : Int32) (x7 : Int32) (s0 : Int32) (s1 : Int32), w_M_fits_158  post k54 m x1 x2 x3 x5 x6 x7 s0 s1 → G X 0 0 (woM (xt X) a m) [(0, .ref (a 0)), (1, .int x1), (2, .int x2), (3, .int x3), (5, .int x5), (6, .int x6), (7, .int x7)] [.int s1, .int s0] 158 := by
  intro m x1 x2 x3 x5 x6 x7 s0 s1 hw
  unfold w_M_fits_158 at hw
  refine g_iadd (pc := 158) C d_M_fits_158 ?_
  refine g_topi (fun y12 ey12 => ?_)
  replace hw := hw y12 ey12
  refine g_istore (pc := 159) C d_M_fits_159 (Nat.le_of_ble_eq_true rfl) (lv' := [(0, .ref (a 0)), (1, .int x1), (2, .int x2), (3, .int x3), (4, .int y12), (5, .int x5), (6, .int x6), (7, .int x7)]) rfl ?_
  refine g_iload (pc := 161) C d_M_fits_161 7 rfl ?_
  refine g_if_eq (pc := 163) (tgt := 171) C d_M_fits_163 (by decide) (fun h15 => ?_) (fun h15 => ?_)
  · replace hw := hw.1 h15
    refine g_iload (pc := 171) C d_M_fits_171 5 rfl ?_
    refine g_istore (pc := 173) C d_M_fits_173 (Nat.le_of_ble_eq_true rfl) (lv' := [(0, .ref (a 0)), (1, .int x1), (2, .int x2), (3, .int x3), (4, .int y12), (5, .int x5), (6, .int x6), (7, .int x7)]) rfl ?_
    obtain ⟨y13, ey13⟩ : ∃ w, w = x6 + (-1) := ⟨_, rfl⟩
    replace hw := hw y13 ey13
    refine g_iinc (pc := 175) C d_M_fits_175 6 rfl (v := y13) (by rw [ey13]; rfl) (Nat.le_of_ble_eq_true rfl) (lv' := [(0, .ref (a 0)), (1, .int x1), (2, .int x2), (3, .int x3), (4, .int y12), (5, .int x5), (6, .int y13), (7, .int x7)]) rfl ?_
    refine g_goto (pc := 178) (tgt := 54) C d_M_fits_178 (by decide) ?_
    refine g_sub [0, 1, 2, 3, 4, 5, 6] (lv' := [(0, .ref (a 0)), (1, .int x1), (2, .int x2), (3, .int x3), (4, .int y12), (5, .int x5), (6, .int y13)]) rfl ?_
    exact hk54 m x1 x2 x3 y12 x5 y13 hw
  · replace hw := hw.2 h15
    refine g_iload (pc := 166) C d_M_fits_166 6 rfl ?_
    refine g_goto (pc := 168) (tgt := 173) C d_M_fits_168 (by decide) ?_
    refine g_istore (pc := 173) C d_M_fits_173 (Nat.le_of_ble_eq_true rfl) (lv' := [(0, .ref (a 0)), (1, .int x1), (2, .int x2), (3, .int x3), (4, .int y12), (5, .int x6), (6, .int x6), (7, .int x7)]) rfl ?_
    obtain ⟨y14, ey14⟩ : ∃ w, w = x6 + (-1) := ⟨_, rfl⟩
    replace hw := hw y14 ey14
    refine g_iinc (pc := 175) C d_M_fits_175 6 rfl (v := y14) (by rw [ey14]; rfl) (Nat.le_of_ble_eq_true rfl) (lv' := [(0, .ref (a 0)), (1, .int x1), (2, .int x2), (3, .int x3), (4, .int y12), (5, .int x6), (6, .int y14), (7, .int x7)]) rfl ?_
    refine g_goto (pc := 178) (tgt := 54) C d_M_fits_178 (by decide) ?_
    refine g_sub [0, 1, 2, 3, 4, 5, 6] (lv' := [(0, .ref (a 0)), (1, .int x1), (2, .int x2), (3, .int x3), (4, .int y12), (5, .int x6), (6, .int y14)]) rfl ?_
    exact hk54 m x1 x2 x3 y12 x6 y14 hw
def w_M_fits_142  (post : Int32 → MSt → Prop) (k54 : MSt → Int32 → Int32 → Int32 → Int32 → Int32 → Int32 → Prop) (m : MSt) (x1 : Int32) (x2 : Int32) (x3 : Int32) (x4 : Int32) (x5 : Int32) (x6 : Int32) (x7 : Int32) : Prop :=
  wp_M_putBack m (fun m_11 => ((x7 = 0) → (w_M_fits_158  post k54 m_11 x1 x2 x3 x5 x6 x7 x4 0)) ∧ ((¬ x7 = 0) → (w_M_fits_158  post k54 m_11 x1 x2 x3 x5 x6 x7 x4 1)))
set_option maxRecDepth 20000 in
theorem j_M_fits_142 {X : GX} (C : GC X b_M_fits R_M 11 (rmd 4)) {Qp : Option Value → va_W → Prop} (q : RC X ((some .int)) Qp 0 0) (a : Nat → Nat)   (post : Int32 → MSt → Prop) (hq : ∀ v c1, post v c1 → Qp (some (.int v)) (woM (xt X) a c1)) {k54 : MSt → Int32 → Int32 → Int32 → Int32 → Int32 → Int32 → Prop} (hk54 : ∀ (m : MSt) (x1 : Int32) (x2 : Int32) (x3 : Int32) (x4 : Int32) (x5 : Int32) (x6 : Int32), k54 m x1 x2 x3 x4 x5 x6 → G X 0 0 (woM (xt X) a m) [(0, .ref (a 0)), (1, .int x1), (2, .int x2), (3, .int x3), (4, .int x4), (5, .int x5), (6, .int x6)] [] 54) : ∀ (m : MSt) (x1 : Int32) (x2 : Int32) (x3 : Int32) (x4 : Int32) (x5 : Int32) (x6 : Int32) (x7 : Int32), w_M_fits_142  post k54 m x1 x2 x3 x4 x5 x6 x7 → G X 0 0 (woM (xt X) a m) [(0, .ref (a 0)), (1, .int x1), (2, .int x2), (3, .int x3), (4, .int x4), (5, .int x5), (6, .int x6), (7, .int x7)] [] 142 := by
  intro m x1 x2 x3 x4 x5 x6 x7 hw
  unfold w_M_fits_142 at hw
  refine g_aload_n (pc := 142) C d_M_fits_142 0 rfl rfl ?_
  refine k_Va (pc := 143) (co_V C (c_M_putBack (xl X) (xD X) (xt X) (xv X) a m _ hw) mw_M_putBack lk_M_147 d_M_fits_143 (List.range _) (all_C _) (all_nd _) (rec_w C 0 6 rfl rfl) rfl rfl ⟨Nat.le_of_ble_eq_true rfl, Nat.le_of_ble_eq_true rfl⟩ ⟨Nat.le_of_ble_eq_true rfl, Nat.le_of_ble_eq_true rfl⟩ (rest := []) rfl rfl (Nat.le_of_ble_eq_true rfl)) (fun m_11 hw => ?_)
  refine g_iload (pc := 146) C d_M_fits_146 4 rfl ?_
  refine g_iload (pc := 148) C d_M_fits_148 7 rfl ?_
  refine g_if_eq (pc := 150) (tgt := 157) C d_M_fits_150 (by decide) (fun h16 => ?_) (fun h16 => ?_)
  · replace hw := hw.1 h16
    refine g_iconst (pc := 157) C (v := 0) d_M_fits_157 (by decide) ?_
    refine g_sub [0, 1, 2, 3, 5, 6, 7] (lv' := [(0, .ref (a 0)), (1, .int x1), (2, .int x2), (3, .int x3), (5, .int x5), (6, .int x6), (7, .int x7)]) rfl ?_
    exact j_M_fits_158 C q a post hq hk54 m_11 x1 x2 x3 x5 x6 x7 x4 0 hw
  · replace hw := hw.2 h16
    refine g_iconst (pc := 153) C (v := 1) d_M_fits_153 (by decide) ?_
    refine g_goto (pc := 154) (tgt := 158) C d_M_fits_154 (by decide) ?_
    refine g_sub [0, 1, 2, 3, 5, 6, 7] (lv' := [(0, .ref (a 0)), (1, .int x1), (2, .int x2), (3, .int x3), (5, .int x5), (6, .int x6), (7, .int x7)]) rfl ?_
    exact j_M_fits_158 C q a post hq hk54 m_11 x1 x2 x3 x5 x6 x7 x4 1 hw
def w_M_fits_73  (post : Int32 → MSt → Prop) (k54 : MSt → Int32 → Int32 → Int32 → Int32 → Int32 → Int32 → Prop) : Nat → MSt → Int32 → Int32 → Int32 → Int32 → Int32 → Int32 → Int32 → Int32 → Prop
  | 0, _, _, _, _, _, _, _, _, _ => False
  | n + 1, m, x1, x2, x3, x4, x5, x6, x7, x8 =>
    vp_in x1 4 ∧ (((((M_sizeOf m) x1.toNatClampNeg) ≤ x8) → (w_M_fits_142  post k54 m x1 x2 x3 x4 x5 x6 x7)) ∧ ((¬ ((M_sizeOf m) x1.toNatClampNeg) ≤ x8) → (((x7 = 0) → (w_M_fits_142  post k54 m x1 x2 x3 x4 x5 x6 x7)) ∧ ((¬ x7 = 0) → (wp_M_hourGoes m (fun m_17 => ∀ y18 : Int32, y18 = 40 * x1 → (∀ y19 : Int32, y19 = y18 + x8 → (vp_in y19 160 ∧ ((((lg_cmp ((M_item m_17) y19.toNatClampNeg) (-1)) = 0) → (∀ y21 : Int32, y21 = x8 + 1 → (w_M_fits_73  post k54 n m_17 x1 x2 x3 x4 x5 x6 1 y21))) ∧ ((¬ (lg_cmp ((M_item m_17) y19.toNatClampNeg) (-1)) = 0) → (wp_M_get m_17 x2 1 (fun v22 m_23 => (((lg_cmp ((M_item m_17) y19.toNatClampNeg) v22.toInt64) = 0) → (∀ y25 : Int32, y25 = x8 + 1 → (w_M_fits_73  post k54 n m_23 x1 x2 x3 x4 x5 x6 1 y25))) ∧ ((¬ (lg_cmp ((M_item m_17) y19.toNatClampNeg) v22.toInt64) = 0) → (∀ y24 : Int32, y24 = x8 + 1 → (w_M_fits_73  post k54 n m_23 x1 x2 x3 x4 x5 x6 0 y24)))))))))))))))
set_option maxRecDepth 20000 in
theorem j_M_fits_73 {X : GX} (C : GC X b_M_fits R_M 11 (rmd 4)) {Qp : Option Value → va_W → Prop} (q : RC X ((some .int)) Qp 0 0) (a : Nat → Nat)   (post : Int32 → MSt → Prop) (hq : ∀ v c1, post v c1 → Qp (some (.int v)) (woM (xt X) a c1)) {k54 : MSt → Int32 → Int32 → Int32 → Int32 → Int32 → Int32 → Prop} (hk54 : ∀ (m : MSt) (x1 : Int32) (x2 : Int32) (x3 : Int32) (x4 : Int32) (x5 : Int32) (x6 : Int32), k54 m x1 x2 x3 x4 x5 x6 → G X 0 0 (woM (xt X) a m) [(0, .ref (a 0)), (1, .int x1), (2, .int x2), (3, .int x3), (4, .int x4), (5, .int x5), (6, .int x6)] [] 54) : ∀ (n : Nat) (m : MSt) (x1 : Int32) (x2 : Int32) (x3 : Int32) (x4 : Int32) (x5 : Int32) (x6 : Int32) (x7 : Int32) (x8 : Int32), w_M_fits_73  post k54 n m x1 x2 x3 x4 x5 x6 x7 x8 → G X 0 0 (woM (xt X) a m) [(0, .ref (a 0)), (1, .int x1), (2, .int x2), (3, .int x3), (4, .int x4), (5, .int x5), (6, .int x6), (7, .int x7), (8, .int x8)] [] 73 := by
  intro n
  induction n with
  | zero => intro m x1 x2 x3 x4 x5 x6 x7 x8 hw; exact hw.elim
  | succ n ih =>
    intro m x1 x2 x3 x4 x5 x6 x7 x8 hw
    rw [w_M_fits_73] at hw
    refine g_iload (pc := 73) C d_M_fits_73 8 rfl ?_
    refine g_aload_n (pc := 75) C d_M_fits_75 0 rfl rfl ?_
    refine fM_sizeOf (pc := 76) C lk_M_36 d_M_fits_76 ?_
    refine g_iload_n (pc := 79) C d_M_fits_79 1 rfl rfl ?_
    obtain ⟨h10, hw⟩ := hw
    refine lM_sizeOf (pc := 80) C d_M_fits_80 (f := M_sizeOf m) rfl (N0 := x1.toNatClampNeg) rfl h10 ?_
    refine g_icmp_ge (pc := 81) (tgt := 142) C d_M_fits_81 (by decide) (fun h29 => ?_) (fun h29 => ?_)
    · replace hw := hw.1 h29
      refine g_sub [0, 1, 2, 3, 4, 5, 6, 7] (lv' := [(0, .ref (a 0)), (1, .int x1), (2, .int x2), (3, .int x3), (4, .int x4), (5, .int x5), (6, .int x6), (7, .int x7)]) rfl ?_
      exact j_M_fits_142 C q a post hq hk54 m x1 x2 x3 x4 x5 x6 x7 hw
    · replace hw := hw.2 h29
      refine g_iload (pc := 84) C d_M_fits_84 7 rfl ?_
      refine g_if_eq (pc := 86) (tgt := 142) C d_M_fits_86 (by decide) (fun h28 => ?_) (fun h28 => ?_)
      · replace hw := hw.1 h28
        refine g_sub [0, 1, 2, 3, 4, 5, 6, 7] (lv' := [(0, .ref (a 0)), (1, .int x1), (2, .int x2), (3, .int x3), (4, .int x4), (5, .int x5), (6, .int x6), (7, .int x7)]) rfl ?_
        exact j_M_fits_142 C q a post hq hk54 m x1 x2 x3 x4 x5 x6 x7 hw
      · replace hw := hw.2 h28
        refine g_aload_n (pc := 89) C d_M_fits_89 0 rfl rfl ?_
        refine k_Va (pc := 90) (co_V C (c_M_hourGoes (xl X) (xD X) (xt X) (xv X) a m _ hw) mw_M_hourGoes lk_M_95 d_M_fits_90 (List.range _) (all_C _) (all_nd _) (rec_w C 0 6 rfl rfl) rfl rfl ⟨Nat.le_of_ble_eq_true rfl, Nat.le_of_ble_eq_true rfl⟩ ⟨Nat.le_of_ble_eq_true rfl, Nat.le_of_ble_eq_true rfl⟩ (rest := []) rfl rfl (Nat.le_of_ble_eq_true rfl)) (fun m_17 hw => ?_)
        refine g_aload_n (pc := 93) C d_M_fits_93 0 rfl rfl ?_
        refine fM_item (pc := 94) C lk_M_39 d_M_fits_94 ?_
        refine g_bipush (pc := 97) C (v := 40) d_M_fits_97 (by decide) ?_
        refine g_iload_n (pc := 99) C d_M_fits_99 1 rfl rfl ?_
        refine g_imul (pc := 100) C d_M_fits_100 ?_
        refine g_topi (fun y18 ey18 => ?_)
        replace hw := hw y18 ey18
        refine g_iload (pc := 101) C d_M_fits_101 8 rfl ?_
        refine g_iadd (pc := 103) C d_M_fits_103 ?_
        refine g_topi (fun y19 ey19 => ?_)
        replace hw := hw y19 ey19
        obtain ⟨h20, hw⟩ := hw
        refine lM_item (pc := 104) C d_M_fits_104 (f := M_item m_17) rfl (N0 := y19.toNatClampNeg) rfl h20 ?_
        refine g_lstore (pc := 105) C d_M_fits_105 (Nat.le_of_ble_eq_true rfl) (lv' := [(0, .ref (a 0)), (1, .int x1), (2, .int x2), (3, .int x3), (4, .int x4), (5, .int x5), (6, .int x6), (7, .int x7), (8, .int x8), (9, .long ((M_item m_17) y19.toNatClampNeg))]) rfl ?_
        refine g_lload (pc := 107) C d_M_fits_107 9 rfl ?_
        refine g_ldc2_w (pc := 109) C (v := (-1)) d_M_fits_109 lk_M_181 ?_
        refine g_lcmp (pc := 112) C d_M_fits_112 ?_
        refine g_if_eq (pc := 113) (tgt := 129) C d_M_fits_113 (by decide) (fun h27 => ?_) (fun h27 => ?_)
        · replace hw := hw.1 h27
          refine g_iconst (pc := 129) C (v := 1) d_M_fits_129 (by decide) ?_
          refine g_goto (pc := 130) (tgt := 134) C d_M_fits_130 (by decide) ?_
          refine g_istore (pc := 134) C d_M_fits_134 (Nat.le_of_ble_eq_true rfl) (lv' := [(0, .ref (a 0)), (1, .int x1), (2, .int x2), (3, .int x3), (4, .int x4), (5, .int x5), (6, .int x6), (7, .int 1), (8, .int x8), (9, .long ((M_item m_17) y19.toNatClampNeg))]) rfl ?_
          obtain ⟨y21, ey21⟩ : ∃ w, w = x8 + 1 := ⟨_, rfl⟩
          replace hw := hw y21 ey21
          refine g_iinc (pc := 136) C d_M_fits_136 8 rfl (v := y21) (by rw [ey21]; rfl) (Nat.le_of_ble_eq_true rfl) (lv' := [(0, .ref (a 0)), (1, .int x1), (2, .int x2), (3, .int x3), (4, .int x4), (5, .int x5), (6, .int x6), (7, .int 1), (8, .int y21), (9, .long ((M_item m_17) y19.toNatClampNeg))]) rfl ?_
          refine g_goto (pc := 139) (tgt := 73) C d_M_fits_139 (by decide) ?_
          refine g_sub [0, 1, 2, 3, 4, 5, 6, 7, 8] (lv' := [(0, .ref (a 0)), (1, .int x1), (2, .int x2), (3, .int x3), (4, .int x4), (5, .int x5), (6, .int x6), (7, .int 1), (8, .int y21)]) rfl ?_
          exact ih m_17 x1 x2 x3 x4 x5 x6 1 y21 hw
        · replace hw := hw.2 h27
          refine g_lload (pc := 116) C d_M_fits_116 9 rfl ?_
          refine g_aload_n (pc := 118) C d_M_fits_118 0 rfl rfl ?_
          refine g_iload_n (pc := 119) C d_M_fits_119 2 rfl rfl ?_
          refine g_iconst (pc := 120) C (v := 1) d_M_fits_120 (by decide) ?_
          refine k_Ia (pc := 121) (co_V C (c_M_get (xl X) (xD X) (xt X) (xv X) a m_17 x2 1 _ hw) mw_M_get lk_M_64 d_M_fits_121 (List.range _) (all_C _) (all_nd _) (rec_w C 0 6 rfl rfl) rfl rfl ⟨Nat.le_of_ble_eq_true rfl, Nat.le_of_ble_eq_true rfl⟩ ⟨Nat.le_of_ble_eq_true rfl, Nat.le_of_ble_eq_true rfl⟩ (rest := [.long ((M_item m_17) y19.toNatClampNeg)]) rfl rfl (Nat.le_of_ble_eq_true rfl)) (fun v22 m_23 hw => ?_)
          refine g_i2l (pc := 124) C d_M_fits_124 ?_
          refine g_lcmp (pc := 125) C d_M_fits_125 ?_
          refine g_if_ne (pc := 126) (tgt := 133) C d_M_fits_126 (by decide) (fun h26 => ?_) (fun h26 => ?_)
          · replace hw := hw.2 h26
            refine g_iconst (pc := 133) C (v := 0) d_M_fits_133 (by decide) ?_
            refine g_istore (pc := 134) C d_M_fits_134 (Nat.le_of_ble_eq_true rfl) (lv' := [(0, .ref (a 0)), (1, .int x1), (2, .int x2), (3, .int x3), (4, .int x4), (5, .int x5), (6, .int x6), (7, .int 0), (8, .int x8), (9, .long ((M_item m_17) y19.toNatClampNeg))]) rfl ?_
            obtain ⟨y24, ey24⟩ : ∃ w, w = x8 + 1 := ⟨_, rfl⟩
            replace hw := hw y24 ey24
            refine g_iinc (pc := 136) C d_M_fits_136 8 rfl (v := y24) (by rw [ey24]; rfl) (Nat.le_of_ble_eq_true rfl) (lv' := [(0, .ref (a 0)), (1, .int x1), (2, .int x2), (3, .int x3), (4, .int x4), (5, .int x5), (6, .int x6), (7, .int 0), (8, .int y24), (9, .long ((M_item m_17) y19.toNatClampNeg))]) rfl ?_
            refine g_goto (pc := 139) (tgt := 73) C d_M_fits_139 (by decide) ?_
            refine g_sub [0, 1, 2, 3, 4, 5, 6, 7, 8] (lv' := [(0, .ref (a 0)), (1, .int x1), (2, .int x2), (3, .int x3), (4, .int x4), (5, .int x5), (6, .int x6), (7, .int 0), (8, .int y24)]) rfl ?_
            exact ih m_23 x1 x2 x3 x4 x5 x6 0 y24 hw
          · replace hw := hw.1 h26
            refine g_iconst (pc := 129) C (v := 1) d_M_fits_129 (by decide) ?_
            refine g_goto (pc := 130) (tgt := 134) C d_M_fits_130 (by decide) ?_
            refine g_istore (pc := 134) C d_M_fits_134 (Nat.le_of_ble_eq_true rfl) (lv' := [(0, .ref (a 0)), (1, .int x1), (2, .int x2), (3, .int x3), (4, .int x4), (5, .int x5), (6, .int x6), (7, .int 1), (8, .int x8), (9, .long ((M_item m_17) y19.toNatClampNeg))]) rfl ?_
            obtain ⟨y25, ey25⟩ : ∃ w, w = x8 + 1 := ⟨_, rfl⟩
            replace hw := hw y25 ey25
            refine g_iinc (pc := 136) C d_M_fits_136 8 rfl (v := y25) (by rw [ey25]; rfl) (Nat.le_of_ble_eq_true rfl) (lv' := [(0, .ref (a 0)), (1, .int x1), (2, .int x2), (3, .int x3), (4, .int x4), (5, .int x5), (6, .int x6), (7, .int 1), (8, .int y25), (9, .long ((M_item m_17) y19.toNatClampNeg))]) rfl ?_
            refine g_goto (pc := 139) (tgt := 73) C d_M_fits_139 (by decide) ?_
            refine g_sub [0, 1, 2, 3, 4, 5, 6, 7, 8] (lv' := [(0, .ref (a 0)), (1, .int x1), (2, .int x2), (3, .int x3), (4, .int x4), (5, .int x5), (6, .int x6), (7, .int 1), (8, .int y25)]) rfl ?_
            exact ih m_23 x1 x2 x3 x4 x5 x6 1 y25 hw
def w_M_fits_54  (post : Int32 → MSt → Prop)  : Nat → MSt → Int32 → Int32 → Int32 → Int32 → Int32 → Int32 → Prop
  | 0, _, _, _, _, _, _, _ => False
  | n + 1, m, x1, x2, x3, x4, x5, x6 =>
    ((x6 < 0) → (((x3 = 0) → (post x4 m)) ∧ ((¬ x3 = 0) → (post x5 m)))) ∧ ((¬ x6 < 0) → (wp_M_puts m x2 1 x6 (fun m_9 => w_M_fits_73  post (w_M_fits_54  post  n) 2000 m_9 x1 x2 x3 x4 x5 x6 1 0)))
set_option maxRecDepth 20000 in
theorem j_M_fits_54 {X : GX} (C : GC X b_M_fits R_M 11 (rmd 4)) {Qp : Option Value → va_W → Prop} (q : RC X ((some .int)) Qp 0 0) (a : Nat → Nat)   (post : Int32 → MSt → Prop) (hq : ∀ v c1, post v c1 → Qp (some (.int v)) (woM (xt X) a c1)) : ∀ (n : Nat) (m : MSt) (x1 : Int32) (x2 : Int32) (x3 : Int32) (x4 : Int32) (x5 : Int32) (x6 : Int32), w_M_fits_54  post  n m x1 x2 x3 x4 x5 x6 → G X 0 0 (woM (xt X) a m) [(0, .ref (a 0)), (1, .int x1), (2, .int x2), (3, .int x3), (4, .int x4), (5, .int x5), (6, .int x6)] [] 54 := by
  intro n
  induction n with
  | zero => intro m x1 x2 x3 x4 x5 x6 hw; exact hw.elim
  | succ n ih =>
    intro m x1 x2 x3 x4 x5 x6 hw
    rw [w_M_fits_54] at hw
    refine g_iload (pc := 54) C d_M_fits_54 6 rfl ?_
    refine g_if_lt (pc := 56) (tgt := 181) C d_M_fits_56 (by decide) (fun h30 => ?_) (fun h30 => ?_)
    · replace hw := hw.1 h30
      refine g_iload_n (pc := 181) C d_M_fits_181 3 rfl rfl ?_
      refine g_if_ne (pc := 182) (tgt := 190) C d_M_fits_182 (by decide) (fun h8 => ?_) (fun h8 => ?_)
      · replace hw := hw.2 h8
        refine g_iload (pc := 190) C d_M_fits_190 5 rfl ?_
        exact g_iret (pc := 192) C q d_M_fits_192 (hq _ _ hw)
      · replace hw := hw.1 h8
        refine g_iload (pc := 185) C d_M_fits_185 4 rfl ?_
        refine g_goto (pc := 187) (tgt := 192) C d_M_fits_187 (by decide) ?_
        exact g_iret (pc := 192) C q d_M_fits_192 (hq _ _ hw)
    · replace hw := hw.2 h30
      refine g_aload_n (pc := 59) C d_M_fits_59 0 rfl rfl ?_
      refine g_iload_n (pc := 60) C d_M_fits_60 2 rfl rfl ?_
      refine g_iconst (pc := 61) C (v := 1) d_M_fits_61 (by decide) ?_
      refine g_iload (pc := 62) C d_M_fits_62 6 rfl ?_
      refine k_Va (pc := 64) (co_V C (c_M_puts (xl X) (xD X) (xt X) (xv X) a m x2 1 x6 _ hw) mw_M_puts lk_M_72 d_M_fits_64 (List.range _) (all_C _) (all_nd _) (rec_w C 0 6 rfl rfl) rfl rfl ⟨Nat.le_of_ble_eq_true rfl, Nat.le_of_ble_eq_true rfl⟩ ⟨Nat.le_of_ble_eq_true rfl, Nat.le_of_ble_eq_true rfl⟩ (rest := []) rfl rfl (Nat.le_of_ble_eq_true rfl)) (fun m_9 hw => ?_)
      refine g_iconst (pc := 67) C (v := 1) d_M_fits_67 (by decide) ?_
      refine g_istore (pc := 68) C d_M_fits_68 (Nat.le_of_ble_eq_true rfl) (lv' := [(0, .ref (a 0)), (1, .int x1), (2, .int x2), (3, .int x3), (4, .int x4), (5, .int x5), (6, .int x6), (7, .int 1)]) rfl ?_
      refine g_iconst (pc := 70) C (v := 0) d_M_fits_70 (by decide) ?_
      refine g_istore (pc := 71) C d_M_fits_71 (Nat.le_of_ble_eq_true rfl) (lv' := [(0, .ref (a 0)), (1, .int x1), (2, .int x2), (3, .int x3), (4, .int x4), (5, .int x5), (6, .int x6), (7, .int 1), (8, .int 0)]) rfl ?_
      exact j_M_fits_73 C q a post hq ih 2000 m_9 x1 x2 x3 x4 x5 x6 1 0 hw
def wp_M_fits (m : MSt) (x1 : Int32) (x2 : Int32) (x3 : Int32) (post : Int32 → MSt → Prop) : Prop :=
  wp_M_isSheet x1 (fun v1 => ((v1 = 0) → (post (-1) m)) ∧ ((¬ v1 = 0) → (wp_M_isBarge m x2 (fun v2 m_3 => ((v2 = 0) → (post (-1) m_3)) ∧ ((¬ v2 = 0) → (∀ y4 : Int64, y4 = x3.toInt64 → (wp_M_in y4 0 1 (fun v5 => ((v5 = 0) → (post (-1) m_3)) ∧ ((¬ v5 = 0) → (vp_in x1 4 ∧ (((((M_sortOf m_3) x1.toNatClampNeg) = 0) → (post (-11) m_3)) ∧ ((¬ ((M_sortOf m_3) x1.toNatClampNeg) = 0) → (wp_M_keepAside m_3 (fun m_7 => w_M_fits_54  post  2000 m_7 x1 x2 x3 0 (-3) 99))))))))))))))
set_option maxRecDepth 20000 in
theorem g_M_fits {X : GX} (C : GC X b_M_fits R_M 11 (rmd 4)) {Qp : Option Value → va_W → Prop} (q : RC X ((some .int)) Qp 0 0) (a : Nat → Nat) (m : MSt) (x1 : Int32) (x2 : Int32) (x3 : Int32) (post : Int32 → MSt → Prop) (hq : ∀ v c1, post v c1 → Qp (some (.int v)) (woM (xt X) a c1)) (hw : wp_M_fits m x1 x2 x3 post) : G X 0 0 (woM (xt X) a m) [(0, .ref (a 0)), (1, .int x1), (2, .int x2), (3, .int x3)] [] 0 := by
  unfold wp_M_fits at hw
  refine g_iload_n (pc := 0) C d_M_fits_0 1 rfl rfl ?_
  refine k_I0 (pc := 1) (co_S C (c_M_isSheet (xl X) (xD X) (xt X) (xv X) x1 _ hw) mw_M_isSheet lk_M_178 d_M_fits_1 [] rfl (by decide)  rfl rfl ⟨Nat.le_of_ble_eq_true rfl, Nat.le_of_ble_eq_true rfl⟩ ⟨Nat.le_of_ble_eq_true rfl, Nat.le_of_ble_eq_true rfl⟩ (rest := []) rfl rfl (Nat.le_of_ble_eq_true rfl)) (fun v1 hw => ?_)
  refine g_if_eq (pc := 4) (tgt := 25) C d_M_fits_4 (by decide) (fun h34 => ?_) (fun h34 => ?_)
  · replace hw := hw.1 h34
    refine g_iconst (pc := 25) C (v := (-1)) d_M_fits_25 (by decide) ?_
    exact g_iret (pc := 26) C q d_M_fits_26 (hq _ _ hw)
  · replace hw := hw.2 h34
    refine g_aload_n (pc := 7) C d_M_fits_7 0 rfl rfl ?_
    refine g_iload_n (pc := 8) C d_M_fits_8 2 rfl rfl ?_
    refine k_Ia (pc := 9) (co_V C (c_M_isBarge (xl X) (xD X) (xt X) (xv X) a m x2 _ hw) mw_M_isBarge lk_M_118 d_M_fits_9 (List.range _) (all_C _) (all_nd _) (rec_w C 0 6 rfl rfl) rfl rfl ⟨Nat.le_of_ble_eq_true rfl, Nat.le_of_ble_eq_true rfl⟩ ⟨Nat.le_of_ble_eq_true rfl, Nat.le_of_ble_eq_true rfl⟩ (rest := []) rfl rfl (Nat.le_of_ble_eq_true rfl)) (fun v2 m_3 hw => ?_)
    refine g_if_eq (pc := 12) (tgt := 25) C d_M_fits_12 (by decide) (fun h33 => ?_) (fun h33 => ?_)
    · replace hw := hw.1 h33
      refine g_iconst (pc := 25) C (v := (-1)) d_M_fits_25 (by decide) ?_
      exact g_iret (pc := 26) C q d_M_fits_26 (hq _ _ hw)
    · replace hw := hw.2 h33
      refine g_iload_n (pc := 15) C d_M_fits_15 3 rfl rfl ?_
      refine g_i2l (pc := 16) C d_M_fits_16 ?_
      refine g_topl (fun y4 ey4 => ?_)
      replace hw := hw y4 ey4
      refine g_lconst (pc := 17) C (v := 0) d_M_fits_17 (by decide) ?_
      refine g_lconst (pc := 18) C (v := 1) d_M_fits_18 (by decide) ?_
      refine k_I0 (pc := 19) (co_S C (c_M_in (xl X) (xD X) (xt X) (xv X) y4 0 1 _ hw) mw_M_in lk_M_58 d_M_fits_19 [] rfl (by decide)  rfl rfl ⟨Nat.le_of_ble_eq_true rfl, Nat.le_of_ble_eq_true rfl⟩ ⟨Nat.le_of_ble_eq_true rfl, Nat.le_of_ble_eq_true rfl⟩ (rest := []) rfl rfl (Nat.le_of_ble_eq_true rfl)) (fun v5 hw => ?_)
      refine g_if_ne (pc := 22) (tgt := 27) C d_M_fits_22 (by decide) (fun h32 => ?_) (fun h32 => ?_)
      · replace hw := hw.2 h32
        refine g_aload_n (pc := 27) C d_M_fits_27 0 rfl rfl ?_
        refine fM_sortOf (pc := 28) C lk_M_33 d_M_fits_28 ?_
        refine g_iload_n (pc := 31) C d_M_fits_31 1 rfl rfl ?_
        obtain ⟨h6, hw⟩ := hw
        refine lM_sortOf (pc := 32) C d_M_fits_32 (f := M_sortOf m_3) rfl (N0 := x1.toNatClampNeg) rfl h6 ?_
        refine g_if_ne (pc := 33) (tgt := 39) C d_M_fits_33 (by decide) (fun h31 => ?_) (fun h31 => ?_)
        · replace hw := hw.2 h31
          refine g_aload_n (pc := 39) C d_M_fits_39 0 rfl rfl ?_
          refine k_Va (pc := 40) (co_V C (c_M_keepAside (xl X) (xD X) (xt X) (xv X) a m_3 _ hw) mw_M_keepAside lk_M_138 d_M_fits_40 (List.range _) (all_C _) (all_nd _) (rec_w C 0 6 rfl rfl) rfl rfl ⟨Nat.le_of_ble_eq_true rfl, Nat.le_of_ble_eq_true rfl⟩ ⟨Nat.le_of_ble_eq_true rfl, Nat.le_of_ble_eq_true rfl⟩ (rest := []) rfl rfl (Nat.le_of_ble_eq_true rfl)) (fun m_7 hw => ?_)
          refine g_iconst (pc := 43) C (v := 0) d_M_fits_43 (by decide) ?_
          refine g_istore (pc := 44) C d_M_fits_44 (Nat.le_of_ble_eq_true rfl) (lv' := [(0, .ref (a 0)), (1, .int x1), (2, .int x2), (3, .int x3), (4, .int 0)]) rfl ?_
          refine g_bipush (pc := 46) C (v := (-3)) d_M_fits_46 (by decide) ?_
          refine g_istore (pc := 48) C d_M_fits_48 (Nat.le_of_ble_eq_true rfl) (lv' := [(0, .ref (a 0)), (1, .int x1), (2, .int x2), (3, .int x3), (4, .int 0), (5, .int (-3))]) rfl ?_
          refine g_bipush (pc := 50) C (v := 99) d_M_fits_50 (by decide) ?_
          refine g_istore (pc := 52) C d_M_fits_52 (Nat.le_of_ble_eq_true rfl) (lv' := [(0, .ref (a 0)), (1, .int x1), (2, .int x2), (3, .int x3), (4, .int 0), (5, .int (-3)), (6, .int 99)]) rfl ?_
          exact j_M_fits_54 C q a post hq  2000 m_7 x1 x2 x3 0 (-3) 99 hw
        · replace hw := hw.1 h31
          refine g_bipush (pc := 36) C (v := (-11)) d_M_fits_36 (by decide) ?_
          exact g_iret (pc := 38) C q d_M_fits_38 (hq _ _ hw)
      · replace hw := hw.1 h32
        refine g_iconst (pc := 25) C (v := (-1)) d_M_fits_25 (by decide) ?_
        exact g_iret (pc := 26) C q d_M_fits_26 (hq _ _ hw)
set_option maxRecDepth 20000 in
theorem c_M_fits (l : Launch) (D : va_G) (t : Nat → ClassId) (ev : Nat → Nat) (a : Nat → Nat) (m : MSt) (x1 : Int32) (x2 : Int32) (x3 : Int32) (post : Int32 → MSt → Prop) (hw : wp_M_fits m x1 x2 x3 post) : Con l D t ev y_M_fits b_M_fits 11 ((some .int)) 4 (woM t a m) [.ref (a 0), .int x1, .int x2, .int x3] (qI (woM t a)  post) :=
  ConR.of (by decide +kernel) (Nat.le_of_ble_eq_true rfl) (fun X el eD et ee C q _ => by subst el; subst eD; subst et; subst ee; exact g_M_fits C q a m x1 x2 x3 post (fun v c1 h => ⟨⟨v, c1, rfl, rfl, h⟩, rfl⟩) hw)
def w_M_common_6  (post : Int64 → Prop)  : Nat → Int64 → Int64 → Prop
  | 0, _, _ => False
  | n + 1, x4, x6 =>
    (((lg_cmp x6 0) = 0) → (post x4 )) ∧ ((¬ (lg_cmp x6 0) = 0) → (¬ x6 = 0 ∧ (∀ y2 : Int64, y2 = x4 - x4 / x6 * x6 → (w_M_common_6  post  n x6 y2))))
set_option maxRecDepth 20000 in
theorem j_M_common_6 {X : GX} (C : GC X b_M_common R_M 10 (rmd 0)) {Qp : Option Value → va_W → Prop} (q : RC X ((some .long)) Qp 0 0)    (post : Int64 → Prop) (hq : ∀ v, post v → Qp (some (.long v)) []) : ∀ (n : Nat) (x4 : Int64) (x6 : Int64), w_M_common_6  post  n x4 x6 → G X 0 0 ([]) [(4, .long x4), (6, .long x6)] [] 6 := by
  intro n
  induction n with
  | zero => intro x4 x6 hw; exact hw.elim
  | succ n ih =>
    intro x4 x6 hw
    rw [w_M_common_6] at hw
    refine g_lload (pc := 6) C d_M_common_6 1 rfl ?_
    refine g_lconst (pc := 8) C (v := 0) d_M_common_8 (by decide) ?_
    refine g_lcmp (pc := 9) C d_M_common_9 ?_
    refine g_if_eq (pc := 10) (tgt := 31) C d_M_common_10 (by decide) (fun h3 => ?_) (fun h3 => ?_)
    · replace hw := hw.1 h3
      refine g_lload (pc := 31) C d_M_common_31 0 rfl ?_
      exact g_lret (pc := 33) C q d_M_common_33 (hq _ hw)
    · replace hw := hw.2 h3
      refine g_lload (pc := 13) C d_M_common_13 0 rfl ?_
      refine g_lload (pc := 15) C d_M_common_15 1 rfl ?_
      obtain ⟨h1, hw⟩ := hw
      refine g_lrem (pc := 17) C d_M_common_17 h1 ?_
      refine g_topl (fun y2 ey2 => ?_)
      replace hw := hw y2 ey2
      refine g_lstore (pc := 18) C d_M_common_18 (Nat.le_of_ble_eq_true rfl) (lv' := [(4, .long x4), (6, .long x6), (8, .long y2)]) rfl ?_
      refine g_lload (pc := 20) C d_M_common_20 1 rfl ?_
      refine g_lstore (pc := 22) C d_M_common_22 (Nat.le_of_ble_eq_true rfl) (lv' := [(4, .long x6), (6, .long x6), (8, .long y2)]) rfl ?_
      refine g_lload (pc := 24) C d_M_common_24 2 rfl ?_
      refine g_lstore (pc := 26) C d_M_common_26 (Nat.le_of_ble_eq_true rfl) (lv' := [(4, .long x6), (6, .long y2), (8, .long y2)]) rfl ?_
      refine g_goto (pc := 28) (tgt := 6) C d_M_common_28 (by decide) ?_
      refine g_sub [0, 1] (lv' := [(4, .long x6), (6, .long y2)]) rfl ?_
      exact ih x6 y2 hw
def wp_M_common (x0 : Int64) (x2 : Int64) (post : Int64 → Prop) : Prop :=
  w_M_common_6  post  2000 x0 x2
set_option maxRecDepth 20000 in
theorem g_M_common {X : GX} (C : GC X b_M_common R_M 10 (rmd 0)) {Qp : Option Value → va_W → Prop} (q : RC X ((some .long)) Qp 0 0) (x0 : Int64) (x2 : Int64) (post : Int64 → Prop) (hq : ∀ v, post v → Qp (some (.long v)) []) (hw : wp_M_common x0 x2 post) : G X 0 0 ([]) [(0, .long x0), (2, .long x2)] [] 0 := by
  unfold wp_M_common at hw
  refine g_lload_n (pc := 0) C d_M_common_0 0 rfl rfl ?_
  refine g_lstore (pc := 1) C d_M_common_1 (Nat.le_of_ble_eq_true rfl) (lv' := [(0, .long x0), (2, .long x2), (4, .long x0)]) rfl ?_
  refine g_lload_n (pc := 3) C d_M_common_3 1 rfl rfl ?_
  refine g_lstore (pc := 4) C d_M_common_4 (Nat.le_of_ble_eq_true rfl) (lv' := [(0, .long x0), (2, .long x2), (4, .long x0), (6, .long x2)]) rfl ?_
  refine g_sub [2, 3] (lv' := [(4, .long x0), (6, .long x2)]) rfl ?_
  exact j_M_common_6 C q  post hq  2000 x0 x2 hw
set_option maxRecDepth 20000 in
theorem c_M_common (l : Launch) (D : va_G) (t : Nat → ClassId) (ev : Nat → Nat) (x0 : Int64) (x2 : Int64) (post : Int64 → Prop) (hw : wp_M_common x0 x2 post) : Con l D t ev y_M_common b_M_common 10 ((some .long)) 0 ([]) [.long x0, .long x2] (qL (fun _ : Unit => [])  (fun v _ => post v)) :=
  ConR.of (by decide +kernel) (Nat.le_of_ble_eq_true rfl) (fun X el eD et ee C q _ => by subst el; subst eD; subst et; subst ee; exact g_M_common C q x0 x2 post (fun v h => ⟨⟨v, (), rfl, rfl, h⟩, rfl⟩) hw)
def wp_M_partOf (x0 : Int64) (x2 : Int64) (x4 : Int32) (post : Int64 → Prop) : Prop :=
  ((x4 = 0) → (wp_M_common x0 x2 (fun v3 => ¬ v3 = 0 ∧ (post (x0 / v3) )))) ∧ ((¬ x4 = 0) → (wp_M_common x0 x2 (fun v1 => ¬ v1 = 0 ∧ (post (x2 / v1) ))))
set_option maxRecDepth 20000 in
theorem g_M_partOf {X : GX} (C : GC X b_M_partOf R_M 5 (rmd 1)) {Qp : Option Value → va_W → Prop} (q : RC X ((some .long)) Qp 0 0) (x0 : Int64) (x2 : Int64) (x4 : Int32) (post : Int64 → Prop) (hq : ∀ v, post v → Qp (some (.long v)) []) (hw : wp_M_partOf x0 x2 x4 post) : G X 0 0 ([]) [(0, .long x0), (2, .long x2), (4, .int x4)] [] 0 := by
  unfold wp_M_partOf at hw
  refine g_iload (pc := 0) C d_M_partOf_0 2 rfl ?_
  refine g_if_ne (pc := 2) (tgt := 9) C d_M_partOf_2 (by decide) (fun h5 => ?_) (fun h5 => ?_)
  · replace hw := hw.2 h5
    refine g_lload_n (pc := 9) C d_M_partOf_9 1 rfl rfl ?_
    refine g_lload_n (pc := 10) C d_M_partOf_10 0 rfl rfl ?_
    refine g_lload_n (pc := 11) C d_M_partOf_11 1 rfl rfl ?_
    refine k_L0 (pc := 12) (co_S C (c_M_common (xl X) (xD X) (xt X) (xv X) x0 x2 _ hw) mw_M_common lk_M_183 d_M_partOf_12 [] rfl (by decide)  rfl rfl ⟨Nat.le_of_ble_eq_true rfl, Nat.le_of_ble_eq_true rfl⟩ ⟨Nat.le_of_ble_eq_true rfl, Nat.le_of_ble_eq_true rfl⟩ (rest := [.long x2]) rfl rfl (Nat.le_of_ble_eq_true rfl)) (fun v1 hw => ?_)
    obtain ⟨h2, hw⟩ := hw
    refine g_ldiv (pc := 15) C d_M_partOf_15 h2 ?_
    exact g_lret (pc := 16) C q d_M_partOf_16 (hq _ hw)
  · replace hw := hw.1 h5
    refine g_lload_n (pc := 5) C d_M_partOf_5 0 rfl rfl ?_
    refine g_goto (pc := 6) (tgt := 10) C d_M_partOf_6 (by decide) ?_
    refine g_lload_n (pc := 10) C d_M_partOf_10 0 rfl rfl ?_
    refine g_lload_n (pc := 11) C d_M_partOf_11 1 rfl rfl ?_
    refine k_L0 (pc := 12) (co_S C (c_M_common (xl X) (xD X) (xt X) (xv X) x0 x2 _ hw) mw_M_common lk_M_183 d_M_partOf_12 [] rfl (by decide)  rfl rfl ⟨Nat.le_of_ble_eq_true rfl, Nat.le_of_ble_eq_true rfl⟩ ⟨Nat.le_of_ble_eq_true rfl, Nat.le_of_ble_eq_true rfl⟩ (rest := [.long x0]) rfl rfl (Nat.le_of_ble_eq_true rfl)) (fun v3 hw => ?_)
    obtain ⟨h4, hw⟩ := hw
    refine g_ldiv (pc := 15) C d_M_partOf_15 h4 ?_
    exact g_lret (pc := 16) C q d_M_partOf_16 (hq _ hw)
set_option maxRecDepth 20000 in
theorem c_M_partOf (l : Launch) (D : va_G) (t : Nat → ClassId) (ev : Nat → Nat) (x0 : Int64) (x2 : Int64) (x4 : Int32) (post : Int64 → Prop) (hw : wp_M_partOf x0 x2 x4 post) : Con l D t ev y_M_partOf b_M_partOf 5 ((some .long)) 1 ([]) [.long x0, .long x2, .int x4] (qL (fun _ : Unit => [])  (fun v _ => post v)) :=
  ConR.of (by decide +kernel) (Nat.le_of_ble_eq_true rfl) (fun X el eD et ee C q _ => by subst el; subst eD; subst et; subst ee; exact g_M_partOf C q x0 x2 x4 post (fun v h => ⟨⟨v, (), rfl, rfl, h⟩, rfl⟩) hw)
def w_M_ways_5  (post : Int64 → Prop)  : Nat → Int32 → Int32 → Int64 → Int32 → Prop
  | 0, _, _, _, _ => False
  | n + 1, x0, x1, x2, x4 =>
    ((x1 < x4) → (post x2 )) ∧ ((¬ x1 < x4) → (∀ y1 : Int32, y1 = x0 - x1 → (∀ y2 : Int64, y2 = x2 * ((y1 + x4).toInt64) → (¬ x4.toInt64 = 0 ∧ (∀ y4 : Int64, y4 = y2 / x4.toInt64 → (∀ y5 : Int32, y5 = x4 + 1 → (w_M_ways_5  post  n x0 x1 y4 y5)))))))
set_option maxRecDepth 20000 in
theorem j_M_ways_5 {X : GX} (C : GC X b_M_ways R_M 5 (rmd 0)) {Qp : Option Value → va_W → Prop} (q : RC X ((some .long)) Qp 0 0)    (post : Int64 → Prop) (hq : ∀ v, post v → Qp (some (.long v)) []) : ∀ (n : Nat) (x0 : Int32) (x1 : Int32) (x2 : Int64) (x4 : Int32), w_M_ways_5  post  n x0 x1 x2 x4 → G X 0 0 ([]) [(0, .int x0), (1, .int x1), (2, .long x2), (4, .int x4)] [] 5 := by
  intro n
  induction n with
  | zero => intro x0 x1 x2 x4 hw; exact hw.elim
  | succ n ih =>
    intro x0 x1 x2 x4 hw
    rw [w_M_ways_5] at hw
    refine g_iload (pc := 5) C d_M_ways_5 3 rfl ?_
    refine g_iload_n (pc := 7) C d_M_ways_7 1 rfl rfl ?_
    refine g_icmp_gt (pc := 8) (tgt := 31) C d_M_ways_8 (by decide) (fun h6 => ?_) (fun h6 => ?_)
    · replace hw := hw.1 h6
      refine g_lload_n (pc := 31) C d_M_ways_31 2 rfl rfl ?_
      exact g_lret (pc := 32) C q d_M_ways_32 (hq _ hw)
    · replace hw := hw.2 h6
      refine g_lload_n (pc := 11) C d_M_ways_11 2 rfl rfl ?_
      refine g_iload_n (pc := 12) C d_M_ways_12 0 rfl rfl ?_
      refine g_iload_n (pc := 13) C d_M_ways_13 1 rfl rfl ?_
      refine g_isub (pc := 14) C d_M_ways_14 ?_
      refine g_topi (fun y1 ey1 => ?_)
      replace hw := hw y1 ey1
      refine g_iload (pc := 15) C d_M_ways_15 3 rfl ?_
      refine g_iadd (pc := 17) C d_M_ways_17 ?_
      refine g_i2l (pc := 18) C d_M_ways_18 ?_
      refine g_lmul (pc := 19) C d_M_ways_19 ?_
      refine g_topl (fun y2 ey2 => ?_)
      replace hw := hw y2 ey2
      refine g_iload (pc := 20) C d_M_ways_20 3 rfl ?_
      refine g_i2l (pc := 22) C d_M_ways_22 ?_
      obtain ⟨h3, hw⟩ := hw
      refine g_ldiv (pc := 23) C d_M_ways_23 h3 ?_
      refine g_topl (fun y4 ey4 => ?_)
      replace hw := hw y4 ey4
      refine g_lstore_n (pc := 24) C d_M_ways_24 rfl (Nat.le_of_ble_eq_true rfl) (lv' := [(0, .int x0), (1, .int x1), (2, .long y4), (4, .int x4)]) rfl ?_
      obtain ⟨y5, ey5⟩ : ∃ w, w = x4 + 1 := ⟨_, rfl⟩
      replace hw := hw y5 ey5
      refine g_iinc (pc := 25) C d_M_ways_25 3 rfl (v := y5) (by rw [ey5]; rfl) (Nat.le_of_ble_eq_true rfl) (lv' := [(0, .int x0), (1, .int x1), (2, .long y4), (4, .int y5)]) rfl ?_
      refine g_goto (pc := 28) (tgt := 5) C d_M_ways_28 (by decide) ?_
      exact ih x0 x1 y4 y5 hw
def wp_M_ways (x0 : Int32) (x1 : Int32) (post : Int64 → Prop) : Prop :=
  w_M_ways_5  post  2000 x0 x1 1 1
set_option maxRecDepth 20000 in
theorem g_M_ways {X : GX} (C : GC X b_M_ways R_M 5 (rmd 0)) {Qp : Option Value → va_W → Prop} (q : RC X ((some .long)) Qp 0 0) (x0 : Int32) (x1 : Int32) (post : Int64 → Prop) (hq : ∀ v, post v → Qp (some (.long v)) []) (hw : wp_M_ways x0 x1 post) : G X 0 0 ([]) [(0, .int x0), (1, .int x1)] [] 0 := by
  unfold wp_M_ways at hw
  refine g_lconst (pc := 0) C (v := 1) d_M_ways_0 (by decide) ?_
  refine g_lstore_n (pc := 1) C d_M_ways_1 rfl (Nat.le_of_ble_eq_true rfl) (lv' := [(0, .int x0), (1, .int x1), (2, .long 1)]) rfl ?_
  refine g_iconst (pc := 2) C (v := 1) d_M_ways_2 (by decide) ?_
  refine g_istore (pc := 3) C d_M_ways_3 (Nat.le_of_ble_eq_true rfl) (lv' := [(0, .int x0), (1, .int x1), (2, .long 1), (4, .int 1)]) rfl ?_
  exact j_M_ways_5 C q  post hq  2000 x0 x1 1 1 hw
set_option maxRecDepth 20000 in
theorem c_M_ways (l : Launch) (D : va_G) (t : Nat → ClassId) (ev : Nat → Nat) (x0 : Int32) (x1 : Int32) (post : Int64 → Prop) (hw : wp_M_ways x0 x1 post) : Con l D t ev y_M_ways b_M_ways 5 ((some .long)) 0 ([]) [.int x0, .int x1] (qL (fun _ : Unit => [])  (fun v _ => post v)) :=
  ConR.of (by decide +kernel) (Nat.le_of_ble_eq_true rfl) (fun X el eD et ee C q _ => by subst el; subst eD; subst et; subst ee; exact g_M_ways C q x0 x1 post (fun v h => ⟨⟨v, (), rfl, rfl, h⟩, rfl⟩) hw)
def w_M_odds_46  (post : Int64 → MSt → Prop)  : Nat → MSt → Int32 → Int32 → Int32 → Int64 → Int64 → Int32 → Prop
  | 0, _, _, _, _, _, _, _ => False
  | n + 1, m, x1, x2, x3, x4, x6, x8 =>
    ((x1 ≤ x8) → (wp_M_ways x1 x2 (fun v8 => ∀ y9 : Int64, y9 = x4 * v8 → (wp_M_partOf y9 x6 x3 (fun v10 => post v10 m))))) ∧ ((¬ x1 ≤ x8) → (((x2 ≤ x8) → (∀ y11 : Int64, y11 = x4 * ((100 - ((M_d m) 3)).toInt64) → (∀ y12 : Int64, y12 = x6 * 100 → (∀ y13 : Int32, y13 = x8 + 1 → (w_M_odds_46  post  n m x1 x2 x3 y11 y12 y13))))) ∧ ((¬ x2 ≤ x8) → (∀ y14 : Int64, y14 = ((M_d m) 3).toInt64 → (∀ y15 : Int64, y15 = x4 * y14 → (∀ y16 : Int64, y16 = x6 * 100 → (∀ y17 : Int32, y17 = x8 + 1 → (w_M_odds_46  post  n m x1 x2 x3 y15 y16 y17))))))))
set_option maxRecDepth 20000 in
theorem j_M_odds_46 {X : GX} (C : GC X b_M_odds R_M 9 (rmd 2)) {Qp : Option Value → va_W → Prop} (q : RC X ((some .long)) Qp 0 0) (a : Nat → Nat)   (post : Int64 → MSt → Prop) (hq : ∀ v c1, post v c1 → Qp (some (.long v)) (woM (xt X) a c1)) : ∀ (n : Nat) (m : MSt) (x1 : Int32) (x2 : Int32) (x3 : Int32) (x4 : Int64) (x6 : Int64) (x8 : Int32), w_M_odds_46  post  n m x1 x2 x3 x4 x6 x8 → G X 0 0 (woM (xt X) a m) [(0, .ref (a 0)), (1, .int x1), (2, .int x2), (3, .int x3), (4, .long x4), (6, .long x6), (8, .int x8)] [] 46 := by
  intro n
  induction n with
  | zero => intro m x1 x2 x3 x4 x6 x8 hw; exact hw.elim
  | succ n ih =>
    intro m x1 x2 x3 x4 x6 x8 hw
    rw [w_M_odds_46] at hw
    refine g_iload (pc := 46) C d_M_odds_46 6 rfl ?_
    refine g_iload_n (pc := 48) C d_M_odds_48 1 rfl rfl ?_
    refine g_icmp_ge (pc := 49) (tgt := 97) C d_M_odds_49 (by decide) (fun h19 => ?_) (fun h19 => ?_)
    · replace hw := hw.1 h19
      refine g_lload (pc := 97) C d_M_odds_97 4 rfl ?_
      refine g_iload_n (pc := 99) C d_M_odds_99 1 rfl rfl ?_
      refine g_iload_n (pc := 100) C d_M_odds_100 2 rfl rfl ?_
      refine k_L0 (pc := 101) (co_S C (c_M_ways (xl X) (xD X) (xt X) (xv X) x1 x2 _ hw) mw_M_ways lk_M_191 d_M_odds_101 [] rfl (by decide)  rfl rfl ⟨Nat.le_of_ble_eq_true rfl, Nat.le_of_ble_eq_true rfl⟩ ⟨Nat.le_of_ble_eq_true rfl, Nat.le_of_ble_eq_true rfl⟩ (rest := [.long x4]) rfl rfl (Nat.le_of_ble_eq_true rfl)) (fun v8 hw => ?_)
      refine g_lmul (pc := 104) C d_M_odds_104 ?_
      refine g_topl (fun y9 ey9 => ?_)
      replace hw := hw y9 ey9
      refine g_lload (pc := 105) C d_M_odds_105 5 rfl ?_
      refine g_iload_n (pc := 107) C d_M_odds_107 3 rfl rfl ?_
      refine k_L0 (pc := 108) (co_S C (c_M_partOf (xl X) (xD X) (xt X) (xv X) y9 x6 x3 _ hw) mw_M_partOf lk_M_195 d_M_odds_108 [] rfl (by decide)  rfl rfl ⟨Nat.le_of_ble_eq_true rfl, Nat.le_of_ble_eq_true rfl⟩ ⟨Nat.le_of_ble_eq_true rfl, Nat.le_of_ble_eq_true rfl⟩ (rest := []) rfl rfl (Nat.le_of_ble_eq_true rfl)) (fun v10 hw => ?_)
      exact g_lret (pc := 111) C q d_M_odds_111 (hq _ _ hw)
    · replace hw := hw.2 h19
      refine g_lload (pc := 52) C d_M_odds_52 4 rfl ?_
      refine g_iload (pc := 54) C d_M_odds_54 6 rfl ?_
      refine g_iload_n (pc := 56) C d_M_odds_56 2 rfl rfl ?_
      refine g_icmp_ge (pc := 57) (tgt := 70) C d_M_odds_57 (by decide) (fun h18 => ?_) (fun h18 => ?_)
      · replace hw := hw.1 h18
        refine g_bipush (pc := 70) C (v := 100) d_M_odds_70 (by decide) ?_
        refine g_aload_n (pc := 72) C d_M_odds_72 0 rfl rfl ?_
        refine fM_d (pc := 73) C lk_M_7 d_M_odds_73 ?_
        refine g_iconst (pc := 76) C (v := 3) d_M_odds_76 (by decide) ?_
        refine lM_d (pc := 77) C d_M_odds_77 (f := M_d m) rfl (N0 := 3) (by decide) (by unfold vp_in; decide) ?_
        refine g_isub (pc := 78) C d_M_odds_78 ?_
        refine g_i2l (pc := 79) C d_M_odds_79 ?_
        refine g_lmul (pc := 80) C d_M_odds_80 ?_
        refine g_topl (fun y11 ey11 => ?_)
        replace hw := hw y11 ey11
        refine g_lstore (pc := 81) C d_M_odds_81 (Nat.le_of_ble_eq_true rfl) (lv' := [(0, .ref (a 0)), (1, .int x1), (2, .int x2), (3, .int x3), (4, .long y11), (6, .long x6), (8, .int x8)]) rfl ?_
        refine g_lload (pc := 83) C d_M_odds_83 5 rfl ?_
        refine g_ldc2_w (pc := 85) C (v := 100) d_M_odds_85 lk_M_189 ?_
        refine g_lmul (pc := 88) C d_M_odds_88 ?_
        refine g_topl (fun y12 ey12 => ?_)
        replace hw := hw y12 ey12
        refine g_lstore (pc := 89) C d_M_odds_89 (Nat.le_of_ble_eq_true rfl) (lv' := [(0, .ref (a 0)), (1, .int x1), (2, .int x2), (3, .int x3), (4, .long y11), (6, .long y12), (8, .int x8)]) rfl ?_
        obtain ⟨y13, ey13⟩ : ∃ w, w = x8 + 1 := ⟨_, rfl⟩
        replace hw := hw y13 ey13
        refine g_iinc (pc := 91) C d_M_odds_91 6 rfl (v := y13) (by rw [ey13]; rfl) (Nat.le_of_ble_eq_true rfl) (lv' := [(0, .ref (a 0)), (1, .int x1), (2, .int x2), (3, .int x3), (4, .long y11), (6, .long y12), (8, .int y13)]) rfl ?_
        refine g_goto (pc := 94) (tgt := 46) C d_M_odds_94 (by decide) ?_
        exact ih m x1 x2 x3 y11 y12 y13 hw
      · replace hw := hw.2 h18
        refine g_aload_n (pc := 60) C d_M_odds_60 0 rfl rfl ?_
        refine fM_d (pc := 61) C lk_M_7 d_M_odds_61 ?_
        refine g_iconst (pc := 64) C (v := 3) d_M_odds_64 (by decide) ?_
        refine lM_d (pc := 65) C d_M_odds_65 (f := M_d m) rfl (N0 := 3) (by decide) (by unfold vp_in; decide) ?_
        refine g_i2l (pc := 66) C d_M_odds_66 ?_
        refine g_topl (fun y14 ey14 => ?_)
        replace hw := hw y14 ey14
        refine g_goto (pc := 67) (tgt := 80) C d_M_odds_67 (by decide) ?_
        refine g_lmul (pc := 80) C d_M_odds_80 ?_
        refine g_topl (fun y15 ey15 => ?_)
        replace hw := hw y15 ey15
        refine g_lstore (pc := 81) C d_M_odds_81 (Nat.le_of_ble_eq_true rfl) (lv' := [(0, .ref (a 0)), (1, .int x1), (2, .int x2), (3, .int x3), (4, .long y15), (6, .long x6), (8, .int x8)]) rfl ?_
        refine g_lload (pc := 83) C d_M_odds_83 5 rfl ?_
        refine g_ldc2_w (pc := 85) C (v := 100) d_M_odds_85 lk_M_189 ?_
        refine g_lmul (pc := 88) C d_M_odds_88 ?_
        refine g_topl (fun y16 ey16 => ?_)
        replace hw := hw y16 ey16
        refine g_lstore (pc := 89) C d_M_odds_89 (Nat.le_of_ble_eq_true rfl) (lv' := [(0, .ref (a 0)), (1, .int x1), (2, .int x2), (3, .int x3), (4, .long y15), (6, .long y16), (8, .int x8)]) rfl ?_
        obtain ⟨y17, ey17⟩ : ∃ w, w = x8 + 1 := ⟨_, rfl⟩
        replace hw := hw y17 ey17
        refine g_iinc (pc := 91) C d_M_odds_91 6 rfl (v := y17) (by rw [ey17]; rfl) (Nat.le_of_ble_eq_true rfl) (lv' := [(0, .ref (a 0)), (1, .int x1), (2, .int x2), (3, .int x3), (4, .long y15), (6, .long y16), (8, .int y17)]) rfl ?_
        refine g_goto (pc := 94) (tgt := 46) C d_M_odds_94 (by decide) ?_
        exact ih m x1 x2 x3 y15 y16 y17 hw
def wp_M_odds (m : MSt) (x1 : Int32) (x2 : Int32) (x3 : Int32) (post : Int64 → MSt → Prop) : Prop :=
  ∀ y1 : Int64, y1 = x1.toInt64 → (wp_M_in y1 0 8 (fun v2 => ((v2 = 0) → (post (-1) m)) ∧ ((¬ v2 = 0) → (∀ y3 : Int64, y3 = x2.toInt64 → (∀ y4 : Int64, y4 = x1.toInt64 → (wp_M_in y3 0 y4 (fun v5 => ((v5 = 0) → (post (-1) m)) ∧ ((¬ v5 = 0) → (∀ y6 : Int64, y6 = x3.toInt64 → (wp_M_in y6 0 1 (fun v7 => ((v7 = 0) → (post (-1) m)) ∧ ((¬ v7 = 0) → (w_M_odds_46  post  2000 m x1 x2 x3 1 1 0)))))))))))))
set_option maxRecDepth 20000 in
theorem g_M_odds {X : GX} (C : GC X b_M_odds R_M 9 (rmd 2)) {Qp : Option Value → va_W → Prop} (q : RC X ((some .long)) Qp 0 0) (a : Nat → Nat) (m : MSt) (x1 : Int32) (x2 : Int32) (x3 : Int32) (post : Int64 → MSt → Prop) (hq : ∀ v c1, post v c1 → Qp (some (.long v)) (woM (xt X) a c1)) (hw : wp_M_odds m x1 x2 x3 post) : G X 0 0 (woM (xt X) a m) [(0, .ref (a 0)), (1, .int x1), (2, .int x2), (3, .int x3)] [] 0 := by
  unfold wp_M_odds at hw
  refine g_iload_n (pc := 0) C d_M_odds_0 1 rfl rfl ?_
  refine g_i2l (pc := 1) C d_M_odds_1 ?_
  refine g_topl (fun y1 ey1 => ?_)
  replace hw := hw y1 ey1
  refine g_lconst (pc := 2) C (v := 0) d_M_odds_2 (by decide) ?_
  refine g_ldc2_w (pc := 3) C (v := 8) d_M_odds_3 lk_M_187 ?_
  refine k_I0 (pc := 6) (co_S C (c_M_in (xl X) (xD X) (xt X) (xv X) y1 0 8 _ hw) mw_M_in lk_M_58 d_M_odds_6 [] rfl (by decide)  rfl rfl ⟨Nat.le_of_ble_eq_true rfl, Nat.le_of_ble_eq_true rfl⟩ ⟨Nat.le_of_ble_eq_true rfl, Nat.le_of_ble_eq_true rfl⟩ (rest := []) rfl rfl (Nat.le_of_ble_eq_true rfl)) (fun v2 hw => ?_)
  refine g_if_eq (pc := 9) (tgt := 33) C d_M_odds_9 (by decide) (fun h22 => ?_) (fun h22 => ?_)
  · replace hw := hw.1 h22
    refine g_ldc2_w (pc := 33) C (v := (-1)) d_M_odds_33 lk_M_181 ?_
    exact g_lret (pc := 36) C q d_M_odds_36 (hq _ _ hw)
  · replace hw := hw.2 h22
    refine g_iload_n (pc := 12) C d_M_odds_12 2 rfl rfl ?_
    refine g_i2l (pc := 13) C d_M_odds_13 ?_
    refine g_topl (fun y3 ey3 => ?_)
    replace hw := hw y3 ey3
    refine g_lconst (pc := 14) C (v := 0) d_M_odds_14 (by decide) ?_
    refine g_iload_n (pc := 15) C d_M_odds_15 1 rfl rfl ?_
    refine g_i2l (pc := 16) C d_M_odds_16 ?_
    refine g_topl (fun y4 ey4 => ?_)
    replace hw := hw y4 ey4
    refine k_I0 (pc := 17) (co_S C (c_M_in (xl X) (xD X) (xt X) (xv X) y3 0 y4 _ hw) mw_M_in lk_M_58 d_M_odds_17 [] rfl (by decide)  rfl rfl ⟨Nat.le_of_ble_eq_true rfl, Nat.le_of_ble_eq_true rfl⟩ ⟨Nat.le_of_ble_eq_true rfl, Nat.le_of_ble_eq_true rfl⟩ (rest := []) rfl rfl (Nat.le_of_ble_eq_true rfl)) (fun v5 hw => ?_)
    refine g_if_eq (pc := 20) (tgt := 33) C d_M_odds_20 (by decide) (fun h21 => ?_) (fun h21 => ?_)
    · replace hw := hw.1 h21
      refine g_ldc2_w (pc := 33) C (v := (-1)) d_M_odds_33 lk_M_181 ?_
      exact g_lret (pc := 36) C q d_M_odds_36 (hq _ _ hw)
    · replace hw := hw.2 h21
      refine g_iload_n (pc := 23) C d_M_odds_23 3 rfl rfl ?_
      refine g_i2l (pc := 24) C d_M_odds_24 ?_
      refine g_topl (fun y6 ey6 => ?_)
      replace hw := hw y6 ey6
      refine g_lconst (pc := 25) C (v := 0) d_M_odds_25 (by decide) ?_
      refine g_lconst (pc := 26) C (v := 1) d_M_odds_26 (by decide) ?_
      refine k_I0 (pc := 27) (co_S C (c_M_in (xl X) (xD X) (xt X) (xv X) y6 0 1 _ hw) mw_M_in lk_M_58 d_M_odds_27 [] rfl (by decide)  rfl rfl ⟨Nat.le_of_ble_eq_true rfl, Nat.le_of_ble_eq_true rfl⟩ ⟨Nat.le_of_ble_eq_true rfl, Nat.le_of_ble_eq_true rfl⟩ (rest := []) rfl rfl (Nat.le_of_ble_eq_true rfl)) (fun v7 hw => ?_)
      refine g_if_ne (pc := 30) (tgt := 37) C d_M_odds_30 (by decide) (fun h20 => ?_) (fun h20 => ?_)
      · replace hw := hw.2 h20
        refine g_lconst (pc := 37) C (v := 1) d_M_odds_37 (by decide) ?_
        refine g_lstore (pc := 38) C d_M_odds_38 (Nat.le_of_ble_eq_true rfl) (lv' := [(0, .ref (a 0)), (1, .int x1), (2, .int x2), (3, .int x3), (4, .long 1)]) rfl ?_
        refine g_lconst (pc := 40) C (v := 1) d_M_odds_40 (by decide) ?_
        refine g_lstore (pc := 41) C d_M_odds_41 (Nat.le_of_ble_eq_true rfl) (lv' := [(0, .ref (a 0)), (1, .int x1), (2, .int x2), (3, .int x3), (4, .long 1), (6, .long 1)]) rfl ?_
        refine g_iconst (pc := 43) C (v := 0) d_M_odds_43 (by decide) ?_
        refine g_istore (pc := 44) C d_M_odds_44 (Nat.le_of_ble_eq_true rfl) (lv' := [(0, .ref (a 0)), (1, .int x1), (2, .int x2), (3, .int x3), (4, .long 1), (6, .long 1), (8, .int 0)]) rfl ?_
        exact j_M_odds_46 C q a post hq  2000 m x1 x2 x3 1 1 0 hw
      · replace hw := hw.1 h20
        refine g_ldc2_w (pc := 33) C (v := (-1)) d_M_odds_33 lk_M_181 ?_
        exact g_lret (pc := 36) C q d_M_odds_36 (hq _ _ hw)
set_option maxRecDepth 20000 in
theorem c_M_odds (l : Launch) (D : va_G) (t : Nat → ClassId) (ev : Nat → Nat) (a : Nat → Nat) (m : MSt) (x1 : Int32) (x2 : Int32) (x3 : Int32) (post : Int64 → MSt → Prop) (hw : wp_M_odds m x1 x2 x3 post) : Con l D t ev y_M_odds b_M_odds 9 ((some .long)) 2 (woM t a m) [.ref (a 0), .int x1, .int x2, .int x3] (qL (woM t a)  post) :=
  ConR.of (by decide +kernel) (Nat.le_of_ble_eq_true rfl) (fun X el eD et ee C q _ => by subst el; subst eD; subst et; subst ee; exact g_M_odds C q a m x1 x2 x3 post (fun v c1 h => ⟨⟨v, c1, rfl, rfl, h⟩, rfl⟩) hw)
def wp_M_hope (m : MSt) (x1 : Int32) (x2 : Int32) (post : Int64 → MSt → Prop) : Prop :=
  ∀ y1 : Int64, y1 = x1.toInt64 → (wp_M_in y1 0 99 (fun v2 => ((v2 = 0) → (post (-1) m)) ∧ ((¬ v2 = 0) → (∀ y3 : Int64, y3 = x2.toInt64 → (wp_M_in y3 0 1 (fun v4 => ((v4 = 0) → (post (-1) m)) ∧ ((¬ v4 = 0) → (∀ y5 : Int64, y5 = x1.toInt64 → (∀ y6 : Int64, y6 = y5 * (((M_d m) 3).toInt64) → (wp_M_partOf y6 100 x2 (fun v7 => post v7 m)))))))))))
set_option maxRecDepth 20000 in
theorem g_M_hope {X : GX} (C : GC X b_M_hope R_M 3 (rmd 2)) {Qp : Option Value → va_W → Prop} (q : RC X ((some .long)) Qp 0 0) (a : Nat → Nat) (m : MSt) (x1 : Int32) (x2 : Int32) (post : Int64 → MSt → Prop) (hq : ∀ v c1, post v c1 → Qp (some (.long v)) (woM (xt X) a c1)) (hw : wp_M_hope m x1 x2 post) : G X 0 0 (woM (xt X) a m) [(0, .ref (a 0)), (1, .int x1), (2, .int x2)] [] 0 := by
  unfold wp_M_hope at hw
  refine g_iload_n (pc := 0) C d_M_hope_0 1 rfl rfl ?_
  refine g_i2l (pc := 1) C d_M_hope_1 ?_
  refine g_topl (fun y1 ey1 => ?_)
  replace hw := hw y1 ey1
  refine g_lconst (pc := 2) C (v := 0) d_M_hope_2 (by decide) ?_
  refine g_ldc2_w (pc := 3) C (v := 99) d_M_hope_3 lk_M_100 ?_
  refine k_I0 (pc := 6) (co_S C (c_M_in (xl X) (xD X) (xt X) (xv X) y1 0 99 _ hw) mw_M_in lk_M_58 d_M_hope_6 [] rfl (by decide)  rfl rfl ⟨Nat.le_of_ble_eq_true rfl, Nat.le_of_ble_eq_true rfl⟩ ⟨Nat.le_of_ble_eq_true rfl, Nat.le_of_ble_eq_true rfl⟩ (rest := []) rfl rfl (Nat.le_of_ble_eq_true rfl)) (fun v2 hw => ?_)
  refine g_if_eq (pc := 9) (tgt := 42) C d_M_hope_9 (by decide) (fun h9 => ?_) (fun h9 => ?_)
  · replace hw := hw.1 h9
    refine g_ldc2_w (pc := 42) C (v := (-1)) d_M_hope_42 lk_M_181 ?_
    exact g_lret (pc := 45) C q d_M_hope_45 (hq _ _ hw)
  · replace hw := hw.2 h9
    refine g_iload_n (pc := 12) C d_M_hope_12 2 rfl rfl ?_
    refine g_i2l (pc := 13) C d_M_hope_13 ?_
    refine g_topl (fun y3 ey3 => ?_)
    replace hw := hw y3 ey3
    refine g_lconst (pc := 14) C (v := 0) d_M_hope_14 (by decide) ?_
    refine g_lconst (pc := 15) C (v := 1) d_M_hope_15 (by decide) ?_
    refine k_I0 (pc := 16) (co_S C (c_M_in (xl X) (xD X) (xt X) (xv X) y3 0 1 _ hw) mw_M_in lk_M_58 d_M_hope_16 [] rfl (by decide)  rfl rfl ⟨Nat.le_of_ble_eq_true rfl, Nat.le_of_ble_eq_true rfl⟩ ⟨Nat.le_of_ble_eq_true rfl, Nat.le_of_ble_eq_true rfl⟩ (rest := []) rfl rfl (Nat.le_of_ble_eq_true rfl)) (fun v4 hw => ?_)
    refine g_if_eq (pc := 19) (tgt := 42) C d_M_hope_19 (by decide) (fun h8 => ?_) (fun h8 => ?_)
    · replace hw := hw.1 h8
      refine g_ldc2_w (pc := 42) C (v := (-1)) d_M_hope_42 lk_M_181 ?_
      exact g_lret (pc := 45) C q d_M_hope_45 (hq _ _ hw)
    · replace hw := hw.2 h8
      refine g_iload_n (pc := 22) C d_M_hope_22 1 rfl rfl ?_
      refine g_i2l (pc := 23) C d_M_hope_23 ?_
      refine g_topl (fun y5 ey5 => ?_)
      replace hw := hw y5 ey5
      refine g_aload_n (pc := 24) C d_M_hope_24 0 rfl rfl ?_
      refine fM_d (pc := 25) C lk_M_7 d_M_hope_25 ?_
      refine g_iconst (pc := 28) C (v := 3) d_M_hope_28 (by decide) ?_
      refine lM_d (pc := 29) C d_M_hope_29 (f := M_d m) rfl (N0 := 3) (by decide) (by unfold vp_in; decide) ?_
      refine g_i2l (pc := 30) C d_M_hope_30 ?_
      refine g_lmul (pc := 31) C d_M_hope_31 ?_
      refine g_topl (fun y6 ey6 => ?_)
      replace hw := hw y6 ey6
      refine g_ldc2_w (pc := 32) C (v := 100) d_M_hope_32 lk_M_189 ?_
      refine g_iload_n (pc := 35) C d_M_hope_35 2 rfl rfl ?_
      refine k_L0 (pc := 36) (co_S C (c_M_partOf (xl X) (xD X) (xt X) (xv X) y6 100 x2 _ hw) mw_M_partOf lk_M_195 d_M_hope_36 [] rfl (by decide)  rfl rfl ⟨Nat.le_of_ble_eq_true rfl, Nat.le_of_ble_eq_true rfl⟩ ⟨Nat.le_of_ble_eq_true rfl, Nat.le_of_ble_eq_true rfl⟩ (rest := []) rfl rfl (Nat.le_of_ble_eq_true rfl)) (fun v7 hw => ?_)
      refine g_goto (pc := 39) (tgt := 45) C d_M_hope_39 (by decide) ?_
      exact g_lret (pc := 45) C q d_M_hope_45 (hq _ _ hw)
set_option maxRecDepth 20000 in
theorem c_M_hope (l : Launch) (D : va_G) (t : Nat → ClassId) (ev : Nat → Nat) (a : Nat → Nat) (m : MSt) (x1 : Int32) (x2 : Int32) (post : Int64 → MSt → Prop) (hw : wp_M_hope m x1 x2 post) : Con l D t ev y_M_hope b_M_hope 3 ((some .long)) 2 (woM t a m) [.ref (a 0), .int x1, .int x2] (qL (woM t a)  post) :=
  ConR.of (by decide +kernel) (Nat.le_of_ble_eq_true rfl) (fun X el eD et ee C q _ => by subst el; subst eD; subst et; subst ee; exact g_M_hope C q a m x1 x2 post (fun v c1 h => ⟨⟨v, c1, rfl, rfl, h⟩, rfl⟩) hw)
def w_M_feed_32  (post : Int32 → MSt → Prop)  : Nat → MSt → Int64 → Int32 → Int32 → Prop
  | 0, _, _, _, _ => False
  | n + 1, m, x1, x3, x4 =>
    ((x3 ≤ x4) → (post (M_taped m) m)) ∧ ((¬ x3 ≤ x4) → (∀ y4 : Int32, y4 = 8 * x4 → (∀ y5 : Int64, y5 = x1 >>> (y4.toInt64 &&& 63) → (∀ y6 : Int32, y6 = (y5 &&& 255).toInt32 → (vp_in (M_taped m) 200 ∧ (∀ y8 : Int32, y8 = (M_taped m) + 1 → (∀ y9 : Int32, y9 = x4 + 1 → (w_M_feed_32  post  n (M_taped_ (M_tape_ m (upd (M_tape m) (M_taped m).toNatClampNeg y6)) y8) x1 x3 y9))))))))
set_option maxRecDepth 20000 in
theorem j_M_feed_32 {X : GX} (C : GC X b_M_feed R_M 5 (rmd 1)) {Qp : Option Value → va_W → Prop} (q : RC X ((some .int)) Qp 0 0) (a : Nat → Nat)   (post : Int32 → MSt → Prop) (hq : ∀ v c1, post v c1 → Qp (some (.int v)) (woM (xt X) a c1)) : ∀ (n : Nat) (m : MSt) (x1 : Int64) (x3 : Int32) (x4 : Int32), w_M_feed_32  post  n m x1 x3 x4 → G X 0 0 (woM (xt X) a m) [(0, .ref (a 0)), (1, .long x1), (3, .int x3), (4, .int x4)] [] 32 := by
  intro n
  induction n with
  | zero => intro m x1 x3 x4 hw; exact hw.elim
  | succ n ih =>
    intro m x1 x3 x4 hw
    rw [w_M_feed_32] at hw
    refine g_iload (pc := 32) C d_M_feed_32 3 rfl ?_
    refine g_iload_n (pc := 34) C d_M_feed_34 2 rfl rfl ?_
    refine g_icmp_ge (pc := 35) (tgt := 75) C d_M_feed_35 (by decide) (fun h10 => ?_) (fun h10 => ?_)
    · replace hw := hw.1 h10
      refine g_aload_n (pc := 75) C d_M_feed_75 0 rfl rfl ?_
      refine fM_taped (pc := 76) C lk_M_199 d_M_feed_76 (v := M_taped m) rfl ?_
      exact g_iret (pc := 79) C q d_M_feed_79 (hq _ _ hw)
    · replace hw := hw.2 h10
      refine g_aload_n (pc := 38) C d_M_feed_38 0 rfl rfl ?_
      refine fM_tape (pc := 39) C lk_M_23 d_M_feed_39 ?_
      refine g_aload_n (pc := 42) C d_M_feed_42 0 rfl rfl ?_
      refine fM_taped (pc := 43) C lk_M_199 d_M_feed_43 (v := M_taped m) rfl ?_
      refine g_lload_n (pc := 46) C d_M_feed_46 1 rfl rfl ?_
      refine g_bipush (pc := 47) C (v := 8) d_M_feed_47 (by decide) ?_
      refine g_iload (pc := 49) C d_M_feed_49 3 rfl ?_
      refine g_imul (pc := 51) C d_M_feed_51 ?_
      refine g_topi (fun y4 ey4 => ?_)
      replace hw := hw y4 ey4
      refine g_lshr (pc := 52) C d_M_feed_52 ?_
      refine g_topl (fun y5 ey5 => ?_)
      replace hw := hw y5 ey5
      refine g_ldc2_w (pc := 53) C (v := 255) d_M_feed_53 lk_M_202 ?_
      refine g_land (pc := 56) C d_M_feed_56 ?_
      refine g_l2i (pc := 57) C d_M_feed_57 ?_
      refine g_topi (fun y6 ey6 => ?_)
      replace hw := hw y6 ey6
      obtain ⟨h7, hw⟩ := hw
      refine sM_tape (pc := 58) C d_M_feed_58 (f := M_tape m) rfl (N0 := (M_taped m).toNatClampNeg) rfl h7 ?_
      refine g_aload_n (pc := 59) C d_M_feed_59 0 rfl rfl ?_
      refine g_dup (pc := 60) C d_M_feed_60 rfl ?_
      refine fM_taped (pc := 61) C lk_M_199 d_M_feed_61 (v := M_taped m) rfl ?_
      refine g_iconst (pc := 64) C (v := 1) d_M_feed_64 (by decide) ?_
      refine g_iadd (pc := 65) C d_M_feed_65 ?_
      refine g_topi (fun y8 ey8 => ?_)
      replace hw := hw y8 ey8
      refine pM_taped (pc := 66) C lk_M_199 d_M_feed_66   ?_
      obtain ⟨y9, ey9⟩ : ∃ w, w = x4 + 1 := ⟨_, rfl⟩
      replace hw := hw y9 ey9
      refine g_iinc (pc := 69) C d_M_feed_69 3 rfl (v := y9) (by rw [ey9]; rfl) (Nat.le_of_ble_eq_true rfl) (lv' := [(0, .ref (a 0)), (1, .long x1), (3, .int x3), (4, .int y9)]) rfl ?_
      refine g_goto (pc := 72) (tgt := 32) C d_M_feed_72 (by decide) ?_
      exact ih (M_taped_ (M_tape_ m (upd (M_tape m) (M_taped m).toNatClampNeg y6)) y8) x1 x3 y9 hw
def wp_M_feed (m : MSt) (x1 : Int64) (x3 : Int32) (post : Int32 → MSt → Prop) : Prop :=
  ∀ y1 : Int64, y1 = x3.toInt64 → (wp_M_in y1 1 8 (fun v2 => ((v2 = 0) → (post (-1) m)) ∧ ((¬ v2 = 0) → (∀ y3 : Int32, y3 = (M_taped m) + x3 → (((y3 ≤ 200) → (w_M_feed_32  post  2000 m x1 x3 0)) ∧ ((¬ y3 ≤ 200) → (post (-2) m)))))))
set_option maxRecDepth 20000 in
theorem g_M_feed {X : GX} (C : GC X b_M_feed R_M 5 (rmd 1)) {Qp : Option Value → va_W → Prop} (q : RC X ((some .int)) Qp 0 0) (a : Nat → Nat) (m : MSt) (x1 : Int64) (x3 : Int32) (post : Int32 → MSt → Prop) (hq : ∀ v c1, post v c1 → Qp (some (.int v)) (woM (xt X) a c1)) (hw : wp_M_feed m x1 x3 post) : G X 0 0 (woM (xt X) a m) [(0, .ref (a 0)), (1, .long x1), (3, .int x3)] [] 0 := by
  unfold wp_M_feed at hw
  refine g_iload_n (pc := 0) C d_M_feed_0 2 rfl rfl ?_
  refine g_i2l (pc := 1) C d_M_feed_1 ?_
  refine g_topl (fun y1 ey1 => ?_)
  replace hw := hw y1 ey1
  refine g_lconst (pc := 2) C (v := 1) d_M_feed_2 (by decide) ?_
  refine g_ldc2_w (pc := 3) C (v := 8) d_M_feed_3 lk_M_187 ?_
  refine k_I0 (pc := 6) (co_S C (c_M_in (xl X) (xD X) (xt X) (xv X) y1 1 8 _ hw) mw_M_in lk_M_58 d_M_feed_6 [] rfl (by decide)  rfl rfl ⟨Nat.le_of_ble_eq_true rfl, Nat.le_of_ble_eq_true rfl⟩ ⟨Nat.le_of_ble_eq_true rfl, Nat.le_of_ble_eq_true rfl⟩ (rest := []) rfl rfl (Nat.le_of_ble_eq_true rfl)) (fun v2 hw => ?_)
  refine g_if_ne (pc := 9) (tgt := 14) C d_M_feed_9 (by decide) (fun h12 => ?_) (fun h12 => ?_)
  · replace hw := hw.2 h12
    refine g_aload_n (pc := 14) C d_M_feed_14 0 rfl rfl ?_
    refine fM_taped (pc := 15) C lk_M_199 d_M_feed_15 (v := M_taped m) rfl ?_
    refine g_iload_n (pc := 18) C d_M_feed_18 2 rfl rfl ?_
    refine g_iadd (pc := 19) C d_M_feed_19 ?_
    refine g_topi (fun y3 ey3 => ?_)
    replace hw := hw y3 ey3
    refine g_sipush (pc := 20) C (v := 200) d_M_feed_20 (by decide) ?_
    refine g_icmp_le (pc := 23) (tgt := 29) C d_M_feed_23 (by decide) (fun h11 => ?_) (fun h11 => ?_)
    · replace hw := hw.1 h11
      refine g_iconst (pc := 29) C (v := 0) d_M_feed_29 (by decide) ?_
      refine g_istore (pc := 30) C d_M_feed_30 (Nat.le_of_ble_eq_true rfl) (lv' := [(0, .ref (a 0)), (1, .long x1), (3, .int x3), (4, .int 0)]) rfl ?_
      exact j_M_feed_32 C q a post hq  2000 m x1 x3 0 hw
    · replace hw := hw.2 h11
      refine g_bipush (pc := 26) C (v := (-2)) d_M_feed_26 (by decide) ?_
      exact g_iret (pc := 28) C q d_M_feed_28 (hq _ _ hw)
  · replace hw := hw.1 h12
    refine g_iconst (pc := 12) C (v := (-1)) d_M_feed_12 (by decide) ?_
    exact g_iret (pc := 13) C q d_M_feed_13 (hq _ _ hw)
set_option maxRecDepth 20000 in
theorem c_M_feed (l : Launch) (D : va_G) (t : Nat → ClassId) (ev : Nat → Nat) (a : Nat → Nat) (m : MSt) (x1 : Int64) (x3 : Int32) (post : Int32 → MSt → Prop) (hw : wp_M_feed m x1 x3 post) : Con l D t ev y_M_feed b_M_feed 5 ((some .int)) 1 (woM t a m) [.ref (a 0), .long x1, .int x3] (qI (woM t a)  post) :=
  ConR.of (by decide +kernel) (Nat.le_of_ble_eq_true rfl) (fun X el eD et ee C q _ => by subst el; subst eD; subst et; subst ee; exact g_M_feed C q a m x1 x3 post (fun v c1 h => ⟨⟨v, c1, rfl, rfl, h⟩, rfl⟩) hw)
def wp_M_isRow (m : MSt) (x1 : Int32) (x2 : Int32) (post : Int32 → MSt → Prop) : Prop :=
  (((M_taped m) ≤ (M_at m)) → (post 0 m)) ∧ ((¬ (M_taped m) ≤ (M_at m)) → (vp_in (M_at m) 200 ∧ (∀ y2 : Int64, y2 = ((M_tape m) (M_at m).toNatClampNeg).toInt64 → (∀ y3 : Int64, y3 = x1.toInt64 → (∀ y4 : Int64, y4 = x2.toInt64 → (wp_M_in y2 y3 y4 (fun v5 => ((v5 = 0) → (post 0 m)) ∧ ((¬ v5 = 0) → (post 1 m)))))))))
set_option maxRecDepth 20000 in
theorem g_M_isRow {X : GX} (C : GC X b_M_isRow R_M 3 (rmd 1)) {Qp : Option Value → va_W → Prop} (q : RC X ((some .boolean)) Qp 0 0) (a : Nat → Nat) (m : MSt) (x1 : Int32) (x2 : Int32) (post : Int32 → MSt → Prop) (hq : ∀ v c1, post v c1 → Qp (some (.int v)) (woM (xt X) a c1)) (hw : wp_M_isRow m x1 x2 post) : G X 0 0 (woM (xt X) a m) [(0, .ref (a 0)), (1, .int x1), (2, .int x2)] [] 0 := by
  unfold wp_M_isRow at hw
  refine g_aload_n (pc := 0) C d_M_isRow_0 0 rfl rfl ?_
  refine fM_at (pc := 1) C lk_M_204 d_M_isRow_1 (v := M_at m) rfl ?_
  refine g_aload_n (pc := 4) C d_M_isRow_4 0 rfl rfl ?_
  refine fM_taped (pc := 5) C lk_M_199 d_M_isRow_5 (v := M_taped m) rfl ?_
  refine g_icmp_ge (pc := 8) (tgt := 35) C d_M_isRow_8 (by decide) (fun h7 => ?_) (fun h7 => ?_)
  · replace hw := hw.1 h7
    refine g_iconst (pc := 35) C (v := 0) d_M_isRow_35 (by decide) ?_
    exact g_zret (pc := 36) C q d_M_isRow_36 (by decide) (hq _ _ hw)
  · replace hw := hw.2 h7
    refine g_aload_n (pc := 11) C d_M_isRow_11 0 rfl rfl ?_
    refine fM_tape (pc := 12) C lk_M_23 d_M_isRow_12 ?_
    refine g_aload_n (pc := 15) C d_M_isRow_15 0 rfl rfl ?_
    refine fM_at (pc := 16) C lk_M_204 d_M_isRow_16 (v := M_at m) rfl ?_
    obtain ⟨h1, hw⟩ := hw
    refine lM_tape (pc := 19) C d_M_isRow_19 (f := M_tape m) rfl (N0 := (M_at m).toNatClampNeg) rfl h1 ?_
    refine g_i2l (pc := 20) C d_M_isRow_20 ?_
    refine g_topl (fun y2 ey2 => ?_)
    replace hw := hw y2 ey2
    refine g_iload_n (pc := 21) C d_M_isRow_21 1 rfl rfl ?_
    refine g_i2l (pc := 22) C d_M_isRow_22 ?_
    refine g_topl (fun y3 ey3 => ?_)
    replace hw := hw y3 ey3
    refine g_iload_n (pc := 23) C d_M_isRow_23 2 rfl rfl ?_
    refine g_i2l (pc := 24) C d_M_isRow_24 ?_
    refine g_topl (fun y4 ey4 => ?_)
    replace hw := hw y4 ey4
    refine k_I0 (pc := 25) (co_S C (c_M_in (xl X) (xD X) (xt X) (xv X) y2 y3 y4 _ hw) mw_M_in lk_M_58 d_M_isRow_25 [] rfl (by decide)  rfl rfl ⟨Nat.le_of_ble_eq_true rfl, Nat.le_of_ble_eq_true rfl⟩ ⟨Nat.le_of_ble_eq_true rfl, Nat.le_of_ble_eq_true rfl⟩ (rest := []) rfl rfl (Nat.le_of_ble_eq_true rfl)) (fun v5 hw => ?_)
    refine g_if_eq (pc := 28) (tgt := 35) C d_M_isRow_28 (by decide) (fun h6 => ?_) (fun h6 => ?_)
    · replace hw := hw.1 h6
      refine g_iconst (pc := 35) C (v := 0) d_M_isRow_35 (by decide) ?_
      exact g_zret (pc := 36) C q d_M_isRow_36 (by decide) (hq _ _ hw)
    · replace hw := hw.2 h6
      refine g_iconst (pc := 31) C (v := 1) d_M_isRow_31 (by decide) ?_
      refine g_goto (pc := 32) (tgt := 36) C d_M_isRow_32 (by decide) ?_
      exact g_zret (pc := 36) C q d_M_isRow_36 (by decide) (hq _ _ hw)
set_option maxRecDepth 20000 in
theorem c_M_isRow (l : Launch) (D : va_G) (t : Nat → ClassId) (ev : Nat → Nat) (a : Nat → Nat) (m : MSt) (x1 : Int32) (x2 : Int32) (post : Int32 → MSt → Prop) (hw : wp_M_isRow m x1 x2 post) : Con l D t ev y_M_isRow b_M_isRow 3 ((some .boolean)) 1 (woM t a m) [.ref (a 0), .int x1, .int x2] (qI (woM t a)  post) :=
  ConR.of (by decide +kernel) (Nat.le_of_ble_eq_true rfl) (fun X el eD et ee C q _ => by subst el; subst eD; subst et; subst ee; exact g_M_isRow C q a m x1 x2 post (fun v c1 h => ⟨⟨v, c1, rfl, rfl, h⟩, rfl⟩) hw)
def w_M_wordThere_80  (post : Int32 → MSt → Prop) (k2 : MSt → Int32 → Prop) (k30 : MSt → Int32 → Int32 → Int32 → Prop) (m : MSt) (x1 : Int32) (x3 : Int32) (s0 : Int32) (s1 : Int32) : Prop :=
  ((s0 = s1) → (∀ y11 : Int32, y11 = x3 + 1 → (k30 m x1 1 y11))) ∧ ((¬ s0 = s1) → (∀ y10 : Int32, y10 = x3 + 1 → (k30 m x1 0 y10)))
set_option maxRecDepth 20000 in
theorem j_M_wordThere_80 {X : GX} (C : GC X b_M_wordThere R_M 4 (rmd 0)) {Qp : Option Value → va_W → Prop} (q : RC X ((some .int)) Qp 0 0) (a : Nat → Nat)   (post : Int32 → MSt → Prop) (hq : ∀ v c1, post v c1 → Qp (some (.int v)) (woM (xt X) a c1)) {k2 : MSt → Int32 → Prop} (hk2 : ∀ (m : MSt) (x1 : Int32), k2 m x1 → G X 0 0 (woM (xt X) a m) [(0, .ref (a 0)), (1, .int x1)] [] 2) {k30 : MSt → Int32 → Int32 → Int32 → Prop} (hk30 : ∀ (m : MSt) (x1 : Int32) (x2 : Int32) (x3 : Int32), k30 m x1 x2 x3 → G X 0 0 (woM (xt X) a m) [(0, .ref (a 0)), (1, .int x1), (2, .int x2), (3, .int x3)] [] 30) : ∀ (m : MSt) (x1 : Int32) (x3 : Int32) (s0 : Int32) (s1 : Int32), w_M_wordThere_80  post k2 k30 m x1 x3 s0 s1 → G X 0 0 (woM (xt X) a m) [(0, .ref (a 0)), (1, .int x1), (3, .int x3)] [.int s1, .int s0] 80 := by
  intro m x1 x3 s0 s1 hw
  unfold w_M_wordThere_80 at hw
  refine g_icmp_ne (pc := 80) (tgt := 87) C d_M_wordThere_80 (by decide) (fun h12 => ?_) (fun h12 => ?_)
  · replace hw := hw.2 h12
    refine g_iconst (pc := 87) C (v := 0) d_M_wordThere_87 (by decide) ?_
    refine g_istore_n (pc := 88) C d_M_wordThere_88 rfl (Nat.le_of_ble_eq_true rfl) (lv' := [(0, .ref (a 0)), (1, .int x1), (2, .int 0), (3, .int x3)]) rfl ?_
    obtain ⟨y10, ey10⟩ : ∃ w, w = x3 + 1 := ⟨_, rfl⟩
    replace hw := hw y10 ey10
    refine g_iinc (pc := 89) C d_M_wordThere_89 3 rfl (v := y10) (by rw [ey10]; rfl) (Nat.le_of_ble_eq_true rfl) (lv' := [(0, .ref (a 0)), (1, .int x1), (2, .int 0), (3, .int y10)]) rfl ?_
    refine g_goto (pc := 92) (tgt := 30) C d_M_wordThere_92 (by decide) ?_
    exact hk30 m x1 0 y10 hw
  · replace hw := hw.1 h12
    refine g_iconst (pc := 83) C (v := 1) d_M_wordThere_83 (by decide) ?_
    refine g_goto (pc := 84) (tgt := 88) C d_M_wordThere_84 (by decide) ?_
    refine g_istore_n (pc := 88) C d_M_wordThere_88 rfl (Nat.le_of_ble_eq_true rfl) (lv' := [(0, .ref (a 0)), (1, .int x1), (2, .int 1), (3, .int x3)]) rfl ?_
    obtain ⟨y11, ey11⟩ : ∃ w, w = x3 + 1 := ⟨_, rfl⟩
    replace hw := hw y11 ey11
    refine g_iinc (pc := 89) C d_M_wordThere_89 3 rfl (v := y11) (by rw [ey11]; rfl) (Nat.le_of_ble_eq_true rfl) (lv' := [(0, .ref (a 0)), (1, .int x1), (2, .int 1), (3, .int y11)]) rfl ?_
    refine g_goto (pc := 92) (tgt := 30) C d_M_wordThere_92 (by decide) ?_
    exact hk30 m x1 1 y11 hw
def w_M_wordThere_30  (post : Int32 → MSt → Prop) (k2 : MSt → Int32 → Prop) : Nat → MSt → Int32 → Int32 → Int32 → Prop
  | 0, _, _, _, _ => False
  | n + 1, m, x1, x2, x3 =>
    ((8 ≤ x3) → (((x2 = 0) → (∀ y2 : Int32, y2 = x1 + 1 → (k2 m y2))) ∧ ((¬ x2 = 0) → (post x1 m)))) ∧ ((¬ 8 ≤ x3) → (((x2 = 0) → (((x2 = 0) → (∀ y4 : Int32, y4 = x1 + 1 → (k2 m y4))) ∧ ((¬ x2 = 0) → (post x1 m)))) ∧ ((¬ x2 = 0) → (∀ y6 : Int32, y6 = 8 * x1 → (∀ y7 : Int32, y7 = y6 + x3 → (vp_in y7 128 ∧ (∀ y9 : Int32, y9 = (M_begun m) + x3 → ((((M_at m) ≤ y9) → (w_M_wordThere_80  post k2 (w_M_wordThere_30  post k2 n) m x1 x3 ((M_words m) y7.toNatClampNeg) 32)) ∧ ((¬ (M_at m) ≤ y9) → (∀ y13 : Int32, y13 = (M_begun m) + x3 → (vp_in y13 200 ∧ (w_M_wordThere_80  post k2 (w_M_wordThere_30  post k2 n) m x1 x3 ((M_words m) y7.toNatClampNeg) ((M_tape m) y13.toNatClampNeg)))))))))))))
set_option maxRecDepth 20000 in
theorem j_M_wordThere_30 {X : GX} (C : GC X b_M_wordThere R_M 4 (rmd 0)) {Qp : Option Value → va_W → Prop} (q : RC X ((some .int)) Qp 0 0) (a : Nat → Nat)   (post : Int32 → MSt → Prop) (hq : ∀ v c1, post v c1 → Qp (some (.int v)) (woM (xt X) a c1)) {k2 : MSt → Int32 → Prop} (hk2 : ∀ (m : MSt) (x1 : Int32), k2 m x1 → G X 0 0 (woM (xt X) a m) [(0, .ref (a 0)), (1, .int x1)] [] 2) : ∀ (n : Nat) (m : MSt) (x1 : Int32) (x2 : Int32) (x3 : Int32), w_M_wordThere_30  post k2 n m x1 x2 x3 → G X 0 0 (woM (xt X) a m) [(0, .ref (a 0)), (1, .int x1), (2, .int x2), (3, .int x3)] [] 30 := by
  intro n
  induction n with
  | zero => intro m x1 x2 x3 hw; exact hw.elim
  | succ n ih =>
    intro m x1 x2 x3 hw
    rw [w_M_wordThere_30] at hw
    refine g_iload_n (pc := 30) C d_M_wordThere_30 3 rfl rfl ?_
    refine g_bipush (pc := 31) C (v := 8) d_M_wordThere_31 (by decide) ?_
    refine g_icmp_ge (pc := 33) (tgt := 95) C d_M_wordThere_33 (by decide) (fun h17 => ?_) (fun h17 => ?_)
    · replace hw := hw.1 h17
      refine g_iload_n (pc := 95) C d_M_wordThere_95 2 rfl rfl ?_
      refine g_if_eq (pc := 96) (tgt := 101) C d_M_wordThere_96 (by decide) (fun h3 => ?_) (fun h3 => ?_)
      · replace hw := hw.1 h3
        obtain ⟨y2, ey2⟩ : ∃ w, w = x1 + 1 := ⟨_, rfl⟩
        replace hw := hw y2 ey2
        refine g_iinc (pc := 101) C d_M_wordThere_101 1 rfl (v := y2) (by rw [ey2]; rfl) (Nat.le_of_ble_eq_true rfl) (lv' := [(0, .ref (a 0)), (1, .int y2), (2, .int x2), (3, .int x3)]) rfl ?_
        refine g_goto (pc := 104) (tgt := 2) C d_M_wordThere_104 (by decide) ?_
        refine g_sub [0, 1] (lv' := [(0, .ref (a 0)), (1, .int y2)]) rfl ?_
        exact hk2 m y2 hw
      · replace hw := hw.2 h3
        refine g_iload_n (pc := 99) C d_M_wordThere_99 1 rfl rfl ?_
        exact g_iret (pc := 100) C q d_M_wordThere_100 (hq _ _ hw)
    · replace hw := hw.2 h17
      refine g_iload_n (pc := 36) C d_M_wordThere_36 2 rfl rfl ?_
      refine g_if_eq (pc := 37) (tgt := 95) C d_M_wordThere_37 (by decide) (fun h16 => ?_) (fun h16 => ?_)
      · replace hw := hw.1 h16
        refine g_iload_n (pc := 95) C d_M_wordThere_95 2 rfl rfl ?_
        refine g_if_eq (pc := 96) (tgt := 101) C d_M_wordThere_96 (by decide) (fun h5 => ?_) (fun h5 => ?_)
        · replace hw := hw.1 h5
          obtain ⟨y4, ey4⟩ : ∃ w, w = x1 + 1 := ⟨_, rfl⟩
          replace hw := hw y4 ey4
          refine g_iinc (pc := 101) C d_M_wordThere_101 1 rfl (v := y4) (by rw [ey4]; rfl) (Nat.le_of_ble_eq_true rfl) (lv' := [(0, .ref (a 0)), (1, .int y4), (2, .int x2), (3, .int x3)]) rfl ?_
          refine g_goto (pc := 104) (tgt := 2) C d_M_wordThere_104 (by decide) ?_
          refine g_sub [0, 1] (lv' := [(0, .ref (a 0)), (1, .int y4)]) rfl ?_
          exact hk2 m y4 hw
        · replace hw := hw.2 h5
          refine g_iload_n (pc := 99) C d_M_wordThere_99 1 rfl rfl ?_
          exact g_iret (pc := 100) C q d_M_wordThere_100 (hq _ _ hw)
      · replace hw := hw.2 h16
        refine g_aload_n (pc := 40) C d_M_wordThere_40 0 rfl rfl ?_
        refine fM_words (pc := 41) C lk_M_26 d_M_wordThere_41 ?_
        refine g_bipush (pc := 44) C (v := 8) d_M_wordThere_44 (by decide) ?_
        refine g_iload_n (pc := 46) C d_M_wordThere_46 1 rfl rfl ?_
        refine g_imul (pc := 47) C d_M_wordThere_47 ?_
        refine g_topi (fun y6 ey6 => ?_)
        replace hw := hw y6 ey6
        refine g_iload_n (pc := 48) C d_M_wordThere_48 3 rfl rfl ?_
        refine g_iadd (pc := 49) C d_M_wordThere_49 ?_
        refine g_topi (fun y7 ey7 => ?_)
        replace hw := hw y7 ey7
        obtain ⟨h8, hw⟩ := hw
        refine lM_words (pc := 50) C d_M_wordThere_50 (f := M_words m) rfl (N0 := y7.toNatClampNeg) rfl h8 ?_
        refine g_aload_n (pc := 51) C d_M_wordThere_51 0 rfl rfl ?_
        refine fM_begun (pc := 52) C lk_M_207 d_M_wordThere_52 (v := M_begun m) rfl ?_
        refine g_iload_n (pc := 55) C d_M_wordThere_55 3 rfl rfl ?_
        refine g_iadd (pc := 56) C d_M_wordThere_56 ?_
        refine g_topi (fun y9 ey9 => ?_)
        replace hw := hw y9 ey9
        refine g_aload_n (pc := 57) C d_M_wordThere_57 0 rfl rfl ?_
        refine fM_at (pc := 58) C lk_M_204 d_M_wordThere_58 (v := M_at m) rfl ?_
        refine g_icmp_ge (pc := 61) (tgt := 78) C d_M_wordThere_61 (by decide) (fun h15 => ?_) (fun h15 => ?_)
        · replace hw := hw.1 h15
          refine g_bipush (pc := 78) C (v := 32) d_M_wordThere_78 (by decide) ?_
          refine g_sub [0, 1, 3] (lv' := [(0, .ref (a 0)), (1, .int x1), (3, .int x3)]) rfl ?_
          exact j_M_wordThere_80 C q a post hq hk2 ih m x1 x3 ((M_words m) y7.toNatClampNeg) 32 hw
        · replace hw := hw.2 h15
          refine g_aload_n (pc := 64) C d_M_wordThere_64 0 rfl rfl ?_
          refine fM_tape (pc := 65) C lk_M_23 d_M_wordThere_65 ?_
          refine g_aload_n (pc := 68) C d_M_wordThere_68 0 rfl rfl ?_
          refine fM_begun (pc := 69) C lk_M_207 d_M_wordThere_69 (v := M_begun m) rfl ?_
          refine g_iload_n (pc := 72) C d_M_wordThere_72 3 rfl rfl ?_
          refine g_iadd (pc := 73) C d_M_wordThere_73 ?_
          refine g_topi (fun y13 ey13 => ?_)
          replace hw := hw y13 ey13
          obtain ⟨h14, hw⟩ := hw
          refine lM_tape (pc := 74) C d_M_wordThere_74 (f := M_tape m) rfl (N0 := y13.toNatClampNeg) rfl h14 ?_
          refine g_goto (pc := 75) (tgt := 80) C d_M_wordThere_75 (by decide) ?_
          refine g_sub [0, 1, 3] (lv' := [(0, .ref (a 0)), (1, .int x1), (3, .int x3)]) rfl ?_
          exact j_M_wordThere_80 C q a post hq hk2 ih m x1 x3 ((M_words m) y7.toNatClampNeg) ((M_tape m) y13.toNatClampNeg) hw
def w_M_wordThere_2  (post : Int32 → MSt → Prop)  : Nat → MSt → Int32 → Prop
  | 0, _, _ => False
  | n + 1, m, x1 =>
    ((16 ≤ x1) → (post (-1) m)) ∧ ((¬ 16 ≤ x1) → (∀ y1 : Int32, y1 = (M_at m) - (M_begun m) → (((8 < y1) → (w_M_wordThere_30  post (w_M_wordThere_2  post  n) 2000 m x1 0 0)) ∧ ((¬ 8 < y1) → (w_M_wordThere_30  post (w_M_wordThere_2  post  n) 2000 m x1 1 0)))))
set_option maxRecDepth 20000 in
theorem j_M_wordThere_2 {X : GX} (C : GC X b_M_wordThere R_M 4 (rmd 0)) {Qp : Option Value → va_W → Prop} (q : RC X ((some .int)) Qp 0 0) (a : Nat → Nat)   (post : Int32 → MSt → Prop) (hq : ∀ v c1, post v c1 → Qp (some (.int v)) (woM (xt X) a c1)) : ∀ (n : Nat) (m : MSt) (x1 : Int32), w_M_wordThere_2  post  n m x1 → G X 0 0 (woM (xt X) a m) [(0, .ref (a 0)), (1, .int x1)] [] 2 := by
  intro n
  induction n with
  | zero => intro m x1 hw; exact hw.elim
  | succ n ih =>
    intro m x1 hw
    rw [w_M_wordThere_2] at hw
    refine g_iload_n (pc := 2) C d_M_wordThere_2 1 rfl rfl ?_
    refine g_bipush (pc := 3) C (v := 16) d_M_wordThere_3 (by decide) ?_
    refine g_icmp_ge (pc := 5) (tgt := 107) C d_M_wordThere_5 (by decide) (fun h19 => ?_) (fun h19 => ?_)
    · replace hw := hw.1 h19
      refine g_iconst (pc := 107) C (v := (-1)) d_M_wordThere_107 (by decide) ?_
      exact g_iret (pc := 108) C q d_M_wordThere_108 (hq _ _ hw)
    · replace hw := hw.2 h19
      refine g_aload_n (pc := 8) C d_M_wordThere_8 0 rfl rfl ?_
      refine fM_at (pc := 9) C lk_M_204 d_M_wordThere_9 (v := M_at m) rfl ?_
      refine g_aload_n (pc := 12) C d_M_wordThere_12 0 rfl rfl ?_
      refine fM_begun (pc := 13) C lk_M_207 d_M_wordThere_13 (v := M_begun m) rfl ?_
      refine g_isub (pc := 16) C d_M_wordThere_16 ?_
      refine g_topi (fun y1 ey1 => ?_)
      replace hw := hw y1 ey1
      refine g_bipush (pc := 17) C (v := 8) d_M_wordThere_17 (by decide) ?_
      refine g_icmp_gt (pc := 19) (tgt := 26) C d_M_wordThere_19 (by decide) (fun h18 => ?_) (fun h18 => ?_)
      · replace hw := hw.1 h18
        refine g_iconst (pc := 26) C (v := 0) d_M_wordThere_26 (by decide) ?_
        refine g_istore_n (pc := 27) C d_M_wordThere_27 rfl (Nat.le_of_ble_eq_true rfl) (lv' := [(0, .ref (a 0)), (1, .int x1), (2, .int 0)]) rfl ?_
        refine g_iconst (pc := 28) C (v := 0) d_M_wordThere_28 (by decide) ?_
        refine g_istore_n (pc := 29) C d_M_wordThere_29 rfl (Nat.le_of_ble_eq_true rfl) (lv' := [(0, .ref (a 0)), (1, .int x1), (2, .int 0), (3, .int 0)]) rfl ?_
        exact j_M_wordThere_30 C q a post hq ih 2000 m x1 0 0 hw
      · replace hw := hw.2 h18
        refine g_iconst (pc := 22) C (v := 1) d_M_wordThere_22 (by decide) ?_
        refine g_goto (pc := 23) (tgt := 27) C d_M_wordThere_23 (by decide) ?_
        refine g_istore_n (pc := 27) C d_M_wordThere_27 rfl (Nat.le_of_ble_eq_true rfl) (lv' := [(0, .ref (a 0)), (1, .int x1), (2, .int 1)]) rfl ?_
        refine g_iconst (pc := 28) C (v := 0) d_M_wordThere_28 (by decide) ?_
        refine g_istore_n (pc := 29) C d_M_wordThere_29 rfl (Nat.le_of_ble_eq_true rfl) (lv' := [(0, .ref (a 0)), (1, .int x1), (2, .int 1), (3, .int 0)]) rfl ?_
        exact j_M_wordThere_30 C q a post hq ih 2000 m x1 1 0 hw
def wp_M_wordThere (m : MSt) (post : Int32 → MSt → Prop) : Prop :=
  w_M_wordThere_2  post  2000 m 0
set_option maxRecDepth 20000 in
theorem g_M_wordThere {X : GX} (C : GC X b_M_wordThere R_M 4 (rmd 0)) {Qp : Option Value → va_W → Prop} (q : RC X ((some .int)) Qp 0 0) (a : Nat → Nat) (m : MSt) (post : Int32 → MSt → Prop) (hq : ∀ v c1, post v c1 → Qp (some (.int v)) (woM (xt X) a c1)) (hw : wp_M_wordThere m post) : G X 0 0 (woM (xt X) a m) [(0, .ref (a 0))] [] 0 := by
  unfold wp_M_wordThere at hw
  refine g_iconst (pc := 0) C (v := 0) d_M_wordThere_0 (by decide) ?_
  refine g_istore_n (pc := 1) C d_M_wordThere_1 rfl (Nat.le_of_ble_eq_true rfl) (lv' := [(0, .ref (a 0)), (1, .int 0)]) rfl ?_
  exact j_M_wordThere_2 C q a post hq  2000 m 0 hw
set_option maxRecDepth 20000 in
theorem c_M_wordThere (l : Launch) (D : va_G) (t : Nat → ClassId) (ev : Nat → Nat) (a : Nat → Nat) (m : MSt) (post : Int32 → MSt → Prop) (hw : wp_M_wordThere m post) : Con l D t ev y_M_wordThere b_M_wordThere 4 ((some .int)) 0 (woM t a m) [.ref (a 0)] (qI (woM t a)  post) :=
  ConR.of (by decide +kernel) (Nat.le_of_ble_eq_true rfl) (fun X el eD et ee C q _ => by subst el; subst eD; subst et; subst ee; exact g_M_wordThere C q a m post (fun v c1 h => ⟨⟨v, c1, rfl, rfl, h⟩, rfl⟩) hw)
def w_M_next_137  (post : MSt → Prop)  : Nat → MSt → Prop
  | 0, _ => False
  | n + 1, m =>
    wp_M_isRow m 48 57 (fun v9 m_10 => ((v9 = 0) → (post m_10)) ∧ ((¬ v9 = 0) → (∀ y11 : Int32, y11 = (M_at m_10) - (M_begun m_10) → (((3 ≤ y11) → (∀ y12 : Int32, y12 = (M_at m_10) + 1 → (w_M_next_137  post  n (M_at_ (M_value_ m_10 1000) y12)))) ∧ ((¬ 3 ≤ y11) → (∀ y13 : Int32, y13 = 10 * (M_value m_10) → (vp_in (M_at m_10) 200 ∧ (∀ y15 : Int32, y15 = y13 + ((M_tape m_10) (M_at m_10).toNatClampNeg) → (∀ y16 : Int32, y16 = y15 - 48 → (∀ y17 : Int32, y17 = (M_at m_10) + 1 → (w_M_next_137  post  n (M_at_ (M_value_ m_10 y16) y17))))))))))))
set_option maxRecDepth 20000 in
theorem j_M_next_137 {X : GX} (C : GC X b_M_next R_M 1 (rmd 2)) {Qp : Option Value → va_W → Prop} (q : RC X (none) Qp 0 0) (a : Nat → Nat)   (post : MSt → Prop) (hq : ∀ c1, post c1 → Qp none (woM (xt X) a c1)) : ∀ (n : Nat) (m : MSt), w_M_next_137  post  n m → G X 0 0 (woM (xt X) a m) [(0, .ref (a 0))] [] 137 := by
  intro n
  induction n with
  | zero => intro m hw; exact hw.elim
  | succ n ih =>
    intro m hw
    rw [w_M_next_137] at hw
    refine g_aload_n (pc := 137) C d_M_next_137 0 rfl rfl ?_
    refine g_bipush (pc := 138) C (v := 48) d_M_next_138 (by decide) ?_
    refine g_bipush (pc := 140) C (v := 57) d_M_next_140 (by decide) ?_
    refine k_Ia (pc := 142) (co_V C (c_M_isRow (xl X) (xD X) (xt X) (xv X) a m 48 57 _ hw) mw_M_isRow lk_M_216 d_M_next_142 (List.range _) (all_C _) (all_nd _) (rec_w C 0 6 rfl rfl) rfl rfl ⟨Nat.le_of_ble_eq_true rfl, Nat.le_of_ble_eq_true rfl⟩ ⟨Nat.le_of_ble_eq_true rfl, Nat.le_of_ble_eq_true rfl⟩ (rest := []) rfl rfl (Nat.le_of_ble_eq_true rfl)) (fun v9 m_10 hw => ?_)
    refine g_if_eq (pc := 145) (tgt := 237) C d_M_next_145 (by decide) (fun h19 => ?_) (fun h19 => ?_)
    · replace hw := hw.1 h19
      exact g_vret (pc := 237) C q d_M_next_237 (hq m_10 hw)
    · replace hw := hw.2 h19
      refine g_aload_n (pc := 148) C d_M_next_148 0 rfl rfl ?_
      refine g_aload_n (pc := 149) C d_M_next_149 0 rfl rfl ?_
      refine fM_at (pc := 150) C lk_M_204 d_M_next_150 (v := M_at m_10) rfl ?_
      refine g_aload_n (pc := 153) C d_M_next_153 0 rfl rfl ?_
      refine fM_begun (pc := 154) C lk_M_207 d_M_next_154 (v := M_begun m_10) rfl ?_
      refine g_isub (pc := 157) C d_M_next_157 ?_
      refine g_topi (fun y11 ey11 => ?_)
      replace hw := hw y11 ey11
      refine g_iconst (pc := 158) C (v := 3) d_M_next_158 (by decide) ?_
      refine g_icmp_ge (pc := 159) (tgt := 185) C d_M_next_159 (by decide) (fun h18 => ?_) (fun h18 => ?_)
      · replace hw := hw.1 h18
        refine g_sipush (pc := 185) C (v := 1000) d_M_next_185 (by decide) ?_
        refine pM_value (pc := 188) C lk_M_210 d_M_next_188   ?_
        refine g_aload_n (pc := 191) C d_M_next_191 0 rfl rfl ?_
        refine g_dup (pc := 192) C d_M_next_192 rfl ?_
        refine fM_at (pc := 193) C lk_M_204 d_M_next_193 (v := M_at m_10) rfl ?_
        refine g_iconst (pc := 196) C (v := 1) d_M_next_196 (by decide) ?_
        refine g_iadd (pc := 197) C d_M_next_197 ?_
        refine g_topi (fun y12 ey12 => ?_)
        replace hw := hw y12 ey12
        refine pM_at (pc := 198) C lk_M_204 d_M_next_198   ?_
        refine g_goto (pc := 201) (tgt := 137) C d_M_next_201 (by decide) ?_
        exact ih (M_at_ (M_value_ m_10 1000) y12) hw
      · replace hw := hw.2 h18
        refine g_bipush (pc := 162) C (v := 10) d_M_next_162 (by decide) ?_
        refine g_aload_n (pc := 164) C d_M_next_164 0 rfl rfl ?_
        refine fM_value (pc := 165) C lk_M_210 d_M_next_165 (v := M_value m_10) rfl ?_
        refine g_imul (pc := 168) C d_M_next_168 ?_
        refine g_topi (fun y13 ey13 => ?_)
        replace hw := hw y13 ey13
        refine g_aload_n (pc := 169) C d_M_next_169 0 rfl rfl ?_
        refine fM_tape (pc := 170) C lk_M_23 d_M_next_170 ?_
        refine g_aload_n (pc := 173) C d_M_next_173 0 rfl rfl ?_
        refine fM_at (pc := 174) C lk_M_204 d_M_next_174 (v := M_at m_10) rfl ?_
        obtain ⟨h14, hw⟩ := hw
        refine lM_tape (pc := 177) C d_M_next_177 (f := M_tape m_10) rfl (N0 := (M_at m_10).toNatClampNeg) rfl h14 ?_
        refine g_iadd (pc := 178) C d_M_next_178 ?_
        refine g_topi (fun y15 ey15 => ?_)
        replace hw := hw y15 ey15
        refine g_bipush (pc := 179) C (v := 48) d_M_next_179 (by decide) ?_
        refine g_isub (pc := 181) C d_M_next_181 ?_
        refine g_topi (fun y16 ey16 => ?_)
        replace hw := hw y16 ey16
        refine g_goto (pc := 182) (tgt := 188) C d_M_next_182 (by decide) ?_
        refine pM_value (pc := 188) C lk_M_210 d_M_next_188   ?_
        refine g_aload_n (pc := 191) C d_M_next_191 0 rfl rfl ?_
        refine g_dup (pc := 192) C d_M_next_192 rfl ?_
        refine fM_at (pc := 193) C lk_M_204 d_M_next_193 (v := M_at m_10) rfl ?_
        refine g_iconst (pc := 196) C (v := 1) d_M_next_196 (by decide) ?_
        refine g_iadd (pc := 197) C d_M_next_197 ?_
        refine g_topi (fun y17 ey17 => ?_)
        replace hw := hw y17 ey17
        refine pM_at (pc := 198) C lk_M_204 d_M_next_198   ?_
        refine g_goto (pc := 201) (tgt := 137) C d_M_next_201 (by decide) ?_
        exact ih (M_at_ (M_value_ m_10 y16) y17) hw
def w_M_next_86  (post : MSt → Prop)  : Nat → MSt → Prop
  | 0, _ => False
  | n + 1, m =>
    wp_M_isRow m 97 122 (fun v21 m_22 => ((v21 = 0) → (wp_M_wordThere m_22 (fun v23 m_24 => post (M_value_ m_24 v23)))) ∧ ((¬ v21 = 0) → (∀ y25 : Int32, y25 = (M_at m_22) + 1 → (w_M_next_86  post  n (M_at_ m_22 y25)))))
set_option maxRecDepth 20000 in
theorem j_M_next_86 {X : GX} (C : GC X b_M_next R_M 1 (rmd 2)) {Qp : Option Value → va_W → Prop} (q : RC X (none) Qp 0 0) (a : Nat → Nat)   (post : MSt → Prop) (hq : ∀ c1, post c1 → Qp none (woM (xt X) a c1)) : ∀ (n : Nat) (m : MSt), w_M_next_86  post  n m → G X 0 0 (woM (xt X) a m) [(0, .ref (a 0))] [] 86 := by
  intro n
  induction n with
  | zero => intro m hw; exact hw.elim
  | succ n ih =>
    intro m hw
    rw [w_M_next_86] at hw
    refine g_aload_n (pc := 86) C d_M_next_86 0 rfl rfl ?_
    refine g_bipush (pc := 87) C (v := 97) d_M_next_87 (by decide) ?_
    refine g_bipush (pc := 89) C (v := 122) d_M_next_89 (by decide) ?_
    refine k_Ia (pc := 91) (co_V C (c_M_isRow (xl X) (xD X) (xt X) (xv X) a m 97 122 _ hw) mw_M_isRow lk_M_216 d_M_next_91 (List.range _) (all_C _) (all_nd _) (rec_w C 0 6 rfl rfl) rfl rfl ⟨Nat.le_of_ble_eq_true rfl, Nat.le_of_ble_eq_true rfl⟩ ⟨Nat.le_of_ble_eq_true rfl, Nat.le_of_ble_eq_true rfl⟩ (rest := []) rfl rfl (Nat.le_of_ble_eq_true rfl)) (fun v21 m_22 hw => ?_)
    refine g_if_eq (pc := 94) (tgt := 110) C d_M_next_94 (by decide) (fun h26 => ?_) (fun h26 => ?_)
    · replace hw := hw.1 h26
      refine g_aload_n (pc := 110) C d_M_next_110 0 rfl rfl ?_
      refine g_aload_n (pc := 111) C d_M_next_111 0 rfl rfl ?_
      refine k_Ia (pc := 112) (co_V C (c_M_wordThere (xl X) (xD X) (xt X) (xv X) a m_22 _ hw) mw_M_wordThere lk_M_220 d_M_next_112 (List.range _) (all_C _) (all_nd _) (rec_w C 0 6 rfl rfl) rfl rfl ⟨Nat.le_of_ble_eq_true rfl, Nat.le_of_ble_eq_true rfl⟩ ⟨Nat.le_of_ble_eq_true rfl, Nat.le_of_ble_eq_true rfl⟩ (rest := [.ref (a 0)]) rfl rfl (Nat.le_of_ble_eq_true rfl)) (fun v23 m_24 hw => ?_)
      refine pM_value (pc := 115) C lk_M_210 d_M_next_115   ?_
      refine g_goto (pc := 118) (tgt := 237) C d_M_next_118 (by decide) ?_
      exact g_vret (pc := 237) C q d_M_next_237 (hq (M_value_ m_24 v23) hw)
    · replace hw := hw.2 h26
      refine g_aload_n (pc := 97) C d_M_next_97 0 rfl rfl ?_
      refine g_dup (pc := 98) C d_M_next_98 rfl ?_
      refine fM_at (pc := 99) C lk_M_204 d_M_next_99 (v := M_at m_22) rfl ?_
      refine g_iconst (pc := 102) C (v := 1) d_M_next_102 (by decide) ?_
      refine g_iadd (pc := 103) C d_M_next_103 ?_
      refine g_topi (fun y25 ey25 => ?_)
      replace hw := hw y25 ey25
      refine pM_at (pc := 104) C lk_M_204 d_M_next_104   ?_
      refine g_goto (pc := 107) (tgt := 86) C d_M_next_107 (by decide) ?_
      exact ih (M_at_ m_22 y25) hw
def w_M_next_38  (post : MSt → Prop)  (m : MSt) : Prop :=
  (((M_at m) = (M_taped m)) → (post (M_token_ (M_value_ (M_begun_ m (M_at m)) 0) 0))) ∧ ((¬ (M_at m) = (M_taped m)) → (wp_M_isRow (M_value_ (M_begun_ m (M_at m)) 0) 97 122 (fun v1 m_2 => ((v1 = 0) → (wp_M_isRow m_2 48 57 (fun v3 m_4 => ((v3 = 0) → (vp_in (M_at m_4) 200 ∧ (((((M_tape m_4) (M_at m_4).toNatClampNeg) = 59) → (∀ y7 : Int32, y7 = (M_at m_4) + 1 → (post (M_at_ (M_token_ m_4 3) y7)))) ∧ ((¬ ((M_tape m_4) (M_at m_4).toNatClampNeg) = 59) → (∀ y6 : Int32, y6 = (M_at m_4) + 1 → (post (M_at_ (M_token_ m_4 4) y6))))))) ∧ ((¬ v3 = 0) → (w_M_next_137  post  2000 (M_token_ m_4 2)))))) ∧ ((¬ v1 = 0) → (w_M_next_86  post  2000 (M_token_ m_2 1))))))
set_option maxRecDepth 20000 in
theorem j_M_next_38 {X : GX} (C : GC X b_M_next R_M 1 (rmd 2)) {Qp : Option Value → va_W → Prop} (q : RC X (none) Qp 0 0) (a : Nat → Nat)   (post : MSt → Prop) (hq : ∀ c1, post c1 → Qp none (woM (xt X) a c1)) : ∀ (m : MSt), w_M_next_38  post  m → G X 0 0 (woM (xt X) a m) [(0, .ref (a 0))] [] 38 := by
  intro m hw
  unfold w_M_next_38 at hw
  refine g_aload_n (pc := 38) C d_M_next_38 0 rfl rfl ?_
  refine g_aload_n (pc := 39) C d_M_next_39 0 rfl rfl ?_
  refine fM_at (pc := 40) C lk_M_204 d_M_next_40 (v := M_at m) rfl ?_
  refine pM_begun (pc := 43) C lk_M_207 d_M_next_43   ?_
  refine g_aload_n (pc := 46) C d_M_next_46 0 rfl rfl ?_
  refine g_iconst (pc := 47) C (v := 0) d_M_next_47 (by decide) ?_
  refine pM_value (pc := 48) C lk_M_210 d_M_next_48   ?_
  refine g_aload_n (pc := 51) C d_M_next_51 0 rfl rfl ?_
  refine fM_at (pc := 52) C lk_M_204 d_M_next_52 (v := M_at m) rfl ?_
  refine g_aload_n (pc := 55) C d_M_next_55 0 rfl rfl ?_
  refine fM_taped (pc := 56) C lk_M_199 d_M_next_56 (v := M_taped m) rfl ?_
  refine g_icmp_ne (pc := 59) (tgt := 70) C d_M_next_59 (by decide) (fun h28 => ?_) (fun h28 => ?_)
  · replace hw := hw.2 h28
    refine g_aload_n (pc := 70) C d_M_next_70 0 rfl rfl ?_
    refine g_bipush (pc := 71) C (v := 97) d_M_next_71 (by decide) ?_
    refine g_bipush (pc := 73) C (v := 122) d_M_next_73 (by decide) ?_
    refine k_Ia (pc := 75) (co_V C (c_M_isRow (xl X) (xD X) (xt X) (xv X) a (M_value_ (M_begun_ m (M_at m)) 0) 97 122 _ hw) mw_M_isRow lk_M_216 d_M_next_75 (List.range _) (all_C _) (all_nd _) (rec_w C 0 6 rfl rfl) rfl rfl ⟨Nat.le_of_ble_eq_true rfl, Nat.le_of_ble_eq_true rfl⟩ ⟨Nat.le_of_ble_eq_true rfl, Nat.le_of_ble_eq_true rfl⟩ (rest := []) rfl rfl (Nat.le_of_ble_eq_true rfl)) (fun v1 m_2 hw => ?_)
    refine g_if_eq (pc := 78) (tgt := 121) C d_M_next_78 (by decide) (fun h27 => ?_) (fun h27 => ?_)
    · replace hw := hw.1 h27
      refine g_aload_n (pc := 121) C d_M_next_121 0 rfl rfl ?_
      refine g_bipush (pc := 122) C (v := 48) d_M_next_122 (by decide) ?_
      refine g_bipush (pc := 124) C (v := 57) d_M_next_124 (by decide) ?_
      refine k_Ia (pc := 126) (co_V C (c_M_isRow (xl X) (xD X) (xt X) (xv X) a m_2 48 57 _ hw) mw_M_isRow lk_M_216 d_M_next_126 (List.range _) (all_C _) (all_nd _) (rec_w C 0 6 rfl rfl) rfl rfl ⟨Nat.le_of_ble_eq_true rfl, Nat.le_of_ble_eq_true rfl⟩ ⟨Nat.le_of_ble_eq_true rfl, Nat.le_of_ble_eq_true rfl⟩ (rest := []) rfl rfl (Nat.le_of_ble_eq_true rfl)) (fun v3 m_4 hw => ?_)
      refine g_if_eq (pc := 129) (tgt := 204) C d_M_next_129 (by decide) (fun h20 => ?_) (fun h20 => ?_)
      · replace hw := hw.1 h20
        refine g_aload_n (pc := 204) C d_M_next_204 0 rfl rfl ?_
        refine g_aload_n (pc := 205) C d_M_next_205 0 rfl rfl ?_
        refine fM_tape (pc := 206) C lk_M_23 d_M_next_206 ?_
        refine g_aload_n (pc := 209) C d_M_next_209 0 rfl rfl ?_
        refine fM_at (pc := 210) C lk_M_204 d_M_next_210 (v := M_at m_4) rfl ?_
        obtain ⟨h5, hw⟩ := hw
        refine lM_tape (pc := 213) C d_M_next_213 (f := M_tape m_4) rfl (N0 := (M_at m_4).toNatClampNeg) rfl h5 ?_
        refine g_bipush (pc := 214) C (v := 59) d_M_next_214 (by decide) ?_
        refine g_icmp_ne (pc := 216) (tgt := 223) C d_M_next_216 (by decide) (fun h8 => ?_) (fun h8 => ?_)
        · replace hw := hw.2 h8
          refine g_iconst (pc := 223) C (v := 4) d_M_next_223 (by decide) ?_
          refine pM_token (pc := 224) C lk_M_213 d_M_next_224   ?_
          refine g_aload_n (pc := 227) C d_M_next_227 0 rfl rfl ?_
          refine g_dup (pc := 228) C d_M_next_228 rfl ?_
          refine fM_at (pc := 229) C lk_M_204 d_M_next_229 (v := M_at m_4) rfl ?_
          refine g_iconst (pc := 232) C (v := 1) d_M_next_232 (by decide) ?_
          refine g_iadd (pc := 233) C d_M_next_233 ?_
          refine g_topi (fun y6 ey6 => ?_)
          replace hw := hw y6 ey6
          refine pM_at (pc := 234) C lk_M_204 d_M_next_234   ?_
          exact g_vret (pc := 237) C q d_M_next_237 (hq (M_at_ (M_token_ m_4 4) y6) hw)
        · replace hw := hw.1 h8
          refine g_iconst (pc := 219) C (v := 3) d_M_next_219 (by decide) ?_
          refine g_goto (pc := 220) (tgt := 224) C d_M_next_220 (by decide) ?_
          refine pM_token (pc := 224) C lk_M_213 d_M_next_224   ?_
          refine g_aload_n (pc := 227) C d_M_next_227 0 rfl rfl ?_
          refine g_dup (pc := 228) C d_M_next_228 rfl ?_
          refine fM_at (pc := 229) C lk_M_204 d_M_next_229 (v := M_at m_4) rfl ?_
          refine g_iconst (pc := 232) C (v := 1) d_M_next_232 (by decide) ?_
          refine g_iadd (pc := 233) C d_M_next_233 ?_
          refine g_topi (fun y7 ey7 => ?_)
          replace hw := hw y7 ey7
          refine pM_at (pc := 234) C lk_M_204 d_M_next_234   ?_
          exact g_vret (pc := 237) C q d_M_next_237 (hq (M_at_ (M_token_ m_4 3) y7) hw)
      · replace hw := hw.2 h20
        refine g_aload_n (pc := 132) C d_M_next_132 0 rfl rfl ?_
        refine g_iconst (pc := 133) C (v := 2) d_M_next_133 (by decide) ?_
        refine pM_token (pc := 134) C lk_M_213 d_M_next_134   ?_
        exact j_M_next_137 C q a post hq  2000 (M_token_ m_4 2) hw
    · replace hw := hw.2 h27
      refine g_aload_n (pc := 81) C d_M_next_81 0 rfl rfl ?_
      refine g_iconst (pc := 82) C (v := 1) d_M_next_82 (by decide) ?_
      refine pM_token (pc := 83) C lk_M_213 d_M_next_83   ?_
      exact j_M_next_86 C q a post hq  2000 (M_token_ m_2 1) hw
  · replace hw := hw.1 h28
    refine g_aload_n (pc := 62) C d_M_next_62 0 rfl rfl ?_
    refine g_iconst (pc := 63) C (v := 0) d_M_next_63 (by decide) ?_
    refine pM_token (pc := 64) C lk_M_213 d_M_next_64   ?_
    refine g_goto (pc := 67) (tgt := 237) C d_M_next_67 (by decide) ?_
    exact g_vret (pc := 237) C q d_M_next_237 (hq (M_token_ (M_value_ (M_begun_ m (M_at m)) 0) 0) hw)
def w_M_next_0  (post : MSt → Prop)  : Nat → MSt → Prop
  | 0, _ => False
  | n + 1, m =>
    (((M_taped m) ≤ (M_at m)) → (w_M_next_38  post  m)) ∧ ((¬ (M_taped m) ≤ (M_at m)) → (vp_in (M_at m) 200 ∧ (((((M_tape m) (M_at m).toNatClampNeg) = 32) → (∀ y30 : Int32, y30 = (M_at m) + 1 → (w_M_next_0  post  n (M_at_ m y30)))) ∧ ((¬ ((M_tape m) (M_at m).toNatClampNeg) = 32) → (w_M_next_38  post  m)))))
set_option maxRecDepth 20000 in
theorem j_M_next_0 {X : GX} (C : GC X b_M_next R_M 1 (rmd 2)) {Qp : Option Value → va_W → Prop} (q : RC X (none) Qp 0 0) (a : Nat → Nat)   (post : MSt → Prop) (hq : ∀ c1, post c1 → Qp none (woM (xt X) a c1)) : ∀ (n : Nat) (m : MSt), w_M_next_0  post  n m → G X 0 0 (woM (xt X) a m) [(0, .ref (a 0))] [] 0 := by
  intro n
  induction n with
  | zero => intro m hw; exact hw.elim
  | succ n ih =>
    intro m hw
    rw [w_M_next_0] at hw
    refine g_aload_n (pc := 0) C d_M_next_0 0 rfl rfl ?_
    refine fM_at (pc := 1) C lk_M_204 d_M_next_1 (v := M_at m) rfl ?_
    refine g_aload_n (pc := 4) C d_M_next_4 0 rfl rfl ?_
    refine fM_taped (pc := 5) C lk_M_199 d_M_next_5 (v := M_taped m) rfl ?_
    refine g_icmp_ge (pc := 8) (tgt := 38) C d_M_next_8 (by decide) (fun h32 => ?_) (fun h32 => ?_)
    · replace hw := hw.1 h32
      exact j_M_next_38 C q a post hq  m hw
    · replace hw := hw.2 h32
      refine g_aload_n (pc := 11) C d_M_next_11 0 rfl rfl ?_
      refine fM_tape (pc := 12) C lk_M_23 d_M_next_12 ?_
      refine g_aload_n (pc := 15) C d_M_next_15 0 rfl rfl ?_
      refine fM_at (pc := 16) C lk_M_204 d_M_next_16 (v := M_at m) rfl ?_
      obtain ⟨h29, hw⟩ := hw
      refine lM_tape (pc := 19) C d_M_next_19 (f := M_tape m) rfl (N0 := (M_at m).toNatClampNeg) rfl h29 ?_
      refine g_bipush (pc := 20) C (v := 32) d_M_next_20 (by decide) ?_
      refine g_icmp_ne (pc := 22) (tgt := 38) C d_M_next_22 (by decide) (fun h31 => ?_) (fun h31 => ?_)
      · replace hw := hw.2 h31
        exact j_M_next_38 C q a post hq  m hw
      · replace hw := hw.1 h31
        refine g_aload_n (pc := 25) C d_M_next_25 0 rfl rfl ?_
        refine g_dup (pc := 26) C d_M_next_26 rfl ?_
        refine fM_at (pc := 27) C lk_M_204 d_M_next_27 (v := M_at m) rfl ?_
        refine g_iconst (pc := 30) C (v := 1) d_M_next_30 (by decide) ?_
        refine g_iadd (pc := 31) C d_M_next_31 ?_
        refine g_topi (fun y30 ey30 => ?_)
        replace hw := hw y30 ey30
        refine pM_at (pc := 32) C lk_M_204 d_M_next_32   ?_
        refine g_goto (pc := 35) (tgt := 0) C d_M_next_35 (by decide) ?_
        exact ih (M_at_ m y30) hw
def wp_M_next (m : MSt) (post : MSt → Prop) : Prop :=
  w_M_next_0  post  2000 m
set_option maxRecDepth 20000 in
theorem g_M_next {X : GX} (C : GC X b_M_next R_M 1 (rmd 2)) {Qp : Option Value → va_W → Prop} (q : RC X (none) Qp 0 0) (a : Nat → Nat) (m : MSt) (post : MSt → Prop) (hq : ∀ c1, post c1 → Qp none (woM (xt X) a c1)) (hw : wp_M_next m post) : G X 0 0 (woM (xt X) a m) [(0, .ref (a 0))] [] 0 := by
  unfold wp_M_next at hw
  exact j_M_next_0 C q a post hq  2000 m hw
set_option maxRecDepth 20000 in
theorem c_M_next (l : Launch) (D : va_G) (t : Nat → ClassId) (ev : Nat → Nat) (a : Nat → Nat) (m : MSt) (post : MSt → Prop) (hw : wp_M_next m post) : Con l D t ev y_M_next b_M_next 1 (none) 2 (woM t a m) [.ref (a 0)] (qV (woM t a)  post) :=
  ConR.of (by decide +kernel) (Nat.le_of_ble_eq_true rfl) (fun X el eD et ee C q _ => by subst el; subst eD; subst et; subst ee; exact g_M_next C q a m post (fun c1 h => ⟨⟨c1, rfl, rfl, h⟩, rfl⟩) hw)
def wp_M_isWord (m : MSt) (x1 : Int32) (post : Int32 → MSt → Prop) : Prop :=
  (((M_token m) = 1) → ((((M_value m) = x1) → (post 1 m)) ∧ ((¬ (M_value m) = x1) → (post 0 m)))) ∧ ((¬ (M_token m) = 1) → (post 0 m))
set_option maxRecDepth 20000 in
theorem g_M_isWord {X : GX} (C : GC X b_M_isWord R_M 2 (rmd 0)) {Qp : Option Value → va_W → Prop} (q : RC X ((some .boolean)) Qp 0 0) (a : Nat → Nat) (m : MSt) (x1 : Int32) (post : Int32 → MSt → Prop) (hq : ∀ v c1, post v c1 → Qp (some (.int v)) (woM (xt X) a c1)) (hw : wp_M_isWord m x1 post) : G X 0 0 (woM (xt X) a m) [(0, .ref (a 0)), (1, .int x1)] [] 0 := by
  unfold wp_M_isWord at hw
  refine g_aload_n (pc := 0) C d_M_isWord_0 0 rfl rfl ?_
  refine fM_token (pc := 1) C lk_M_213 d_M_isWord_1 (v := M_token m) rfl ?_
  refine g_iconst (pc := 4) C (v := 1) d_M_isWord_4 (by decide) ?_
  refine g_icmp_ne (pc := 5) (tgt := 20) C d_M_isWord_5 (by decide) (fun h2 => ?_) (fun h2 => ?_)
  · replace hw := hw.2 h2
    refine g_iconst (pc := 20) C (v := 0) d_M_isWord_20 (by decide) ?_
    exact g_zret (pc := 21) C q d_M_isWord_21 (by decide) (hq _ _ hw)
  · replace hw := hw.1 h2
    refine g_aload_n (pc := 8) C d_M_isWord_8 0 rfl rfl ?_
    refine fM_value (pc := 9) C lk_M_210 d_M_isWord_9 (v := M_value m) rfl ?_
    refine g_iload_n (pc := 12) C d_M_isWord_12 1 rfl rfl ?_
    refine g_icmp_ne (pc := 13) (tgt := 20) C d_M_isWord_13 (by decide) (fun h1 => ?_) (fun h1 => ?_)
    · replace hw := hw.2 h1
      refine g_iconst (pc := 20) C (v := 0) d_M_isWord_20 (by decide) ?_
      exact g_zret (pc := 21) C q d_M_isWord_21 (by decide) (hq _ _ hw)
    · replace hw := hw.1 h1
      refine g_iconst (pc := 16) C (v := 1) d_M_isWord_16 (by decide) ?_
      refine g_goto (pc := 17) (tgt := 21) C d_M_isWord_17 (by decide) ?_
      exact g_zret (pc := 21) C q d_M_isWord_21 (by decide) (hq _ _ hw)
set_option maxRecDepth 20000 in
theorem c_M_isWord (l : Launch) (D : va_G) (t : Nat → ClassId) (ev : Nat → Nat) (a : Nat → Nat) (m : MSt) (x1 : Int32) (post : Int32 → MSt → Prop) (hw : wp_M_isWord m x1 post) : Con l D t ev y_M_isWord b_M_isWord 2 ((some .boolean)) 0 (woM t a m) [.ref (a 0), .int x1] (qI (woM t a)  post) :=
  ConR.of (by decide +kernel) (Nat.le_of_ble_eq_true rfl) (fun X el eD et ee C q _ => by subst el; subst eD; subst et; subst ee; exact g_M_isWord C q a m x1 post (fun v c1 h => ⟨⟨v, c1, rfl, rfl, h⟩, rfl⟩) hw)
def wp_M_reads (m : MSt) (x1 : Int32) (post : Int32 → MSt → Prop) : Prop :=
  wp_M_next m (fun m_1 => (((M_token m_1) = 2) → (((x1 < (M_value m_1)) → (post 0 (M_told_ m_1 (M_value m_1)))) ∧ ((¬ x1 < (M_value m_1)) → (post 1 (M_told_ m_1 (M_value m_1)))))) ∧ ((¬ (M_token m_1) = 2) → (post 0 (M_told_ m_1 (M_value m_1)))))
set_option maxRecDepth 20000 in
theorem g_M_reads {X : GX} (C : GC X b_M_reads R_M 2 (rmd 3)) {Qp : Option Value → va_W → Prop} (q : RC X ((some .boolean)) Qp 0 0) (a : Nat → Nat) (m : MSt) (x1 : Int32) (post : Int32 → MSt → Prop) (hq : ∀ v c1, post v c1 → Qp (some (.int v)) (woM (xt X) a c1)) (hw : wp_M_reads m x1 post) : G X 0 0 (woM (xt X) a m) [(0, .ref (a 0)), (1, .int x1)] [] 0 := by
  unfold wp_M_reads at hw
  refine g_aload_n (pc := 0) C d_M_reads_0 0 rfl rfl ?_
  refine k_Va (pc := 1) (co_V C (c_M_next (xl X) (xD X) (xt X) (xv X) a m _ hw) mw_M_next lk_M_223 d_M_reads_1 (List.range _) (all_C _) (all_nd _) (rec_w C 0 6 rfl rfl) rfl rfl ⟨Nat.le_of_ble_eq_true rfl, Nat.le_of_ble_eq_true rfl⟩ ⟨Nat.le_of_ble_eq_true rfl, Nat.le_of_ble_eq_true rfl⟩ (rest := []) rfl rfl (Nat.le_of_ble_eq_true rfl)) (fun m_1 hw => ?_)
  refine g_aload_n (pc := 4) C d_M_reads_4 0 rfl rfl ?_
  refine g_aload_n (pc := 5) C d_M_reads_5 0 rfl rfl ?_
  refine fM_value (pc := 6) C lk_M_210 d_M_reads_6 (v := M_value m_1) rfl ?_
  refine pM_told (pc := 9) C lk_M_226 d_M_reads_9   ?_
  refine g_aload_n (pc := 12) C d_M_reads_12 0 rfl rfl ?_
  refine fM_token (pc := 13) C lk_M_213 d_M_reads_13 (v := M_token m_1) rfl ?_
  refine g_iconst (pc := 16) C (v := 2) d_M_reads_16 (by decide) ?_
  refine g_icmp_ne (pc := 17) (tgt := 32) C d_M_reads_17 (by decide) (fun h3 => ?_) (fun h3 => ?_)
  · replace hw := hw.2 h3
    refine g_iconst (pc := 32) C (v := 0) d_M_reads_32 (by decide) ?_
    exact g_zret (pc := 33) C q d_M_reads_33 (by decide) (hq _ _ hw)
  · replace hw := hw.1 h3
    refine g_aload_n (pc := 20) C d_M_reads_20 0 rfl rfl ?_
    refine fM_value (pc := 21) C lk_M_210 d_M_reads_21 (v := M_value m_1) rfl ?_
    refine g_iload_n (pc := 24) C d_M_reads_24 1 rfl rfl ?_
    refine g_icmp_gt (pc := 25) (tgt := 32) C d_M_reads_25 (by decide) (fun h2 => ?_) (fun h2 => ?_)
    · replace hw := hw.1 h2
      refine g_iconst (pc := 32) C (v := 0) d_M_reads_32 (by decide) ?_
      exact g_zret (pc := 33) C q d_M_reads_33 (by decide) (hq _ _ hw)
    · replace hw := hw.2 h2
      refine g_iconst (pc := 28) C (v := 1) d_M_reads_28 (by decide) ?_
      refine g_goto (pc := 29) (tgt := 33) C d_M_reads_29 (by decide) ?_
      exact g_zret (pc := 33) C q d_M_reads_33 (by decide) (hq _ _ hw)
set_option maxRecDepth 20000 in
theorem c_M_reads (l : Launch) (D : va_G) (t : Nat → ClassId) (ev : Nat → Nat) (a : Nat → Nat) (m : MSt) (x1 : Int32) (post : Int32 → MSt → Prop) (hw : wp_M_reads m x1 post) : Con l D t ev y_M_reads b_M_reads 2 ((some .boolean)) 3 (woM t a m) [.ref (a 0), .int x1] (qI (woM t a)  post) :=
  ConR.of (by decide +kernel) (Nat.le_of_ble_eq_true rfl) (fun X el eD et ee C q _ => by subst el; subst eD; subst et; subst ee; exact g_M_reads C q a m x1 post (fun v c1 h => ⟨⟨v, c1, rfl, rfl, h⟩, rfl⟩) hw)
def wp_M_readsWord (m : MSt) (x1 : Int32) (post : Int32 → MSt → Prop) : Prop :=
  wp_M_next m (fun m_1 => wp_M_isWord m_1 x1 (fun v2 m_3 => narrow .boolean (.int v2) = .int v2 ∧ post v2 m_3))
set_option maxRecDepth 20000 in
theorem g_M_readsWord {X : GX} (C : GC X b_M_readsWord R_M 2 (rmd 3)) {Qp : Option Value → va_W → Prop} (q : RC X ((some .boolean)) Qp 0 0) (a : Nat → Nat) (m : MSt) (x1 : Int32) (post : Int32 → MSt → Prop) (hq : ∀ v c1, post v c1 → Qp (some (.int v)) (woM (xt X) a c1)) (hw : wp_M_readsWord m x1 post) : G X 0 0 (woM (xt X) a m) [(0, .ref (a 0)), (1, .int x1)] [] 0 := by
  unfold wp_M_readsWord at hw
  refine g_aload_n (pc := 0) C d_M_readsWord_0 0 rfl rfl ?_
  refine k_Va (pc := 1) (co_V C (c_M_next (xl X) (xD X) (xt X) (xv X) a m _ hw) mw_M_next lk_M_223 d_M_readsWord_1 (List.range _) (all_C _) (all_nd _) (rec_w C 0 6 rfl rfl) rfl rfl ⟨Nat.le_of_ble_eq_true rfl, Nat.le_of_ble_eq_true rfl⟩ ⟨Nat.le_of_ble_eq_true rfl, Nat.le_of_ble_eq_true rfl⟩ (rest := []) rfl rfl (Nat.le_of_ble_eq_true rfl)) (fun m_1 hw => ?_)
  refine g_aload_n (pc := 4) C d_M_readsWord_4 0 rfl rfl ?_
  refine g_iload_n (pc := 5) C d_M_readsWord_5 1 rfl rfl ?_
  refine k_Ia (pc := 6) (co_V C (c_M_isWord (xl X) (xD X) (xt X) (xv X) a m_1 x1 _ hw) mw_M_isWord lk_M_229 d_M_readsWord_6 (List.range _) (all_C _) (all_nd _) (rec_w C 0 6 rfl rfl) rfl rfl ⟨Nat.le_of_ble_eq_true rfl, Nat.le_of_ble_eq_true rfl⟩ ⟨Nat.le_of_ble_eq_true rfl, Nat.le_of_ble_eq_true rfl⟩ (rest := []) rfl rfl (Nat.le_of_ble_eq_true rfl)) (fun v2 m_3 hw => ?_)
  obtain ⟨h4, hw⟩ := hw
  exact g_zret (pc := 9) C q d_M_readsWord_9 h4 (hq _ _ hw)
set_option maxRecDepth 20000 in
theorem c_M_readsWord (l : Launch) (D : va_G) (t : Nat → ClassId) (ev : Nat → Nat) (a : Nat → Nat) (m : MSt) (x1 : Int32) (post : Int32 → MSt → Prop) (hw : wp_M_readsWord m x1 post) : Con l D t ev y_M_readsWord b_M_readsWord 2 ((some .boolean)) 3 (woM t a m) [.ref (a 0), .int x1] (qI (woM t a)  post) :=
  ConR.of (by decide +kernel) (Nat.le_of_ble_eq_true rfl) (fun X el eD et ee C q _ => by subst el; subst eD; subst et; subst ee; exact g_M_readsWord C q a m x1 post (fun v c1 h => ⟨⟨v, c1, rfl, rfl, h⟩, rfl⟩) hw)
