def w_X_minds_102  (post : Int32 → XSt → Prop)  : Nat → XSt → Int32 → Int32 → Int32 → Nat → Int32 → Prop
  | 0, _, _, _, _, _, _ => False
  | n + 1, x, x2, x3, x4, x5, x6 =>
    ((x4 ≤ x6) → (post x4 x)) ∧ ((¬ x4 ≤ x6) → (∀ y5 : Int32, y5 = x3 + x6 → (((x5 = 4) → (False)) ∧ ((¬ x5 = 4) → (x5 < 4 ∧ (∀ y6 : Int32, y6 = x2 + x6 → (vp_in y6 40 ∧ (wp_X_heldLoad ((S_items (X_sheets x x5)) y6.toNatClampNeg) (fun v8 => vp_in y5 8 ∧ (∀ y10 : Int32, y10 = x6 + 1 → (w_X_minds_102  post  n (X_now_ x (C_load_ (X_now x) (upd (C_load (X_now x)) y5.toNatClampNeg v8))) x2 x3 x4 x5 y10)))))))))))
set_option maxRecDepth 20000 in
theorem j_X_minds_102 {X : GX} (C : GC X b_X_minds R_X 7 (rmd 1)) {Qp : Option Value → va_W → Prop} (q : RC X ((some .int)) Qp 0 0) (a : Nat → Nat)   (post : Int32 → XSt → Prop) (hq : ∀ v c1, post v c1 → Qp (some (.int v)) (woX (xt X) a c1)) : ∀ (n : Nat) (x : XSt) (x2 : Int32) (x3 : Int32) (x4 : Int32) (x5 : Nat) (x6 : Int32), w_X_minds_102  post  n x x2 x3 x4 x5 x6 → G X 0 0 (woX (xt X) a x) [(0, .ref (a 0)), (2, .int x2), (3, .int x3), (4, .int x4), (5, rfS a x5), (6, .int x6)] [] 102 := by
  intro n
  induction n with
  | zero => intro x x2 x3 x4 x5 x6 hw; exact hw.elim
  | succ n ih =>
    intro x x2 x3 x4 x5 x6 hw
    rw [w_X_minds_102] at hw
    refine g_iload (pc := 102) C d_X_minds_102 5 rfl ?_
    refine g_iload (pc := 104) C d_X_minds_104 3 rfl ?_
    refine g_icmp_ge (pc := 106) (tgt := 140) C d_X_minds_106 (by decide) (fun h12 => ?_) (fun h12 => ?_)
    · replace hw := hw.1 h12
      refine g_iload (pc := 140) C d_X_minds_140 3 rfl ?_
      exact g_iret (pc := 142) C q d_X_minds_142 (hq _ _ hw)
    · replace hw := hw.2 h12
      refine g_aload_n (pc := 109) C d_X_minds_109 0 rfl rfl ?_
      refine fX_now (pc := 110) C lk_X_10 d_X_minds_110 ?_
      refine fX_now_load (pc := 113) C lk_X_112 d_X_minds_113 ?_
      refine g_iload_n (pc := 116) C d_X_minds_116 2 rfl rfl ?_
      refine g_iload (pc := 117) C d_X_minds_117 5 rfl ?_
      refine g_iadd (pc := 119) C d_X_minds_119 ?_
      refine g_topi (fun y5 ey5 => ?_)
      replace hw := hw y5 ey5
      by_cases h11 : x5 = 4
      · have hzh11 := hw.1 h11
        subst h11
        have hw := hzh11
        refine g_re (lv' := [(0, .ref (a 0)), (2, .int x2), (3, .int x3), (4, .int x4), (5, .null), (6, .int x6)]) (st' := [.int y5, .ref (a 6)]) rfl rfl ?_
        refine g_aloadN (pc := 120) C d_X_minds_120 4 rfl ?_
        exact hw.elim
      · obtain ⟨h11, hzh11⟩ := hw.2 h11
        rcases q4 h11 with rfl | rfl | rfl | rfl
        · have hw := hzh11
          refine g_re (lv' := [(0, .ref (a 0)), (2, .int x2), (3, .int x3), (4, .int x4), (5, .ref (a 32)), (6, .int x6)]) (st' := [.int y5, .ref (a 6)]) rfl rfl ?_
          refine g_aload (pc := 120) C d_X_minds_120 4 rfl ?_
          refine fX_sheets0_items (pc := 122) C lk_X_228 d_X_minds_122 ?_
          refine g_iload_n (pc := 125) C d_X_minds_125 1 rfl rfl ?_
          refine g_iload (pc := 126) C d_X_minds_126 5 rfl ?_
          refine g_iadd (pc := 128) C d_X_minds_128 ?_
          refine g_topi (fun y6 ey6 => ?_)
          replace hw := hw y6 ey6
          obtain ⟨h7, hw⟩ := hw
          refine lX_sheets0_items (pc := 129) C d_X_minds_129 (f := S_items (X_sheets x 0)) rfl (N0 := y6.toNatClampNeg) rfl h7 ?_
          refine k_I0 (pc := 130) (co_S C (c_X_heldLoad (xl X) (xD X) (xt X) (xv X) ((S_items (X_sheets x 0)) y6.toNatClampNeg) _ hw) mw_X_heldLoad lk_X_231 d_X_minds_130 [] rfl (by decide)  rfl rfl ⟨Nat.le_of_ble_eq_true rfl, Nat.le_of_ble_eq_true rfl⟩ ⟨Nat.le_of_ble_eq_true rfl, Nat.le_of_ble_eq_true rfl⟩ (rest := [.int y5, .ref (a 6)]) rfl rfl (Nat.le_of_ble_eq_true rfl)) (fun v8 hw => ?_)
          obtain ⟨h9, hw⟩ := hw
          refine sX_now_load (pc := 133) C (c := X_now x) rfl d_X_minds_133 (f := C_load (X_now x)) rfl (N0 := y5.toNatClampNeg) rfl h9 ?_
          obtain ⟨y10, ey10⟩ : ∃ w, w = x6 + 1 := ⟨_, rfl⟩
          replace hw := hw y10 ey10
          refine g_iinc (pc := 134) C d_X_minds_134 5 rfl (v := y10) (by rw [ey10]; rfl) (Nat.le_of_ble_eq_true rfl) (lv' := [(0, .ref (a 0)), (2, .int x2), (3, .int x3), (4, .int x4), (5, .ref (a 32)), (6, .int y10)]) rfl ?_
          refine g_goto (pc := 137) (tgt := 102) C d_X_minds_137 (by decide) ?_
          exact ih (X_now_ x (C_load_ (X_now x) (upd (C_load (X_now x)) y5.toNatClampNeg v8))) x2 x3 x4 0 y10 hw
        · have hw := hzh11
          refine g_re (lv' := [(0, .ref (a 0)), (2, .int x2), (3, .int x3), (4, .int x4), (5, .ref (a 34)), (6, .int x6)]) (st' := [.int y5, .ref (a 6)]) rfl rfl ?_
          refine g_aload (pc := 120) C d_X_minds_120 4 rfl ?_
          refine fX_sheets1_items (pc := 122) C lk_X_228 d_X_minds_122 ?_
          refine g_iload_n (pc := 125) C d_X_minds_125 1 rfl rfl ?_
          refine g_iload (pc := 126) C d_X_minds_126 5 rfl ?_
          refine g_iadd (pc := 128) C d_X_minds_128 ?_
          refine g_topi (fun y6 ey6 => ?_)
          replace hw := hw y6 ey6
          obtain ⟨h7, hw⟩ := hw
          refine lX_sheets1_items (pc := 129) C d_X_minds_129 (f := S_items (X_sheets x 1)) rfl (N0 := y6.toNatClampNeg) rfl h7 ?_
          refine k_I0 (pc := 130) (co_S C (c_X_heldLoad (xl X) (xD X) (xt X) (xv X) ((S_items (X_sheets x 1)) y6.toNatClampNeg) _ hw) mw_X_heldLoad lk_X_231 d_X_minds_130 [] rfl (by decide)  rfl rfl ⟨Nat.le_of_ble_eq_true rfl, Nat.le_of_ble_eq_true rfl⟩ ⟨Nat.le_of_ble_eq_true rfl, Nat.le_of_ble_eq_true rfl⟩ (rest := [.int y5, .ref (a 6)]) rfl rfl (Nat.le_of_ble_eq_true rfl)) (fun v8 hw => ?_)
          obtain ⟨h9, hw⟩ := hw
          refine sX_now_load (pc := 133) C (c := X_now x) rfl d_X_minds_133 (f := C_load (X_now x)) rfl (N0 := y5.toNatClampNeg) rfl h9 ?_
          obtain ⟨y10, ey10⟩ : ∃ w, w = x6 + 1 := ⟨_, rfl⟩
          replace hw := hw y10 ey10
          refine g_iinc (pc := 134) C d_X_minds_134 5 rfl (v := y10) (by rw [ey10]; rfl) (Nat.le_of_ble_eq_true rfl) (lv' := [(0, .ref (a 0)), (2, .int x2), (3, .int x3), (4, .int x4), (5, .ref (a 34)), (6, .int y10)]) rfl ?_
          refine g_goto (pc := 137) (tgt := 102) C d_X_minds_137 (by decide) ?_
          exact ih (X_now_ x (C_load_ (X_now x) (upd (C_load (X_now x)) y5.toNatClampNeg v8))) x2 x3 x4 1 y10 hw
        · have hw := hzh11
          refine g_re (lv' := [(0, .ref (a 0)), (2, .int x2), (3, .int x3), (4, .int x4), (5, .ref (a 36)), (6, .int x6)]) (st' := [.int y5, .ref (a 6)]) rfl rfl ?_
          refine g_aload (pc := 120) C d_X_minds_120 4 rfl ?_
          refine fX_sheets2_items (pc := 122) C lk_X_228 d_X_minds_122 ?_
          refine g_iload_n (pc := 125) C d_X_minds_125 1 rfl rfl ?_
          refine g_iload (pc := 126) C d_X_minds_126 5 rfl ?_
          refine g_iadd (pc := 128) C d_X_minds_128 ?_
          refine g_topi (fun y6 ey6 => ?_)
          replace hw := hw y6 ey6
          obtain ⟨h7, hw⟩ := hw
          refine lX_sheets2_items (pc := 129) C d_X_minds_129 (f := S_items (X_sheets x 2)) rfl (N0 := y6.toNatClampNeg) rfl h7 ?_
          refine k_I0 (pc := 130) (co_S C (c_X_heldLoad (xl X) (xD X) (xt X) (xv X) ((S_items (X_sheets x 2)) y6.toNatClampNeg) _ hw) mw_X_heldLoad lk_X_231 d_X_minds_130 [] rfl (by decide)  rfl rfl ⟨Nat.le_of_ble_eq_true rfl, Nat.le_of_ble_eq_true rfl⟩ ⟨Nat.le_of_ble_eq_true rfl, Nat.le_of_ble_eq_true rfl⟩ (rest := [.int y5, .ref (a 6)]) rfl rfl (Nat.le_of_ble_eq_true rfl)) (fun v8 hw => ?_)
          obtain ⟨h9, hw⟩ := hw
          refine sX_now_load (pc := 133) C (c := X_now x) rfl d_X_minds_133 (f := C_load (X_now x)) rfl (N0 := y5.toNatClampNeg) rfl h9 ?_
          obtain ⟨y10, ey10⟩ : ∃ w, w = x6 + 1 := ⟨_, rfl⟩
          replace hw := hw y10 ey10
          refine g_iinc (pc := 134) C d_X_minds_134 5 rfl (v := y10) (by rw [ey10]; rfl) (Nat.le_of_ble_eq_true rfl) (lv' := [(0, .ref (a 0)), (2, .int x2), (3, .int x3), (4, .int x4), (5, .ref (a 36)), (6, .int y10)]) rfl ?_
          refine g_goto (pc := 137) (tgt := 102) C d_X_minds_137 (by decide) ?_
          exact ih (X_now_ x (C_load_ (X_now x) (upd (C_load (X_now x)) y5.toNatClampNeg v8))) x2 x3 x4 2 y10 hw
        · have hw := hzh11
          refine g_re (lv' := [(0, .ref (a 0)), (2, .int x2), (3, .int x3), (4, .int x4), (5, .ref (a 38)), (6, .int x6)]) (st' := [.int y5, .ref (a 6)]) rfl rfl ?_
          refine g_aload (pc := 120) C d_X_minds_120 4 rfl ?_
          refine fX_sheets3_items (pc := 122) C lk_X_228 d_X_minds_122 ?_
          refine g_iload_n (pc := 125) C d_X_minds_125 1 rfl rfl ?_
          refine g_iload (pc := 126) C d_X_minds_126 5 rfl ?_
          refine g_iadd (pc := 128) C d_X_minds_128 ?_
          refine g_topi (fun y6 ey6 => ?_)
          replace hw := hw y6 ey6
          obtain ⟨h7, hw⟩ := hw
          refine lX_sheets3_items (pc := 129) C d_X_minds_129 (f := S_items (X_sheets x 3)) rfl (N0 := y6.toNatClampNeg) rfl h7 ?_
          refine k_I0 (pc := 130) (co_S C (c_X_heldLoad (xl X) (xD X) (xt X) (xv X) ((S_items (X_sheets x 3)) y6.toNatClampNeg) _ hw) mw_X_heldLoad lk_X_231 d_X_minds_130 [] rfl (by decide)  rfl rfl ⟨Nat.le_of_ble_eq_true rfl, Nat.le_of_ble_eq_true rfl⟩ ⟨Nat.le_of_ble_eq_true rfl, Nat.le_of_ble_eq_true rfl⟩ (rest := [.int y5, .ref (a 6)]) rfl rfl (Nat.le_of_ble_eq_true rfl)) (fun v8 hw => ?_)
          obtain ⟨h9, hw⟩ := hw
          refine sX_now_load (pc := 133) C (c := X_now x) rfl d_X_minds_133 (f := C_load (X_now x)) rfl (N0 := y5.toNatClampNeg) rfl h9 ?_
          obtain ⟨y10, ey10⟩ : ∃ w, w = x6 + 1 := ⟨_, rfl⟩
          replace hw := hw y10 ey10
          refine g_iinc (pc := 134) C d_X_minds_134 5 rfl (v := y10) (by rw [ey10]; rfl) (Nat.le_of_ble_eq_true rfl) (lv' := [(0, .ref (a 0)), (2, .int x2), (3, .int x3), (4, .int x4), (5, .ref (a 38)), (6, .int y10)]) rfl ?_
          refine g_goto (pc := 137) (tgt := 102) C d_X_minds_137 (by decide) ?_
          exact ih (X_now_ x (C_load_ (X_now x) (upd (C_load (X_now x)) y5.toNatClampNeg v8))) x2 x3 x4 3 y10 hw
def wp_X_minds (x : XSt) (x1 : Int32) (x2 : Int32) (x3 : Int32) (x4 : Int32) (post : Int32 → XSt → Prop) : Prop :=
  wp_X_sheetAt x x1 (fun v1 x_2 => ((v1 = 4) → (post (-1) x_2)) ∧ ((¬ v1 = 4) → (v1 < 4 ∧ (wp_X_isBarge x_2 x3 (fun v3 x_4 => ((v3 = 0) → (post (-1) x_4)) ∧ ((¬ v3 = 0) → (((x4 < 0) → (post (-1) x_4)) ∧ ((¬ x4 < 0) → (((8 < x4) → (post (-1) x_4)) ∧ ((¬ 8 < x4) → (((x4 ≤ ((C_count (X_now x_4)) - x3)) → ((((S_sort (X_sheets x_4 v1)) = (-1)) → (post (-11) x_4)) ∧ ((¬ (S_sort (X_sheets x_4 v1)) = (-1)) → ((((S_sort (X_sheets x_4 v1)) = 0) → (((x2 < 0) → (post (-12) x_4)) ∧ ((¬ x2 < 0) → ((((S_size (X_sheets x_4 v1)) < x2) → (post (-12) x_4)) ∧ ((¬ (S_size (X_sheets x_4 v1)) < x2) → (((x4 ≤ ((S_size (X_sheets x_4 v1)) - x2)) → (w_X_minds_102  post  2000 x_4 x2 x3 x4 v1 0)) ∧ ((¬ x4 ≤ ((S_size (X_sheets x_4 v1)) - x2)) → (post (-12) x_4)))))))) ∧ ((¬ (S_sort (X_sheets x_4 v1)) = 0) → (post (-13) x_4)))))) ∧ ((¬ x4 ≤ ((C_count (X_now x_4)) - x3)) → (post (-1) x_4)))))))))))))
set_option maxRecDepth 20000 in
theorem g_X_minds {X : GX} (C : GC X b_X_minds R_X 7 (rmd 1)) {Qp : Option Value → va_W → Prop} (q : RC X ((some .int)) Qp 0 0) (a : Nat → Nat) (x : XSt) (x1 : Int32) (x2 : Int32) (x3 : Int32) (x4 : Int32) (post : Int32 → XSt → Prop) (hq : ∀ v c1, post v c1 → Qp (some (.int v)) (woX (xt X) a c1)) (hw : wp_X_minds x x1 x2 x3 x4 post) : G X 0 0 (woX (xt X) a x) [(0, .ref (a 0)), (1, .int x1), (2, .int x2), (3, .int x3), (4, .int x4)] [] 0 := by
  unfold wp_X_minds at hw
  refine g_aload_n (pc := 0) C d_X_minds_0 0 rfl rfl ?_
  refine g_iload_n (pc := 1) C d_X_minds_1 1 rfl rfl ?_
  refine k_Ra (pc := 2) (co_V C (c_X_sheetAt (xl X) (xD X) (xt X) (xv X) a x x1 _ hw) mw_X_sheetAt lk_X_198 d_X_minds_2 (List.range _) (all_C _) (all_nd _) (rec_w C 0 5 rfl rfl) rfl rfl ⟨Nat.le_of_ble_eq_true rfl, Nat.le_of_ble_eq_true rfl⟩ ⟨Nat.le_of_ble_eq_true rfl, Nat.le_of_ble_eq_true rfl⟩ (rest := []) rfl rfl (Nat.le_of_ble_eq_true rfl)) (fun v1 x_2 hw => ?_)
  by_cases h22 : v1 = 4
  · have hzh22 := hw.1 h22
    subst h22
    have hw := hzh22
    refine g_re (lv' := [(0, .ref (a 0)), (1, .int x1), (2, .int x2), (3, .int x3), (4, .int x4)]) (st' := [.null]) rfl rfl ?_
    refine g_astoreN (pc := 5) C d_X_minds_5 (Nat.le_of_ble_eq_true rfl) (lv' := [(0, .ref (a 0)), (1, .int x1), (2, .int x2), (3, .int x3), (4, .int x4), (5, .null)]) rfl ?_
    refine g_aloadN (pc := 7) C d_X_minds_7 5 rfl ?_
    refine g_ifnullN (pc := 9) (tgt := 46) C d_X_minds_9 (by decide) ?_
    refine g_iconst (pc := 46) C (v := (-1)) d_X_minds_46 (by decide) ?_
    exact g_iret (pc := 47) C q d_X_minds_47 (hq _ _ hw)
  · obtain ⟨h22, hzh22⟩ := hw.2 h22
    rcases q4 h22 with rfl | rfl | rfl | rfl
    · have hw := hzh22
      refine g_re (lv' := [(0, .ref (a 0)), (1, .int x1), (2, .int x2), (3, .int x3), (4, .int x4)]) (st' := [.ref (a 32)]) rfl rfl ?_
      refine g_astore (pc := 5) C d_X_minds_5 (Nat.le_of_ble_eq_true rfl) (lv' := [(0, .ref (a 0)), (1, .int x1), (2, .int x2), (3, .int x3), (4, .int x4), (5, .ref (a 32))]) rfl ?_
      refine g_aload (pc := 7) C d_X_minds_7 5 rfl ?_
      refine g_ifnull (pc := 9) C d_X_minds_9 ?_
      refine g_aload_n (pc := 12) C d_X_minds_12 0 rfl rfl ?_
      refine g_iload_n (pc := 13) C d_X_minds_13 3 rfl rfl ?_
      refine k_Ia (pc := 14) (co_V C (c_X_isBarge (xl X) (xD X) (xt X) (xv X) a x_2 x3 _ hw) mw_X_isBarge lk_X_106 d_X_minds_14 (List.range _) (all_C _) (all_nd _) (rec_w C 0 5 rfl rfl) rfl rfl ⟨Nat.le_of_ble_eq_true rfl, Nat.le_of_ble_eq_true rfl⟩ ⟨Nat.le_of_ble_eq_true rfl, Nat.le_of_ble_eq_true rfl⟩ (rest := []) rfl rfl (Nat.le_of_ble_eq_true rfl)) (fun v3 x_4 hw => ?_)
      refine g_if_eq (pc := 17) (tgt := 46) C d_X_minds_17 (by decide) (fun h13 => ?_) (fun h13 => ?_)
      · replace hw := hw.1 h13
        refine g_iconst (pc := 46) C (v := (-1)) d_X_minds_46 (by decide) ?_
        exact g_iret (pc := 47) C q d_X_minds_47 (hq _ _ hw)
      · replace hw := hw.2 h13
        refine g_iload (pc := 20) C d_X_minds_20 4 rfl ?_
        refine g_if_lt (pc := 22) (tgt := 46) C d_X_minds_22 (by decide) (fun h12 => ?_) (fun h12 => ?_)
        · replace hw := hw.1 h12
          refine g_iconst (pc := 46) C (v := (-1)) d_X_minds_46 (by decide) ?_
          exact g_iret (pc := 47) C q d_X_minds_47 (hq _ _ hw)
        · replace hw := hw.2 h12
          refine g_iload (pc := 25) C d_X_minds_25 4 rfl ?_
          refine g_bipush (pc := 27) C (v := 8) d_X_minds_27 (by decide) ?_
          refine g_icmp_gt (pc := 29) (tgt := 46) C d_X_minds_29 (by decide) (fun h11 => ?_) (fun h11 => ?_)
          · replace hw := hw.1 h11
            refine g_iconst (pc := 46) C (v := (-1)) d_X_minds_46 (by decide) ?_
            exact g_iret (pc := 47) C q d_X_minds_47 (hq _ _ hw)
          · replace hw := hw.2 h11
            refine g_iload (pc := 32) C d_X_minds_32 4 rfl ?_
            refine g_aload_n (pc := 34) C d_X_minds_34 0 rfl rfl ?_
            refine fX_now (pc := 35) C lk_X_10 d_X_minds_35 ?_
            refine fX_now_count (pc := 38) C lk_X_80 d_X_minds_38 (v := C_count (X_now x_4)) rfl ?_
            refine g_iload_n (pc := 41) C d_X_minds_41 3 rfl rfl ?_
            refine g_isub (pc := 42) C d_X_minds_42 ?_
            refine g_icmp_le (pc := 43) (tgt := 48) C d_X_minds_43 (by decide) (fun h10 => ?_) (fun h10 => ?_)
            · replace hw := hw.1 h10
              refine g_aload (pc := 48) C d_X_minds_48 5 rfl ?_
              refine fX_sheets0_sort (pc := 50) C lk_X_202 d_X_minds_50 (v := S_sort (X_sheets x_4 0)) rfl ?_
              refine g_iconst (pc := 53) C (v := (-1)) d_X_minds_53 (by decide) ?_
              refine g_icmp_ne (pc := 54) (tgt := 60) C d_X_minds_54 (by decide) (fun h9 => ?_) (fun h9 => ?_)
              · replace hw := hw.2 h9
                refine g_aload (pc := 60) C d_X_minds_60 5 rfl ?_
                refine fX_sheets0_sort (pc := 62) C lk_X_202 d_X_minds_62 (v := S_sort (X_sheets x_4 0)) rfl ?_
                refine g_if_eq (pc := 65) (tgt := 71) C d_X_minds_65 (by decide) (fun h8 => ?_) (fun h8 => ?_)
                · replace hw := hw.1 h8
                  refine g_iload_n (pc := 71) C d_X_minds_71 2 rfl rfl ?_
                  refine g_if_lt (pc := 72) (tgt := 96) C d_X_minds_72 (by decide) (fun h7 => ?_) (fun h7 => ?_)
                  · replace hw := hw.1 h7
                    refine g_bipush (pc := 96) C (v := (-12)) d_X_minds_96 (by decide) ?_
                    exact g_iret (pc := 98) C q d_X_minds_98 (hq _ _ hw)
                  · replace hw := hw.2 h7
                    refine g_iload_n (pc := 75) C d_X_minds_75 2 rfl rfl ?_
                    refine g_aload (pc := 76) C d_X_minds_76 5 rfl ?_
                    refine fX_sheets0_size (pc := 78) C lk_X_227 d_X_minds_78 (v := S_size (X_sheets x_4 0)) rfl ?_
                    refine g_icmp_gt (pc := 81) (tgt := 96) C d_X_minds_81 (by decide) (fun h6 => ?_) (fun h6 => ?_)
                    · replace hw := hw.1 h6
                      refine g_bipush (pc := 96) C (v := (-12)) d_X_minds_96 (by decide) ?_
                      exact g_iret (pc := 98) C q d_X_minds_98 (hq _ _ hw)
                    · replace hw := hw.2 h6
                      refine g_iload (pc := 84) C d_X_minds_84 4 rfl ?_
                      refine g_aload (pc := 86) C d_X_minds_86 5 rfl ?_
                      refine fX_sheets0_size (pc := 88) C lk_X_227 d_X_minds_88 (v := S_size (X_sheets x_4 0)) rfl ?_
                      refine g_iload_n (pc := 91) C d_X_minds_91 2 rfl rfl ?_
                      refine g_isub (pc := 92) C d_X_minds_92 ?_
                      refine g_icmp_le (pc := 93) (tgt := 99) C d_X_minds_93 (by decide) (fun h5 => ?_) (fun h5 => ?_)
                      · replace hw := hw.1 h5
                        refine g_iconst (pc := 99) C (v := 0) d_X_minds_99 (by decide) ?_
                        refine g_istore (pc := 100) C d_X_minds_100 (Nat.le_of_ble_eq_true rfl) (lv' := [(0, .ref (a 0)), (1, .int x1), (2, .int x2), (3, .int x3), (4, .int x4), (5, .ref (a 32)), (6, .int 0)]) rfl ?_
                        refine g_sub [0, 2, 3, 4, 5, 6] (lv' := [(0, .ref (a 0)), (2, .int x2), (3, .int x3), (4, .int x4), (5, .ref (a 32)), (6, .int 0)]) rfl ?_
                        exact j_X_minds_102 C q a post hq  2000 x_4 x2 x3 x4 0 0 hw
                      · replace hw := hw.2 h5
                        refine g_bipush (pc := 96) C (v := (-12)) d_X_minds_96 (by decide) ?_
                        exact g_iret (pc := 98) C q d_X_minds_98 (hq _ _ hw)
                · replace hw := hw.2 h8
                  refine g_bipush (pc := 68) C (v := (-13)) d_X_minds_68 (by decide) ?_
                  exact g_iret (pc := 70) C q d_X_minds_70 (hq _ _ hw)
              · replace hw := hw.1 h9
                refine g_bipush (pc := 57) C (v := (-11)) d_X_minds_57 (by decide) ?_
                exact g_iret (pc := 59) C q d_X_minds_59 (hq _ _ hw)
            · replace hw := hw.2 h10
              refine g_iconst (pc := 46) C (v := (-1)) d_X_minds_46 (by decide) ?_
              exact g_iret (pc := 47) C q d_X_minds_47 (hq _ _ hw)
    · have hw := hzh22
      refine g_re (lv' := [(0, .ref (a 0)), (1, .int x1), (2, .int x2), (3, .int x3), (4, .int x4)]) (st' := [.ref (a 34)]) rfl rfl ?_
      refine g_astore (pc := 5) C d_X_minds_5 (Nat.le_of_ble_eq_true rfl) (lv' := [(0, .ref (a 0)), (1, .int x1), (2, .int x2), (3, .int x3), (4, .int x4), (5, .ref (a 34))]) rfl ?_
      refine g_aload (pc := 7) C d_X_minds_7 5 rfl ?_
      refine g_ifnull (pc := 9) C d_X_minds_9 ?_
      refine g_aload_n (pc := 12) C d_X_minds_12 0 rfl rfl ?_
      refine g_iload_n (pc := 13) C d_X_minds_13 3 rfl rfl ?_
      refine k_Ia (pc := 14) (co_V C (c_X_isBarge (xl X) (xD X) (xt X) (xv X) a x_2 x3 _ hw) mw_X_isBarge lk_X_106 d_X_minds_14 (List.range _) (all_C _) (all_nd _) (rec_w C 0 5 rfl rfl) rfl rfl ⟨Nat.le_of_ble_eq_true rfl, Nat.le_of_ble_eq_true rfl⟩ ⟨Nat.le_of_ble_eq_true rfl, Nat.le_of_ble_eq_true rfl⟩ (rest := []) rfl rfl (Nat.le_of_ble_eq_true rfl)) (fun v3 x_4 hw => ?_)
      refine g_if_eq (pc := 17) (tgt := 46) C d_X_minds_17 (by decide) (fun h13 => ?_) (fun h13 => ?_)
      · replace hw := hw.1 h13
        refine g_iconst (pc := 46) C (v := (-1)) d_X_minds_46 (by decide) ?_
        exact g_iret (pc := 47) C q d_X_minds_47 (hq _ _ hw)
      · replace hw := hw.2 h13
        refine g_iload (pc := 20) C d_X_minds_20 4 rfl ?_
        refine g_if_lt (pc := 22) (tgt := 46) C d_X_minds_22 (by decide) (fun h12 => ?_) (fun h12 => ?_)
        · replace hw := hw.1 h12
          refine g_iconst (pc := 46) C (v := (-1)) d_X_minds_46 (by decide) ?_
          exact g_iret (pc := 47) C q d_X_minds_47 (hq _ _ hw)
        · replace hw := hw.2 h12
          refine g_iload (pc := 25) C d_X_minds_25 4 rfl ?_
          refine g_bipush (pc := 27) C (v := 8) d_X_minds_27 (by decide) ?_
          refine g_icmp_gt (pc := 29) (tgt := 46) C d_X_minds_29 (by decide) (fun h11 => ?_) (fun h11 => ?_)
          · replace hw := hw.1 h11
            refine g_iconst (pc := 46) C (v := (-1)) d_X_minds_46 (by decide) ?_
            exact g_iret (pc := 47) C q d_X_minds_47 (hq _ _ hw)
          · replace hw := hw.2 h11
            refine g_iload (pc := 32) C d_X_minds_32 4 rfl ?_
            refine g_aload_n (pc := 34) C d_X_minds_34 0 rfl rfl ?_
            refine fX_now (pc := 35) C lk_X_10 d_X_minds_35 ?_
            refine fX_now_count (pc := 38) C lk_X_80 d_X_minds_38 (v := C_count (X_now x_4)) rfl ?_
            refine g_iload_n (pc := 41) C d_X_minds_41 3 rfl rfl ?_
            refine g_isub (pc := 42) C d_X_minds_42 ?_
            refine g_icmp_le (pc := 43) (tgt := 48) C d_X_minds_43 (by decide) (fun h10 => ?_) (fun h10 => ?_)
            · replace hw := hw.1 h10
              refine g_aload (pc := 48) C d_X_minds_48 5 rfl ?_
              refine fX_sheets1_sort (pc := 50) C lk_X_202 d_X_minds_50 (v := S_sort (X_sheets x_4 1)) rfl ?_
              refine g_iconst (pc := 53) C (v := (-1)) d_X_minds_53 (by decide) ?_
              refine g_icmp_ne (pc := 54) (tgt := 60) C d_X_minds_54 (by decide) (fun h9 => ?_) (fun h9 => ?_)
              · replace hw := hw.2 h9
                refine g_aload (pc := 60) C d_X_minds_60 5 rfl ?_
                refine fX_sheets1_sort (pc := 62) C lk_X_202 d_X_minds_62 (v := S_sort (X_sheets x_4 1)) rfl ?_
                refine g_if_eq (pc := 65) (tgt := 71) C d_X_minds_65 (by decide) (fun h8 => ?_) (fun h8 => ?_)
                · replace hw := hw.1 h8
                  refine g_iload_n (pc := 71) C d_X_minds_71 2 rfl rfl ?_
                  refine g_if_lt (pc := 72) (tgt := 96) C d_X_minds_72 (by decide) (fun h7 => ?_) (fun h7 => ?_)
                  · replace hw := hw.1 h7
                    refine g_bipush (pc := 96) C (v := (-12)) d_X_minds_96 (by decide) ?_
                    exact g_iret (pc := 98) C q d_X_minds_98 (hq _ _ hw)
                  · replace hw := hw.2 h7
                    refine g_iload_n (pc := 75) C d_X_minds_75 2 rfl rfl ?_
                    refine g_aload (pc := 76) C d_X_minds_76 5 rfl ?_
                    refine fX_sheets1_size (pc := 78) C lk_X_227 d_X_minds_78 (v := S_size (X_sheets x_4 1)) rfl ?_
                    refine g_icmp_gt (pc := 81) (tgt := 96) C d_X_minds_81 (by decide) (fun h6 => ?_) (fun h6 => ?_)
                    · replace hw := hw.1 h6
                      refine g_bipush (pc := 96) C (v := (-12)) d_X_minds_96 (by decide) ?_
                      exact g_iret (pc := 98) C q d_X_minds_98 (hq _ _ hw)
                    · replace hw := hw.2 h6
                      refine g_iload (pc := 84) C d_X_minds_84 4 rfl ?_
                      refine g_aload (pc := 86) C d_X_minds_86 5 rfl ?_
                      refine fX_sheets1_size (pc := 88) C lk_X_227 d_X_minds_88 (v := S_size (X_sheets x_4 1)) rfl ?_
                      refine g_iload_n (pc := 91) C d_X_minds_91 2 rfl rfl ?_
                      refine g_isub (pc := 92) C d_X_minds_92 ?_
                      refine g_icmp_le (pc := 93) (tgt := 99) C d_X_minds_93 (by decide) (fun h5 => ?_) (fun h5 => ?_)
                      · replace hw := hw.1 h5
                        refine g_iconst (pc := 99) C (v := 0) d_X_minds_99 (by decide) ?_
                        refine g_istore (pc := 100) C d_X_minds_100 (Nat.le_of_ble_eq_true rfl) (lv' := [(0, .ref (a 0)), (1, .int x1), (2, .int x2), (3, .int x3), (4, .int x4), (5, .ref (a 34)), (6, .int 0)]) rfl ?_
                        refine g_sub [0, 2, 3, 4, 5, 6] (lv' := [(0, .ref (a 0)), (2, .int x2), (3, .int x3), (4, .int x4), (5, .ref (a 34)), (6, .int 0)]) rfl ?_
                        exact j_X_minds_102 C q a post hq  2000 x_4 x2 x3 x4 1 0 hw
                      · replace hw := hw.2 h5
                        refine g_bipush (pc := 96) C (v := (-12)) d_X_minds_96 (by decide) ?_
                        exact g_iret (pc := 98) C q d_X_minds_98 (hq _ _ hw)
                · replace hw := hw.2 h8
                  refine g_bipush (pc := 68) C (v := (-13)) d_X_minds_68 (by decide) ?_
                  exact g_iret (pc := 70) C q d_X_minds_70 (hq _ _ hw)
              · replace hw := hw.1 h9
                refine g_bipush (pc := 57) C (v := (-11)) d_X_minds_57 (by decide) ?_
                exact g_iret (pc := 59) C q d_X_minds_59 (hq _ _ hw)
            · replace hw := hw.2 h10
              refine g_iconst (pc := 46) C (v := (-1)) d_X_minds_46 (by decide) ?_
              exact g_iret (pc := 47) C q d_X_minds_47 (hq _ _ hw)
    · have hw := hzh22
      refine g_re (lv' := [(0, .ref (a 0)), (1, .int x1), (2, .int x2), (3, .int x3), (4, .int x4)]) (st' := [.ref (a 36)]) rfl rfl ?_
      refine g_astore (pc := 5) C d_X_minds_5 (Nat.le_of_ble_eq_true rfl) (lv' := [(0, .ref (a 0)), (1, .int x1), (2, .int x2), (3, .int x3), (4, .int x4), (5, .ref (a 36))]) rfl ?_
      refine g_aload (pc := 7) C d_X_minds_7 5 rfl ?_
      refine g_ifnull (pc := 9) C d_X_minds_9 ?_
      refine g_aload_n (pc := 12) C d_X_minds_12 0 rfl rfl ?_
      refine g_iload_n (pc := 13) C d_X_minds_13 3 rfl rfl ?_
      refine k_Ia (pc := 14) (co_V C (c_X_isBarge (xl X) (xD X) (xt X) (xv X) a x_2 x3 _ hw) mw_X_isBarge lk_X_106 d_X_minds_14 (List.range _) (all_C _) (all_nd _) (rec_w C 0 5 rfl rfl) rfl rfl ⟨Nat.le_of_ble_eq_true rfl, Nat.le_of_ble_eq_true rfl⟩ ⟨Nat.le_of_ble_eq_true rfl, Nat.le_of_ble_eq_true rfl⟩ (rest := []) rfl rfl (Nat.le_of_ble_eq_true rfl)) (fun v3 x_4 hw => ?_)
      refine g_if_eq (pc := 17) (tgt := 46) C d_X_minds_17 (by decide) (fun h13 => ?_) (fun h13 => ?_)
      · replace hw := hw.1 h13
        refine g_iconst (pc := 46) C (v := (-1)) d_X_minds_46 (by decide) ?_
        exact g_iret (pc := 47) C q d_X_minds_47 (hq _ _ hw)
      · replace hw := hw.2 h13
        refine g_iload (pc := 20) C d_X_minds_20 4 rfl ?_
        refine g_if_lt (pc := 22) (tgt := 46) C d_X_minds_22 (by decide) (fun h12 => ?_) (fun h12 => ?_)
        · replace hw := hw.1 h12
          refine g_iconst (pc := 46) C (v := (-1)) d_X_minds_46 (by decide) ?_
          exact g_iret (pc := 47) C q d_X_minds_47 (hq _ _ hw)
        · replace hw := hw.2 h12
          refine g_iload (pc := 25) C d_X_minds_25 4 rfl ?_
          refine g_bipush (pc := 27) C (v := 8) d_X_minds_27 (by decide) ?_
          refine g_icmp_gt (pc := 29) (tgt := 46) C d_X_minds_29 (by decide) (fun h11 => ?_) (fun h11 => ?_)
          · replace hw := hw.1 h11
            refine g_iconst (pc := 46) C (v := (-1)) d_X_minds_46 (by decide) ?_
            exact g_iret (pc := 47) C q d_X_minds_47 (hq _ _ hw)
          · replace hw := hw.2 h11
            refine g_iload (pc := 32) C d_X_minds_32 4 rfl ?_
            refine g_aload_n (pc := 34) C d_X_minds_34 0 rfl rfl ?_
            refine fX_now (pc := 35) C lk_X_10 d_X_minds_35 ?_
            refine fX_now_count (pc := 38) C lk_X_80 d_X_minds_38 (v := C_count (X_now x_4)) rfl ?_
            refine g_iload_n (pc := 41) C d_X_minds_41 3 rfl rfl ?_
            refine g_isub (pc := 42) C d_X_minds_42 ?_
            refine g_icmp_le (pc := 43) (tgt := 48) C d_X_minds_43 (by decide) (fun h10 => ?_) (fun h10 => ?_)
            · replace hw := hw.1 h10
              refine g_aload (pc := 48) C d_X_minds_48 5 rfl ?_
              refine fX_sheets2_sort (pc := 50) C lk_X_202 d_X_minds_50 (v := S_sort (X_sheets x_4 2)) rfl ?_
              refine g_iconst (pc := 53) C (v := (-1)) d_X_minds_53 (by decide) ?_
              refine g_icmp_ne (pc := 54) (tgt := 60) C d_X_minds_54 (by decide) (fun h9 => ?_) (fun h9 => ?_)
              · replace hw := hw.2 h9
                refine g_aload (pc := 60) C d_X_minds_60 5 rfl ?_
                refine fX_sheets2_sort (pc := 62) C lk_X_202 d_X_minds_62 (v := S_sort (X_sheets x_4 2)) rfl ?_
                refine g_if_eq (pc := 65) (tgt := 71) C d_X_minds_65 (by decide) (fun h8 => ?_) (fun h8 => ?_)
                · replace hw := hw.1 h8
                  refine g_iload_n (pc := 71) C d_X_minds_71 2 rfl rfl ?_
                  refine g_if_lt (pc := 72) (tgt := 96) C d_X_minds_72 (by decide) (fun h7 => ?_) (fun h7 => ?_)
                  · replace hw := hw.1 h7
                    refine g_bipush (pc := 96) C (v := (-12)) d_X_minds_96 (by decide) ?_
                    exact g_iret (pc := 98) C q d_X_minds_98 (hq _ _ hw)
                  · replace hw := hw.2 h7
                    refine g_iload_n (pc := 75) C d_X_minds_75 2 rfl rfl ?_
                    refine g_aload (pc := 76) C d_X_minds_76 5 rfl ?_
                    refine fX_sheets2_size (pc := 78) C lk_X_227 d_X_minds_78 (v := S_size (X_sheets x_4 2)) rfl ?_
                    refine g_icmp_gt (pc := 81) (tgt := 96) C d_X_minds_81 (by decide) (fun h6 => ?_) (fun h6 => ?_)
                    · replace hw := hw.1 h6
                      refine g_bipush (pc := 96) C (v := (-12)) d_X_minds_96 (by decide) ?_
                      exact g_iret (pc := 98) C q d_X_minds_98 (hq _ _ hw)
                    · replace hw := hw.2 h6
                      refine g_iload (pc := 84) C d_X_minds_84 4 rfl ?_
                      refine g_aload (pc := 86) C d_X_minds_86 5 rfl ?_
                      refine fX_sheets2_size (pc := 88) C lk_X_227 d_X_minds_88 (v := S_size (X_sheets x_4 2)) rfl ?_
                      refine g_iload_n (pc := 91) C d_X_minds_91 2 rfl rfl ?_
                      refine g_isub (pc := 92) C d_X_minds_92 ?_
                      refine g_icmp_le (pc := 93) (tgt := 99) C d_X_minds_93 (by decide) (fun h5 => ?_) (fun h5 => ?_)
                      · replace hw := hw.1 h5
                        refine g_iconst (pc := 99) C (v := 0) d_X_minds_99 (by decide) ?_
                        refine g_istore (pc := 100) C d_X_minds_100 (Nat.le_of_ble_eq_true rfl) (lv' := [(0, .ref (a 0)), (1, .int x1), (2, .int x2), (3, .int x3), (4, .int x4), (5, .ref (a 36)), (6, .int 0)]) rfl ?_
                        refine g_sub [0, 2, 3, 4, 5, 6] (lv' := [(0, .ref (a 0)), (2, .int x2), (3, .int x3), (4, .int x4), (5, .ref (a 36)), (6, .int 0)]) rfl ?_
                        exact j_X_minds_102 C q a post hq  2000 x_4 x2 x3 x4 2 0 hw
                      · replace hw := hw.2 h5
                        refine g_bipush (pc := 96) C (v := (-12)) d_X_minds_96 (by decide) ?_
                        exact g_iret (pc := 98) C q d_X_minds_98 (hq _ _ hw)
                · replace hw := hw.2 h8
                  refine g_bipush (pc := 68) C (v := (-13)) d_X_minds_68 (by decide) ?_
                  exact g_iret (pc := 70) C q d_X_minds_70 (hq _ _ hw)
              · replace hw := hw.1 h9
                refine g_bipush (pc := 57) C (v := (-11)) d_X_minds_57 (by decide) ?_
                exact g_iret (pc := 59) C q d_X_minds_59 (hq _ _ hw)
            · replace hw := hw.2 h10
              refine g_iconst (pc := 46) C (v := (-1)) d_X_minds_46 (by decide) ?_
              exact g_iret (pc := 47) C q d_X_minds_47 (hq _ _ hw)
    · have hw := hzh22
      refine g_re (lv' := [(0, .ref (a 0)), (1, .int x1), (2, .int x2), (3, .int x3), (4, .int x4)]) (st' := [.ref (a 38)]) rfl rfl ?_
      refine g_astore (pc := 5) C d_X_minds_5 (Nat.le_of_ble_eq_true rfl) (lv' := [(0, .ref (a 0)), (1, .int x1), (2, .int x2), (3, .int x3), (4, .int x4), (5, .ref (a 38))]) rfl ?_
      refine g_aload (pc := 7) C d_X_minds_7 5 rfl ?_
      refine g_ifnull (pc := 9) C d_X_minds_9 ?_
      refine g_aload_n (pc := 12) C d_X_minds_12 0 rfl rfl ?_
      refine g_iload_n (pc := 13) C d_X_minds_13 3 rfl rfl ?_
      refine k_Ia (pc := 14) (co_V C (c_X_isBarge (xl X) (xD X) (xt X) (xv X) a x_2 x3 _ hw) mw_X_isBarge lk_X_106 d_X_minds_14 (List.range _) (all_C _) (all_nd _) (rec_w C 0 5 rfl rfl) rfl rfl ⟨Nat.le_of_ble_eq_true rfl, Nat.le_of_ble_eq_true rfl⟩ ⟨Nat.le_of_ble_eq_true rfl, Nat.le_of_ble_eq_true rfl⟩ (rest := []) rfl rfl (Nat.le_of_ble_eq_true rfl)) (fun v3 x_4 hw => ?_)
      refine g_if_eq (pc := 17) (tgt := 46) C d_X_minds_17 (by decide) (fun h13 => ?_) (fun h13 => ?_)
      · replace hw := hw.1 h13
        refine g_iconst (pc := 46) C (v := (-1)) d_X_minds_46 (by decide) ?_
        exact g_iret (pc := 47) C q d_X_minds_47 (hq _ _ hw)
      · replace hw := hw.2 h13
        refine g_iload (pc := 20) C d_X_minds_20 4 rfl ?_
        refine g_if_lt (pc := 22) (tgt := 46) C d_X_minds_22 (by decide) (fun h12 => ?_) (fun h12 => ?_)
        · replace hw := hw.1 h12
          refine g_iconst (pc := 46) C (v := (-1)) d_X_minds_46 (by decide) ?_
          exact g_iret (pc := 47) C q d_X_minds_47 (hq _ _ hw)
        · replace hw := hw.2 h12
          refine g_iload (pc := 25) C d_X_minds_25 4 rfl ?_
          refine g_bipush (pc := 27) C (v := 8) d_X_minds_27 (by decide) ?_
          refine g_icmp_gt (pc := 29) (tgt := 46) C d_X_minds_29 (by decide) (fun h11 => ?_) (fun h11 => ?_)
          · replace hw := hw.1 h11
            refine g_iconst (pc := 46) C (v := (-1)) d_X_minds_46 (by decide) ?_
            exact g_iret (pc := 47) C q d_X_minds_47 (hq _ _ hw)
          · replace hw := hw.2 h11
            refine g_iload (pc := 32) C d_X_minds_32 4 rfl ?_
            refine g_aload_n (pc := 34) C d_X_minds_34 0 rfl rfl ?_
            refine fX_now (pc := 35) C lk_X_10 d_X_minds_35 ?_
            refine fX_now_count (pc := 38) C lk_X_80 d_X_minds_38 (v := C_count (X_now x_4)) rfl ?_
            refine g_iload_n (pc := 41) C d_X_minds_41 3 rfl rfl ?_
            refine g_isub (pc := 42) C d_X_minds_42 ?_
            refine g_icmp_le (pc := 43) (tgt := 48) C d_X_minds_43 (by decide) (fun h10 => ?_) (fun h10 => ?_)
            · replace hw := hw.1 h10
              refine g_aload (pc := 48) C d_X_minds_48 5 rfl ?_
              refine fX_sheets3_sort (pc := 50) C lk_X_202 d_X_minds_50 (v := S_sort (X_sheets x_4 3)) rfl ?_
              refine g_iconst (pc := 53) C (v := (-1)) d_X_minds_53 (by decide) ?_
              refine g_icmp_ne (pc := 54) (tgt := 60) C d_X_minds_54 (by decide) (fun h9 => ?_) (fun h9 => ?_)
              · replace hw := hw.2 h9
                refine g_aload (pc := 60) C d_X_minds_60 5 rfl ?_
                refine fX_sheets3_sort (pc := 62) C lk_X_202 d_X_minds_62 (v := S_sort (X_sheets x_4 3)) rfl ?_
                refine g_if_eq (pc := 65) (tgt := 71) C d_X_minds_65 (by decide) (fun h8 => ?_) (fun h8 => ?_)
                · replace hw := hw.1 h8
                  refine g_iload_n (pc := 71) C d_X_minds_71 2 rfl rfl ?_
                  refine g_if_lt (pc := 72) (tgt := 96) C d_X_minds_72 (by decide) (fun h7 => ?_) (fun h7 => ?_)
                  · replace hw := hw.1 h7
                    refine g_bipush (pc := 96) C (v := (-12)) d_X_minds_96 (by decide) ?_
                    exact g_iret (pc := 98) C q d_X_minds_98 (hq _ _ hw)
                  · replace hw := hw.2 h7
                    refine g_iload_n (pc := 75) C d_X_minds_75 2 rfl rfl ?_
                    refine g_aload (pc := 76) C d_X_minds_76 5 rfl ?_
                    refine fX_sheets3_size (pc := 78) C lk_X_227 d_X_minds_78 (v := S_size (X_sheets x_4 3)) rfl ?_
                    refine g_icmp_gt (pc := 81) (tgt := 96) C d_X_minds_81 (by decide) (fun h6 => ?_) (fun h6 => ?_)
                    · replace hw := hw.1 h6
                      refine g_bipush (pc := 96) C (v := (-12)) d_X_minds_96 (by decide) ?_
                      exact g_iret (pc := 98) C q d_X_minds_98 (hq _ _ hw)
                    · replace hw := hw.2 h6
                      refine g_iload (pc := 84) C d_X_minds_84 4 rfl ?_
                      refine g_aload (pc := 86) C d_X_minds_86 5 rfl ?_
                      refine fX_sheets3_size (pc := 88) C lk_X_227 d_X_minds_88 (v := S_size (X_sheets x_4 3)) rfl ?_
                      refine g_iload_n (pc := 91) C d_X_minds_91 2 rfl rfl ?_
                      refine g_isub (pc := 92) C d_X_minds_92 ?_
                      refine g_icmp_le (pc := 93) (tgt := 99) C d_X_minds_93 (by decide) (fun h5 => ?_) (fun h5 => ?_)
                      · replace hw := hw.1 h5
                        refine g_iconst (pc := 99) C (v := 0) d_X_minds_99 (by decide) ?_
                        refine g_istore (pc := 100) C d_X_minds_100 (Nat.le_of_ble_eq_true rfl) (lv' := [(0, .ref (a 0)), (1, .int x1), (2, .int x2), (3, .int x3), (4, .int x4), (5, .ref (a 38)), (6, .int 0)]) rfl ?_
                        refine g_sub [0, 2, 3, 4, 5, 6] (lv' := [(0, .ref (a 0)), (2, .int x2), (3, .int x3), (4, .int x4), (5, .ref (a 38)), (6, .int 0)]) rfl ?_
                        exact j_X_minds_102 C q a post hq  2000 x_4 x2 x3 x4 3 0 hw
                      · replace hw := hw.2 h5
                        refine g_bipush (pc := 96) C (v := (-12)) d_X_minds_96 (by decide) ?_
                        exact g_iret (pc := 98) C q d_X_minds_98 (hq _ _ hw)
                · replace hw := hw.2 h8
                  refine g_bipush (pc := 68) C (v := (-13)) d_X_minds_68 (by decide) ?_
                  exact g_iret (pc := 70) C q d_X_minds_70 (hq _ _ hw)
              · replace hw := hw.1 h9
                refine g_bipush (pc := 57) C (v := (-11)) d_X_minds_57 (by decide) ?_
                exact g_iret (pc := 59) C q d_X_minds_59 (hq _ _ hw)
            · replace hw := hw.2 h10
              refine g_iconst (pc := 46) C (v := (-1)) d_X_minds_46 (by decide) ?_
              exact g_iret (pc := 47) C q d_X_minds_47 (hq _ _ hw)
set_option maxRecDepth 20000 in
theorem c_X_minds (l : Launch) (D : va_G) (t : Nat → ClassId) (ev : Nat → Nat) (a : Nat → Nat) (x : XSt) (x1 : Int32) (x2 : Int32) (x3 : Int32) (x4 : Int32) (post : Int32 → XSt → Prop) (hw : wp_X_minds x x1 x2 x3 x4 post) : Con l D t ev y_X_minds b_X_minds 7 ((some .int)) 1 (woX t a x) [.ref (a 0), .int x1, .int x2, .int x3, .int x4] (qI (woX t a)  post) :=
  ConR.of (by decide +kernel) (Nat.le_of_ble_eq_true rfl) (fun X el eD et ee C q _ => by subst el; subst eD; subst et; subst ee; exact g_X_minds C q a x x1 x2 x3 x4 post (fun v c1 h => ⟨⟨v, c1, rfl, rfl, h⟩, rfl⟩) hw)
def wp_X_sheet (x : XSt) (x1 : Int32) (x2 : Int32) (x3 : Int32) (post : Int32 → XSt → Prop) : Prop :=
  wp_X_sheetAt x x1 (fun v1 x_2 => ((v1 = 4) → (post (-1) x_2)) ∧ ((¬ v1 = 4) → (v1 < 4 ∧ (((x2 < (-1)) → (post (-1) x_2)) ∧ ((¬ x2 < (-1)) → (((x2 ≤ 3) → (((x2 = (-1)) → (wp_S_clearTo (X_sheets x_2 v1) (-1) 0 (fun c_6 => post 1 (X_sheets_ x_2 (va_up (X_sheets x_2) v1 c_6))))) ∧ ((¬ x2 = (-1)) → (((x3 ≤ 40) → (((0 ≤ x3) → (wp_S_clearTo (X_sheets x_2 v1) x2 x3 (fun c_3 => post 1 (X_sheets_ x_2 (va_up (X_sheets x_2) v1 c_3))))) ∧ ((¬ 0 ≤ x3) → (post (-14) x_2)))) ∧ ((¬ x3 ≤ 40) → (post (-1) x_2)))))) ∧ ((¬ x2 ≤ 3) → (post (-1) x_2))))))))
set_option maxRecDepth 20000 in
theorem g_X_sheet {X : GX} (C : GC X b_X_sheet R_X 5 (rmd 2)) {Qp : Option Value → va_W → Prop} (q : RC X ((some .int)) Qp 0 0) (a : Nat → Nat) (x : XSt) (x1 : Int32) (x2 : Int32) (x3 : Int32) (post : Int32 → XSt → Prop) (hq : ∀ v c1, post v c1 → Qp (some (.int v)) (woX (xt X) a c1)) (hw : wp_X_sheet x x1 x2 x3 post) : G X 0 0 (woX (xt X) a x) [(0, .ref (a 0)), (1, .int x1), (2, .int x2), (3, .int x3)] [] 0 := by
  unfold wp_X_sheet at hw
  refine g_aload_n (pc := 0) C d_X_sheet_0 0 rfl rfl ?_
  refine g_iload_n (pc := 1) C d_X_sheet_1 1 rfl rfl ?_
  refine k_Ra (pc := 2) (co_V C (c_X_sheetAt (xl X) (xD X) (xt X) (xv X) a x x1 _ hw) mw_X_sheetAt lk_X_198 d_X_sheet_2 (List.range _) (all_C _) (all_nd _) (rec_w C 0 5 rfl rfl) rfl rfl ⟨Nat.le_of_ble_eq_true rfl, Nat.le_of_ble_eq_true rfl⟩ ⟨Nat.le_of_ble_eq_true rfl, Nat.le_of_ble_eq_true rfl⟩ (rest := []) rfl rfl (Nat.le_of_ble_eq_true rfl)) (fun v1 x_2 hw => ?_)
  by_cases h10 : v1 = 4
  · have hzh10 := hw.1 h10
    subst h10
    have hw := hzh10
    refine g_re (lv' := [(0, .ref (a 0)), (1, .int x1), (2, .int x2), (3, .int x3)]) (st' := [.null]) rfl rfl ?_
    refine g_astoreN (pc := 5) C d_X_sheet_5 (Nat.le_of_ble_eq_true rfl) (lv' := [(0, .ref (a 0)), (1, .int x1), (2, .int x2), (3, .int x3), (4, .null)]) rfl ?_
    refine g_aloadN (pc := 7) C d_X_sheet_7 4 rfl ?_
    refine g_ifnullN (pc := 9) (tgt := 22) C d_X_sheet_9 (by decide) ?_
    refine g_iconst (pc := 22) C (v := (-1)) d_X_sheet_22 (by decide) ?_
    exact g_iret (pc := 23) C q d_X_sheet_23 (hq _ _ hw)
  · obtain ⟨h10, hzh10⟩ := hw.2 h10
    rcases q4 h10 with rfl | rfl | rfl | rfl
    · have hw := hzh10
      refine g_re (lv' := [(0, .ref (a 0)), (1, .int x1), (2, .int x2), (3, .int x3)]) (st' := [.ref (a 32)]) rfl rfl ?_
      refine g_astore (pc := 5) C d_X_sheet_5 (Nat.le_of_ble_eq_true rfl) (lv' := [(0, .ref (a 0)), (1, .int x1), (2, .int x2), (3, .int x3), (4, .ref (a 32))]) rfl ?_
      refine g_aload (pc := 7) C d_X_sheet_7 4 rfl ?_
      refine g_ifnull (pc := 9) C d_X_sheet_9 ?_
      refine g_iload_n (pc := 12) C d_X_sheet_12 2 rfl rfl ?_
      refine g_iconst (pc := 13) C (v := (-1)) d_X_sheet_13 (by decide) ?_
      refine g_icmp_lt (pc := 14) (tgt := 22) C d_X_sheet_14 (by decide) (fun h9 => ?_) (fun h9 => ?_)
      · replace hw := hw.1 h9
        refine g_iconst (pc := 22) C (v := (-1)) d_X_sheet_22 (by decide) ?_
        exact g_iret (pc := 23) C q d_X_sheet_23 (hq _ _ hw)
      · replace hw := hw.2 h9
        refine g_iload_n (pc := 17) C d_X_sheet_17 2 rfl rfl ?_
        refine g_iconst (pc := 18) C (v := 3) d_X_sheet_18 (by decide) ?_
        refine g_icmp_le (pc := 19) (tgt := 24) C d_X_sheet_19 (by decide) (fun h8 => ?_) (fun h8 => ?_)
        · replace hw := hw.1 h8
          refine g_iload_n (pc := 24) C d_X_sheet_24 2 rfl rfl ?_
          refine g_iconst (pc := 25) C (v := (-1)) d_X_sheet_25 (by decide) ?_
          refine g_icmp_ne (pc := 26) (tgt := 38) C d_X_sheet_26 (by decide) (fun h7 => ?_) (fun h7 => ?_)
          · replace hw := hw.2 h7
            refine g_iload_n (pc := 38) C d_X_sheet_38 3 rfl rfl ?_
            refine g_bipush (pc := 39) C (v := 40) d_X_sheet_39 (by decide) ?_
            refine g_icmp_le (pc := 41) (tgt := 46) C d_X_sheet_41 (by decide) (fun h5 => ?_) (fun h5 => ?_)
            · replace hw := hw.1 h5
              refine g_iload_n (pc := 46) C d_X_sheet_46 3 rfl rfl ?_
              refine g_if_ge (pc := 47) (tgt := 53) C d_X_sheet_47 (by decide) (fun h4 => ?_) (fun h4 => ?_)
              · replace hw := hw.1 h4
                refine g_aload (pc := 53) C d_X_sheet_53 4 rfl ?_
                refine g_iload_n (pc := 55) C d_X_sheet_55 2 rfl rfl ?_
                refine g_iload_n (pc := 56) C d_X_sheet_56 3 rfl rfl ?_
                refine k_V (pc := 57) (co_V C (c_S_clearTo (xl X) (xD X) (xt X) (xv X) (fun i => a (32 + i)) (X_sheets x_2 0) x2 x3 _ hw) mw_S_clearTo lk_X_234 d_X_sheet_57 [32, 33] (cC_X_sheets0 (xt X) a a x_2) (by decide) (rec_w C 32 2 rfl rfl) rfl rfl ⟨Nat.le_of_ble_eq_true rfl, Nat.le_of_ble_eq_true rfl⟩ ⟨Nat.le_of_ble_eq_true rfl, Nat.le_of_ble_eq_true rfl⟩ (rest := []) rfl rfl (Nat.le_of_ble_eq_true rfl)) (fun c_3 => woX (xt X) a (X_sheets_ x_2 (va_up (X_sheets x_2) 0 c_3))) (cS_X_sheets0 (xt X) a a x_2) (fun c_3 hw => ?_)
                refine g_iconst (pc := 60) C (v := 1) d_X_sheet_60 (by decide) ?_
                exact g_iret (pc := 61) C q d_X_sheet_61 (hq _ _ hw)
              · replace hw := hw.2 h4
                refine g_bipush (pc := 50) C (v := (-14)) d_X_sheet_50 (by decide) ?_
                exact g_iret (pc := 52) C q d_X_sheet_52 (hq _ _ hw)
            · replace hw := hw.2 h5
              refine g_iconst (pc := 44) C (v := (-1)) d_X_sheet_44 (by decide) ?_
              exact g_iret (pc := 45) C q d_X_sheet_45 (hq _ _ hw)
          · replace hw := hw.1 h7
            refine g_aload (pc := 29) C d_X_sheet_29 4 rfl ?_
            refine g_iconst (pc := 31) C (v := (-1)) d_X_sheet_31 (by decide) ?_
            refine g_iconst (pc := 32) C (v := 0) d_X_sheet_32 (by decide) ?_
            refine k_V (pc := 33) (co_V C (c_S_clearTo (xl X) (xD X) (xt X) (xv X) (fun i => a (32 + i)) (X_sheets x_2 0) (-1) 0 _ hw) mw_S_clearTo lk_X_234 d_X_sheet_33 [32, 33] (cC_X_sheets0 (xt X) a a x_2) (by decide) (rec_w C 32 2 rfl rfl) rfl rfl ⟨Nat.le_of_ble_eq_true rfl, Nat.le_of_ble_eq_true rfl⟩ ⟨Nat.le_of_ble_eq_true rfl, Nat.le_of_ble_eq_true rfl⟩ (rest := []) rfl rfl (Nat.le_of_ble_eq_true rfl)) (fun c_6 => woX (xt X) a (X_sheets_ x_2 (va_up (X_sheets x_2) 0 c_6))) (cS_X_sheets0 (xt X) a a x_2) (fun c_6 hw => ?_)
            refine g_iconst (pc := 36) C (v := 1) d_X_sheet_36 (by decide) ?_
            exact g_iret (pc := 37) C q d_X_sheet_37 (hq _ _ hw)
        · replace hw := hw.2 h8
          refine g_iconst (pc := 22) C (v := (-1)) d_X_sheet_22 (by decide) ?_
          exact g_iret (pc := 23) C q d_X_sheet_23 (hq _ _ hw)
    · have hw := hzh10
      refine g_re (lv' := [(0, .ref (a 0)), (1, .int x1), (2, .int x2), (3, .int x3)]) (st' := [.ref (a 34)]) rfl rfl ?_
      refine g_astore (pc := 5) C d_X_sheet_5 (Nat.le_of_ble_eq_true rfl) (lv' := [(0, .ref (a 0)), (1, .int x1), (2, .int x2), (3, .int x3), (4, .ref (a 34))]) rfl ?_
      refine g_aload (pc := 7) C d_X_sheet_7 4 rfl ?_
      refine g_ifnull (pc := 9) C d_X_sheet_9 ?_
      refine g_iload_n (pc := 12) C d_X_sheet_12 2 rfl rfl ?_
      refine g_iconst (pc := 13) C (v := (-1)) d_X_sheet_13 (by decide) ?_
      refine g_icmp_lt (pc := 14) (tgt := 22) C d_X_sheet_14 (by decide) (fun h9 => ?_) (fun h9 => ?_)
      · replace hw := hw.1 h9
        refine g_iconst (pc := 22) C (v := (-1)) d_X_sheet_22 (by decide) ?_
        exact g_iret (pc := 23) C q d_X_sheet_23 (hq _ _ hw)
      · replace hw := hw.2 h9
        refine g_iload_n (pc := 17) C d_X_sheet_17 2 rfl rfl ?_
        refine g_iconst (pc := 18) C (v := 3) d_X_sheet_18 (by decide) ?_
        refine g_icmp_le (pc := 19) (tgt := 24) C d_X_sheet_19 (by decide) (fun h8 => ?_) (fun h8 => ?_)
        · replace hw := hw.1 h8
          refine g_iload_n (pc := 24) C d_X_sheet_24 2 rfl rfl ?_
          refine g_iconst (pc := 25) C (v := (-1)) d_X_sheet_25 (by decide) ?_
          refine g_icmp_ne (pc := 26) (tgt := 38) C d_X_sheet_26 (by decide) (fun h7 => ?_) (fun h7 => ?_)
          · replace hw := hw.2 h7
            refine g_iload_n (pc := 38) C d_X_sheet_38 3 rfl rfl ?_
            refine g_bipush (pc := 39) C (v := 40) d_X_sheet_39 (by decide) ?_
            refine g_icmp_le (pc := 41) (tgt := 46) C d_X_sheet_41 (by decide) (fun h5 => ?_) (fun h5 => ?_)
            · replace hw := hw.1 h5
              refine g_iload_n (pc := 46) C d_X_sheet_46 3 rfl rfl ?_
              refine g_if_ge (pc := 47) (tgt := 53) C d_X_sheet_47 (by decide) (fun h4 => ?_) (fun h4 => ?_)
              · replace hw := hw.1 h4
                refine g_aload (pc := 53) C d_X_sheet_53 4 rfl ?_
                refine g_iload_n (pc := 55) C d_X_sheet_55 2 rfl rfl ?_
                refine g_iload_n (pc := 56) C d_X_sheet_56 3 rfl rfl ?_
                refine k_V (pc := 57) (co_V C (c_S_clearTo (xl X) (xD X) (xt X) (xv X) (fun i => a (34 + i)) (X_sheets x_2 1) x2 x3 _ hw) mw_S_clearTo lk_X_234 d_X_sheet_57 [34, 35] (cC_X_sheets1 (xt X) a a x_2) (by decide) (rec_w C 34 2 rfl rfl) rfl rfl ⟨Nat.le_of_ble_eq_true rfl, Nat.le_of_ble_eq_true rfl⟩ ⟨Nat.le_of_ble_eq_true rfl, Nat.le_of_ble_eq_true rfl⟩ (rest := []) rfl rfl (Nat.le_of_ble_eq_true rfl)) (fun c_3 => woX (xt X) a (X_sheets_ x_2 (va_up (X_sheets x_2) 1 c_3))) (cS_X_sheets1 (xt X) a a x_2) (fun c_3 hw => ?_)
                refine g_iconst (pc := 60) C (v := 1) d_X_sheet_60 (by decide) ?_
                exact g_iret (pc := 61) C q d_X_sheet_61 (hq _ _ hw)
              · replace hw := hw.2 h4
                refine g_bipush (pc := 50) C (v := (-14)) d_X_sheet_50 (by decide) ?_
                exact g_iret (pc := 52) C q d_X_sheet_52 (hq _ _ hw)
            · replace hw := hw.2 h5
              refine g_iconst (pc := 44) C (v := (-1)) d_X_sheet_44 (by decide) ?_
              exact g_iret (pc := 45) C q d_X_sheet_45 (hq _ _ hw)
          · replace hw := hw.1 h7
            refine g_aload (pc := 29) C d_X_sheet_29 4 rfl ?_
            refine g_iconst (pc := 31) C (v := (-1)) d_X_sheet_31 (by decide) ?_
            refine g_iconst (pc := 32) C (v := 0) d_X_sheet_32 (by decide) ?_
            refine k_V (pc := 33) (co_V C (c_S_clearTo (xl X) (xD X) (xt X) (xv X) (fun i => a (34 + i)) (X_sheets x_2 1) (-1) 0 _ hw) mw_S_clearTo lk_X_234 d_X_sheet_33 [34, 35] (cC_X_sheets1 (xt X) a a x_2) (by decide) (rec_w C 34 2 rfl rfl) rfl rfl ⟨Nat.le_of_ble_eq_true rfl, Nat.le_of_ble_eq_true rfl⟩ ⟨Nat.le_of_ble_eq_true rfl, Nat.le_of_ble_eq_true rfl⟩ (rest := []) rfl rfl (Nat.le_of_ble_eq_true rfl)) (fun c_6 => woX (xt X) a (X_sheets_ x_2 (va_up (X_sheets x_2) 1 c_6))) (cS_X_sheets1 (xt X) a a x_2) (fun c_6 hw => ?_)
            refine g_iconst (pc := 36) C (v := 1) d_X_sheet_36 (by decide) ?_
            exact g_iret (pc := 37) C q d_X_sheet_37 (hq _ _ hw)
        · replace hw := hw.2 h8
          refine g_iconst (pc := 22) C (v := (-1)) d_X_sheet_22 (by decide) ?_
          exact g_iret (pc := 23) C q d_X_sheet_23 (hq _ _ hw)
    · have hw := hzh10
      refine g_re (lv' := [(0, .ref (a 0)), (1, .int x1), (2, .int x2), (3, .int x3)]) (st' := [.ref (a 36)]) rfl rfl ?_
      refine g_astore (pc := 5) C d_X_sheet_5 (Nat.le_of_ble_eq_true rfl) (lv' := [(0, .ref (a 0)), (1, .int x1), (2, .int x2), (3, .int x3), (4, .ref (a 36))]) rfl ?_
      refine g_aload (pc := 7) C d_X_sheet_7 4 rfl ?_
      refine g_ifnull (pc := 9) C d_X_sheet_9 ?_
      refine g_iload_n (pc := 12) C d_X_sheet_12 2 rfl rfl ?_
      refine g_iconst (pc := 13) C (v := (-1)) d_X_sheet_13 (by decide) ?_
      refine g_icmp_lt (pc := 14) (tgt := 22) C d_X_sheet_14 (by decide) (fun h9 => ?_) (fun h9 => ?_)
      · replace hw := hw.1 h9
        refine g_iconst (pc := 22) C (v := (-1)) d_X_sheet_22 (by decide) ?_
        exact g_iret (pc := 23) C q d_X_sheet_23 (hq _ _ hw)
      · replace hw := hw.2 h9
        refine g_iload_n (pc := 17) C d_X_sheet_17 2 rfl rfl ?_
        refine g_iconst (pc := 18) C (v := 3) d_X_sheet_18 (by decide) ?_
        refine g_icmp_le (pc := 19) (tgt := 24) C d_X_sheet_19 (by decide) (fun h8 => ?_) (fun h8 => ?_)
        · replace hw := hw.1 h8
          refine g_iload_n (pc := 24) C d_X_sheet_24 2 rfl rfl ?_
          refine g_iconst (pc := 25) C (v := (-1)) d_X_sheet_25 (by decide) ?_
          refine g_icmp_ne (pc := 26) (tgt := 38) C d_X_sheet_26 (by decide) (fun h7 => ?_) (fun h7 => ?_)
          · replace hw := hw.2 h7
            refine g_iload_n (pc := 38) C d_X_sheet_38 3 rfl rfl ?_
            refine g_bipush (pc := 39) C (v := 40) d_X_sheet_39 (by decide) ?_
            refine g_icmp_le (pc := 41) (tgt := 46) C d_X_sheet_41 (by decide) (fun h5 => ?_) (fun h5 => ?_)
            · replace hw := hw.1 h5
              refine g_iload_n (pc := 46) C d_X_sheet_46 3 rfl rfl ?_
              refine g_if_ge (pc := 47) (tgt := 53) C d_X_sheet_47 (by decide) (fun h4 => ?_) (fun h4 => ?_)
              · replace hw := hw.1 h4
                refine g_aload (pc := 53) C d_X_sheet_53 4 rfl ?_
                refine g_iload_n (pc := 55) C d_X_sheet_55 2 rfl rfl ?_
                refine g_iload_n (pc := 56) C d_X_sheet_56 3 rfl rfl ?_
                refine k_V (pc := 57) (co_V C (c_S_clearTo (xl X) (xD X) (xt X) (xv X) (fun i => a (36 + i)) (X_sheets x_2 2) x2 x3 _ hw) mw_S_clearTo lk_X_234 d_X_sheet_57 [36, 37] (cC_X_sheets2 (xt X) a a x_2) (by decide) (rec_w C 36 2 rfl rfl) rfl rfl ⟨Nat.le_of_ble_eq_true rfl, Nat.le_of_ble_eq_true rfl⟩ ⟨Nat.le_of_ble_eq_true rfl, Nat.le_of_ble_eq_true rfl⟩ (rest := []) rfl rfl (Nat.le_of_ble_eq_true rfl)) (fun c_3 => woX (xt X) a (X_sheets_ x_2 (va_up (X_sheets x_2) 2 c_3))) (cS_X_sheets2 (xt X) a a x_2) (fun c_3 hw => ?_)
                refine g_iconst (pc := 60) C (v := 1) d_X_sheet_60 (by decide) ?_
                exact g_iret (pc := 61) C q d_X_sheet_61 (hq _ _ hw)
              · replace hw := hw.2 h4
                refine g_bipush (pc := 50) C (v := (-14)) d_X_sheet_50 (by decide) ?_
                exact g_iret (pc := 52) C q d_X_sheet_52 (hq _ _ hw)
            · replace hw := hw.2 h5
              refine g_iconst (pc := 44) C (v := (-1)) d_X_sheet_44 (by decide) ?_
              exact g_iret (pc := 45) C q d_X_sheet_45 (hq _ _ hw)
          · replace hw := hw.1 h7
            refine g_aload (pc := 29) C d_X_sheet_29 4 rfl ?_
            refine g_iconst (pc := 31) C (v := (-1)) d_X_sheet_31 (by decide) ?_
            refine g_iconst (pc := 32) C (v := 0) d_X_sheet_32 (by decide) ?_
            refine k_V (pc := 33) (co_V C (c_S_clearTo (xl X) (xD X) (xt X) (xv X) (fun i => a (36 + i)) (X_sheets x_2 2) (-1) 0 _ hw) mw_S_clearTo lk_X_234 d_X_sheet_33 [36, 37] (cC_X_sheets2 (xt X) a a x_2) (by decide) (rec_w C 36 2 rfl rfl) rfl rfl ⟨Nat.le_of_ble_eq_true rfl, Nat.le_of_ble_eq_true rfl⟩ ⟨Nat.le_of_ble_eq_true rfl, Nat.le_of_ble_eq_true rfl⟩ (rest := []) rfl rfl (Nat.le_of_ble_eq_true rfl)) (fun c_6 => woX (xt X) a (X_sheets_ x_2 (va_up (X_sheets x_2) 2 c_6))) (cS_X_sheets2 (xt X) a a x_2) (fun c_6 hw => ?_)
            refine g_iconst (pc := 36) C (v := 1) d_X_sheet_36 (by decide) ?_
            exact g_iret (pc := 37) C q d_X_sheet_37 (hq _ _ hw)
        · replace hw := hw.2 h8
          refine g_iconst (pc := 22) C (v := (-1)) d_X_sheet_22 (by decide) ?_
          exact g_iret (pc := 23) C q d_X_sheet_23 (hq _ _ hw)
    · have hw := hzh10
      refine g_re (lv' := [(0, .ref (a 0)), (1, .int x1), (2, .int x2), (3, .int x3)]) (st' := [.ref (a 38)]) rfl rfl ?_
      refine g_astore (pc := 5) C d_X_sheet_5 (Nat.le_of_ble_eq_true rfl) (lv' := [(0, .ref (a 0)), (1, .int x1), (2, .int x2), (3, .int x3), (4, .ref (a 38))]) rfl ?_
      refine g_aload (pc := 7) C d_X_sheet_7 4 rfl ?_
      refine g_ifnull (pc := 9) C d_X_sheet_9 ?_
      refine g_iload_n (pc := 12) C d_X_sheet_12 2 rfl rfl ?_
      refine g_iconst (pc := 13) C (v := (-1)) d_X_sheet_13 (by decide) ?_
      refine g_icmp_lt (pc := 14) (tgt := 22) C d_X_sheet_14 (by decide) (fun h9 => ?_) (fun h9 => ?_)
      · replace hw := hw.1 h9
        refine g_iconst (pc := 22) C (v := (-1)) d_X_sheet_22 (by decide) ?_
        exact g_iret (pc := 23) C q d_X_sheet_23 (hq _ _ hw)
      · replace hw := hw.2 h9
        refine g_iload_n (pc := 17) C d_X_sheet_17 2 rfl rfl ?_
        refine g_iconst (pc := 18) C (v := 3) d_X_sheet_18 (by decide) ?_
        refine g_icmp_le (pc := 19) (tgt := 24) C d_X_sheet_19 (by decide) (fun h8 => ?_) (fun h8 => ?_)
        · replace hw := hw.1 h8
          refine g_iload_n (pc := 24) C d_X_sheet_24 2 rfl rfl ?_
          refine g_iconst (pc := 25) C (v := (-1)) d_X_sheet_25 (by decide) ?_
          refine g_icmp_ne (pc := 26) (tgt := 38) C d_X_sheet_26 (by decide) (fun h7 => ?_) (fun h7 => ?_)
          · replace hw := hw.2 h7
            refine g_iload_n (pc := 38) C d_X_sheet_38 3 rfl rfl ?_
            refine g_bipush (pc := 39) C (v := 40) d_X_sheet_39 (by decide) ?_
            refine g_icmp_le (pc := 41) (tgt := 46) C d_X_sheet_41 (by decide) (fun h5 => ?_) (fun h5 => ?_)
            · replace hw := hw.1 h5
              refine g_iload_n (pc := 46) C d_X_sheet_46 3 rfl rfl ?_
              refine g_if_ge (pc := 47) (tgt := 53) C d_X_sheet_47 (by decide) (fun h4 => ?_) (fun h4 => ?_)
              · replace hw := hw.1 h4
                refine g_aload (pc := 53) C d_X_sheet_53 4 rfl ?_
                refine g_iload_n (pc := 55) C d_X_sheet_55 2 rfl rfl ?_
                refine g_iload_n (pc := 56) C d_X_sheet_56 3 rfl rfl ?_
                refine k_V (pc := 57) (co_V C (c_S_clearTo (xl X) (xD X) (xt X) (xv X) (fun i => a (38 + i)) (X_sheets x_2 3) x2 x3 _ hw) mw_S_clearTo lk_X_234 d_X_sheet_57 [38, 39] (cC_X_sheets3 (xt X) a a x_2) (by decide) (rec_w C 38 2 rfl rfl) rfl rfl ⟨Nat.le_of_ble_eq_true rfl, Nat.le_of_ble_eq_true rfl⟩ ⟨Nat.le_of_ble_eq_true rfl, Nat.le_of_ble_eq_true rfl⟩ (rest := []) rfl rfl (Nat.le_of_ble_eq_true rfl)) (fun c_3 => woX (xt X) a (X_sheets_ x_2 (va_up (X_sheets x_2) 3 c_3))) (cS_X_sheets3 (xt X) a a x_2) (fun c_3 hw => ?_)
                refine g_iconst (pc := 60) C (v := 1) d_X_sheet_60 (by decide) ?_
                exact g_iret (pc := 61) C q d_X_sheet_61 (hq _ _ hw)
              · replace hw := hw.2 h4
                refine g_bipush (pc := 50) C (v := (-14)) d_X_sheet_50 (by decide) ?_
                exact g_iret (pc := 52) C q d_X_sheet_52 (hq _ _ hw)
            · replace hw := hw.2 h5
              refine g_iconst (pc := 44) C (v := (-1)) d_X_sheet_44 (by decide) ?_
              exact g_iret (pc := 45) C q d_X_sheet_45 (hq _ _ hw)
          · replace hw := hw.1 h7
            refine g_aload (pc := 29) C d_X_sheet_29 4 rfl ?_
            refine g_iconst (pc := 31) C (v := (-1)) d_X_sheet_31 (by decide) ?_
            refine g_iconst (pc := 32) C (v := 0) d_X_sheet_32 (by decide) ?_
            refine k_V (pc := 33) (co_V C (c_S_clearTo (xl X) (xD X) (xt X) (xv X) (fun i => a (38 + i)) (X_sheets x_2 3) (-1) 0 _ hw) mw_S_clearTo lk_X_234 d_X_sheet_33 [38, 39] (cC_X_sheets3 (xt X) a a x_2) (by decide) (rec_w C 38 2 rfl rfl) rfl rfl ⟨Nat.le_of_ble_eq_true rfl, Nat.le_of_ble_eq_true rfl⟩ ⟨Nat.le_of_ble_eq_true rfl, Nat.le_of_ble_eq_true rfl⟩ (rest := []) rfl rfl (Nat.le_of_ble_eq_true rfl)) (fun c_6 => woX (xt X) a (X_sheets_ x_2 (va_up (X_sheets x_2) 3 c_6))) (cS_X_sheets3 (xt X) a a x_2) (fun c_6 hw => ?_)
            refine g_iconst (pc := 36) C (v := 1) d_X_sheet_36 (by decide) ?_
            exact g_iret (pc := 37) C q d_X_sheet_37 (hq _ _ hw)
        · replace hw := hw.2 h8
          refine g_iconst (pc := 22) C (v := (-1)) d_X_sheet_22 (by decide) ?_
          exact g_iret (pc := 23) C q d_X_sheet_23 (hq _ _ hw)
set_option maxRecDepth 20000 in
theorem c_X_sheet (l : Launch) (D : va_G) (t : Nat → ClassId) (ev : Nat → Nat) (a : Nat → Nat) (x : XSt) (x1 : Int32) (x2 : Int32) (x3 : Int32) (post : Int32 → XSt → Prop) (hw : wp_X_sheet x x1 x2 x3 post) : Con l D t ev y_X_sheet b_X_sheet 5 ((some .int)) 2 (woX t a x) [.ref (a 0), .int x1, .int x2, .int x3] (qI (woX t a)  post) :=
  ConR.of (by decide +kernel) (Nat.le_of_ble_eq_true rfl) (fun X el eD et ee C q _ => by subst el; subst eD; subst et; subst ee; exact g_X_sheet C q a x x1 x2 x3 post (fun v c1 h => ⟨⟨v, c1, rfl, rfl, h⟩, rfl⟩) hw)
def wp_X_put (x : XSt) (x1 : Int32) (x2 : Int32) (x3 : Int32) (post : Int32 → XSt → Prop) : Prop :=
  wp_X_sheetAt x x1 (fun v1 x_2 => ((v1 = 4) → (post (-1) x_2)) ∧ ((¬ v1 = 4) → (v1 < 4 ∧ ((((S_sort (X_sheets x_2 v1)) = (-1)) → (post (-11) x_2)) ∧ ((¬ (S_sort (X_sheets x_2 v1)) = (-1)) → (wp_S_hasItem (X_sheets x_2 v1) x2 (fun v3 c_4 => ((v3 = 0) → (post (-12) (X_sheets_ x_2 (va_up (X_sheets x_2) v1 c_4)))) ∧ ((¬ v3 = 0) → (wp_S_narrowed c_4 x3 (fun v5 c_6 => vp_in x2 40 ∧ (post 1 (X_sheets_ (X_sheets_ (X_sheets_ x_2 (va_up (X_sheets x_2) v1 c_4)) (va_up (X_sheets (X_sheets_ x_2 (va_up (X_sheets x_2) v1 c_4))) v1 c_6)) (va_up (X_sheets (X_sheets_ (X_sheets_ x_2 (va_up (X_sheets x_2) v1 c_4)) (va_up (X_sheets (X_sheets_ x_2 (va_up (X_sheets x_2) v1 c_4))) v1 c_6))) v1 (S_items_ c_6 (upd (S_items c_6) x2.toNatClampNeg v5)))))))))))))))
set_option maxRecDepth 20000 in
theorem g_X_put {X : GX} (C : GC X b_X_put R_X 5 (rmd 1)) {Qp : Option Value → va_W → Prop} (q : RC X ((some .int)) Qp 0 0) (a : Nat → Nat) (x : XSt) (x1 : Int32) (x2 : Int32) (x3 : Int32) (post : Int32 → XSt → Prop) (hq : ∀ v c1, post v c1 → Qp (some (.int v)) (woX (xt X) a c1)) (hw : wp_X_put x x1 x2 x3 post) : G X 0 0 (woX (xt X) a x) [(0, .ref (a 0)), (1, .int x1), (2, .int x2), (3, .int x3)] [] 0 := by
  unfold wp_X_put at hw
  refine g_aload_n (pc := 0) C d_X_put_0 0 rfl rfl ?_
  refine g_iload_n (pc := 1) C d_X_put_1 1 rfl rfl ?_
  refine k_Ra (pc := 2) (co_V C (c_X_sheetAt (xl X) (xD X) (xt X) (xv X) a x x1 _ hw) mw_X_sheetAt lk_X_198 d_X_put_2 (List.range _) (all_C _) (all_nd _) (rec_w C 0 5 rfl rfl) rfl rfl ⟨Nat.le_of_ble_eq_true rfl, Nat.le_of_ble_eq_true rfl⟩ ⟨Nat.le_of_ble_eq_true rfl, Nat.le_of_ble_eq_true rfl⟩ (rest := []) rfl rfl (Nat.le_of_ble_eq_true rfl)) (fun v1 x_2 hw => ?_)
  by_cases h10 : v1 = 4
  · have hzh10 := hw.1 h10
    subst h10
    have hw := hzh10
    refine g_re (lv' := [(0, .ref (a 0)), (1, .int x1), (2, .int x2), (3, .int x3)]) (st' := [.null]) rfl rfl ?_
    refine g_astoreN (pc := 5) C d_X_put_5 (Nat.le_of_ble_eq_true rfl) (lv' := [(0, .ref (a 0)), (1, .int x1), (2, .int x2), (3, .int x3), (4, .null)]) rfl ?_
    refine g_aloadN (pc := 7) C d_X_put_7 4 rfl ?_
    refine g_ifnonnullN (pc := 9) C d_X_put_9 ?_
    refine g_iconst (pc := 12) C (v := (-1)) d_X_put_12 (by decide) ?_
    exact g_iret (pc := 13) C q d_X_put_13 (hq _ _ hw)
  · obtain ⟨h10, hzh10⟩ := hw.2 h10
    rcases q4 h10 with rfl | rfl | rfl | rfl
    · have hw := hzh10
      refine g_re (lv' := [(0, .ref (a 0)), (1, .int x1), (2, .int x2), (3, .int x3)]) (st' := [.ref (a 32)]) rfl rfl ?_
      refine g_astore (pc := 5) C d_X_put_5 (Nat.le_of_ble_eq_true rfl) (lv' := [(0, .ref (a 0)), (1, .int x1), (2, .int x2), (3, .int x3), (4, .ref (a 32))]) rfl ?_
      refine g_aload (pc := 7) C d_X_put_7 4 rfl ?_
      refine g_ifnonnull (pc := 9) (tgt := 14) C d_X_put_9 (by decide) ?_
      refine g_aload (pc := 14) C d_X_put_14 4 rfl ?_
      refine fX_sheets0_sort (pc := 16) C lk_X_202 d_X_put_16 (v := S_sort (X_sheets x_2 0)) rfl ?_
      refine g_iconst (pc := 19) C (v := (-1)) d_X_put_19 (by decide) ?_
      refine g_icmp_ne (pc := 20) (tgt := 26) C d_X_put_20 (by decide) (fun h9 => ?_) (fun h9 => ?_)
      · replace hw := hw.2 h9
        refine g_aload (pc := 26) C d_X_put_26 4 rfl ?_
        refine g_iload_n (pc := 28) C d_X_put_28 2 rfl rfl ?_
        refine k_I (pc := 29) (co_V C (c_S_hasItem (xl X) (xD X) (xt X) (xv X) (fun i => a (32 + i)) (X_sheets x_2 0) x2 _ hw) mw_S_hasItem lk_X_238 d_X_put_29 [32, 33] (cC_X_sheets0 (xt X) a a x_2) (by decide) (rec_w C 32 2 rfl rfl) rfl rfl ⟨Nat.le_of_ble_eq_true rfl, Nat.le_of_ble_eq_true rfl⟩ ⟨Nat.le_of_ble_eq_true rfl, Nat.le_of_ble_eq_true rfl⟩ (rest := []) rfl rfl (Nat.le_of_ble_eq_true rfl)) (fun c_4 => woX (xt X) a (X_sheets_ x_2 (va_up (X_sheets x_2) 0 c_4))) (cS_X_sheets0 (xt X) a a x_2) (fun v3 c_4 hw => ?_)
        refine g_if_ne (pc := 32) (tgt := 38) C d_X_put_32 (by decide) (fun h8 => ?_) (fun h8 => ?_)
        · replace hw := hw.2 h8
          refine g_aload (pc := 38) C d_X_put_38 4 rfl ?_
          refine fX_sheets0_items (pc := 40) C lk_X_228 d_X_put_40 ?_
          refine g_iload_n (pc := 43) C d_X_put_43 2 rfl rfl ?_
          refine g_aload (pc := 44) C d_X_put_44 4 rfl ?_
          refine g_iload_n (pc := 46) C d_X_put_46 3 rfl rfl ?_
          refine k_I (pc := 47) (co_V C (c_S_narrowed (xl X) (xD X) (xt X) (xv X) (fun i => a (32 + i)) c_4 x3 _ hw) mw_S_narrowed lk_X_241 d_X_put_47 [32, 33] (cC_X_sheets0 (xt X) a a (X_sheets_ x_2 (va_up (X_sheets x_2) 0 c_4))) (by decide) (rec_w C 32 2 rfl rfl) rfl rfl ⟨Nat.le_of_ble_eq_true rfl, Nat.le_of_ble_eq_true rfl⟩ ⟨Nat.le_of_ble_eq_true rfl, Nat.le_of_ble_eq_true rfl⟩ (rest := [.int x2, .ref (a 33)]) rfl rfl (Nat.le_of_ble_eq_true rfl)) (fun c_6 => woX (xt X) a (X_sheets_ (X_sheets_ x_2 (va_up (X_sheets x_2) 0 c_4)) (va_up (X_sheets (X_sheets_ x_2 (va_up (X_sheets x_2) 0 c_4))) 0 c_6))) (cS_X_sheets0 (xt X) a a (X_sheets_ x_2 (va_up (X_sheets x_2) 0 c_4))) (fun v5 c_6 hw => ?_)
          obtain ⟨h7, hw⟩ := hw
          refine sX_sheets0_items (pc := 50) C (c := c_6) rfl d_X_put_50 (f := S_items c_6) rfl (N0 := x2.toNatClampNeg) rfl h7 ?_
          refine g_iconst (pc := 51) C (v := 1) d_X_put_51 (by decide) ?_
          exact g_iret (pc := 52) C q d_X_put_52 (hq _ _ hw)
        · replace hw := hw.1 h8
          refine g_bipush (pc := 35) C (v := (-12)) d_X_put_35 (by decide) ?_
          exact g_iret (pc := 37) C q d_X_put_37 (hq _ _ hw)
      · replace hw := hw.1 h9
        refine g_bipush (pc := 23) C (v := (-11)) d_X_put_23 (by decide) ?_
        exact g_iret (pc := 25) C q d_X_put_25 (hq _ _ hw)
    · have hw := hzh10
      refine g_re (lv' := [(0, .ref (a 0)), (1, .int x1), (2, .int x2), (3, .int x3)]) (st' := [.ref (a 34)]) rfl rfl ?_
      refine g_astore (pc := 5) C d_X_put_5 (Nat.le_of_ble_eq_true rfl) (lv' := [(0, .ref (a 0)), (1, .int x1), (2, .int x2), (3, .int x3), (4, .ref (a 34))]) rfl ?_
      refine g_aload (pc := 7) C d_X_put_7 4 rfl ?_
      refine g_ifnonnull (pc := 9) (tgt := 14) C d_X_put_9 (by decide) ?_
      refine g_aload (pc := 14) C d_X_put_14 4 rfl ?_
      refine fX_sheets1_sort (pc := 16) C lk_X_202 d_X_put_16 (v := S_sort (X_sheets x_2 1)) rfl ?_
      refine g_iconst (pc := 19) C (v := (-1)) d_X_put_19 (by decide) ?_
      refine g_icmp_ne (pc := 20) (tgt := 26) C d_X_put_20 (by decide) (fun h9 => ?_) (fun h9 => ?_)
      · replace hw := hw.2 h9
        refine g_aload (pc := 26) C d_X_put_26 4 rfl ?_
        refine g_iload_n (pc := 28) C d_X_put_28 2 rfl rfl ?_
        refine k_I (pc := 29) (co_V C (c_S_hasItem (xl X) (xD X) (xt X) (xv X) (fun i => a (34 + i)) (X_sheets x_2 1) x2 _ hw) mw_S_hasItem lk_X_238 d_X_put_29 [34, 35] (cC_X_sheets1 (xt X) a a x_2) (by decide) (rec_w C 34 2 rfl rfl) rfl rfl ⟨Nat.le_of_ble_eq_true rfl, Nat.le_of_ble_eq_true rfl⟩ ⟨Nat.le_of_ble_eq_true rfl, Nat.le_of_ble_eq_true rfl⟩ (rest := []) rfl rfl (Nat.le_of_ble_eq_true rfl)) (fun c_4 => woX (xt X) a (X_sheets_ x_2 (va_up (X_sheets x_2) 1 c_4))) (cS_X_sheets1 (xt X) a a x_2) (fun v3 c_4 hw => ?_)
        refine g_if_ne (pc := 32) (tgt := 38) C d_X_put_32 (by decide) (fun h8 => ?_) (fun h8 => ?_)
        · replace hw := hw.2 h8
          refine g_aload (pc := 38) C d_X_put_38 4 rfl ?_
          refine fX_sheets1_items (pc := 40) C lk_X_228 d_X_put_40 ?_
          refine g_iload_n (pc := 43) C d_X_put_43 2 rfl rfl ?_
          refine g_aload (pc := 44) C d_X_put_44 4 rfl ?_
          refine g_iload_n (pc := 46) C d_X_put_46 3 rfl rfl ?_
          refine k_I (pc := 47) (co_V C (c_S_narrowed (xl X) (xD X) (xt X) (xv X) (fun i => a (34 + i)) c_4 x3 _ hw) mw_S_narrowed lk_X_241 d_X_put_47 [34, 35] (cC_X_sheets1 (xt X) a a (X_sheets_ x_2 (va_up (X_sheets x_2) 1 c_4))) (by decide) (rec_w C 34 2 rfl rfl) rfl rfl ⟨Nat.le_of_ble_eq_true rfl, Nat.le_of_ble_eq_true rfl⟩ ⟨Nat.le_of_ble_eq_true rfl, Nat.le_of_ble_eq_true rfl⟩ (rest := [.int x2, .ref (a 35)]) rfl rfl (Nat.le_of_ble_eq_true rfl)) (fun c_6 => woX (xt X) a (X_sheets_ (X_sheets_ x_2 (va_up (X_sheets x_2) 1 c_4)) (va_up (X_sheets (X_sheets_ x_2 (va_up (X_sheets x_2) 1 c_4))) 1 c_6))) (cS_X_sheets1 (xt X) a a (X_sheets_ x_2 (va_up (X_sheets x_2) 1 c_4))) (fun v5 c_6 hw => ?_)
          obtain ⟨h7, hw⟩ := hw
          refine sX_sheets1_items (pc := 50) C (c := c_6) rfl d_X_put_50 (f := S_items c_6) rfl (N0 := x2.toNatClampNeg) rfl h7 ?_
          refine g_iconst (pc := 51) C (v := 1) d_X_put_51 (by decide) ?_
          exact g_iret (pc := 52) C q d_X_put_52 (hq _ _ hw)
        · replace hw := hw.1 h8
          refine g_bipush (pc := 35) C (v := (-12)) d_X_put_35 (by decide) ?_
          exact g_iret (pc := 37) C q d_X_put_37 (hq _ _ hw)
      · replace hw := hw.1 h9
        refine g_bipush (pc := 23) C (v := (-11)) d_X_put_23 (by decide) ?_
        exact g_iret (pc := 25) C q d_X_put_25 (hq _ _ hw)
    · have hw := hzh10
      refine g_re (lv' := [(0, .ref (a 0)), (1, .int x1), (2, .int x2), (3, .int x3)]) (st' := [.ref (a 36)]) rfl rfl ?_
      refine g_astore (pc := 5) C d_X_put_5 (Nat.le_of_ble_eq_true rfl) (lv' := [(0, .ref (a 0)), (1, .int x1), (2, .int x2), (3, .int x3), (4, .ref (a 36))]) rfl ?_
      refine g_aload (pc := 7) C d_X_put_7 4 rfl ?_
      refine g_ifnonnull (pc := 9) (tgt := 14) C d_X_put_9 (by decide) ?_
      refine g_aload (pc := 14) C d_X_put_14 4 rfl ?_
      refine fX_sheets2_sort (pc := 16) C lk_X_202 d_X_put_16 (v := S_sort (X_sheets x_2 2)) rfl ?_
      refine g_iconst (pc := 19) C (v := (-1)) d_X_put_19 (by decide) ?_
      refine g_icmp_ne (pc := 20) (tgt := 26) C d_X_put_20 (by decide) (fun h9 => ?_) (fun h9 => ?_)
      · replace hw := hw.2 h9
        refine g_aload (pc := 26) C d_X_put_26 4 rfl ?_
        refine g_iload_n (pc := 28) C d_X_put_28 2 rfl rfl ?_
        refine k_I (pc := 29) (co_V C (c_S_hasItem (xl X) (xD X) (xt X) (xv X) (fun i => a (36 + i)) (X_sheets x_2 2) x2 _ hw) mw_S_hasItem lk_X_238 d_X_put_29 [36, 37] (cC_X_sheets2 (xt X) a a x_2) (by decide) (rec_w C 36 2 rfl rfl) rfl rfl ⟨Nat.le_of_ble_eq_true rfl, Nat.le_of_ble_eq_true rfl⟩ ⟨Nat.le_of_ble_eq_true rfl, Nat.le_of_ble_eq_true rfl⟩ (rest := []) rfl rfl (Nat.le_of_ble_eq_true rfl)) (fun c_4 => woX (xt X) a (X_sheets_ x_2 (va_up (X_sheets x_2) 2 c_4))) (cS_X_sheets2 (xt X) a a x_2) (fun v3 c_4 hw => ?_)
        refine g_if_ne (pc := 32) (tgt := 38) C d_X_put_32 (by decide) (fun h8 => ?_) (fun h8 => ?_)
        · replace hw := hw.2 h8
          refine g_aload (pc := 38) C d_X_put_38 4 rfl ?_
          refine fX_sheets2_items (pc := 40) C lk_X_228 d_X_put_40 ?_
          refine g_iload_n (pc := 43) C d_X_put_43 2 rfl rfl ?_
          refine g_aload (pc := 44) C d_X_put_44 4 rfl ?_
          refine g_iload_n (pc := 46) C d_X_put_46 3 rfl rfl ?_
          refine k_I (pc := 47) (co_V C (c_S_narrowed (xl X) (xD X) (xt X) (xv X) (fun i => a (36 + i)) c_4 x3 _ hw) mw_S_narrowed lk_X_241 d_X_put_47 [36, 37] (cC_X_sheets2 (xt X) a a (X_sheets_ x_2 (va_up (X_sheets x_2) 2 c_4))) (by decide) (rec_w C 36 2 rfl rfl) rfl rfl ⟨Nat.le_of_ble_eq_true rfl, Nat.le_of_ble_eq_true rfl⟩ ⟨Nat.le_of_ble_eq_true rfl, Nat.le_of_ble_eq_true rfl⟩ (rest := [.int x2, .ref (a 37)]) rfl rfl (Nat.le_of_ble_eq_true rfl)) (fun c_6 => woX (xt X) a (X_sheets_ (X_sheets_ x_2 (va_up (X_sheets x_2) 2 c_4)) (va_up (X_sheets (X_sheets_ x_2 (va_up (X_sheets x_2) 2 c_4))) 2 c_6))) (cS_X_sheets2 (xt X) a a (X_sheets_ x_2 (va_up (X_sheets x_2) 2 c_4))) (fun v5 c_6 hw => ?_)
          obtain ⟨h7, hw⟩ := hw
          refine sX_sheets2_items (pc := 50) C (c := c_6) rfl d_X_put_50 (f := S_items c_6) rfl (N0 := x2.toNatClampNeg) rfl h7 ?_
          refine g_iconst (pc := 51) C (v := 1) d_X_put_51 (by decide) ?_
          exact g_iret (pc := 52) C q d_X_put_52 (hq _ _ hw)
        · replace hw := hw.1 h8
          refine g_bipush (pc := 35) C (v := (-12)) d_X_put_35 (by decide) ?_
          exact g_iret (pc := 37) C q d_X_put_37 (hq _ _ hw)
      · replace hw := hw.1 h9
        refine g_bipush (pc := 23) C (v := (-11)) d_X_put_23 (by decide) ?_
        exact g_iret (pc := 25) C q d_X_put_25 (hq _ _ hw)
    · have hw := hzh10
      refine g_re (lv' := [(0, .ref (a 0)), (1, .int x1), (2, .int x2), (3, .int x3)]) (st' := [.ref (a 38)]) rfl rfl ?_
      refine g_astore (pc := 5) C d_X_put_5 (Nat.le_of_ble_eq_true rfl) (lv' := [(0, .ref (a 0)), (1, .int x1), (2, .int x2), (3, .int x3), (4, .ref (a 38))]) rfl ?_
      refine g_aload (pc := 7) C d_X_put_7 4 rfl ?_
      refine g_ifnonnull (pc := 9) (tgt := 14) C d_X_put_9 (by decide) ?_
      refine g_aload (pc := 14) C d_X_put_14 4 rfl ?_
      refine fX_sheets3_sort (pc := 16) C lk_X_202 d_X_put_16 (v := S_sort (X_sheets x_2 3)) rfl ?_
      refine g_iconst (pc := 19) C (v := (-1)) d_X_put_19 (by decide) ?_
      refine g_icmp_ne (pc := 20) (tgt := 26) C d_X_put_20 (by decide) (fun h9 => ?_) (fun h9 => ?_)
      · replace hw := hw.2 h9
        refine g_aload (pc := 26) C d_X_put_26 4 rfl ?_
        refine g_iload_n (pc := 28) C d_X_put_28 2 rfl rfl ?_
        refine k_I (pc := 29) (co_V C (c_S_hasItem (xl X) (xD X) (xt X) (xv X) (fun i => a (38 + i)) (X_sheets x_2 3) x2 _ hw) mw_S_hasItem lk_X_238 d_X_put_29 [38, 39] (cC_X_sheets3 (xt X) a a x_2) (by decide) (rec_w C 38 2 rfl rfl) rfl rfl ⟨Nat.le_of_ble_eq_true rfl, Nat.le_of_ble_eq_true rfl⟩ ⟨Nat.le_of_ble_eq_true rfl, Nat.le_of_ble_eq_true rfl⟩ (rest := []) rfl rfl (Nat.le_of_ble_eq_true rfl)) (fun c_4 => woX (xt X) a (X_sheets_ x_2 (va_up (X_sheets x_2) 3 c_4))) (cS_X_sheets3 (xt X) a a x_2) (fun v3 c_4 hw => ?_)
        refine g_if_ne (pc := 32) (tgt := 38) C d_X_put_32 (by decide) (fun h8 => ?_) (fun h8 => ?_)
        · replace hw := hw.2 h8
          refine g_aload (pc := 38) C d_X_put_38 4 rfl ?_
          refine fX_sheets3_items (pc := 40) C lk_X_228 d_X_put_40 ?_
          refine g_iload_n (pc := 43) C d_X_put_43 2 rfl rfl ?_
          refine g_aload (pc := 44) C d_X_put_44 4 rfl ?_
          refine g_iload_n (pc := 46) C d_X_put_46 3 rfl rfl ?_
          refine k_I (pc := 47) (co_V C (c_S_narrowed (xl X) (xD X) (xt X) (xv X) (fun i => a (38 + i)) c_4 x3 _ hw) mw_S_narrowed lk_X_241 d_X_put_47 [38, 39] (cC_X_sheets3 (xt X) a a (X_sheets_ x_2 (va_up (X_sheets x_2) 3 c_4))) (by decide) (rec_w C 38 2 rfl rfl) rfl rfl ⟨Nat.le_of_ble_eq_true rfl, Nat.le_of_ble_eq_true rfl⟩ ⟨Nat.le_of_ble_eq_true rfl, Nat.le_of_ble_eq_true rfl⟩ (rest := [.int x2, .ref (a 39)]) rfl rfl (Nat.le_of_ble_eq_true rfl)) (fun c_6 => woX (xt X) a (X_sheets_ (X_sheets_ x_2 (va_up (X_sheets x_2) 3 c_4)) (va_up (X_sheets (X_sheets_ x_2 (va_up (X_sheets x_2) 3 c_4))) 3 c_6))) (cS_X_sheets3 (xt X) a a (X_sheets_ x_2 (va_up (X_sheets x_2) 3 c_4))) (fun v5 c_6 hw => ?_)
          obtain ⟨h7, hw⟩ := hw
          refine sX_sheets3_items (pc := 50) C (c := c_6) rfl d_X_put_50 (f := S_items c_6) rfl (N0 := x2.toNatClampNeg) rfl h7 ?_
          refine g_iconst (pc := 51) C (v := 1) d_X_put_51 (by decide) ?_
          exact g_iret (pc := 52) C q d_X_put_52 (hq _ _ hw)
        · replace hw := hw.1 h8
          refine g_bipush (pc := 35) C (v := (-12)) d_X_put_35 (by decide) ?_
          exact g_iret (pc := 37) C q d_X_put_37 (hq _ _ hw)
      · replace hw := hw.1 h9
        refine g_bipush (pc := 23) C (v := (-11)) d_X_put_23 (by decide) ?_
        exact g_iret (pc := 25) C q d_X_put_25 (hq _ _ hw)
set_option maxRecDepth 20000 in
theorem c_X_put (l : Launch) (D : va_G) (t : Nat → ClassId) (ev : Nat → Nat) (a : Nat → Nat) (x : XSt) (x1 : Int32) (x2 : Int32) (x3 : Int32) (post : Int32 → XSt → Prop) (hw : wp_X_put x x1 x2 x3 post) : Con l D t ev y_X_put b_X_put 5 ((some .int)) 1 (woX t a x) [.ref (a 0), .int x1, .int x2, .int x3] (qI (woX t a)  post) :=
  ConR.of (by decide +kernel) (Nat.le_of_ble_eq_true rfl) (fun X el eD et ee C q _ => by subst el; subst eD; subst et; subst ee; exact g_X_put C q a x x1 x2 x3 post (fun v c1 h => ⟨⟨v, c1, rfl, rfl, h⟩, rfl⟩) hw)
def wp_X_item (x : XSt) (x1 : Int32) (x2 : Int32) (x3 : Int32) (post : Int32 → XSt → Prop) : Prop :=
  wp_X_sheetAt x x1 (fun v1 x_2 => ((v1 = 4) → (post (-1) x_2)) ∧ ((¬ v1 = 4) → (v1 < 4 ∧ (((x2 < 0) → (post (-1) x_2)) ∧ ((¬ x2 < 0) → (((x2 ≤ 3) → ((((S_sort (X_sheets x_2 v1)) = (-1)) → (post (-11) x_2)) ∧ ((¬ (S_sort (X_sheets x_2 v1)) = (-1)) → ((((S_sort (X_sheets x_2 v1)) = x2) → (wp_S_hasItem (X_sheets x_2 v1) x3 (fun v3 c_4 => ((v3 = 0) → (post (-12) (X_sheets_ x_2 (va_up (X_sheets x_2) v1 c_4)))) ∧ ((¬ v3 = 0) → (vp_in x3 40 ∧ (post ((S_items c_4) x3.toNatClampNeg) (X_sheets_ x_2 (va_up (X_sheets x_2) v1 c_4)))))))) ∧ ((¬ (S_sort (X_sheets x_2 v1)) = x2) → (post (-13) x_2)))))) ∧ ((¬ x2 ≤ 3) → (post (-1) x_2))))))))
set_option maxRecDepth 20000 in
theorem g_X_item {X : GX} (C : GC X b_X_item R_X 5 (rmd 1)) {Qp : Option Value → va_W → Prop} (q : RC X ((some .int)) Qp 0 0) (a : Nat → Nat) (x : XSt) (x1 : Int32) (x2 : Int32) (x3 : Int32) (post : Int32 → XSt → Prop) (hq : ∀ v c1, post v c1 → Qp (some (.int v)) (woX (xt X) a c1)) (hw : wp_X_item x x1 x2 x3 post) : G X 0 0 (woX (xt X) a x) [(0, .ref (a 0)), (1, .int x1), (2, .int x2), (3, .int x3)] [] 0 := by
  unfold wp_X_item at hw
  refine g_aload_n (pc := 0) C d_X_item_0 0 rfl rfl ?_
  refine g_iload_n (pc := 1) C d_X_item_1 1 rfl rfl ?_
  refine k_Ra (pc := 2) (co_V C (c_X_sheetAt (xl X) (xD X) (xt X) (xv X) a x x1 _ hw) mw_X_sheetAt lk_X_198 d_X_item_2 (List.range _) (all_C _) (all_nd _) (rec_w C 0 5 rfl rfl) rfl rfl ⟨Nat.le_of_ble_eq_true rfl, Nat.le_of_ble_eq_true rfl⟩ ⟨Nat.le_of_ble_eq_true rfl, Nat.le_of_ble_eq_true rfl⟩ (rest := []) rfl rfl (Nat.le_of_ble_eq_true rfl)) (fun v1 x_2 hw => ?_)
  by_cases h11 : v1 = 4
  · have hzh11 := hw.1 h11
    subst h11
    have hw := hzh11
    refine g_re (lv' := [(0, .ref (a 0)), (1, .int x1), (2, .int x2), (3, .int x3)]) (st' := [.null]) rfl rfl ?_
    refine g_astoreN (pc := 5) C d_X_item_5 (Nat.le_of_ble_eq_true rfl) (lv' := [(0, .ref (a 0)), (1, .int x1), (2, .int x2), (3, .int x3), (4, .null)]) rfl ?_
    refine g_aloadN (pc := 7) C d_X_item_7 4 rfl ?_
    refine g_ifnullN (pc := 9) (tgt := 21) C d_X_item_9 (by decide) ?_
    refine g_iconst (pc := 21) C (v := (-1)) d_X_item_21 (by decide) ?_
    exact g_iret (pc := 22) C q d_X_item_22 (hq _ _ hw)
  · obtain ⟨h11, hzh11⟩ := hw.2 h11
    rcases q4 h11 with rfl | rfl | rfl | rfl
    · have hw := hzh11
      refine g_re (lv' := [(0, .ref (a 0)), (1, .int x1), (2, .int x2), (3, .int x3)]) (st' := [.ref (a 32)]) rfl rfl ?_
      refine g_astore (pc := 5) C d_X_item_5 (Nat.le_of_ble_eq_true rfl) (lv' := [(0, .ref (a 0)), (1, .int x1), (2, .int x2), (3, .int x3), (4, .ref (a 32))]) rfl ?_
      refine g_aload (pc := 7) C d_X_item_7 4 rfl ?_
      refine g_ifnull (pc := 9) C d_X_item_9 ?_
      refine g_iload_n (pc := 12) C d_X_item_12 2 rfl rfl ?_
      refine g_if_lt (pc := 13) (tgt := 21) C d_X_item_13 (by decide) (fun h10 => ?_) (fun h10 => ?_)
      · replace hw := hw.1 h10
        refine g_iconst (pc := 21) C (v := (-1)) d_X_item_21 (by decide) ?_
        exact g_iret (pc := 22) C q d_X_item_22 (hq _ _ hw)
      · replace hw := hw.2 h10
        refine g_iload_n (pc := 16) C d_X_item_16 2 rfl rfl ?_
        refine g_iconst (pc := 17) C (v := 3) d_X_item_17 (by decide) ?_
        refine g_icmp_le (pc := 18) (tgt := 23) C d_X_item_18 (by decide) (fun h9 => ?_) (fun h9 => ?_)
        · replace hw := hw.1 h9
          refine g_aload (pc := 23) C d_X_item_23 4 rfl ?_
          refine fX_sheets0_sort (pc := 25) C lk_X_202 d_X_item_25 (v := S_sort (X_sheets x_2 0)) rfl ?_
          refine g_iconst (pc := 28) C (v := (-1)) d_X_item_28 (by decide) ?_
          refine g_icmp_ne (pc := 29) (tgt := 35) C d_X_item_29 (by decide) (fun h8 => ?_) (fun h8 => ?_)
          · replace hw := hw.2 h8
            refine g_aload (pc := 35) C d_X_item_35 4 rfl ?_
            refine fX_sheets0_sort (pc := 37) C lk_X_202 d_X_item_37 (v := S_sort (X_sheets x_2 0)) rfl ?_
            refine g_iload_n (pc := 40) C d_X_item_40 2 rfl rfl ?_
            refine g_icmp_eq (pc := 41) (tgt := 47) C d_X_item_41 (by decide) (fun h7 => ?_) (fun h7 => ?_)
            · replace hw := hw.1 h7
              refine g_aload (pc := 47) C d_X_item_47 4 rfl ?_
              refine g_iload_n (pc := 49) C d_X_item_49 3 rfl rfl ?_
              refine k_I (pc := 50) (co_V C (c_S_hasItem (xl X) (xD X) (xt X) (xv X) (fun i => a (32 + i)) (X_sheets x_2 0) x3 _ hw) mw_S_hasItem lk_X_238 d_X_item_50 [32, 33] (cC_X_sheets0 (xt X) a a x_2) (by decide) (rec_w C 32 2 rfl rfl) rfl rfl ⟨Nat.le_of_ble_eq_true rfl, Nat.le_of_ble_eq_true rfl⟩ ⟨Nat.le_of_ble_eq_true rfl, Nat.le_of_ble_eq_true rfl⟩ (rest := []) rfl rfl (Nat.le_of_ble_eq_true rfl)) (fun c_4 => woX (xt X) a (X_sheets_ x_2 (va_up (X_sheets x_2) 0 c_4))) (cS_X_sheets0 (xt X) a a x_2) (fun v3 c_4 hw => ?_)
              refine g_if_eq (pc := 53) (tgt := 66) C d_X_item_53 (by decide) (fun h6 => ?_) (fun h6 => ?_)
              · replace hw := hw.1 h6
                refine g_bipush (pc := 66) C (v := (-12)) d_X_item_66 (by decide) ?_
                exact g_iret (pc := 68) C q d_X_item_68 (hq _ _ hw)
              · replace hw := hw.2 h6
                refine g_aload (pc := 56) C d_X_item_56 4 rfl ?_
                refine fX_sheets0_items (pc := 58) C lk_X_228 d_X_item_58 ?_
                refine g_iload_n (pc := 61) C d_X_item_61 3 rfl rfl ?_
                obtain ⟨h5, hw⟩ := hw
                refine lX_sheets0_items (pc := 62) C d_X_item_62 (f := S_items c_4) rfl (N0 := x3.toNatClampNeg) rfl h5 ?_
                refine g_goto (pc := 63) (tgt := 68) C d_X_item_63 (by decide) ?_
                exact g_iret (pc := 68) C q d_X_item_68 (hq _ _ hw)
            · replace hw := hw.2 h7
              refine g_bipush (pc := 44) C (v := (-13)) d_X_item_44 (by decide) ?_
              exact g_iret (pc := 46) C q d_X_item_46 (hq _ _ hw)
          · replace hw := hw.1 h8
            refine g_bipush (pc := 32) C (v := (-11)) d_X_item_32 (by decide) ?_
            exact g_iret (pc := 34) C q d_X_item_34 (hq _ _ hw)
        · replace hw := hw.2 h9
          refine g_iconst (pc := 21) C (v := (-1)) d_X_item_21 (by decide) ?_
          exact g_iret (pc := 22) C q d_X_item_22 (hq _ _ hw)
    · have hw := hzh11
      refine g_re (lv' := [(0, .ref (a 0)), (1, .int x1), (2, .int x2), (3, .int x3)]) (st' := [.ref (a 34)]) rfl rfl ?_
      refine g_astore (pc := 5) C d_X_item_5 (Nat.le_of_ble_eq_true rfl) (lv' := [(0, .ref (a 0)), (1, .int x1), (2, .int x2), (3, .int x3), (4, .ref (a 34))]) rfl ?_
      refine g_aload (pc := 7) C d_X_item_7 4 rfl ?_
      refine g_ifnull (pc := 9) C d_X_item_9 ?_
      refine g_iload_n (pc := 12) C d_X_item_12 2 rfl rfl ?_
      refine g_if_lt (pc := 13) (tgt := 21) C d_X_item_13 (by decide) (fun h10 => ?_) (fun h10 => ?_)
      · replace hw := hw.1 h10
        refine g_iconst (pc := 21) C (v := (-1)) d_X_item_21 (by decide) ?_
        exact g_iret (pc := 22) C q d_X_item_22 (hq _ _ hw)
      · replace hw := hw.2 h10
        refine g_iload_n (pc := 16) C d_X_item_16 2 rfl rfl ?_
        refine g_iconst (pc := 17) C (v := 3) d_X_item_17 (by decide) ?_
        refine g_icmp_le (pc := 18) (tgt := 23) C d_X_item_18 (by decide) (fun h9 => ?_) (fun h9 => ?_)
        · replace hw := hw.1 h9
          refine g_aload (pc := 23) C d_X_item_23 4 rfl ?_
          refine fX_sheets1_sort (pc := 25) C lk_X_202 d_X_item_25 (v := S_sort (X_sheets x_2 1)) rfl ?_
          refine g_iconst (pc := 28) C (v := (-1)) d_X_item_28 (by decide) ?_
          refine g_icmp_ne (pc := 29) (tgt := 35) C d_X_item_29 (by decide) (fun h8 => ?_) (fun h8 => ?_)
          · replace hw := hw.2 h8
            refine g_aload (pc := 35) C d_X_item_35 4 rfl ?_
            refine fX_sheets1_sort (pc := 37) C lk_X_202 d_X_item_37 (v := S_sort (X_sheets x_2 1)) rfl ?_
            refine g_iload_n (pc := 40) C d_X_item_40 2 rfl rfl ?_
            refine g_icmp_eq (pc := 41) (tgt := 47) C d_X_item_41 (by decide) (fun h7 => ?_) (fun h7 => ?_)
            · replace hw := hw.1 h7
              refine g_aload (pc := 47) C d_X_item_47 4 rfl ?_
              refine g_iload_n (pc := 49) C d_X_item_49 3 rfl rfl ?_
              refine k_I (pc := 50) (co_V C (c_S_hasItem (xl X) (xD X) (xt X) (xv X) (fun i => a (34 + i)) (X_sheets x_2 1) x3 _ hw) mw_S_hasItem lk_X_238 d_X_item_50 [34, 35] (cC_X_sheets1 (xt X) a a x_2) (by decide) (rec_w C 34 2 rfl rfl) rfl rfl ⟨Nat.le_of_ble_eq_true rfl, Nat.le_of_ble_eq_true rfl⟩ ⟨Nat.le_of_ble_eq_true rfl, Nat.le_of_ble_eq_true rfl⟩ (rest := []) rfl rfl (Nat.le_of_ble_eq_true rfl)) (fun c_4 => woX (xt X) a (X_sheets_ x_2 (va_up (X_sheets x_2) 1 c_4))) (cS_X_sheets1 (xt X) a a x_2) (fun v3 c_4 hw => ?_)
              refine g_if_eq (pc := 53) (tgt := 66) C d_X_item_53 (by decide) (fun h6 => ?_) (fun h6 => ?_)
              · replace hw := hw.1 h6
                refine g_bipush (pc := 66) C (v := (-12)) d_X_item_66 (by decide) ?_
                exact g_iret (pc := 68) C q d_X_item_68 (hq _ _ hw)
              · replace hw := hw.2 h6
                refine g_aload (pc := 56) C d_X_item_56 4 rfl ?_
                refine fX_sheets1_items (pc := 58) C lk_X_228 d_X_item_58 ?_
                refine g_iload_n (pc := 61) C d_X_item_61 3 rfl rfl ?_
                obtain ⟨h5, hw⟩ := hw
                refine lX_sheets1_items (pc := 62) C d_X_item_62 (f := S_items c_4) rfl (N0 := x3.toNatClampNeg) rfl h5 ?_
                refine g_goto (pc := 63) (tgt := 68) C d_X_item_63 (by decide) ?_
                exact g_iret (pc := 68) C q d_X_item_68 (hq _ _ hw)
            · replace hw := hw.2 h7
              refine g_bipush (pc := 44) C (v := (-13)) d_X_item_44 (by decide) ?_
              exact g_iret (pc := 46) C q d_X_item_46 (hq _ _ hw)
          · replace hw := hw.1 h8
            refine g_bipush (pc := 32) C (v := (-11)) d_X_item_32 (by decide) ?_
            exact g_iret (pc := 34) C q d_X_item_34 (hq _ _ hw)
        · replace hw := hw.2 h9
          refine g_iconst (pc := 21) C (v := (-1)) d_X_item_21 (by decide) ?_
          exact g_iret (pc := 22) C q d_X_item_22 (hq _ _ hw)
    · have hw := hzh11
      refine g_re (lv' := [(0, .ref (a 0)), (1, .int x1), (2, .int x2), (3, .int x3)]) (st' := [.ref (a 36)]) rfl rfl ?_
      refine g_astore (pc := 5) C d_X_item_5 (Nat.le_of_ble_eq_true rfl) (lv' := [(0, .ref (a 0)), (1, .int x1), (2, .int x2), (3, .int x3), (4, .ref (a 36))]) rfl ?_
      refine g_aload (pc := 7) C d_X_item_7 4 rfl ?_
      refine g_ifnull (pc := 9) C d_X_item_9 ?_
      refine g_iload_n (pc := 12) C d_X_item_12 2 rfl rfl ?_
      refine g_if_lt (pc := 13) (tgt := 21) C d_X_item_13 (by decide) (fun h10 => ?_) (fun h10 => ?_)
      · replace hw := hw.1 h10
        refine g_iconst (pc := 21) C (v := (-1)) d_X_item_21 (by decide) ?_
        exact g_iret (pc := 22) C q d_X_item_22 (hq _ _ hw)
      · replace hw := hw.2 h10
        refine g_iload_n (pc := 16) C d_X_item_16 2 rfl rfl ?_
        refine g_iconst (pc := 17) C (v := 3) d_X_item_17 (by decide) ?_
        refine g_icmp_le (pc := 18) (tgt := 23) C d_X_item_18 (by decide) (fun h9 => ?_) (fun h9 => ?_)
        · replace hw := hw.1 h9
          refine g_aload (pc := 23) C d_X_item_23 4 rfl ?_
          refine fX_sheets2_sort (pc := 25) C lk_X_202 d_X_item_25 (v := S_sort (X_sheets x_2 2)) rfl ?_
          refine g_iconst (pc := 28) C (v := (-1)) d_X_item_28 (by decide) ?_
          refine g_icmp_ne (pc := 29) (tgt := 35) C d_X_item_29 (by decide) (fun h8 => ?_) (fun h8 => ?_)
          · replace hw := hw.2 h8
            refine g_aload (pc := 35) C d_X_item_35 4 rfl ?_
            refine fX_sheets2_sort (pc := 37) C lk_X_202 d_X_item_37 (v := S_sort (X_sheets x_2 2)) rfl ?_
            refine g_iload_n (pc := 40) C d_X_item_40 2 rfl rfl ?_
            refine g_icmp_eq (pc := 41) (tgt := 47) C d_X_item_41 (by decide) (fun h7 => ?_) (fun h7 => ?_)
            · replace hw := hw.1 h7
              refine g_aload (pc := 47) C d_X_item_47 4 rfl ?_
              refine g_iload_n (pc := 49) C d_X_item_49 3 rfl rfl ?_
              refine k_I (pc := 50) (co_V C (c_S_hasItem (xl X) (xD X) (xt X) (xv X) (fun i => a (36 + i)) (X_sheets x_2 2) x3 _ hw) mw_S_hasItem lk_X_238 d_X_item_50 [36, 37] (cC_X_sheets2 (xt X) a a x_2) (by decide) (rec_w C 36 2 rfl rfl) rfl rfl ⟨Nat.le_of_ble_eq_true rfl, Nat.le_of_ble_eq_true rfl⟩ ⟨Nat.le_of_ble_eq_true rfl, Nat.le_of_ble_eq_true rfl⟩ (rest := []) rfl rfl (Nat.le_of_ble_eq_true rfl)) (fun c_4 => woX (xt X) a (X_sheets_ x_2 (va_up (X_sheets x_2) 2 c_4))) (cS_X_sheets2 (xt X) a a x_2) (fun v3 c_4 hw => ?_)
              refine g_if_eq (pc := 53) (tgt := 66) C d_X_item_53 (by decide) (fun h6 => ?_) (fun h6 => ?_)
              · replace hw := hw.1 h6
                refine g_bipush (pc := 66) C (v := (-12)) d_X_item_66 (by decide) ?_
                exact g_iret (pc := 68) C q d_X_item_68 (hq _ _ hw)
              · replace hw := hw.2 h6
                refine g_aload (pc := 56) C d_X_item_56 4 rfl ?_
                refine fX_sheets2_items (pc := 58) C lk_X_228 d_X_item_58 ?_
                refine g_iload_n (pc := 61) C d_X_item_61 3 rfl rfl ?_
                obtain ⟨h5, hw⟩ := hw
                refine lX_sheets2_items (pc := 62) C d_X_item_62 (f := S_items c_4) rfl (N0 := x3.toNatClampNeg) rfl h5 ?_
                refine g_goto (pc := 63) (tgt := 68) C d_X_item_63 (by decide) ?_
                exact g_iret (pc := 68) C q d_X_item_68 (hq _ _ hw)
            · replace hw := hw.2 h7
              refine g_bipush (pc := 44) C (v := (-13)) d_X_item_44 (by decide) ?_
              exact g_iret (pc := 46) C q d_X_item_46 (hq _ _ hw)
          · replace hw := hw.1 h8
            refine g_bipush (pc := 32) C (v := (-11)) d_X_item_32 (by decide) ?_
            exact g_iret (pc := 34) C q d_X_item_34 (hq _ _ hw)
        · replace hw := hw.2 h9
          refine g_iconst (pc := 21) C (v := (-1)) d_X_item_21 (by decide) ?_
          exact g_iret (pc := 22) C q d_X_item_22 (hq _ _ hw)
    · have hw := hzh11
      refine g_re (lv' := [(0, .ref (a 0)), (1, .int x1), (2, .int x2), (3, .int x3)]) (st' := [.ref (a 38)]) rfl rfl ?_
      refine g_astore (pc := 5) C d_X_item_5 (Nat.le_of_ble_eq_true rfl) (lv' := [(0, .ref (a 0)), (1, .int x1), (2, .int x2), (3, .int x3), (4, .ref (a 38))]) rfl ?_
      refine g_aload (pc := 7) C d_X_item_7 4 rfl ?_
      refine g_ifnull (pc := 9) C d_X_item_9 ?_
      refine g_iload_n (pc := 12) C d_X_item_12 2 rfl rfl ?_
      refine g_if_lt (pc := 13) (tgt := 21) C d_X_item_13 (by decide) (fun h10 => ?_) (fun h10 => ?_)
      · replace hw := hw.1 h10
        refine g_iconst (pc := 21) C (v := (-1)) d_X_item_21 (by decide) ?_
        exact g_iret (pc := 22) C q d_X_item_22 (hq _ _ hw)
      · replace hw := hw.2 h10
        refine g_iload_n (pc := 16) C d_X_item_16 2 rfl rfl ?_
        refine g_iconst (pc := 17) C (v := 3) d_X_item_17 (by decide) ?_
        refine g_icmp_le (pc := 18) (tgt := 23) C d_X_item_18 (by decide) (fun h9 => ?_) (fun h9 => ?_)
        · replace hw := hw.1 h9
          refine g_aload (pc := 23) C d_X_item_23 4 rfl ?_
          refine fX_sheets3_sort (pc := 25) C lk_X_202 d_X_item_25 (v := S_sort (X_sheets x_2 3)) rfl ?_
          refine g_iconst (pc := 28) C (v := (-1)) d_X_item_28 (by decide) ?_
          refine g_icmp_ne (pc := 29) (tgt := 35) C d_X_item_29 (by decide) (fun h8 => ?_) (fun h8 => ?_)
          · replace hw := hw.2 h8
            refine g_aload (pc := 35) C d_X_item_35 4 rfl ?_
            refine fX_sheets3_sort (pc := 37) C lk_X_202 d_X_item_37 (v := S_sort (X_sheets x_2 3)) rfl ?_
            refine g_iload_n (pc := 40) C d_X_item_40 2 rfl rfl ?_
            refine g_icmp_eq (pc := 41) (tgt := 47) C d_X_item_41 (by decide) (fun h7 => ?_) (fun h7 => ?_)
            · replace hw := hw.1 h7
              refine g_aload (pc := 47) C d_X_item_47 4 rfl ?_
              refine g_iload_n (pc := 49) C d_X_item_49 3 rfl rfl ?_
              refine k_I (pc := 50) (co_V C (c_S_hasItem (xl X) (xD X) (xt X) (xv X) (fun i => a (38 + i)) (X_sheets x_2 3) x3 _ hw) mw_S_hasItem lk_X_238 d_X_item_50 [38, 39] (cC_X_sheets3 (xt X) a a x_2) (by decide) (rec_w C 38 2 rfl rfl) rfl rfl ⟨Nat.le_of_ble_eq_true rfl, Nat.le_of_ble_eq_true rfl⟩ ⟨Nat.le_of_ble_eq_true rfl, Nat.le_of_ble_eq_true rfl⟩ (rest := []) rfl rfl (Nat.le_of_ble_eq_true rfl)) (fun c_4 => woX (xt X) a (X_sheets_ x_2 (va_up (X_sheets x_2) 3 c_4))) (cS_X_sheets3 (xt X) a a x_2) (fun v3 c_4 hw => ?_)
              refine g_if_eq (pc := 53) (tgt := 66) C d_X_item_53 (by decide) (fun h6 => ?_) (fun h6 => ?_)
              · replace hw := hw.1 h6
                refine g_bipush (pc := 66) C (v := (-12)) d_X_item_66 (by decide) ?_
                exact g_iret (pc := 68) C q d_X_item_68 (hq _ _ hw)
              · replace hw := hw.2 h6
                refine g_aload (pc := 56) C d_X_item_56 4 rfl ?_
                refine fX_sheets3_items (pc := 58) C lk_X_228 d_X_item_58 ?_
                refine g_iload_n (pc := 61) C d_X_item_61 3 rfl rfl ?_
                obtain ⟨h5, hw⟩ := hw
                refine lX_sheets3_items (pc := 62) C d_X_item_62 (f := S_items c_4) rfl (N0 := x3.toNatClampNeg) rfl h5 ?_
                refine g_goto (pc := 63) (tgt := 68) C d_X_item_63 (by decide) ?_
                exact g_iret (pc := 68) C q d_X_item_68 (hq _ _ hw)
            · replace hw := hw.2 h7
              refine g_bipush (pc := 44) C (v := (-13)) d_X_item_44 (by decide) ?_
              exact g_iret (pc := 46) C q d_X_item_46 (hq _ _ hw)
          · replace hw := hw.1 h8
            refine g_bipush (pc := 32) C (v := (-11)) d_X_item_32 (by decide) ?_
            exact g_iret (pc := 34) C q d_X_item_34 (hq _ _ hw)
        · replace hw := hw.2 h9
          refine g_iconst (pc := 21) C (v := (-1)) d_X_item_21 (by decide) ?_
          exact g_iret (pc := 22) C q d_X_item_22 (hq _ _ hw)
set_option maxRecDepth 20000 in
theorem c_X_item (l : Launch) (D : va_G) (t : Nat → ClassId) (ev : Nat → Nat) (a : Nat → Nat) (x : XSt) (x1 : Int32) (x2 : Int32) (x3 : Int32) (post : Int32 → XSt → Prop) (hw : wp_X_item x x1 x2 x3 post) : Con l D t ev y_X_item b_X_item 5 ((some .int)) 1 (woX t a x) [.ref (a 0), .int x1, .int x2, .int x3] (qI (woX t a)  post) :=
  ConR.of (by decide +kernel) (Nat.le_of_ble_eq_true rfl) (fun X el eD et ee C q _ => by subst el; subst eD; subst et; subst ee; exact g_X_item C q a x x1 x2 x3 post (fun v c1 h => ⟨⟨v, c1, rfl, rfl, h⟩, rfl⟩) hw)
def wp_X_shelfAt (x : XSt) (x1 : Int32) (post : Nat → XSt → Prop) : Prop :=
  ((x1 < 0) → (post 4 x)) ∧ ((¬ x1 < 0) → (((4 ≤ x1) → (post 4 x)) ∧ ((¬ 4 ≤ x1) → (vp_in x1 4 ∧ (post x1.toNatClampNeg x)))))
set_option maxRecDepth 20000 in
theorem g_X_shelfAt {X : GX} (C : GC X b_X_shelfAt R_X 2 (rmd 0)) {Qp : Option Value → va_W → Prop} (q : RC X ((some (.object "SilenceCanal$Shelf"))) Qp 0 0) (a : Nat → Nat) (x : XSt) (x1 : Int32) (post : Nat → XSt → Prop) (hq : ∀ v c1, post v c1 → Qp (some (rfH a v)) (woX (xt X) a c1)) (hw : wp_X_shelfAt x x1 post) : G X 0 0 (woX (xt X) a x) [(0, .ref (a 0)), (1, .int x1)] [] 0 := by
  unfold wp_X_shelfAt at hw
  refine g_iload_n (pc := 0) C d_X_shelfAt_0 1 rfl rfl ?_
  refine g_if_lt (pc := 1) (tgt := 18) C d_X_shelfAt_1 (by decide) (fun h4 => ?_) (fun h4 => ?_)
  · replace hw := hw.1 h4
    refine g_null (pc := 18) C d_X_shelfAt_18 ?_
    exact g_aret (pc := 19) C q (v := rfH a 4) d_X_shelfAt_19 (rfH_or _ _) (hq _ _ hw)
  · replace hw := hw.2 h4
    refine g_iload_n (pc := 4) C d_X_shelfAt_4 1 rfl rfl ?_
    refine g_iconst (pc := 5) C (v := 4) d_X_shelfAt_5 (by decide) ?_
    refine g_icmp_ge (pc := 6) (tgt := 18) C d_X_shelfAt_6 (by decide) (fun h3 => ?_) (fun h3 => ?_)
    · replace hw := hw.1 h3
      refine g_null (pc := 18) C d_X_shelfAt_18 ?_
      exact g_aret (pc := 19) C q (v := rfH a 4) d_X_shelfAt_19 (rfH_or _ _) (hq _ _ hw)
    · replace hw := hw.2 h3
      refine g_aload_n (pc := 9) C d_X_shelfAt_9 0 rfl rfl ?_
      refine fX_shelves (pc := 10) C lk_X_49 d_X_shelfAt_10 ?_
      refine g_iload_n (pc := 13) C d_X_shelfAt_13 1 rfl rfl ?_
      obtain ⟨h1, hw⟩ := hw
      refine g_aaload (pc := 14) C 40 5 d_X_shelfAt_14 rfl rfl h1 ?_
      have h2 : x1.toNatClampNeg < 4 := vp_lt h1
      refine g_st (st' := [rfH a x1.toNatClampNeg]) (by simp [rfH, h2, va_rf]) ?_
      refine g_goto (pc := 15) (tgt := 19) C d_X_shelfAt_15 (by decide) ?_
      exact g_aret (pc := 19) C q (v := rfH a x1.toNatClampNeg) d_X_shelfAt_19 (rfH_or _ _) (hq _ _ hw)
set_option maxRecDepth 20000 in
theorem c_X_shelfAt (l : Launch) (D : va_G) (t : Nat → ClassId) (ev : Nat → Nat) (a : Nat → Nat) (x : XSt) (x1 : Int32) (post : Nat → XSt → Prop) (hw : wp_X_shelfAt x x1 post) : Con l D t ev y_X_shelfAt b_X_shelfAt 2 ((some (.object "SilenceCanal$Shelf"))) 0 (woX t a x) [.ref (a 0), .int x1] (qR (woX t a) (rfH a) post) :=
  ConR.of (by decide +kernel) (Nat.le_of_ble_eq_true rfl) (fun X el eD et ee C q _ => by subst el; subst eD; subst et; subst ee; exact g_X_shelfAt C q a x x1 post (fun v c1 h => ⟨⟨v, c1, rfl, rfl, h⟩, rfl⟩) hw)
def w_X_shelf_46  (post : Int32 → XSt → Prop)  (x : XSt) (x2 : Int32) (x3 : Int32) (x4 : Nat) : Prop :=
  wp_X_sheetAt x x3 (fun v3 x_4 => ((v3 = 4) → (((x2 = 1) → (post (-1) x_4)) ∧ ((¬ x2 = 1) → (post (-1) x_4)))) ∧ ((¬ v3 = 4) → (v3 < 4 ∧ (((x2 = 1) → (((x4 = 4) → (False)) ∧ ((¬ x4 = 4) → (x4 < 4 ∧ (wp_H_holdRow (X_shelves x_4 x4) (S_sort (X_sheets x_4 v3)) (S_size (X_sheets x_4 v3)) (fun c_6 => post 1 (X_shelves_ x_4 (va_up (X_shelves x_4) x4 c_6)))))))) ∧ ((¬ x2 = 1) → (post (-1) x_4))))))
set_option maxRecDepth 20000 in
theorem j_X_shelf_46 {X : GX} (C : GC X b_X_shelf R_X 6 (rmd 1)) {Qp : Option Value → va_W → Prop} (q : RC X ((some .int)) Qp 0 0) (a : Nat → Nat)   (post : Int32 → XSt → Prop) (hq : ∀ v c1, post v c1 → Qp (some (.int v)) (woX (xt X) a c1)) : ∀ (x : XSt) (x2 : Int32) (x3 : Int32) (x4 : Nat), w_X_shelf_46  post  x x2 x3 x4 → G X 0 0 (woX (xt X) a x) [(0, .ref (a 0)), (2, .int x2), (3, .int x3), (4, rfH a x4)] [] 46 := by
  intro x x2 x3 x4 hw
  unfold w_X_shelf_46 at hw
  refine g_aload_n (pc := 46) C d_X_shelf_46 0 rfl rfl ?_
  refine g_iload_n (pc := 47) C d_X_shelf_47 2 rfl rfl ?_
  refine k_Ra (pc := 48) (co_V C (c_X_sheetAt (xl X) (xD X) (xt X) (xv X) a x x3 _ hw) mw_X_sheetAt lk_X_198 d_X_shelf_48 (List.range _) (all_C _) (all_nd _) (rec_w C 0 5 rfl rfl) rfl rfl ⟨Nat.le_of_ble_eq_true rfl, Nat.le_of_ble_eq_true rfl⟩ ⟨Nat.le_of_ble_eq_true rfl, Nat.le_of_ble_eq_true rfl⟩ (rest := []) rfl rfl (Nat.le_of_ble_eq_true rfl)) (fun v3 x_4 hw => ?_)
  by_cases h9 : v3 = 4
  · have hzh9 := hw.1 h9
    subst h9
    have hw := hzh9
    refine g_re (lv' := [(0, .ref (a 0)), (2, .int x2), (3, .int x3), (4, rfH a x4)]) (st' := [.null]) rfl rfl ?_
    refine g_astoreN (pc := 51) C d_X_shelf_51 (Nat.le_of_ble_eq_true rfl) (lv' := [(0, .ref (a 0)), (2, .int x2), (3, .int x3), (4, rfH a x4), (5, .null)]) (by (rcases rfH_or a x4 with e | ⟨y, e⟩ <;> rw [e]) <;> rfl) ?_
    refine g_iload_n (pc := 53) C d_X_shelf_53 1 rfl rfl ?_
    refine g_iconst (pc := 54) C (v := 1) d_X_shelf_54 (by decide) ?_
    refine g_icmp_ne (pc := 55) (tgt := 80) C d_X_shelf_55 (by decide) (fun h5 => ?_) (fun h5 => ?_)
    · replace hw := hw.2 h5
      refine g_iconst (pc := 80) C (v := (-1)) d_X_shelf_80 (by decide) ?_
      exact g_iret (pc := 81) C q d_X_shelf_81 (hq _ _ hw)
    · replace hw := hw.1 h5
      refine g_aloadN (pc := 58) C d_X_shelf_58 4 rfl ?_
      refine g_ifnullN (pc := 60) (tgt := 80) C d_X_shelf_60 (by decide) ?_
      refine g_iconst (pc := 80) C (v := (-1)) d_X_shelf_80 (by decide) ?_
      exact g_iret (pc := 81) C q d_X_shelf_81 (hq _ _ hw)
  · obtain ⟨h9, hzh9⟩ := hw.2 h9
    rcases q4 h9 with rfl | rfl | rfl | rfl
    · have hw := hzh9
      refine g_re (lv' := [(0, .ref (a 0)), (2, .int x2), (3, .int x3), (4, rfH a x4)]) (st' := [.ref (a 32)]) rfl rfl ?_
      refine g_astore (pc := 51) C d_X_shelf_51 (Nat.le_of_ble_eq_true rfl) (lv' := [(0, .ref (a 0)), (2, .int x2), (3, .int x3), (4, rfH a x4), (5, .ref (a 32))]) (by (rcases rfH_or a x4 with e | ⟨y, e⟩ <;> rw [e]) <;> rfl) ?_
      refine g_iload_n (pc := 53) C d_X_shelf_53 1 rfl rfl ?_
      refine g_iconst (pc := 54) C (v := 1) d_X_shelf_54 (by decide) ?_
      refine g_icmp_ne (pc := 55) (tgt := 80) C d_X_shelf_55 (by decide) (fun h8 => ?_) (fun h8 => ?_)
      · replace hw := hw.2 h8
        refine g_iconst (pc := 80) C (v := (-1)) d_X_shelf_80 (by decide) ?_
        exact g_iret (pc := 81) C q d_X_shelf_81 (hq _ _ hw)
      · replace hw := hw.1 h8
        refine g_aload (pc := 58) C d_X_shelf_58 4 rfl ?_
        refine g_ifnull (pc := 60) C d_X_shelf_60 ?_
        by_cases h7 : x4 = 4
        · have hzh7 := hw.1 h7
          subst h7
          have hw := hzh7
          refine g_re (lv' := [(0, .ref (a 0)), (2, .int x2), (3, .int x3), (4, .null), (5, .ref (a 32))]) (st' := []) rfl rfl ?_
          refine g_aloadN (pc := 63) C d_X_shelf_63 3 rfl ?_
          refine g_aload (pc := 65) C d_X_shelf_65 4 rfl ?_
          refine fX_sheets0_sort (pc := 67) C lk_X_202 d_X_shelf_67 (v := S_sort (X_sheets x_4 0)) rfl ?_
          refine g_aload (pc := 70) C d_X_shelf_70 4 rfl ?_
          refine fX_sheets0_size (pc := 72) C lk_X_227 d_X_shelf_72 (v := S_size (X_sheets x_4 0)) rfl ?_
          exact hw.elim
        · obtain ⟨h7, hzh7⟩ := hw.2 h7
          rcases q4 h7 with rfl | rfl | rfl | rfl
          · have hw := hzh7
            refine g_re (lv' := [(0, .ref (a 0)), (2, .int x2), (3, .int x3), (4, .ref (a 41)), (5, .ref (a 32))]) (st' := []) rfl rfl ?_
            refine g_aload (pc := 63) C d_X_shelf_63 3 rfl ?_
            refine g_aload (pc := 65) C d_X_shelf_65 4 rfl ?_
            refine fX_sheets0_sort (pc := 67) C lk_X_202 d_X_shelf_67 (v := S_sort (X_sheets x_4 0)) rfl ?_
            refine g_aload (pc := 70) C d_X_shelf_70 4 rfl ?_
            refine fX_sheets0_size (pc := 72) C lk_X_227 d_X_shelf_72 (v := S_size (X_sheets x_4 0)) rfl ?_
            refine k_V (pc := 75) (co_V C (c_H_holdRow (xl X) (xD X) (xt X) (xv X) (fun i => a (41 + i)) (X_shelves x_4 0) (S_sort (X_sheets x_4 0)) (S_size (X_sheets x_4 0)) _ hw) mw_H_holdRow lk_X_254 d_X_shelf_75 [41] (cC_X_shelves0 (xt X) a a x_4) (by decide) (rec_w C 41 3 rfl rfl) rfl rfl ⟨Nat.le_of_ble_eq_true rfl, Nat.le_of_ble_eq_true rfl⟩ ⟨Nat.le_of_ble_eq_true rfl, Nat.le_of_ble_eq_true rfl⟩ (rest := []) rfl rfl (Nat.le_of_ble_eq_true rfl)) (fun c_6 => woX (xt X) a (X_shelves_ x_4 (va_up (X_shelves x_4) 0 c_6))) (cS_X_shelves0 (xt X) a a x_4) (fun c_6 hw => ?_)
            refine g_iconst (pc := 78) C (v := 1) d_X_shelf_78 (by decide) ?_
            exact g_iret (pc := 79) C q d_X_shelf_79 (hq _ _ hw)
          · have hw := hzh7
            refine g_re (lv' := [(0, .ref (a 0)), (2, .int x2), (3, .int x3), (4, .ref (a 42)), (5, .ref (a 32))]) (st' := []) rfl rfl ?_
            refine g_aload (pc := 63) C d_X_shelf_63 3 rfl ?_
            refine g_aload (pc := 65) C d_X_shelf_65 4 rfl ?_
            refine fX_sheets0_sort (pc := 67) C lk_X_202 d_X_shelf_67 (v := S_sort (X_sheets x_4 0)) rfl ?_
            refine g_aload (pc := 70) C d_X_shelf_70 4 rfl ?_
            refine fX_sheets0_size (pc := 72) C lk_X_227 d_X_shelf_72 (v := S_size (X_sheets x_4 0)) rfl ?_
            refine k_V (pc := 75) (co_V C (c_H_holdRow (xl X) (xD X) (xt X) (xv X) (fun i => a (42 + i)) (X_shelves x_4 1) (S_sort (X_sheets x_4 0)) (S_size (X_sheets x_4 0)) _ hw) mw_H_holdRow lk_X_254 d_X_shelf_75 [42] (cC_X_shelves1 (xt X) a a x_4) (by decide) (rec_w C 42 3 rfl rfl) rfl rfl ⟨Nat.le_of_ble_eq_true rfl, Nat.le_of_ble_eq_true rfl⟩ ⟨Nat.le_of_ble_eq_true rfl, Nat.le_of_ble_eq_true rfl⟩ (rest := []) rfl rfl (Nat.le_of_ble_eq_true rfl)) (fun c_6 => woX (xt X) a (X_shelves_ x_4 (va_up (X_shelves x_4) 1 c_6))) (cS_X_shelves1 (xt X) a a x_4) (fun c_6 hw => ?_)
            refine g_iconst (pc := 78) C (v := 1) d_X_shelf_78 (by decide) ?_
            exact g_iret (pc := 79) C q d_X_shelf_79 (hq _ _ hw)
          · have hw := hzh7
            refine g_re (lv' := [(0, .ref (a 0)), (2, .int x2), (3, .int x3), (4, .ref (a 43)), (5, .ref (a 32))]) (st' := []) rfl rfl ?_
            refine g_aload (pc := 63) C d_X_shelf_63 3 rfl ?_
            refine g_aload (pc := 65) C d_X_shelf_65 4 rfl ?_
            refine fX_sheets0_sort (pc := 67) C lk_X_202 d_X_shelf_67 (v := S_sort (X_sheets x_4 0)) rfl ?_
            refine g_aload (pc := 70) C d_X_shelf_70 4 rfl ?_
            refine fX_sheets0_size (pc := 72) C lk_X_227 d_X_shelf_72 (v := S_size (X_sheets x_4 0)) rfl ?_
            refine k_V (pc := 75) (co_V C (c_H_holdRow (xl X) (xD X) (xt X) (xv X) (fun i => a (43 + i)) (X_shelves x_4 2) (S_sort (X_sheets x_4 0)) (S_size (X_sheets x_4 0)) _ hw) mw_H_holdRow lk_X_254 d_X_shelf_75 [43] (cC_X_shelves2 (xt X) a a x_4) (by decide) (rec_w C 43 3 rfl rfl) rfl rfl ⟨Nat.le_of_ble_eq_true rfl, Nat.le_of_ble_eq_true rfl⟩ ⟨Nat.le_of_ble_eq_true rfl, Nat.le_of_ble_eq_true rfl⟩ (rest := []) rfl rfl (Nat.le_of_ble_eq_true rfl)) (fun c_6 => woX (xt X) a (X_shelves_ x_4 (va_up (X_shelves x_4) 2 c_6))) (cS_X_shelves2 (xt X) a a x_4) (fun c_6 hw => ?_)
            refine g_iconst (pc := 78) C (v := 1) d_X_shelf_78 (by decide) ?_
            exact g_iret (pc := 79) C q d_X_shelf_79 (hq _ _ hw)
          · have hw := hzh7
            refine g_re (lv' := [(0, .ref (a 0)), (2, .int x2), (3, .int x3), (4, .ref (a 44)), (5, .ref (a 32))]) (st' := []) rfl rfl ?_
            refine g_aload (pc := 63) C d_X_shelf_63 3 rfl ?_
            refine g_aload (pc := 65) C d_X_shelf_65 4 rfl ?_
            refine fX_sheets0_sort (pc := 67) C lk_X_202 d_X_shelf_67 (v := S_sort (X_sheets x_4 0)) rfl ?_
            refine g_aload (pc := 70) C d_X_shelf_70 4 rfl ?_
            refine fX_sheets0_size (pc := 72) C lk_X_227 d_X_shelf_72 (v := S_size (X_sheets x_4 0)) rfl ?_
            refine k_V (pc := 75) (co_V C (c_H_holdRow (xl X) (xD X) (xt X) (xv X) (fun i => a (44 + i)) (X_shelves x_4 3) (S_sort (X_sheets x_4 0)) (S_size (X_sheets x_4 0)) _ hw) mw_H_holdRow lk_X_254 d_X_shelf_75 [44] (cC_X_shelves3 (xt X) a a x_4) (by decide) (rec_w C 44 3 rfl rfl) rfl rfl ⟨Nat.le_of_ble_eq_true rfl, Nat.le_of_ble_eq_true rfl⟩ ⟨Nat.le_of_ble_eq_true rfl, Nat.le_of_ble_eq_true rfl⟩ (rest := []) rfl rfl (Nat.le_of_ble_eq_true rfl)) (fun c_6 => woX (xt X) a (X_shelves_ x_4 (va_up (X_shelves x_4) 3 c_6))) (cS_X_shelves3 (xt X) a a x_4) (fun c_6 hw => ?_)
            refine g_iconst (pc := 78) C (v := 1) d_X_shelf_78 (by decide) ?_
            exact g_iret (pc := 79) C q d_X_shelf_79 (hq _ _ hw)
    · have hw := hzh9
      refine g_re (lv' := [(0, .ref (a 0)), (2, .int x2), (3, .int x3), (4, rfH a x4)]) (st' := [.ref (a 34)]) rfl rfl ?_
      refine g_astore (pc := 51) C d_X_shelf_51 (Nat.le_of_ble_eq_true rfl) (lv' := [(0, .ref (a 0)), (2, .int x2), (3, .int x3), (4, rfH a x4), (5, .ref (a 34))]) (by (rcases rfH_or a x4 with e | ⟨y, e⟩ <;> rw [e]) <;> rfl) ?_
      refine g_iload_n (pc := 53) C d_X_shelf_53 1 rfl rfl ?_
      refine g_iconst (pc := 54) C (v := 1) d_X_shelf_54 (by decide) ?_
      refine g_icmp_ne (pc := 55) (tgt := 80) C d_X_shelf_55 (by decide) (fun h8 => ?_) (fun h8 => ?_)
      · replace hw := hw.2 h8
        refine g_iconst (pc := 80) C (v := (-1)) d_X_shelf_80 (by decide) ?_
        exact g_iret (pc := 81) C q d_X_shelf_81 (hq _ _ hw)
      · replace hw := hw.1 h8
        refine g_aload (pc := 58) C d_X_shelf_58 4 rfl ?_
        refine g_ifnull (pc := 60) C d_X_shelf_60 ?_
        by_cases h7 : x4 = 4
        · have hzh7 := hw.1 h7
          subst h7
          have hw := hzh7
          refine g_re (lv' := [(0, .ref (a 0)), (2, .int x2), (3, .int x3), (4, .null), (5, .ref (a 34))]) (st' := []) rfl rfl ?_
          refine g_aloadN (pc := 63) C d_X_shelf_63 3 rfl ?_
          refine g_aload (pc := 65) C d_X_shelf_65 4 rfl ?_
          refine fX_sheets1_sort (pc := 67) C lk_X_202 d_X_shelf_67 (v := S_sort (X_sheets x_4 1)) rfl ?_
          refine g_aload (pc := 70) C d_X_shelf_70 4 rfl ?_
          refine fX_sheets1_size (pc := 72) C lk_X_227 d_X_shelf_72 (v := S_size (X_sheets x_4 1)) rfl ?_
          exact hw.elim
        · obtain ⟨h7, hzh7⟩ := hw.2 h7
          rcases q4 h7 with rfl | rfl | rfl | rfl
          · have hw := hzh7
            refine g_re (lv' := [(0, .ref (a 0)), (2, .int x2), (3, .int x3), (4, .ref (a 41)), (5, .ref (a 34))]) (st' := []) rfl rfl ?_
            refine g_aload (pc := 63) C d_X_shelf_63 3 rfl ?_
            refine g_aload (pc := 65) C d_X_shelf_65 4 rfl ?_
            refine fX_sheets1_sort (pc := 67) C lk_X_202 d_X_shelf_67 (v := S_sort (X_sheets x_4 1)) rfl ?_
            refine g_aload (pc := 70) C d_X_shelf_70 4 rfl ?_
            refine fX_sheets1_size (pc := 72) C lk_X_227 d_X_shelf_72 (v := S_size (X_sheets x_4 1)) rfl ?_
            refine k_V (pc := 75) (co_V C (c_H_holdRow (xl X) (xD X) (xt X) (xv X) (fun i => a (41 + i)) (X_shelves x_4 0) (S_sort (X_sheets x_4 1)) (S_size (X_sheets x_4 1)) _ hw) mw_H_holdRow lk_X_254 d_X_shelf_75 [41] (cC_X_shelves0 (xt X) a a x_4) (by decide) (rec_w C 41 3 rfl rfl) rfl rfl ⟨Nat.le_of_ble_eq_true rfl, Nat.le_of_ble_eq_true rfl⟩ ⟨Nat.le_of_ble_eq_true rfl, Nat.le_of_ble_eq_true rfl⟩ (rest := []) rfl rfl (Nat.le_of_ble_eq_true rfl)) (fun c_6 => woX (xt X) a (X_shelves_ x_4 (va_up (X_shelves x_4) 0 c_6))) (cS_X_shelves0 (xt X) a a x_4) (fun c_6 hw => ?_)
            refine g_iconst (pc := 78) C (v := 1) d_X_shelf_78 (by decide) ?_
            exact g_iret (pc := 79) C q d_X_shelf_79 (hq _ _ hw)
          · have hw := hzh7
            refine g_re (lv' := [(0, .ref (a 0)), (2, .int x2), (3, .int x3), (4, .ref (a 42)), (5, .ref (a 34))]) (st' := []) rfl rfl ?_
            refine g_aload (pc := 63) C d_X_shelf_63 3 rfl ?_
            refine g_aload (pc := 65) C d_X_shelf_65 4 rfl ?_
            refine fX_sheets1_sort (pc := 67) C lk_X_202 d_X_shelf_67 (v := S_sort (X_sheets x_4 1)) rfl ?_
            refine g_aload (pc := 70) C d_X_shelf_70 4 rfl ?_
            refine fX_sheets1_size (pc := 72) C lk_X_227 d_X_shelf_72 (v := S_size (X_sheets x_4 1)) rfl ?_
            refine k_V (pc := 75) (co_V C (c_H_holdRow (xl X) (xD X) (xt X) (xv X) (fun i => a (42 + i)) (X_shelves x_4 1) (S_sort (X_sheets x_4 1)) (S_size (X_sheets x_4 1)) _ hw) mw_H_holdRow lk_X_254 d_X_shelf_75 [42] (cC_X_shelves1 (xt X) a a x_4) (by decide) (rec_w C 42 3 rfl rfl) rfl rfl ⟨Nat.le_of_ble_eq_true rfl, Nat.le_of_ble_eq_true rfl⟩ ⟨Nat.le_of_ble_eq_true rfl, Nat.le_of_ble_eq_true rfl⟩ (rest := []) rfl rfl (Nat.le_of_ble_eq_true rfl)) (fun c_6 => woX (xt X) a (X_shelves_ x_4 (va_up (X_shelves x_4) 1 c_6))) (cS_X_shelves1 (xt X) a a x_4) (fun c_6 hw => ?_)
            refine g_iconst (pc := 78) C (v := 1) d_X_shelf_78 (by decide) ?_
            exact g_iret (pc := 79) C q d_X_shelf_79 (hq _ _ hw)
          · have hw := hzh7
            refine g_re (lv' := [(0, .ref (a 0)), (2, .int x2), (3, .int x3), (4, .ref (a 43)), (5, .ref (a 34))]) (st' := []) rfl rfl ?_
            refine g_aload (pc := 63) C d_X_shelf_63 3 rfl ?_
            refine g_aload (pc := 65) C d_X_shelf_65 4 rfl ?_
            refine fX_sheets1_sort (pc := 67) C lk_X_202 d_X_shelf_67 (v := S_sort (X_sheets x_4 1)) rfl ?_
            refine g_aload (pc := 70) C d_X_shelf_70 4 rfl ?_
            refine fX_sheets1_size (pc := 72) C lk_X_227 d_X_shelf_72 (v := S_size (X_sheets x_4 1)) rfl ?_
            refine k_V (pc := 75) (co_V C (c_H_holdRow (xl X) (xD X) (xt X) (xv X) (fun i => a (43 + i)) (X_shelves x_4 2) (S_sort (X_sheets x_4 1)) (S_size (X_sheets x_4 1)) _ hw) mw_H_holdRow lk_X_254 d_X_shelf_75 [43] (cC_X_shelves2 (xt X) a a x_4) (by decide) (rec_w C 43 3 rfl rfl) rfl rfl ⟨Nat.le_of_ble_eq_true rfl, Nat.le_of_ble_eq_true rfl⟩ ⟨Nat.le_of_ble_eq_true rfl, Nat.le_of_ble_eq_true rfl⟩ (rest := []) rfl rfl (Nat.le_of_ble_eq_true rfl)) (fun c_6 => woX (xt X) a (X_shelves_ x_4 (va_up (X_shelves x_4) 2 c_6))) (cS_X_shelves2 (xt X) a a x_4) (fun c_6 hw => ?_)
            refine g_iconst (pc := 78) C (v := 1) d_X_shelf_78 (by decide) ?_
            exact g_iret (pc := 79) C q d_X_shelf_79 (hq _ _ hw)
          · have hw := hzh7
            refine g_re (lv' := [(0, .ref (a 0)), (2, .int x2), (3, .int x3), (4, .ref (a 44)), (5, .ref (a 34))]) (st' := []) rfl rfl ?_
            refine g_aload (pc := 63) C d_X_shelf_63 3 rfl ?_
            refine g_aload (pc := 65) C d_X_shelf_65 4 rfl ?_
            refine fX_sheets1_sort (pc := 67) C lk_X_202 d_X_shelf_67 (v := S_sort (X_sheets x_4 1)) rfl ?_
            refine g_aload (pc := 70) C d_X_shelf_70 4 rfl ?_
            refine fX_sheets1_size (pc := 72) C lk_X_227 d_X_shelf_72 (v := S_size (X_sheets x_4 1)) rfl ?_
            refine k_V (pc := 75) (co_V C (c_H_holdRow (xl X) (xD X) (xt X) (xv X) (fun i => a (44 + i)) (X_shelves x_4 3) (S_sort (X_sheets x_4 1)) (S_size (X_sheets x_4 1)) _ hw) mw_H_holdRow lk_X_254 d_X_shelf_75 [44] (cC_X_shelves3 (xt X) a a x_4) (by decide) (rec_w C 44 3 rfl rfl) rfl rfl ⟨Nat.le_of_ble_eq_true rfl, Nat.le_of_ble_eq_true rfl⟩ ⟨Nat.le_of_ble_eq_true rfl, Nat.le_of_ble_eq_true rfl⟩ (rest := []) rfl rfl (Nat.le_of_ble_eq_true rfl)) (fun c_6 => woX (xt X) a (X_shelves_ x_4 (va_up (X_shelves x_4) 3 c_6))) (cS_X_shelves3 (xt X) a a x_4) (fun c_6 hw => ?_)
            refine g_iconst (pc := 78) C (v := 1) d_X_shelf_78 (by decide) ?_
            exact g_iret (pc := 79) C q d_X_shelf_79 (hq _ _ hw)
    · have hw := hzh9
      refine g_re (lv' := [(0, .ref (a 0)), (2, .int x2), (3, .int x3), (4, rfH a x4)]) (st' := [.ref (a 36)]) rfl rfl ?_
      refine g_astore (pc := 51) C d_X_shelf_51 (Nat.le_of_ble_eq_true rfl) (lv' := [(0, .ref (a 0)), (2, .int x2), (3, .int x3), (4, rfH a x4), (5, .ref (a 36))]) (by (rcases rfH_or a x4 with e | ⟨y, e⟩ <;> rw [e]) <;> rfl) ?_
      refine g_iload_n (pc := 53) C d_X_shelf_53 1 rfl rfl ?_
      refine g_iconst (pc := 54) C (v := 1) d_X_shelf_54 (by decide) ?_
      refine g_icmp_ne (pc := 55) (tgt := 80) C d_X_shelf_55 (by decide) (fun h8 => ?_) (fun h8 => ?_)
      · replace hw := hw.2 h8
        refine g_iconst (pc := 80) C (v := (-1)) d_X_shelf_80 (by decide) ?_
        exact g_iret (pc := 81) C q d_X_shelf_81 (hq _ _ hw)
      · replace hw := hw.1 h8
        refine g_aload (pc := 58) C d_X_shelf_58 4 rfl ?_
        refine g_ifnull (pc := 60) C d_X_shelf_60 ?_
        by_cases h7 : x4 = 4
        · have hzh7 := hw.1 h7
          subst h7
          have hw := hzh7
          refine g_re (lv' := [(0, .ref (a 0)), (2, .int x2), (3, .int x3), (4, .null), (5, .ref (a 36))]) (st' := []) rfl rfl ?_
          refine g_aloadN (pc := 63) C d_X_shelf_63 3 rfl ?_
          refine g_aload (pc := 65) C d_X_shelf_65 4 rfl ?_
          refine fX_sheets2_sort (pc := 67) C lk_X_202 d_X_shelf_67 (v := S_sort (X_sheets x_4 2)) rfl ?_
          refine g_aload (pc := 70) C d_X_shelf_70 4 rfl ?_
          refine fX_sheets2_size (pc := 72) C lk_X_227 d_X_shelf_72 (v := S_size (X_sheets x_4 2)) rfl ?_
          exact hw.elim
        · obtain ⟨h7, hzh7⟩ := hw.2 h7
          rcases q4 h7 with rfl | rfl | rfl | rfl
          · have hw := hzh7
            refine g_re (lv' := [(0, .ref (a 0)), (2, .int x2), (3, .int x3), (4, .ref (a 41)), (5, .ref (a 36))]) (st' := []) rfl rfl ?_
            refine g_aload (pc := 63) C d_X_shelf_63 3 rfl ?_
            refine g_aload (pc := 65) C d_X_shelf_65 4 rfl ?_
            refine fX_sheets2_sort (pc := 67) C lk_X_202 d_X_shelf_67 (v := S_sort (X_sheets x_4 2)) rfl ?_
            refine g_aload (pc := 70) C d_X_shelf_70 4 rfl ?_
            refine fX_sheets2_size (pc := 72) C lk_X_227 d_X_shelf_72 (v := S_size (X_sheets x_4 2)) rfl ?_
            refine k_V (pc := 75) (co_V C (c_H_holdRow (xl X) (xD X) (xt X) (xv X) (fun i => a (41 + i)) (X_shelves x_4 0) (S_sort (X_sheets x_4 2)) (S_size (X_sheets x_4 2)) _ hw) mw_H_holdRow lk_X_254 d_X_shelf_75 [41] (cC_X_shelves0 (xt X) a a x_4) (by decide) (rec_w C 41 3 rfl rfl) rfl rfl ⟨Nat.le_of_ble_eq_true rfl, Nat.le_of_ble_eq_true rfl⟩ ⟨Nat.le_of_ble_eq_true rfl, Nat.le_of_ble_eq_true rfl⟩ (rest := []) rfl rfl (Nat.le_of_ble_eq_true rfl)) (fun c_6 => woX (xt X) a (X_shelves_ x_4 (va_up (X_shelves x_4) 0 c_6))) (cS_X_shelves0 (xt X) a a x_4) (fun c_6 hw => ?_)
            refine g_iconst (pc := 78) C (v := 1) d_X_shelf_78 (by decide) ?_
            exact g_iret (pc := 79) C q d_X_shelf_79 (hq _ _ hw)
          · have hw := hzh7
            refine g_re (lv' := [(0, .ref (a 0)), (2, .int x2), (3, .int x3), (4, .ref (a 42)), (5, .ref (a 36))]) (st' := []) rfl rfl ?_
            refine g_aload (pc := 63) C d_X_shelf_63 3 rfl ?_
            refine g_aload (pc := 65) C d_X_shelf_65 4 rfl ?_
            refine fX_sheets2_sort (pc := 67) C lk_X_202 d_X_shelf_67 (v := S_sort (X_sheets x_4 2)) rfl ?_
            refine g_aload (pc := 70) C d_X_shelf_70 4 rfl ?_
            refine fX_sheets2_size (pc := 72) C lk_X_227 d_X_shelf_72 (v := S_size (X_sheets x_4 2)) rfl ?_
            refine k_V (pc := 75) (co_V C (c_H_holdRow (xl X) (xD X) (xt X) (xv X) (fun i => a (42 + i)) (X_shelves x_4 1) (S_sort (X_sheets x_4 2)) (S_size (X_sheets x_4 2)) _ hw) mw_H_holdRow lk_X_254 d_X_shelf_75 [42] (cC_X_shelves1 (xt X) a a x_4) (by decide) (rec_w C 42 3 rfl rfl) rfl rfl ⟨Nat.le_of_ble_eq_true rfl, Nat.le_of_ble_eq_true rfl⟩ ⟨Nat.le_of_ble_eq_true rfl, Nat.le_of_ble_eq_true rfl⟩ (rest := []) rfl rfl (Nat.le_of_ble_eq_true rfl)) (fun c_6 => woX (xt X) a (X_shelves_ x_4 (va_up (X_shelves x_4) 1 c_6))) (cS_X_shelves1 (xt X) a a x_4) (fun c_6 hw => ?_)
            refine g_iconst (pc := 78) C (v := 1) d_X_shelf_78 (by decide) ?_
            exact g_iret (pc := 79) C q d_X_shelf_79 (hq _ _ hw)
          · have hw := hzh7
            refine g_re (lv' := [(0, .ref (a 0)), (2, .int x2), (3, .int x3), (4, .ref (a 43)), (5, .ref (a 36))]) (st' := []) rfl rfl ?_
            refine g_aload (pc := 63) C d_X_shelf_63 3 rfl ?_
            refine g_aload (pc := 65) C d_X_shelf_65 4 rfl ?_
            refine fX_sheets2_sort (pc := 67) C lk_X_202 d_X_shelf_67 (v := S_sort (X_sheets x_4 2)) rfl ?_
            refine g_aload (pc := 70) C d_X_shelf_70 4 rfl ?_
            refine fX_sheets2_size (pc := 72) C lk_X_227 d_X_shelf_72 (v := S_size (X_sheets x_4 2)) rfl ?_
            refine k_V (pc := 75) (co_V C (c_H_holdRow (xl X) (xD X) (xt X) (xv X) (fun i => a (43 + i)) (X_shelves x_4 2) (S_sort (X_sheets x_4 2)) (S_size (X_sheets x_4 2)) _ hw) mw_H_holdRow lk_X_254 d_X_shelf_75 [43] (cC_X_shelves2 (xt X) a a x_4) (by decide) (rec_w C 43 3 rfl rfl) rfl rfl ⟨Nat.le_of_ble_eq_true rfl, Nat.le_of_ble_eq_true rfl⟩ ⟨Nat.le_of_ble_eq_true rfl, Nat.le_of_ble_eq_true rfl⟩ (rest := []) rfl rfl (Nat.le_of_ble_eq_true rfl)) (fun c_6 => woX (xt X) a (X_shelves_ x_4 (va_up (X_shelves x_4) 2 c_6))) (cS_X_shelves2 (xt X) a a x_4) (fun c_6 hw => ?_)
            refine g_iconst (pc := 78) C (v := 1) d_X_shelf_78 (by decide) ?_
            exact g_iret (pc := 79) C q d_X_shelf_79 (hq _ _ hw)
          · have hw := hzh7
            refine g_re (lv' := [(0, .ref (a 0)), (2, .int x2), (3, .int x3), (4, .ref (a 44)), (5, .ref (a 36))]) (st' := []) rfl rfl ?_
            refine g_aload (pc := 63) C d_X_shelf_63 3 rfl ?_
            refine g_aload (pc := 65) C d_X_shelf_65 4 rfl ?_
            refine fX_sheets2_sort (pc := 67) C lk_X_202 d_X_shelf_67 (v := S_sort (X_sheets x_4 2)) rfl ?_
            refine g_aload (pc := 70) C d_X_shelf_70 4 rfl ?_
            refine fX_sheets2_size (pc := 72) C lk_X_227 d_X_shelf_72 (v := S_size (X_sheets x_4 2)) rfl ?_
            refine k_V (pc := 75) (co_V C (c_H_holdRow (xl X) (xD X) (xt X) (xv X) (fun i => a (44 + i)) (X_shelves x_4 3) (S_sort (X_sheets x_4 2)) (S_size (X_sheets x_4 2)) _ hw) mw_H_holdRow lk_X_254 d_X_shelf_75 [44] (cC_X_shelves3 (xt X) a a x_4) (by decide) (rec_w C 44 3 rfl rfl) rfl rfl ⟨Nat.le_of_ble_eq_true rfl, Nat.le_of_ble_eq_true rfl⟩ ⟨Nat.le_of_ble_eq_true rfl, Nat.le_of_ble_eq_true rfl⟩ (rest := []) rfl rfl (Nat.le_of_ble_eq_true rfl)) (fun c_6 => woX (xt X) a (X_shelves_ x_4 (va_up (X_shelves x_4) 3 c_6))) (cS_X_shelves3 (xt X) a a x_4) (fun c_6 hw => ?_)
            refine g_iconst (pc := 78) C (v := 1) d_X_shelf_78 (by decide) ?_
            exact g_iret (pc := 79) C q d_X_shelf_79 (hq _ _ hw)
    · have hw := hzh9
      refine g_re (lv' := [(0, .ref (a 0)), (2, .int x2), (3, .int x3), (4, rfH a x4)]) (st' := [.ref (a 38)]) rfl rfl ?_
      refine g_astore (pc := 51) C d_X_shelf_51 (Nat.le_of_ble_eq_true rfl) (lv' := [(0, .ref (a 0)), (2, .int x2), (3, .int x3), (4, rfH a x4), (5, .ref (a 38))]) (by (rcases rfH_or a x4 with e | ⟨y, e⟩ <;> rw [e]) <;> rfl) ?_
      refine g_iload_n (pc := 53) C d_X_shelf_53 1 rfl rfl ?_
      refine g_iconst (pc := 54) C (v := 1) d_X_shelf_54 (by decide) ?_
      refine g_icmp_ne (pc := 55) (tgt := 80) C d_X_shelf_55 (by decide) (fun h8 => ?_) (fun h8 => ?_)
      · replace hw := hw.2 h8
        refine g_iconst (pc := 80) C (v := (-1)) d_X_shelf_80 (by decide) ?_
        exact g_iret (pc := 81) C q d_X_shelf_81 (hq _ _ hw)
      · replace hw := hw.1 h8
        refine g_aload (pc := 58) C d_X_shelf_58 4 rfl ?_
        refine g_ifnull (pc := 60) C d_X_shelf_60 ?_
        by_cases h7 : x4 = 4
        · have hzh7 := hw.1 h7
          subst h7
          have hw := hzh7
          refine g_re (lv' := [(0, .ref (a 0)), (2, .int x2), (3, .int x3), (4, .null), (5, .ref (a 38))]) (st' := []) rfl rfl ?_
          refine g_aloadN (pc := 63) C d_X_shelf_63 3 rfl ?_
          refine g_aload (pc := 65) C d_X_shelf_65 4 rfl ?_
          refine fX_sheets3_sort (pc := 67) C lk_X_202 d_X_shelf_67 (v := S_sort (X_sheets x_4 3)) rfl ?_
          refine g_aload (pc := 70) C d_X_shelf_70 4 rfl ?_
          refine fX_sheets3_size (pc := 72) C lk_X_227 d_X_shelf_72 (v := S_size (X_sheets x_4 3)) rfl ?_
          exact hw.elim
        · obtain ⟨h7, hzh7⟩ := hw.2 h7
          rcases q4 h7 with rfl | rfl | rfl | rfl
          · have hw := hzh7
            refine g_re (lv' := [(0, .ref (a 0)), (2, .int x2), (3, .int x3), (4, .ref (a 41)), (5, .ref (a 38))]) (st' := []) rfl rfl ?_
            refine g_aload (pc := 63) C d_X_shelf_63 3 rfl ?_
            refine g_aload (pc := 65) C d_X_shelf_65 4 rfl ?_
            refine fX_sheets3_sort (pc := 67) C lk_X_202 d_X_shelf_67 (v := S_sort (X_sheets x_4 3)) rfl ?_
            refine g_aload (pc := 70) C d_X_shelf_70 4 rfl ?_
            refine fX_sheets3_size (pc := 72) C lk_X_227 d_X_shelf_72 (v := S_size (X_sheets x_4 3)) rfl ?_
            refine k_V (pc := 75) (co_V C (c_H_holdRow (xl X) (xD X) (xt X) (xv X) (fun i => a (41 + i)) (X_shelves x_4 0) (S_sort (X_sheets x_4 3)) (S_size (X_sheets x_4 3)) _ hw) mw_H_holdRow lk_X_254 d_X_shelf_75 [41] (cC_X_shelves0 (xt X) a a x_4) (by decide) (rec_w C 41 3 rfl rfl) rfl rfl ⟨Nat.le_of_ble_eq_true rfl, Nat.le_of_ble_eq_true rfl⟩ ⟨Nat.le_of_ble_eq_true rfl, Nat.le_of_ble_eq_true rfl⟩ (rest := []) rfl rfl (Nat.le_of_ble_eq_true rfl)) (fun c_6 => woX (xt X) a (X_shelves_ x_4 (va_up (X_shelves x_4) 0 c_6))) (cS_X_shelves0 (xt X) a a x_4) (fun c_6 hw => ?_)
            refine g_iconst (pc := 78) C (v := 1) d_X_shelf_78 (by decide) ?_
            exact g_iret (pc := 79) C q d_X_shelf_79 (hq _ _ hw)
          · have hw := hzh7
            refine g_re (lv' := [(0, .ref (a 0)), (2, .int x2), (3, .int x3), (4, .ref (a 42)), (5, .ref (a 38))]) (st' := []) rfl rfl ?_
            refine g_aload (pc := 63) C d_X_shelf_63 3 rfl ?_
            refine g_aload (pc := 65) C d_X_shelf_65 4 rfl ?_
            refine fX_sheets3_sort (pc := 67) C lk_X_202 d_X_shelf_67 (v := S_sort (X_sheets x_4 3)) rfl ?_
            refine g_aload (pc := 70) C d_X_shelf_70 4 rfl ?_
            refine fX_sheets3_size (pc := 72) C lk_X_227 d_X_shelf_72 (v := S_size (X_sheets x_4 3)) rfl ?_
            refine k_V (pc := 75) (co_V C (c_H_holdRow (xl X) (xD X) (xt X) (xv X) (fun i => a (42 + i)) (X_shelves x_4 1) (S_sort (X_sheets x_4 3)) (S_size (X_sheets x_4 3)) _ hw) mw_H_holdRow lk_X_254 d_X_shelf_75 [42] (cC_X_shelves1 (xt X) a a x_4) (by decide) (rec_w C 42 3 rfl rfl) rfl rfl ⟨Nat.le_of_ble_eq_true rfl, Nat.le_of_ble_eq_true rfl⟩ ⟨Nat.le_of_ble_eq_true rfl, Nat.le_of_ble_eq_true rfl⟩ (rest := []) rfl rfl (Nat.le_of_ble_eq_true rfl)) (fun c_6 => woX (xt X) a (X_shelves_ x_4 (va_up (X_shelves x_4) 1 c_6))) (cS_X_shelves1 (xt X) a a x_4) (fun c_6 hw => ?_)
            refine g_iconst (pc := 78) C (v := 1) d_X_shelf_78 (by decide) ?_
            exact g_iret (pc := 79) C q d_X_shelf_79 (hq _ _ hw)
          · have hw := hzh7
            refine g_re (lv' := [(0, .ref (a 0)), (2, .int x2), (3, .int x3), (4, .ref (a 43)), (5, .ref (a 38))]) (st' := []) rfl rfl ?_
            refine g_aload (pc := 63) C d_X_shelf_63 3 rfl ?_
            refine g_aload (pc := 65) C d_X_shelf_65 4 rfl ?_
            refine fX_sheets3_sort (pc := 67) C lk_X_202 d_X_shelf_67 (v := S_sort (X_sheets x_4 3)) rfl ?_
            refine g_aload (pc := 70) C d_X_shelf_70 4 rfl ?_
            refine fX_sheets3_size (pc := 72) C lk_X_227 d_X_shelf_72 (v := S_size (X_sheets x_4 3)) rfl ?_
            refine k_V (pc := 75) (co_V C (c_H_holdRow (xl X) (xD X) (xt X) (xv X) (fun i => a (43 + i)) (X_shelves x_4 2) (S_sort (X_sheets x_4 3)) (S_size (X_sheets x_4 3)) _ hw) mw_H_holdRow lk_X_254 d_X_shelf_75 [43] (cC_X_shelves2 (xt X) a a x_4) (by decide) (rec_w C 43 3 rfl rfl) rfl rfl ⟨Nat.le_of_ble_eq_true rfl, Nat.le_of_ble_eq_true rfl⟩ ⟨Nat.le_of_ble_eq_true rfl, Nat.le_of_ble_eq_true rfl⟩ (rest := []) rfl rfl (Nat.le_of_ble_eq_true rfl)) (fun c_6 => woX (xt X) a (X_shelves_ x_4 (va_up (X_shelves x_4) 2 c_6))) (cS_X_shelves2 (xt X) a a x_4) (fun c_6 hw => ?_)
            refine g_iconst (pc := 78) C (v := 1) d_X_shelf_78 (by decide) ?_
            exact g_iret (pc := 79) C q d_X_shelf_79 (hq _ _ hw)
          · have hw := hzh7
            refine g_re (lv' := [(0, .ref (a 0)), (2, .int x2), (3, .int x3), (4, .ref (a 44)), (5, .ref (a 38))]) (st' := []) rfl rfl ?_
            refine g_aload (pc := 63) C d_X_shelf_63 3 rfl ?_
            refine g_aload (pc := 65) C d_X_shelf_65 4 rfl ?_
            refine fX_sheets3_sort (pc := 67) C lk_X_202 d_X_shelf_67 (v := S_sort (X_sheets x_4 3)) rfl ?_
            refine g_aload (pc := 70) C d_X_shelf_70 4 rfl ?_
            refine fX_sheets3_size (pc := 72) C lk_X_227 d_X_shelf_72 (v := S_size (X_sheets x_4 3)) rfl ?_
            refine k_V (pc := 75) (co_V C (c_H_holdRow (xl X) (xD X) (xt X) (xv X) (fun i => a (44 + i)) (X_shelves x_4 3) (S_sort (X_sheets x_4 3)) (S_size (X_sheets x_4 3)) _ hw) mw_H_holdRow lk_X_254 d_X_shelf_75 [44] (cC_X_shelves3 (xt X) a a x_4) (by decide) (rec_w C 44 3 rfl rfl) rfl rfl ⟨Nat.le_of_ble_eq_true rfl, Nat.le_of_ble_eq_true rfl⟩ ⟨Nat.le_of_ble_eq_true rfl, Nat.le_of_ble_eq_true rfl⟩ (rest := []) rfl rfl (Nat.le_of_ble_eq_true rfl)) (fun c_6 => woX (xt X) a (X_shelves_ x_4 (va_up (X_shelves x_4) 3 c_6))) (cS_X_shelves3 (xt X) a a x_4) (fun c_6 hw => ?_)
            refine g_iconst (pc := 78) C (v := 1) d_X_shelf_78 (by decide) ?_
            exact g_iret (pc := 79) C q d_X_shelf_79 (hq _ _ hw)
def wp_X_shelf (x : XSt) (x1 : Int32) (x2 : Int32) (x3 : Int32) (post : Int32 → XSt → Prop) : Prop :=
  wp_X_shelfAt x x1 (fun v1 x_2 => ((v1 = 4) → (post (-1) x_2)) ∧ ((¬ v1 = 4) → (v1 < 4 ∧ (((x2 = 2) → (wp_H_clear (X_shelves x_2 v1) (fun c_15 => post 1 (X_shelves_ x_2 (va_up (X_shelves x_2) v1 c_15))))) ∧ ((¬ x2 = 2) → (((x2 = 0) → (wp_X_isBarge x_2 x3 (fun v10 x_11 => ((v10 = 0) → (w_X_shelf_46  post  x_11 x2 x3 v1)) ∧ ((¬ v10 = 0) → (wp_H_holdBarge (X_shelves x_11 v1) x3 (fun c_12 => post 1 (X_shelves_ x_11 (va_up (X_shelves x_11) v1 c_12)))))))) ∧ ((¬ x2 = 0) → (w_X_shelf_46  post  x_2 x2 x3 v1))))))))
set_option maxRecDepth 20000 in
theorem g_X_shelf {X : GX} (C : GC X b_X_shelf R_X 6 (rmd 1)) {Qp : Option Value → va_W → Prop} (q : RC X ((some .int)) Qp 0 0) (a : Nat → Nat) (x : XSt) (x1 : Int32) (x2 : Int32) (x3 : Int32) (post : Int32 → XSt → Prop) (hq : ∀ v c1, post v c1 → Qp (some (.int v)) (woX (xt X) a c1)) (hw : wp_X_shelf x x1 x2 x3 post) : G X 0 0 (woX (xt X) a x) [(0, .ref (a 0)), (1, .int x1), (2, .int x2), (3, .int x3)] [] 0 := by
  unfold wp_X_shelf at hw
  refine g_aload_n (pc := 0) C d_X_shelf_0 0 rfl rfl ?_
  refine g_iload_n (pc := 1) C d_X_shelf_1 1 rfl rfl ?_
  refine k_Ra (pc := 2) (co_V C (c_X_shelfAt (xl X) (xD X) (xt X) (xv X) a x x1 _ hw) mw_X_shelfAt lk_X_244 d_X_shelf_2 (List.range _) (all_C _) (all_nd _) (rec_w C 0 5 rfl rfl) rfl rfl ⟨Nat.le_of_ble_eq_true rfl, Nat.le_of_ble_eq_true rfl⟩ ⟨Nat.le_of_ble_eq_true rfl, Nat.le_of_ble_eq_true rfl⟩ (rest := []) rfl rfl (Nat.le_of_ble_eq_true rfl)) (fun v1 x_2 hw => ?_)
  by_cases h17 : v1 = 4
  · have hzh17 := hw.1 h17
    subst h17
    have hw := hzh17
    refine g_re (lv' := [(0, .ref (a 0)), (1, .int x1), (2, .int x2), (3, .int x3)]) (st' := [.null]) rfl rfl ?_
    refine g_astoreN (pc := 5) C d_X_shelf_5 (Nat.le_of_ble_eq_true rfl) (lv' := [(0, .ref (a 0)), (1, .int x1), (2, .int x2), (3, .int x3), (4, .null)]) rfl ?_
    refine g_aloadN (pc := 7) C d_X_shelf_7 4 rfl ?_
    refine g_ifnonnullN (pc := 9) C d_X_shelf_9 ?_
    refine g_iconst (pc := 12) C (v := (-1)) d_X_shelf_12 (by decide) ?_
    exact g_iret (pc := 13) C q d_X_shelf_13 (hq _ _ hw)
  · obtain ⟨h17, hzh17⟩ := hw.2 h17
    rcases q4 h17 with rfl | rfl | rfl | rfl
    · have hw := hzh17
      refine g_re (lv' := [(0, .ref (a 0)), (1, .int x1), (2, .int x2), (3, .int x3)]) (st' := [.ref (a 41)]) rfl rfl ?_
      refine g_astore (pc := 5) C d_X_shelf_5 (Nat.le_of_ble_eq_true rfl) (lv' := [(0, .ref (a 0)), (1, .int x1), (2, .int x2), (3, .int x3), (4, .ref (a 41))]) rfl ?_
      refine g_aload (pc := 7) C d_X_shelf_7 4 rfl ?_
      refine g_ifnonnull (pc := 9) (tgt := 14) C d_X_shelf_9 (by decide) ?_
      refine g_iload_n (pc := 14) C d_X_shelf_14 2 rfl rfl ?_
      refine g_iconst (pc := 15) C (v := 2) d_X_shelf_15 (by decide) ?_
      refine g_icmp_ne (pc := 16) (tgt := 26) C d_X_shelf_16 (by decide) (fun h9 => ?_) (fun h9 => ?_)
      · replace hw := hw.2 h9
        refine g_iload_n (pc := 26) C d_X_shelf_26 2 rfl rfl ?_
        refine g_if_ne (pc := 27) (tgt := 46) C d_X_shelf_27 (by decide) (fun h7 => ?_) (fun h7 => ?_)
        · replace hw := hw.2 h7
          refine g_sub [0, 2, 3, 4] (lv' := [(0, .ref (a 0)), (2, .int x2), (3, .int x3), (4, .ref (a 41))]) rfl ?_
          exact j_X_shelf_46 C q a post hq  x_2 x2 x3 0 hw
        · replace hw := hw.1 h7
          refine g_aload_n (pc := 30) C d_X_shelf_30 0 rfl rfl ?_
          refine g_iload_n (pc := 31) C d_X_shelf_31 3 rfl rfl ?_
          refine k_Ia (pc := 32) (co_V C (c_X_isBarge (xl X) (xD X) (xt X) (xv X) a x_2 x3 _ hw) mw_X_isBarge lk_X_106 d_X_shelf_32 (List.range _) (all_C _) (all_nd _) (rec_w C 0 5 rfl rfl) rfl rfl ⟨Nat.le_of_ble_eq_true rfl, Nat.le_of_ble_eq_true rfl⟩ ⟨Nat.le_of_ble_eq_true rfl, Nat.le_of_ble_eq_true rfl⟩ (rest := []) rfl rfl (Nat.le_of_ble_eq_true rfl)) (fun v3 x_4 hw => ?_)
          refine g_if_eq (pc := 35) (tgt := 46) C d_X_shelf_35 (by decide) (fun h6 => ?_) (fun h6 => ?_)
          · replace hw := hw.1 h6
            refine g_sub [0, 2, 3, 4] (lv' := [(0, .ref (a 0)), (2, .int x2), (3, .int x3), (4, .ref (a 41))]) rfl ?_
            exact j_X_shelf_46 C q a post hq  x_4 x2 x3 0 hw
          · replace hw := hw.2 h6
            refine g_aload (pc := 38) C d_X_shelf_38 4 rfl ?_
            refine g_iload_n (pc := 40) C d_X_shelf_40 3 rfl rfl ?_
            refine k_V (pc := 41) (co_V C (c_H_holdBarge (xl X) (xD X) (xt X) (xv X) (fun i => a (41 + i)) (X_shelves x_4 0) x3 _ hw) mw_H_holdBarge lk_X_251 d_X_shelf_41 [41] (cC_X_shelves0 (xt X) a a x_4) (by decide) (rec_w C 41 3 rfl rfl) rfl rfl ⟨Nat.le_of_ble_eq_true rfl, Nat.le_of_ble_eq_true rfl⟩ ⟨Nat.le_of_ble_eq_true rfl, Nat.le_of_ble_eq_true rfl⟩ (rest := []) rfl rfl (Nat.le_of_ble_eq_true rfl)) (fun c_5 => woX (xt X) a (X_shelves_ x_4 (va_up (X_shelves x_4) 0 c_5))) (cS_X_shelves0 (xt X) a a x_4) (fun c_5 hw => ?_)
            refine g_iconst (pc := 44) C (v := 1) d_X_shelf_44 (by decide) ?_
            exact g_iret (pc := 45) C q d_X_shelf_45 (hq _ _ hw)
      · replace hw := hw.1 h9
        refine g_aload (pc := 19) C d_X_shelf_19 4 rfl ?_
        refine k_V (pc := 21) (co_V C (c_H_clear (xl X) (xD X) (xt X) (xv X) (fun i => a (41 + i)) (X_shelves x_2 0) _ hw) mw_H_clear lk_X_248 d_X_shelf_21 [41] (cC_X_shelves0 (xt X) a a x_2) (by decide) (rec_w C 41 3 rfl rfl) rfl rfl ⟨Nat.le_of_ble_eq_true rfl, Nat.le_of_ble_eq_true rfl⟩ ⟨Nat.le_of_ble_eq_true rfl, Nat.le_of_ble_eq_true rfl⟩ (rest := []) rfl rfl (Nat.le_of_ble_eq_true rfl)) (fun c_8 => woX (xt X) a (X_shelves_ x_2 (va_up (X_shelves x_2) 0 c_8))) (cS_X_shelves0 (xt X) a a x_2) (fun c_8 hw => ?_)
        refine g_iconst (pc := 24) C (v := 1) d_X_shelf_24 (by decide) ?_
        exact g_iret (pc := 25) C q d_X_shelf_25 (hq _ _ hw)
    · have hw := hzh17
      refine g_re (lv' := [(0, .ref (a 0)), (1, .int x1), (2, .int x2), (3, .int x3)]) (st' := [.ref (a 42)]) rfl rfl ?_
      refine g_astore (pc := 5) C d_X_shelf_5 (Nat.le_of_ble_eq_true rfl) (lv' := [(0, .ref (a 0)), (1, .int x1), (2, .int x2), (3, .int x3), (4, .ref (a 42))]) rfl ?_
      refine g_aload (pc := 7) C d_X_shelf_7 4 rfl ?_
      refine g_ifnonnull (pc := 9) (tgt := 14) C d_X_shelf_9 (by decide) ?_
      refine g_iload_n (pc := 14) C d_X_shelf_14 2 rfl rfl ?_
      refine g_iconst (pc := 15) C (v := 2) d_X_shelf_15 (by decide) ?_
      refine g_icmp_ne (pc := 16) (tgt := 26) C d_X_shelf_16 (by decide) (fun h9 => ?_) (fun h9 => ?_)
      · replace hw := hw.2 h9
        refine g_iload_n (pc := 26) C d_X_shelf_26 2 rfl rfl ?_
        refine g_if_ne (pc := 27) (tgt := 46) C d_X_shelf_27 (by decide) (fun h7 => ?_) (fun h7 => ?_)
        · replace hw := hw.2 h7
          refine g_sub [0, 2, 3, 4] (lv' := [(0, .ref (a 0)), (2, .int x2), (3, .int x3), (4, .ref (a 42))]) rfl ?_
          exact j_X_shelf_46 C q a post hq  x_2 x2 x3 1 hw
        · replace hw := hw.1 h7
          refine g_aload_n (pc := 30) C d_X_shelf_30 0 rfl rfl ?_
          refine g_iload_n (pc := 31) C d_X_shelf_31 3 rfl rfl ?_
          refine k_Ia (pc := 32) (co_V C (c_X_isBarge (xl X) (xD X) (xt X) (xv X) a x_2 x3 _ hw) mw_X_isBarge lk_X_106 d_X_shelf_32 (List.range _) (all_C _) (all_nd _) (rec_w C 0 5 rfl rfl) rfl rfl ⟨Nat.le_of_ble_eq_true rfl, Nat.le_of_ble_eq_true rfl⟩ ⟨Nat.le_of_ble_eq_true rfl, Nat.le_of_ble_eq_true rfl⟩ (rest := []) rfl rfl (Nat.le_of_ble_eq_true rfl)) (fun v3 x_4 hw => ?_)
          refine g_if_eq (pc := 35) (tgt := 46) C d_X_shelf_35 (by decide) (fun h6 => ?_) (fun h6 => ?_)
          · replace hw := hw.1 h6
            refine g_sub [0, 2, 3, 4] (lv' := [(0, .ref (a 0)), (2, .int x2), (3, .int x3), (4, .ref (a 42))]) rfl ?_
            exact j_X_shelf_46 C q a post hq  x_4 x2 x3 1 hw
          · replace hw := hw.2 h6
            refine g_aload (pc := 38) C d_X_shelf_38 4 rfl ?_
            refine g_iload_n (pc := 40) C d_X_shelf_40 3 rfl rfl ?_
            refine k_V (pc := 41) (co_V C (c_H_holdBarge (xl X) (xD X) (xt X) (xv X) (fun i => a (42 + i)) (X_shelves x_4 1) x3 _ hw) mw_H_holdBarge lk_X_251 d_X_shelf_41 [42] (cC_X_shelves1 (xt X) a a x_4) (by decide) (rec_w C 42 3 rfl rfl) rfl rfl ⟨Nat.le_of_ble_eq_true rfl, Nat.le_of_ble_eq_true rfl⟩ ⟨Nat.le_of_ble_eq_true rfl, Nat.le_of_ble_eq_true rfl⟩ (rest := []) rfl rfl (Nat.le_of_ble_eq_true rfl)) (fun c_5 => woX (xt X) a (X_shelves_ x_4 (va_up (X_shelves x_4) 1 c_5))) (cS_X_shelves1 (xt X) a a x_4) (fun c_5 hw => ?_)
            refine g_iconst (pc := 44) C (v := 1) d_X_shelf_44 (by decide) ?_
            exact g_iret (pc := 45) C q d_X_shelf_45 (hq _ _ hw)
      · replace hw := hw.1 h9
        refine g_aload (pc := 19) C d_X_shelf_19 4 rfl ?_
        refine k_V (pc := 21) (co_V C (c_H_clear (xl X) (xD X) (xt X) (xv X) (fun i => a (42 + i)) (X_shelves x_2 1) _ hw) mw_H_clear lk_X_248 d_X_shelf_21 [42] (cC_X_shelves1 (xt X) a a x_2) (by decide) (rec_w C 42 3 rfl rfl) rfl rfl ⟨Nat.le_of_ble_eq_true rfl, Nat.le_of_ble_eq_true rfl⟩ ⟨Nat.le_of_ble_eq_true rfl, Nat.le_of_ble_eq_true rfl⟩ (rest := []) rfl rfl (Nat.le_of_ble_eq_true rfl)) (fun c_8 => woX (xt X) a (X_shelves_ x_2 (va_up (X_shelves x_2) 1 c_8))) (cS_X_shelves1 (xt X) a a x_2) (fun c_8 hw => ?_)
        refine g_iconst (pc := 24) C (v := 1) d_X_shelf_24 (by decide) ?_
        exact g_iret (pc := 25) C q d_X_shelf_25 (hq _ _ hw)
    · have hw := hzh17
      refine g_re (lv' := [(0, .ref (a 0)), (1, .int x1), (2, .int x2), (3, .int x3)]) (st' := [.ref (a 43)]) rfl rfl ?_
      refine g_astore (pc := 5) C d_X_shelf_5 (Nat.le_of_ble_eq_true rfl) (lv' := [(0, .ref (a 0)), (1, .int x1), (2, .int x2), (3, .int x3), (4, .ref (a 43))]) rfl ?_
      refine g_aload (pc := 7) C d_X_shelf_7 4 rfl ?_
      refine g_ifnonnull (pc := 9) (tgt := 14) C d_X_shelf_9 (by decide) ?_
      refine g_iload_n (pc := 14) C d_X_shelf_14 2 rfl rfl ?_
      refine g_iconst (pc := 15) C (v := 2) d_X_shelf_15 (by decide) ?_
      refine g_icmp_ne (pc := 16) (tgt := 26) C d_X_shelf_16 (by decide) (fun h9 => ?_) (fun h9 => ?_)
      · replace hw := hw.2 h9
        refine g_iload_n (pc := 26) C d_X_shelf_26 2 rfl rfl ?_
        refine g_if_ne (pc := 27) (tgt := 46) C d_X_shelf_27 (by decide) (fun h7 => ?_) (fun h7 => ?_)
        · replace hw := hw.2 h7
          refine g_sub [0, 2, 3, 4] (lv' := [(0, .ref (a 0)), (2, .int x2), (3, .int x3), (4, .ref (a 43))]) rfl ?_
          exact j_X_shelf_46 C q a post hq  x_2 x2 x3 2 hw
        · replace hw := hw.1 h7
          refine g_aload_n (pc := 30) C d_X_shelf_30 0 rfl rfl ?_
          refine g_iload_n (pc := 31) C d_X_shelf_31 3 rfl rfl ?_
          refine k_Ia (pc := 32) (co_V C (c_X_isBarge (xl X) (xD X) (xt X) (xv X) a x_2 x3 _ hw) mw_X_isBarge lk_X_106 d_X_shelf_32 (List.range _) (all_C _) (all_nd _) (rec_w C 0 5 rfl rfl) rfl rfl ⟨Nat.le_of_ble_eq_true rfl, Nat.le_of_ble_eq_true rfl⟩ ⟨Nat.le_of_ble_eq_true rfl, Nat.le_of_ble_eq_true rfl⟩ (rest := []) rfl rfl (Nat.le_of_ble_eq_true rfl)) (fun v3 x_4 hw => ?_)
          refine g_if_eq (pc := 35) (tgt := 46) C d_X_shelf_35 (by decide) (fun h6 => ?_) (fun h6 => ?_)
          · replace hw := hw.1 h6
            refine g_sub [0, 2, 3, 4] (lv' := [(0, .ref (a 0)), (2, .int x2), (3, .int x3), (4, .ref (a 43))]) rfl ?_
            exact j_X_shelf_46 C q a post hq  x_4 x2 x3 2 hw
          · replace hw := hw.2 h6
            refine g_aload (pc := 38) C d_X_shelf_38 4 rfl ?_
            refine g_iload_n (pc := 40) C d_X_shelf_40 3 rfl rfl ?_
            refine k_V (pc := 41) (co_V C (c_H_holdBarge (xl X) (xD X) (xt X) (xv X) (fun i => a (43 + i)) (X_shelves x_4 2) x3 _ hw) mw_H_holdBarge lk_X_251 d_X_shelf_41 [43] (cC_X_shelves2 (xt X) a a x_4) (by decide) (rec_w C 43 3 rfl rfl) rfl rfl ⟨Nat.le_of_ble_eq_true rfl, Nat.le_of_ble_eq_true rfl⟩ ⟨Nat.le_of_ble_eq_true rfl, Nat.le_of_ble_eq_true rfl⟩ (rest := []) rfl rfl (Nat.le_of_ble_eq_true rfl)) (fun c_5 => woX (xt X) a (X_shelves_ x_4 (va_up (X_shelves x_4) 2 c_5))) (cS_X_shelves2 (xt X) a a x_4) (fun c_5 hw => ?_)
            refine g_iconst (pc := 44) C (v := 1) d_X_shelf_44 (by decide) ?_
            exact g_iret (pc := 45) C q d_X_shelf_45 (hq _ _ hw)
      · replace hw := hw.1 h9
        refine g_aload (pc := 19) C d_X_shelf_19 4 rfl ?_
        refine k_V (pc := 21) (co_V C (c_H_clear (xl X) (xD X) (xt X) (xv X) (fun i => a (43 + i)) (X_shelves x_2 2) _ hw) mw_H_clear lk_X_248 d_X_shelf_21 [43] (cC_X_shelves2 (xt X) a a x_2) (by decide) (rec_w C 43 3 rfl rfl) rfl rfl ⟨Nat.le_of_ble_eq_true rfl, Nat.le_of_ble_eq_true rfl⟩ ⟨Nat.le_of_ble_eq_true rfl, Nat.le_of_ble_eq_true rfl⟩ (rest := []) rfl rfl (Nat.le_of_ble_eq_true rfl)) (fun c_8 => woX (xt X) a (X_shelves_ x_2 (va_up (X_shelves x_2) 2 c_8))) (cS_X_shelves2 (xt X) a a x_2) (fun c_8 hw => ?_)
        refine g_iconst (pc := 24) C (v := 1) d_X_shelf_24 (by decide) ?_
        exact g_iret (pc := 25) C q d_X_shelf_25 (hq _ _ hw)
    · have hw := hzh17
      refine g_re (lv' := [(0, .ref (a 0)), (1, .int x1), (2, .int x2), (3, .int x3)]) (st' := [.ref (a 44)]) rfl rfl ?_
      refine g_astore (pc := 5) C d_X_shelf_5 (Nat.le_of_ble_eq_true rfl) (lv' := [(0, .ref (a 0)), (1, .int x1), (2, .int x2), (3, .int x3), (4, .ref (a 44))]) rfl ?_
      refine g_aload (pc := 7) C d_X_shelf_7 4 rfl ?_
      refine g_ifnonnull (pc := 9) (tgt := 14) C d_X_shelf_9 (by decide) ?_
      refine g_iload_n (pc := 14) C d_X_shelf_14 2 rfl rfl ?_
      refine g_iconst (pc := 15) C (v := 2) d_X_shelf_15 (by decide) ?_
      refine g_icmp_ne (pc := 16) (tgt := 26) C d_X_shelf_16 (by decide) (fun h9 => ?_) (fun h9 => ?_)
      · replace hw := hw.2 h9
        refine g_iload_n (pc := 26) C d_X_shelf_26 2 rfl rfl ?_
        refine g_if_ne (pc := 27) (tgt := 46) C d_X_shelf_27 (by decide) (fun h7 => ?_) (fun h7 => ?_)
        · replace hw := hw.2 h7
          refine g_sub [0, 2, 3, 4] (lv' := [(0, .ref (a 0)), (2, .int x2), (3, .int x3), (4, .ref (a 44))]) rfl ?_
          exact j_X_shelf_46 C q a post hq  x_2 x2 x3 3 hw
        · replace hw := hw.1 h7
          refine g_aload_n (pc := 30) C d_X_shelf_30 0 rfl rfl ?_
          refine g_iload_n (pc := 31) C d_X_shelf_31 3 rfl rfl ?_
          refine k_Ia (pc := 32) (co_V C (c_X_isBarge (xl X) (xD X) (xt X) (xv X) a x_2 x3 _ hw) mw_X_isBarge lk_X_106 d_X_shelf_32 (List.range _) (all_C _) (all_nd _) (rec_w C 0 5 rfl rfl) rfl rfl ⟨Nat.le_of_ble_eq_true rfl, Nat.le_of_ble_eq_true rfl⟩ ⟨Nat.le_of_ble_eq_true rfl, Nat.le_of_ble_eq_true rfl⟩ (rest := []) rfl rfl (Nat.le_of_ble_eq_true rfl)) (fun v3 x_4 hw => ?_)
          refine g_if_eq (pc := 35) (tgt := 46) C d_X_shelf_35 (by decide) (fun h6 => ?_) (fun h6 => ?_)
          · replace hw := hw.1 h6
            refine g_sub [0, 2, 3, 4] (lv' := [(0, .ref (a 0)), (2, .int x2), (3, .int x3), (4, .ref (a 44))]) rfl ?_
            exact j_X_shelf_46 C q a post hq  x_4 x2 x3 3 hw
          · replace hw := hw.2 h6
            refine g_aload (pc := 38) C d_X_shelf_38 4 rfl ?_
            refine g_iload_n (pc := 40) C d_X_shelf_40 3 rfl rfl ?_
            refine k_V (pc := 41) (co_V C (c_H_holdBarge (xl X) (xD X) (xt X) (xv X) (fun i => a (44 + i)) (X_shelves x_4 3) x3 _ hw) mw_H_holdBarge lk_X_251 d_X_shelf_41 [44] (cC_X_shelves3 (xt X) a a x_4) (by decide) (rec_w C 44 3 rfl rfl) rfl rfl ⟨Nat.le_of_ble_eq_true rfl, Nat.le_of_ble_eq_true rfl⟩ ⟨Nat.le_of_ble_eq_true rfl, Nat.le_of_ble_eq_true rfl⟩ (rest := []) rfl rfl (Nat.le_of_ble_eq_true rfl)) (fun c_5 => woX (xt X) a (X_shelves_ x_4 (va_up (X_shelves x_4) 3 c_5))) (cS_X_shelves3 (xt X) a a x_4) (fun c_5 hw => ?_)
            refine g_iconst (pc := 44) C (v := 1) d_X_shelf_44 (by decide) ?_
            exact g_iret (pc := 45) C q d_X_shelf_45 (hq _ _ hw)
      · replace hw := hw.1 h9
        refine g_aload (pc := 19) C d_X_shelf_19 4 rfl ?_
        refine k_V (pc := 21) (co_V C (c_H_clear (xl X) (xD X) (xt X) (xv X) (fun i => a (44 + i)) (X_shelves x_2 3) _ hw) mw_H_clear lk_X_248 d_X_shelf_21 [44] (cC_X_shelves3 (xt X) a a x_2) (by decide) (rec_w C 44 3 rfl rfl) rfl rfl ⟨Nat.le_of_ble_eq_true rfl, Nat.le_of_ble_eq_true rfl⟩ ⟨Nat.le_of_ble_eq_true rfl, Nat.le_of_ble_eq_true rfl⟩ (rest := []) rfl rfl (Nat.le_of_ble_eq_true rfl)) (fun c_8 => woX (xt X) a (X_shelves_ x_2 (va_up (X_shelves x_2) 3 c_8))) (cS_X_shelves3 (xt X) a a x_2) (fun c_8 hw => ?_)
        refine g_iconst (pc := 24) C (v := 1) d_X_shelf_24 (by decide) ?_
        exact g_iret (pc := 25) C q d_X_shelf_25 (hq _ _ hw)
set_option maxRecDepth 20000 in
theorem c_X_shelf (l : Launch) (D : va_G) (t : Nat → ClassId) (ev : Nat → Nat) (a : Nat → Nat) (x : XSt) (x1 : Int32) (x2 : Int32) (x3 : Int32) (post : Int32 → XSt → Prop) (hw : wp_X_shelf x x1 x2 x3 post) : Con l D t ev y_X_shelf b_X_shelf 6 ((some .int)) 1 (woX t a x) [.ref (a 0), .int x1, .int x2, .int x3] (qI (woX t a)  post) :=
  ConR.of (by decide +kernel) (Nat.le_of_ble_eq_true rfl) (fun X el eD et ee C q _ => by subst el; subst eD; subst et; subst ee; exact g_X_shelf C q a x x1 x2 x3 post (fun v c1 h => ⟨⟨v, c1, rfl, rfl, h⟩, rfl⟩) hw)
def wp_X_bargeOn (x : XSt) (x1 : Nat) (post : Int32 → XSt → Prop) : Prop :=
  ((x1 = 4) → (post (-1) x)) ∧ ((¬ x1 = 4) → (x1 < 4 ∧ ((((H_what (X_shelves x x1)) = 0) → (wp_X_isBarge x (H_barge (X_shelves x x1)) (fun v1 x_2 => ((v1 = 0) → (post (-1) x_2)) ∧ ((¬ v1 = 0) → (post (H_barge (X_shelves x_2 x1)) x_2))))) ∧ ((¬ (H_what (X_shelves x x1)) = 0) → (post (-1) x)))))
set_option maxRecDepth 20000 in
theorem g_X_bargeOn {X : GX} (C : GC X b_X_bargeOn R_X 2 (rmd 1)) {Qp : Option Value → va_W → Prop} (q : RC X ((some .int)) Qp 0 0) (a : Nat → Nat) (x : XSt) (x1 : Nat) (post : Int32 → XSt → Prop) (hq : ∀ v c1, post v c1 → Qp (some (.int v)) (woX (xt X) a c1)) (hw : wp_X_bargeOn x x1 post) : G X 0 0 (woX (xt X) a x) [(0, .ref (a 0)), (1, rfH a x1)] [] 0 := by
  unfold wp_X_bargeOn at hw
  by_cases h5 : x1 = 4
  · have hzh5 := hw.1 h5
    subst h5
    have hw := hzh5
    refine g_re (lv' := [(0, .ref (a 0)), (1, .null)]) (st' := []) rfl rfl ?_
    refine g_aload_nN (pc := 0) C d_X_bargeOn_0 1 rfl rfl ?_
    refine g_ifnullN (pc := 1) (tgt := 22) C d_X_bargeOn_1 (by decide) ?_
    refine g_iconst (pc := 22) C (v := (-1)) d_X_bargeOn_22 (by decide) ?_
    exact g_iret (pc := 23) C q d_X_bargeOn_23 (hq _ _ hw)
  · obtain ⟨h5, hzh5⟩ := hw.2 h5
    rcases q4 h5 with rfl | rfl | rfl | rfl
    · have hw := hzh5
      refine g_re (lv' := [(0, .ref (a 0)), (1, .ref (a 41))]) (st' := []) rfl rfl ?_
      refine g_aload_n (pc := 0) C d_X_bargeOn_0 1 rfl rfl ?_
      refine g_ifnull (pc := 1) C d_X_bargeOn_1 ?_
      refine g_aload_n (pc := 4) C d_X_bargeOn_4 1 rfl rfl ?_
      refine fX_shelves0_what (pc := 5) C lk_X_257 d_X_bargeOn_5 (v := H_what (X_shelves x 0)) rfl ?_
      refine g_if_ne (pc := 8) (tgt := 22) C d_X_bargeOn_8 (by decide) (fun h4 => ?_) (fun h4 => ?_)
      · replace hw := hw.2 h4
        refine g_iconst (pc := 22) C (v := (-1)) d_X_bargeOn_22 (by decide) ?_
        exact g_iret (pc := 23) C q d_X_bargeOn_23 (hq _ _ hw)
      · replace hw := hw.1 h4
        refine g_aload_n (pc := 11) C d_X_bargeOn_11 0 rfl rfl ?_
        refine g_aload_n (pc := 12) C d_X_bargeOn_12 1 rfl rfl ?_
        refine fX_shelves0_barge (pc := 13) C lk_X_289 d_X_bargeOn_13 (v := H_barge (X_shelves x 0)) rfl ?_
        refine k_Ia (pc := 16) (co_V C (c_X_isBarge (xl X) (xD X) (xt X) (xv X) a x (H_barge (X_shelves x 0)) _ hw) mw_X_isBarge lk_X_106 d_X_bargeOn_16 (List.range _) (all_C _) (all_nd _) (rec_w C 0 5 rfl rfl) rfl rfl ⟨Nat.le_of_ble_eq_true rfl, Nat.le_of_ble_eq_true rfl⟩ ⟨Nat.le_of_ble_eq_true rfl, Nat.le_of_ble_eq_true rfl⟩ (rest := []) rfl rfl (Nat.le_of_ble_eq_true rfl)) (fun v1 x_2 hw => ?_)
        refine g_if_ne (pc := 19) (tgt := 24) C d_X_bargeOn_19 (by decide) (fun h3 => ?_) (fun h3 => ?_)
        · replace hw := hw.2 h3
          refine g_aload_n (pc := 24) C d_X_bargeOn_24 1 rfl rfl ?_
          refine fX_shelves0_barge (pc := 25) C lk_X_289 d_X_bargeOn_25 (v := H_barge (X_shelves x_2 0)) rfl ?_
          exact g_iret (pc := 28) C q d_X_bargeOn_28 (hq _ _ hw)
        · replace hw := hw.1 h3
          refine g_iconst (pc := 22) C (v := (-1)) d_X_bargeOn_22 (by decide) ?_
          exact g_iret (pc := 23) C q d_X_bargeOn_23 (hq _ _ hw)
    · have hw := hzh5
      refine g_re (lv' := [(0, .ref (a 0)), (1, .ref (a 42))]) (st' := []) rfl rfl ?_
      refine g_aload_n (pc := 0) C d_X_bargeOn_0 1 rfl rfl ?_
      refine g_ifnull (pc := 1) C d_X_bargeOn_1 ?_
      refine g_aload_n (pc := 4) C d_X_bargeOn_4 1 rfl rfl ?_
      refine fX_shelves1_what (pc := 5) C lk_X_257 d_X_bargeOn_5 (v := H_what (X_shelves x 1)) rfl ?_
      refine g_if_ne (pc := 8) (tgt := 22) C d_X_bargeOn_8 (by decide) (fun h4 => ?_) (fun h4 => ?_)
      · replace hw := hw.2 h4
        refine g_iconst (pc := 22) C (v := (-1)) d_X_bargeOn_22 (by decide) ?_
        exact g_iret (pc := 23) C q d_X_bargeOn_23 (hq _ _ hw)
      · replace hw := hw.1 h4
        refine g_aload_n (pc := 11) C d_X_bargeOn_11 0 rfl rfl ?_
        refine g_aload_n (pc := 12) C d_X_bargeOn_12 1 rfl rfl ?_
        refine fX_shelves1_barge (pc := 13) C lk_X_289 d_X_bargeOn_13 (v := H_barge (X_shelves x 1)) rfl ?_
        refine k_Ia (pc := 16) (co_V C (c_X_isBarge (xl X) (xD X) (xt X) (xv X) a x (H_barge (X_shelves x 1)) _ hw) mw_X_isBarge lk_X_106 d_X_bargeOn_16 (List.range _) (all_C _) (all_nd _) (rec_w C 0 5 rfl rfl) rfl rfl ⟨Nat.le_of_ble_eq_true rfl, Nat.le_of_ble_eq_true rfl⟩ ⟨Nat.le_of_ble_eq_true rfl, Nat.le_of_ble_eq_true rfl⟩ (rest := []) rfl rfl (Nat.le_of_ble_eq_true rfl)) (fun v1 x_2 hw => ?_)
        refine g_if_ne (pc := 19) (tgt := 24) C d_X_bargeOn_19 (by decide) (fun h3 => ?_) (fun h3 => ?_)
        · replace hw := hw.2 h3
          refine g_aload_n (pc := 24) C d_X_bargeOn_24 1 rfl rfl ?_
          refine fX_shelves1_barge (pc := 25) C lk_X_289 d_X_bargeOn_25 (v := H_barge (X_shelves x_2 1)) rfl ?_
          exact g_iret (pc := 28) C q d_X_bargeOn_28 (hq _ _ hw)
        · replace hw := hw.1 h3
          refine g_iconst (pc := 22) C (v := (-1)) d_X_bargeOn_22 (by decide) ?_
          exact g_iret (pc := 23) C q d_X_bargeOn_23 (hq _ _ hw)
    · have hw := hzh5
      refine g_re (lv' := [(0, .ref (a 0)), (1, .ref (a 43))]) (st' := []) rfl rfl ?_
      refine g_aload_n (pc := 0) C d_X_bargeOn_0 1 rfl rfl ?_
      refine g_ifnull (pc := 1) C d_X_bargeOn_1 ?_
      refine g_aload_n (pc := 4) C d_X_bargeOn_4 1 rfl rfl ?_
      refine fX_shelves2_what (pc := 5) C lk_X_257 d_X_bargeOn_5 (v := H_what (X_shelves x 2)) rfl ?_
      refine g_if_ne (pc := 8) (tgt := 22) C d_X_bargeOn_8 (by decide) (fun h4 => ?_) (fun h4 => ?_)
      · replace hw := hw.2 h4
        refine g_iconst (pc := 22) C (v := (-1)) d_X_bargeOn_22 (by decide) ?_
        exact g_iret (pc := 23) C q d_X_bargeOn_23 (hq _ _ hw)
      · replace hw := hw.1 h4
        refine g_aload_n (pc := 11) C d_X_bargeOn_11 0 rfl rfl ?_
        refine g_aload_n (pc := 12) C d_X_bargeOn_12 1 rfl rfl ?_
        refine fX_shelves2_barge (pc := 13) C lk_X_289 d_X_bargeOn_13 (v := H_barge (X_shelves x 2)) rfl ?_
        refine k_Ia (pc := 16) (co_V C (c_X_isBarge (xl X) (xD X) (xt X) (xv X) a x (H_barge (X_shelves x 2)) _ hw) mw_X_isBarge lk_X_106 d_X_bargeOn_16 (List.range _) (all_C _) (all_nd _) (rec_w C 0 5 rfl rfl) rfl rfl ⟨Nat.le_of_ble_eq_true rfl, Nat.le_of_ble_eq_true rfl⟩ ⟨Nat.le_of_ble_eq_true rfl, Nat.le_of_ble_eq_true rfl⟩ (rest := []) rfl rfl (Nat.le_of_ble_eq_true rfl)) (fun v1 x_2 hw => ?_)
        refine g_if_ne (pc := 19) (tgt := 24) C d_X_bargeOn_19 (by decide) (fun h3 => ?_) (fun h3 => ?_)
        · replace hw := hw.2 h3
          refine g_aload_n (pc := 24) C d_X_bargeOn_24 1 rfl rfl ?_
          refine fX_shelves2_barge (pc := 25) C lk_X_289 d_X_bargeOn_25 (v := H_barge (X_shelves x_2 2)) rfl ?_
          exact g_iret (pc := 28) C q d_X_bargeOn_28 (hq _ _ hw)
        · replace hw := hw.1 h3
          refine g_iconst (pc := 22) C (v := (-1)) d_X_bargeOn_22 (by decide) ?_
          exact g_iret (pc := 23) C q d_X_bargeOn_23 (hq _ _ hw)
    · have hw := hzh5
      refine g_re (lv' := [(0, .ref (a 0)), (1, .ref (a 44))]) (st' := []) rfl rfl ?_
      refine g_aload_n (pc := 0) C d_X_bargeOn_0 1 rfl rfl ?_
      refine g_ifnull (pc := 1) C d_X_bargeOn_1 ?_
      refine g_aload_n (pc := 4) C d_X_bargeOn_4 1 rfl rfl ?_
      refine fX_shelves3_what (pc := 5) C lk_X_257 d_X_bargeOn_5 (v := H_what (X_shelves x 3)) rfl ?_
      refine g_if_ne (pc := 8) (tgt := 22) C d_X_bargeOn_8 (by decide) (fun h4 => ?_) (fun h4 => ?_)
      · replace hw := hw.2 h4
        refine g_iconst (pc := 22) C (v := (-1)) d_X_bargeOn_22 (by decide) ?_
        exact g_iret (pc := 23) C q d_X_bargeOn_23 (hq _ _ hw)
      · replace hw := hw.1 h4
        refine g_aload_n (pc := 11) C d_X_bargeOn_11 0 rfl rfl ?_
        refine g_aload_n (pc := 12) C d_X_bargeOn_12 1 rfl rfl ?_
        refine fX_shelves3_barge (pc := 13) C lk_X_289 d_X_bargeOn_13 (v := H_barge (X_shelves x 3)) rfl ?_
        refine k_Ia (pc := 16) (co_V C (c_X_isBarge (xl X) (xD X) (xt X) (xv X) a x (H_barge (X_shelves x 3)) _ hw) mw_X_isBarge lk_X_106 d_X_bargeOn_16 (List.range _) (all_C _) (all_nd _) (rec_w C 0 5 rfl rfl) rfl rfl ⟨Nat.le_of_ble_eq_true rfl, Nat.le_of_ble_eq_true rfl⟩ ⟨Nat.le_of_ble_eq_true rfl, Nat.le_of_ble_eq_true rfl⟩ (rest := []) rfl rfl (Nat.le_of_ble_eq_true rfl)) (fun v1 x_2 hw => ?_)
        refine g_if_ne (pc := 19) (tgt := 24) C d_X_bargeOn_19 (by decide) (fun h3 => ?_) (fun h3 => ?_)
        · replace hw := hw.2 h3
          refine g_aload_n (pc := 24) C d_X_bargeOn_24 1 rfl rfl ?_
          refine fX_shelves3_barge (pc := 25) C lk_X_289 d_X_bargeOn_25 (v := H_barge (X_shelves x_2 3)) rfl ?_
          exact g_iret (pc := 28) C q d_X_bargeOn_28 (hq _ _ hw)
        · replace hw := hw.1 h3
          refine g_iconst (pc := 22) C (v := (-1)) d_X_bargeOn_22 (by decide) ?_
          exact g_iret (pc := 23) C q d_X_bargeOn_23 (hq _ _ hw)
set_option maxRecDepth 20000 in
theorem c_X_bargeOn (l : Launch) (D : va_G) (t : Nat → ClassId) (ev : Nat → Nat) (a : Nat → Nat) (x : XSt) (x1 : Nat) (post : Int32 → XSt → Prop) (hw : wp_X_bargeOn x x1 post) : Con l D t ev y_X_bargeOn b_X_bargeOn 2 ((some .int)) 1 (woX t a x) [.ref (a 0), rfH a x1] (qI (woX t a)  post) :=
  ConR.of (by decide +kernel) (by rcases rfH_or a x1 with e | ⟨y, e⟩ <;> rw [e] <;> exact Nat.le_of_ble_eq_true rfl) (fun X el eD et ee C q _ => by subst el; subst eD; subst et; subst ee; have e0 : lv_args 0 [.ref (a 0), rfH a x1] = [(0, .ref (a 0)), (1, rfH a x1)] := (by rcases rfH_or a x1 with e | ⟨y, e⟩ <;> rw [e] <;> rfl); rw [e0]; exact g_X_bargeOn C q a x x1 post (fun v c1 h => ⟨⟨v, c1, rfl, rfl, h⟩, rfl⟩) hw)
def w_X_isUnder_4  (post : Int32 → Prop)  : Nat → Int32 → Int32 → Int32 → Prop
  | 0, _, _, _ => False
  | n + 1, x1, x2, x3 =>
    ((6 ≤ x3) → (post 0 )) ∧ ((¬ 6 ≤ x3) → (wp_X_isKind x2 (fun v1 => ((v1 = 0) → (post 0 )) ∧ ((¬ v1 = 0) → (((x2 = x1) → (post 1 )) ∧ ((¬ x2 = x1) → (vp_in x2 6 ∧ (∀ y3 : Int32, y3 = x3 + 1 → (w_X_isUnder_4  post  n x1 (tbAbove.getD x2.toNatClampNeg 0) y3)))))))))
set_option maxRecDepth 20000 in
theorem j_X_isUnder_4 {X : GX} (C : GC X b_X_isUnder R_X 4 (rmd 1)) {Qp : Option Value → va_W → Prop} (q : RC X ((some .boolean)) Qp 0 0)    (post : Int32 → Prop) (hq : ∀ v, post v → Qp (some (.int v)) []) : ∀ (n : Nat) (x1 : Int32) (x2 : Int32) (x3 : Int32), w_X_isUnder_4  post  n x1 x2 x3 → G X 0 0 ([]) [(1, .int x1), (2, .int x2), (3, .int x3)] [] 4 := by
  intro n
  induction n with
  | zero => intro x1 x2 x3 hw; exact hw.elim
  | succ n ih =>
    intro x1 x2 x3 hw
    rw [w_X_isUnder_4] at hw
    refine g_iload_n (pc := 4) C d_X_isUnder_4 2 rfl rfl ?_
    refine g_bipush (pc := 5) C (v := 6) d_X_isUnder_5 (by decide) ?_
    refine g_icmp_ge (pc := 7) (tgt := 36) C d_X_isUnder_7 (by decide) (fun h6 => ?_) (fun h6 => ?_)
    · replace hw := hw.1 h6
      refine g_iconst (pc := 36) C (v := 0) d_X_isUnder_36 (by decide) ?_
      exact g_zret (pc := 37) C q d_X_isUnder_37 (by decide) (hq _ hw)
    · replace hw := hw.2 h6
      refine g_iload_n (pc := 10) C d_X_isUnder_10 1 rfl rfl ?_
      refine k_I0 (pc := 11) (co_S C (c_X_isKind (xl X) (xD X) (xt X) (xv X) x2 _ hw) mw_X_isKind lk_X_93 d_X_isUnder_11 [] rfl (by decide)  rfl rfl ⟨Nat.le_of_ble_eq_true rfl, Nat.le_of_ble_eq_true rfl⟩ ⟨Nat.le_of_ble_eq_true rfl, Nat.le_of_ble_eq_true rfl⟩ (rest := []) rfl rfl (Nat.le_of_ble_eq_true rfl)) (fun v1 hw => ?_)
      refine g_if_eq (pc := 14) (tgt := 36) C d_X_isUnder_14 (by decide) (fun h5 => ?_) (fun h5 => ?_)
      · replace hw := hw.1 h5
        refine g_iconst (pc := 36) C (v := 0) d_X_isUnder_36 (by decide) ?_
        exact g_zret (pc := 37) C q d_X_isUnder_37 (by decide) (hq _ hw)
      · replace hw := hw.2 h5
        refine g_iload_n (pc := 17) C d_X_isUnder_17 1 rfl rfl ?_
        refine g_iload_n (pc := 18) C d_X_isUnder_18 0 rfl rfl ?_
        refine g_icmp_ne (pc := 19) (tgt := 24) C d_X_isUnder_19 (by decide) (fun h4 => ?_) (fun h4 => ?_)
        · replace hw := hw.2 h4
          refine g_gets (pc := 24) C C.2.2.2.2.2.2.2.1.2.2.1 lk_X_286 d_X_isUnder_24 ?_
          refine g_iload_n (pc := 27) C d_X_isUnder_27 1 rfl rfl ?_
          obtain ⟨h2, hw⟩ := hw
          refine g_tload (pc := 28) C C.2.2.2.2.2.2.2.1.2.2.1 d_X_isUnder_28 h2 ?_
          refine g_istore_n (pc := 29) C d_X_isUnder_29 rfl (Nat.le_of_ble_eq_true rfl) (lv' := [(1, .int x1), (2, .int (tbAbove.getD x2.toNatClampNeg 0)), (3, .int x3)]) rfl ?_
          obtain ⟨y3, ey3⟩ : ∃ w, w = x3 + 1 := ⟨_, rfl⟩
          replace hw := hw y3 ey3
          refine g_iinc (pc := 30) C d_X_isUnder_30 2 rfl (v := y3) (by rw [ey3]; rfl) (Nat.le_of_ble_eq_true rfl) (lv' := [(1, .int x1), (2, .int (tbAbove.getD x2.toNatClampNeg 0)), (3, .int y3)]) rfl ?_
          refine g_goto (pc := 33) (tgt := 4) C d_X_isUnder_33 (by decide) ?_
          exact ih x1 (tbAbove.getD x2.toNatClampNeg 0) y3 hw
        · replace hw := hw.1 h4
          refine g_iconst (pc := 22) C (v := 1) d_X_isUnder_22 (by decide) ?_
          exact g_zret (pc := 23) C q d_X_isUnder_23 (by decide) (hq _ hw)
def wp_X_isUnder (x0 : Int32) (x1 : Int32) (post : Int32 → Prop) : Prop :=
  w_X_isUnder_4  post  2000 x1 x0 0
set_option maxRecDepth 20000 in
theorem g_X_isUnder {X : GX} (C : GC X b_X_isUnder R_X 4 (rmd 1)) {Qp : Option Value → va_W → Prop} (q : RC X ((some .boolean)) Qp 0 0) (x0 : Int32) (x1 : Int32) (post : Int32 → Prop) (hq : ∀ v, post v → Qp (some (.int v)) []) (hw : wp_X_isUnder x0 x1 post) : G X 0 0 ([]) [(0, .int x0), (1, .int x1)] [] 0 := by
  unfold wp_X_isUnder at hw
  refine g_iload_n (pc := 0) C d_X_isUnder_0 0 rfl rfl ?_
  refine g_istore_n (pc := 1) C d_X_isUnder_1 rfl (Nat.le_of_ble_eq_true rfl) (lv' := [(0, .int x0), (1, .int x1), (2, .int x0)]) rfl ?_
  refine g_iconst (pc := 2) C (v := 0) d_X_isUnder_2 (by decide) ?_
  refine g_istore_n (pc := 3) C d_X_isUnder_3 rfl (Nat.le_of_ble_eq_true rfl) (lv' := [(0, .int x0), (1, .int x1), (2, .int x0), (3, .int 0)]) rfl ?_
  refine g_sub [1, 2, 3] (lv' := [(1, .int x1), (2, .int x0), (3, .int 0)]) rfl ?_
  exact j_X_isUnder_4 C q  post hq  2000 x1 x0 0 hw
set_option maxRecDepth 20000 in
theorem c_X_isUnder (l : Launch) (D : va_G) (t : Nat → ClassId) (ev : Nat → Nat) (x0 : Int32) (x1 : Int32) (post : Int32 → Prop) (hw : wp_X_isUnder x0 x1 post) : Con l D t ev y_X_isUnder b_X_isUnder 4 ((some .boolean)) 1 ([]) [.int x0, .int x1] (qI (fun _ : Unit => [])  (fun v _ => post v)) :=
  ConR.of (by decide +kernel) (Nat.le_of_ble_eq_true rfl) (fun X el eD et ee C q _ => by subst el; subst eD; subst et; subst ee; exact g_X_isUnder C q x0 x1 post (fun v h => ⟨⟨v, (), rfl, rfl, h⟩, rfl⟩) hw)
def w_X_taken_43  (post : Int32 → XSt → Prop)  (x : XSt) (x2 : Int32) (x3 : Nat) (x4 : Int32) : Prop :=
  ((x3 = 4) → (False)) ∧ ((¬ x3 = 4) → (x3 < 4 ∧ ((((H_what (X_shelves x x3)) = 1) → (((x4 = 0) → (post (-13) x)) ∧ ((¬ x4 = 0) → ((((H_rowSort (X_shelves x x3)) = (x2 - 10)) → (post (H_rowSize (X_shelves x x3)) x)) ∧ ((¬ (H_rowSort (X_shelves x x3)) = (x2 - 10)) → (post (-13) x)))))) ∧ ((¬ (H_what (X_shelves x x3)) = 1) → (wp_X_bargeOn x x3 (fun v4 x_5 => ((0 ≤ v4) → (((x4 = 0) → (vp_in v4 8 ∧ (wp_X_isUnder ((C_kind (X_now x_5)) v4.toNatClampNeg) x2 (fun v7 => ((v7 = 0) → (post (-13) x_5)) ∧ ((¬ v7 = 0) → (post v4 x_5)))))) ∧ ((¬ x4 = 0) → (post (-13) x_5)))) ∧ ((¬ 0 ≤ v4) → (post (-11) x_5))))))))
set_option maxRecDepth 20000 in
theorem j_X_taken_43 {X : GX} (C : GC X b_X_taken R_X 6 (rmd 2)) {Qp : Option Value → va_W → Prop} (q : RC X ((some .int)) Qp 0 0) (a : Nat → Nat)   (post : Int32 → XSt → Prop) (hq : ∀ v c1, post v c1 → Qp (some (.int v)) (woX (xt X) a c1)) : ∀ (x : XSt) (x2 : Int32) (x3 : Nat) (x4 : Int32), w_X_taken_43  post  x x2 x3 x4 → G X 0 0 (woX (xt X) a x) [(0, .ref (a 0)), (2, .int x2), (3, rfH a x3), (4, .int x4)] [] 43 := by
  intro x x2 x3 x4 hw
  unfold w_X_taken_43 at hw
  by_cases h14 : x3 = 4
  · have hzh14 := hw.1 h14
    subst h14
    have hw := hzh14
    refine g_re (lv' := [(0, .ref (a 0)), (2, .int x2), (3, .null), (4, .int x4)]) (st' := []) rfl rfl ?_
    refine g_aload_nN (pc := 43) C d_X_taken_43 2 rfl rfl ?_
    exact hw.elim
  · obtain ⟨h14, hzh14⟩ := hw.2 h14
    rcases q4 h14 with rfl | rfl | rfl | rfl
    · have hw := hzh14
      refine g_re (lv' := [(0, .ref (a 0)), (2, .int x2), (3, .ref (a 41)), (4, .int x4)]) (st' := []) rfl rfl ?_
      refine g_aload_n (pc := 43) C d_X_taken_43 2 rfl rfl ?_
      refine fX_shelves0_what (pc := 44) C lk_X_257 d_X_taken_44 (v := H_what (X_shelves x 0)) rfl ?_
      refine g_iconst (pc := 47) C (v := 1) d_X_taken_47 (by decide) ?_
      refine g_icmp_ne (pc := 48) (tgt := 77) C d_X_taken_48 (by decide) (fun h13 => ?_) (fun h13 => ?_)
      · replace hw := hw.2 h13
        refine g_aload_n (pc := 77) C d_X_taken_77 0 rfl rfl ?_
        refine g_aload_n (pc := 78) C d_X_taken_78 2 rfl rfl ?_
        refine k_Ia (pc := 79) (co_V C (c_X_bargeOn (xl X) (xD X) (xt X) (xv X) a x 0 _ hw) mw_X_bargeOn lk_X_266 d_X_taken_79 (List.range _) (all_C _) (all_nd _) (rec_w C 0 5 rfl rfl) rfl rfl ⟨Nat.le_of_ble_eq_true rfl, Nat.le_of_ble_eq_true rfl⟩ ⟨Nat.le_of_ble_eq_true rfl, Nat.le_of_ble_eq_true rfl⟩ (rest := []) rfl rfl (Nat.le_of_ble_eq_true rfl)) (fun v4 x_5 hw => ?_)
        refine g_istore (pc := 82) C d_X_taken_82 (Nat.le_of_ble_eq_true rfl) (lv' := [(0, .ref (a 0)), (2, .int x2), (3, .ref (a 41)), (4, .int x4), (5, .int v4)]) rfl ?_
        refine g_iload (pc := 84) C d_X_taken_84 4 rfl ?_
        refine g_if_ge (pc := 86) (tgt := 92) C d_X_taken_86 (by decide) (fun h10 => ?_) (fun h10 => ?_)
        · replace hw := hw.1 h10
          refine g_iload (pc := 92) C d_X_taken_92 3 rfl ?_
          refine g_if_ne (pc := 94) (tgt := 119) C d_X_taken_94 (by decide) (fun h9 => ?_) (fun h9 => ?_)
          · replace hw := hw.2 h9
            refine g_bipush (pc := 119) C (v := (-13)) d_X_taken_119 (by decide) ?_
            exact g_iret (pc := 121) C q d_X_taken_121 (hq _ _ hw)
          · replace hw := hw.1 h9
            refine g_aload_n (pc := 97) C d_X_taken_97 0 rfl rfl ?_
            refine fX_now (pc := 98) C lk_X_10 d_X_taken_98 ?_
            refine fX_now_kind (pc := 101) C lk_X_109 d_X_taken_101 ?_
            refine g_iload (pc := 104) C d_X_taken_104 4 rfl ?_
            obtain ⟨h6, hw⟩ := hw
            refine lX_now_kind (pc := 106) C d_X_taken_106 (f := C_kind (X_now x_5)) rfl (N0 := v4.toNatClampNeg) rfl h6 ?_
            refine g_iload_n (pc := 107) C d_X_taken_107 1 rfl rfl ?_
            refine k_I0 (pc := 108) (co_S C (c_X_isUnder (xl X) (xD X) (xt X) (xv X) ((C_kind (X_now x_5)) v4.toNatClampNeg) x2 _ hw) mw_X_isUnder lk_X_270 d_X_taken_108 [] rfl (by decide)  rfl rfl ⟨Nat.le_of_ble_eq_true rfl, Nat.le_of_ble_eq_true rfl⟩ ⟨Nat.le_of_ble_eq_true rfl, Nat.le_of_ble_eq_true rfl⟩ (rest := []) rfl rfl (Nat.le_of_ble_eq_true rfl)) (fun v7 hw => ?_)
            refine g_if_eq (pc := 111) (tgt := 119) C d_X_taken_111 (by decide) (fun h8 => ?_) (fun h8 => ?_)
            · replace hw := hw.1 h8
              refine g_bipush (pc := 119) C (v := (-13)) d_X_taken_119 (by decide) ?_
              exact g_iret (pc := 121) C q d_X_taken_121 (hq _ _ hw)
            · replace hw := hw.2 h8
              refine g_iload (pc := 114) C d_X_taken_114 4 rfl ?_
              refine g_goto (pc := 116) (tgt := 121) C d_X_taken_116 (by decide) ?_
              exact g_iret (pc := 121) C q d_X_taken_121 (hq _ _ hw)
        · replace hw := hw.2 h10
          refine g_bipush (pc := 89) C (v := (-11)) d_X_taken_89 (by decide) ?_
          exact g_iret (pc := 91) C q d_X_taken_91 (hq _ _ hw)
      · replace hw := hw.1 h13
        refine g_iload (pc := 51) C d_X_taken_51 3 rfl ?_
        refine g_if_eq (pc := 53) (tgt := 74) C d_X_taken_53 (by decide) (fun h12 => ?_) (fun h12 => ?_)
        · replace hw := hw.1 h12
          refine g_bipush (pc := 74) C (v := (-13)) d_X_taken_74 (by decide) ?_
          exact g_iret (pc := 76) C q d_X_taken_76 (hq _ _ hw)
        · replace hw := hw.2 h12
          refine g_aload_n (pc := 56) C d_X_taken_56 2 rfl rfl ?_
          refine fX_shelves0_rowSort (pc := 57) C lk_X_260 d_X_taken_57 (v := H_rowSort (X_shelves x 0)) rfl ?_
          refine g_iload_n (pc := 60) C d_X_taken_60 1 rfl rfl ?_
          refine g_bipush (pc := 61) C (v := 10) d_X_taken_61 (by decide) ?_
          refine g_isub (pc := 63) C d_X_taken_63 ?_
          refine g_icmp_ne (pc := 64) (tgt := 74) C d_X_taken_64 (by decide) (fun h11 => ?_) (fun h11 => ?_)
          · replace hw := hw.2 h11
            refine g_bipush (pc := 74) C (v := (-13)) d_X_taken_74 (by decide) ?_
            exact g_iret (pc := 76) C q d_X_taken_76 (hq _ _ hw)
          · replace hw := hw.1 h11
            refine g_aload_n (pc := 67) C d_X_taken_67 2 rfl rfl ?_
            refine fX_shelves0_rowSize (pc := 68) C lk_X_263 d_X_taken_68 (v := H_rowSize (X_shelves x 0)) rfl ?_
            refine g_goto (pc := 71) (tgt := 76) C d_X_taken_71 (by decide) ?_
            exact g_iret (pc := 76) C q d_X_taken_76 (hq _ _ hw)
    · have hw := hzh14
      refine g_re (lv' := [(0, .ref (a 0)), (2, .int x2), (3, .ref (a 42)), (4, .int x4)]) (st' := []) rfl rfl ?_
      refine g_aload_n (pc := 43) C d_X_taken_43 2 rfl rfl ?_
      refine fX_shelves1_what (pc := 44) C lk_X_257 d_X_taken_44 (v := H_what (X_shelves x 1)) rfl ?_
      refine g_iconst (pc := 47) C (v := 1) d_X_taken_47 (by decide) ?_
      refine g_icmp_ne (pc := 48) (tgt := 77) C d_X_taken_48 (by decide) (fun h13 => ?_) (fun h13 => ?_)
      · replace hw := hw.2 h13
        refine g_aload_n (pc := 77) C d_X_taken_77 0 rfl rfl ?_
        refine g_aload_n (pc := 78) C d_X_taken_78 2 rfl rfl ?_
        refine k_Ia (pc := 79) (co_V C (c_X_bargeOn (xl X) (xD X) (xt X) (xv X) a x 1 _ hw) mw_X_bargeOn lk_X_266 d_X_taken_79 (List.range _) (all_C _) (all_nd _) (rec_w C 0 5 rfl rfl) rfl rfl ⟨Nat.le_of_ble_eq_true rfl, Nat.le_of_ble_eq_true rfl⟩ ⟨Nat.le_of_ble_eq_true rfl, Nat.le_of_ble_eq_true rfl⟩ (rest := []) rfl rfl (Nat.le_of_ble_eq_true rfl)) (fun v4 x_5 hw => ?_)
        refine g_istore (pc := 82) C d_X_taken_82 (Nat.le_of_ble_eq_true rfl) (lv' := [(0, .ref (a 0)), (2, .int x2), (3, .ref (a 42)), (4, .int x4), (5, .int v4)]) rfl ?_
        refine g_iload (pc := 84) C d_X_taken_84 4 rfl ?_
        refine g_if_ge (pc := 86) (tgt := 92) C d_X_taken_86 (by decide) (fun h10 => ?_) (fun h10 => ?_)
        · replace hw := hw.1 h10
          refine g_iload (pc := 92) C d_X_taken_92 3 rfl ?_
          refine g_if_ne (pc := 94) (tgt := 119) C d_X_taken_94 (by decide) (fun h9 => ?_) (fun h9 => ?_)
          · replace hw := hw.2 h9
            refine g_bipush (pc := 119) C (v := (-13)) d_X_taken_119 (by decide) ?_
            exact g_iret (pc := 121) C q d_X_taken_121 (hq _ _ hw)
          · replace hw := hw.1 h9
            refine g_aload_n (pc := 97) C d_X_taken_97 0 rfl rfl ?_
            refine fX_now (pc := 98) C lk_X_10 d_X_taken_98 ?_
            refine fX_now_kind (pc := 101) C lk_X_109 d_X_taken_101 ?_
            refine g_iload (pc := 104) C d_X_taken_104 4 rfl ?_
            obtain ⟨h6, hw⟩ := hw
            refine lX_now_kind (pc := 106) C d_X_taken_106 (f := C_kind (X_now x_5)) rfl (N0 := v4.toNatClampNeg) rfl h6 ?_
            refine g_iload_n (pc := 107) C d_X_taken_107 1 rfl rfl ?_
            refine k_I0 (pc := 108) (co_S C (c_X_isUnder (xl X) (xD X) (xt X) (xv X) ((C_kind (X_now x_5)) v4.toNatClampNeg) x2 _ hw) mw_X_isUnder lk_X_270 d_X_taken_108 [] rfl (by decide)  rfl rfl ⟨Nat.le_of_ble_eq_true rfl, Nat.le_of_ble_eq_true rfl⟩ ⟨Nat.le_of_ble_eq_true rfl, Nat.le_of_ble_eq_true rfl⟩ (rest := []) rfl rfl (Nat.le_of_ble_eq_true rfl)) (fun v7 hw => ?_)
            refine g_if_eq (pc := 111) (tgt := 119) C d_X_taken_111 (by decide) (fun h8 => ?_) (fun h8 => ?_)
            · replace hw := hw.1 h8
              refine g_bipush (pc := 119) C (v := (-13)) d_X_taken_119 (by decide) ?_
              exact g_iret (pc := 121) C q d_X_taken_121 (hq _ _ hw)
            · replace hw := hw.2 h8
              refine g_iload (pc := 114) C d_X_taken_114 4 rfl ?_
              refine g_goto (pc := 116) (tgt := 121) C d_X_taken_116 (by decide) ?_
              exact g_iret (pc := 121) C q d_X_taken_121 (hq _ _ hw)
        · replace hw := hw.2 h10
          refine g_bipush (pc := 89) C (v := (-11)) d_X_taken_89 (by decide) ?_
          exact g_iret (pc := 91) C q d_X_taken_91 (hq _ _ hw)
      · replace hw := hw.1 h13
        refine g_iload (pc := 51) C d_X_taken_51 3 rfl ?_
        refine g_if_eq (pc := 53) (tgt := 74) C d_X_taken_53 (by decide) (fun h12 => ?_) (fun h12 => ?_)
        · replace hw := hw.1 h12
          refine g_bipush (pc := 74) C (v := (-13)) d_X_taken_74 (by decide) ?_
          exact g_iret (pc := 76) C q d_X_taken_76 (hq _ _ hw)
        · replace hw := hw.2 h12
          refine g_aload_n (pc := 56) C d_X_taken_56 2 rfl rfl ?_
          refine fX_shelves1_rowSort (pc := 57) C lk_X_260 d_X_taken_57 (v := H_rowSort (X_shelves x 1)) rfl ?_
          refine g_iload_n (pc := 60) C d_X_taken_60 1 rfl rfl ?_
          refine g_bipush (pc := 61) C (v := 10) d_X_taken_61 (by decide) ?_
          refine g_isub (pc := 63) C d_X_taken_63 ?_
          refine g_icmp_ne (pc := 64) (tgt := 74) C d_X_taken_64 (by decide) (fun h11 => ?_) (fun h11 => ?_)
          · replace hw := hw.2 h11
            refine g_bipush (pc := 74) C (v := (-13)) d_X_taken_74 (by decide) ?_
            exact g_iret (pc := 76) C q d_X_taken_76 (hq _ _ hw)
          · replace hw := hw.1 h11
            refine g_aload_n (pc := 67) C d_X_taken_67 2 rfl rfl ?_
            refine fX_shelves1_rowSize (pc := 68) C lk_X_263 d_X_taken_68 (v := H_rowSize (X_shelves x 1)) rfl ?_
            refine g_goto (pc := 71) (tgt := 76) C d_X_taken_71 (by decide) ?_
            exact g_iret (pc := 76) C q d_X_taken_76 (hq _ _ hw)
    · have hw := hzh14
      refine g_re (lv' := [(0, .ref (a 0)), (2, .int x2), (3, .ref (a 43)), (4, .int x4)]) (st' := []) rfl rfl ?_
      refine g_aload_n (pc := 43) C d_X_taken_43 2 rfl rfl ?_
      refine fX_shelves2_what (pc := 44) C lk_X_257 d_X_taken_44 (v := H_what (X_shelves x 2)) rfl ?_
      refine g_iconst (pc := 47) C (v := 1) d_X_taken_47 (by decide) ?_
      refine g_icmp_ne (pc := 48) (tgt := 77) C d_X_taken_48 (by decide) (fun h13 => ?_) (fun h13 => ?_)
      · replace hw := hw.2 h13
        refine g_aload_n (pc := 77) C d_X_taken_77 0 rfl rfl ?_
        refine g_aload_n (pc := 78) C d_X_taken_78 2 rfl rfl ?_
        refine k_Ia (pc := 79) (co_V C (c_X_bargeOn (xl X) (xD X) (xt X) (xv X) a x 2 _ hw) mw_X_bargeOn lk_X_266 d_X_taken_79 (List.range _) (all_C _) (all_nd _) (rec_w C 0 5 rfl rfl) rfl rfl ⟨Nat.le_of_ble_eq_true rfl, Nat.le_of_ble_eq_true rfl⟩ ⟨Nat.le_of_ble_eq_true rfl, Nat.le_of_ble_eq_true rfl⟩ (rest := []) rfl rfl (Nat.le_of_ble_eq_true rfl)) (fun v4 x_5 hw => ?_)
        refine g_istore (pc := 82) C d_X_taken_82 (Nat.le_of_ble_eq_true rfl) (lv' := [(0, .ref (a 0)), (2, .int x2), (3, .ref (a 43)), (4, .int x4), (5, .int v4)]) rfl ?_
        refine g_iload (pc := 84) C d_X_taken_84 4 rfl ?_
        refine g_if_ge (pc := 86) (tgt := 92) C d_X_taken_86 (by decide) (fun h10 => ?_) (fun h10 => ?_)
        · replace hw := hw.1 h10
          refine g_iload (pc := 92) C d_X_taken_92 3 rfl ?_
          refine g_if_ne (pc := 94) (tgt := 119) C d_X_taken_94 (by decide) (fun h9 => ?_) (fun h9 => ?_)
          · replace hw := hw.2 h9
            refine g_bipush (pc := 119) C (v := (-13)) d_X_taken_119 (by decide) ?_
            exact g_iret (pc := 121) C q d_X_taken_121 (hq _ _ hw)
          · replace hw := hw.1 h9
            refine g_aload_n (pc := 97) C d_X_taken_97 0 rfl rfl ?_
            refine fX_now (pc := 98) C lk_X_10 d_X_taken_98 ?_
            refine fX_now_kind (pc := 101) C lk_X_109 d_X_taken_101 ?_
            refine g_iload (pc := 104) C d_X_taken_104 4 rfl ?_
            obtain ⟨h6, hw⟩ := hw
            refine lX_now_kind (pc := 106) C d_X_taken_106 (f := C_kind (X_now x_5)) rfl (N0 := v4.toNatClampNeg) rfl h6 ?_
            refine g_iload_n (pc := 107) C d_X_taken_107 1 rfl rfl ?_
            refine k_I0 (pc := 108) (co_S C (c_X_isUnder (xl X) (xD X) (xt X) (xv X) ((C_kind (X_now x_5)) v4.toNatClampNeg) x2 _ hw) mw_X_isUnder lk_X_270 d_X_taken_108 [] rfl (by decide)  rfl rfl ⟨Nat.le_of_ble_eq_true rfl, Nat.le_of_ble_eq_true rfl⟩ ⟨Nat.le_of_ble_eq_true rfl, Nat.le_of_ble_eq_true rfl⟩ (rest := []) rfl rfl (Nat.le_of_ble_eq_true rfl)) (fun v7 hw => ?_)
            refine g_if_eq (pc := 111) (tgt := 119) C d_X_taken_111 (by decide) (fun h8 => ?_) (fun h8 => ?_)
            · replace hw := hw.1 h8
              refine g_bipush (pc := 119) C (v := (-13)) d_X_taken_119 (by decide) ?_
              exact g_iret (pc := 121) C q d_X_taken_121 (hq _ _ hw)
            · replace hw := hw.2 h8
              refine g_iload (pc := 114) C d_X_taken_114 4 rfl ?_
              refine g_goto (pc := 116) (tgt := 121) C d_X_taken_116 (by decide) ?_
              exact g_iret (pc := 121) C q d_X_taken_121 (hq _ _ hw)
        · replace hw := hw.2 h10
          refine g_bipush (pc := 89) C (v := (-11)) d_X_taken_89 (by decide) ?_
          exact g_iret (pc := 91) C q d_X_taken_91 (hq _ _ hw)
      · replace hw := hw.1 h13
        refine g_iload (pc := 51) C d_X_taken_51 3 rfl ?_
        refine g_if_eq (pc := 53) (tgt := 74) C d_X_taken_53 (by decide) (fun h12 => ?_) (fun h12 => ?_)
        · replace hw := hw.1 h12
          refine g_bipush (pc := 74) C (v := (-13)) d_X_taken_74 (by decide) ?_
          exact g_iret (pc := 76) C q d_X_taken_76 (hq _ _ hw)
        · replace hw := hw.2 h12
          refine g_aload_n (pc := 56) C d_X_taken_56 2 rfl rfl ?_
          refine fX_shelves2_rowSort (pc := 57) C lk_X_260 d_X_taken_57 (v := H_rowSort (X_shelves x 2)) rfl ?_
          refine g_iload_n (pc := 60) C d_X_taken_60 1 rfl rfl ?_
          refine g_bipush (pc := 61) C (v := 10) d_X_taken_61 (by decide) ?_
          refine g_isub (pc := 63) C d_X_taken_63 ?_
          refine g_icmp_ne (pc := 64) (tgt := 74) C d_X_taken_64 (by decide) (fun h11 => ?_) (fun h11 => ?_)
          · replace hw := hw.2 h11
            refine g_bipush (pc := 74) C (v := (-13)) d_X_taken_74 (by decide) ?_
            exact g_iret (pc := 76) C q d_X_taken_76 (hq _ _ hw)
          · replace hw := hw.1 h11
            refine g_aload_n (pc := 67) C d_X_taken_67 2 rfl rfl ?_
            refine fX_shelves2_rowSize (pc := 68) C lk_X_263 d_X_taken_68 (v := H_rowSize (X_shelves x 2)) rfl ?_
            refine g_goto (pc := 71) (tgt := 76) C d_X_taken_71 (by decide) ?_
            exact g_iret (pc := 76) C q d_X_taken_76 (hq _ _ hw)
    · have hw := hzh14
      refine g_re (lv' := [(0, .ref (a 0)), (2, .int x2), (3, .ref (a 44)), (4, .int x4)]) (st' := []) rfl rfl ?_
      refine g_aload_n (pc := 43) C d_X_taken_43 2 rfl rfl ?_
      refine fX_shelves3_what (pc := 44) C lk_X_257 d_X_taken_44 (v := H_what (X_shelves x 3)) rfl ?_
      refine g_iconst (pc := 47) C (v := 1) d_X_taken_47 (by decide) ?_
      refine g_icmp_ne (pc := 48) (tgt := 77) C d_X_taken_48 (by decide) (fun h13 => ?_) (fun h13 => ?_)
      · replace hw := hw.2 h13
        refine g_aload_n (pc := 77) C d_X_taken_77 0 rfl rfl ?_
        refine g_aload_n (pc := 78) C d_X_taken_78 2 rfl rfl ?_
        refine k_Ia (pc := 79) (co_V C (c_X_bargeOn (xl X) (xD X) (xt X) (xv X) a x 3 _ hw) mw_X_bargeOn lk_X_266 d_X_taken_79 (List.range _) (all_C _) (all_nd _) (rec_w C 0 5 rfl rfl) rfl rfl ⟨Nat.le_of_ble_eq_true rfl, Nat.le_of_ble_eq_true rfl⟩ ⟨Nat.le_of_ble_eq_true rfl, Nat.le_of_ble_eq_true rfl⟩ (rest := []) rfl rfl (Nat.le_of_ble_eq_true rfl)) (fun v4 x_5 hw => ?_)
        refine g_istore (pc := 82) C d_X_taken_82 (Nat.le_of_ble_eq_true rfl) (lv' := [(0, .ref (a 0)), (2, .int x2), (3, .ref (a 44)), (4, .int x4), (5, .int v4)]) rfl ?_
        refine g_iload (pc := 84) C d_X_taken_84 4 rfl ?_
        refine g_if_ge (pc := 86) (tgt := 92) C d_X_taken_86 (by decide) (fun h10 => ?_) (fun h10 => ?_)
        · replace hw := hw.1 h10
          refine g_iload (pc := 92) C d_X_taken_92 3 rfl ?_
          refine g_if_ne (pc := 94) (tgt := 119) C d_X_taken_94 (by decide) (fun h9 => ?_) (fun h9 => ?_)
          · replace hw := hw.2 h9
            refine g_bipush (pc := 119) C (v := (-13)) d_X_taken_119 (by decide) ?_
            exact g_iret (pc := 121) C q d_X_taken_121 (hq _ _ hw)
          · replace hw := hw.1 h9
            refine g_aload_n (pc := 97) C d_X_taken_97 0 rfl rfl ?_
            refine fX_now (pc := 98) C lk_X_10 d_X_taken_98 ?_
            refine fX_now_kind (pc := 101) C lk_X_109 d_X_taken_101 ?_
            refine g_iload (pc := 104) C d_X_taken_104 4 rfl ?_
            obtain ⟨h6, hw⟩ := hw
            refine lX_now_kind (pc := 106) C d_X_taken_106 (f := C_kind (X_now x_5)) rfl (N0 := v4.toNatClampNeg) rfl h6 ?_
            refine g_iload_n (pc := 107) C d_X_taken_107 1 rfl rfl ?_
            refine k_I0 (pc := 108) (co_S C (c_X_isUnder (xl X) (xD X) (xt X) (xv X) ((C_kind (X_now x_5)) v4.toNatClampNeg) x2 _ hw) mw_X_isUnder lk_X_270 d_X_taken_108 [] rfl (by decide)  rfl rfl ⟨Nat.le_of_ble_eq_true rfl, Nat.le_of_ble_eq_true rfl⟩ ⟨Nat.le_of_ble_eq_true rfl, Nat.le_of_ble_eq_true rfl⟩ (rest := []) rfl rfl (Nat.le_of_ble_eq_true rfl)) (fun v7 hw => ?_)
            refine g_if_eq (pc := 111) (tgt := 119) C d_X_taken_111 (by decide) (fun h8 => ?_) (fun h8 => ?_)
            · replace hw := hw.1 h8
              refine g_bipush (pc := 119) C (v := (-13)) d_X_taken_119 (by decide) ?_
              exact g_iret (pc := 121) C q d_X_taken_121 (hq _ _ hw)
            · replace hw := hw.2 h8
              refine g_iload (pc := 114) C d_X_taken_114 4 rfl ?_
              refine g_goto (pc := 116) (tgt := 121) C d_X_taken_116 (by decide) ?_
              exact g_iret (pc := 121) C q d_X_taken_121 (hq _ _ hw)
        · replace hw := hw.2 h10
          refine g_bipush (pc := 89) C (v := (-11)) d_X_taken_89 (by decide) ?_
          exact g_iret (pc := 91) C q d_X_taken_91 (hq _ _ hw)
      · replace hw := hw.1 h13
        refine g_iload (pc := 51) C d_X_taken_51 3 rfl ?_
        refine g_if_eq (pc := 53) (tgt := 74) C d_X_taken_53 (by decide) (fun h12 => ?_) (fun h12 => ?_)
        · replace hw := hw.1 h12
          refine g_bipush (pc := 74) C (v := (-13)) d_X_taken_74 (by decide) ?_
          exact g_iret (pc := 76) C q d_X_taken_76 (hq _ _ hw)
        · replace hw := hw.2 h12
          refine g_aload_n (pc := 56) C d_X_taken_56 2 rfl rfl ?_
          refine fX_shelves3_rowSort (pc := 57) C lk_X_260 d_X_taken_57 (v := H_rowSort (X_shelves x 3)) rfl ?_
          refine g_iload_n (pc := 60) C d_X_taken_60 1 rfl rfl ?_
          refine g_bipush (pc := 61) C (v := 10) d_X_taken_61 (by decide) ?_
          refine g_isub (pc := 63) C d_X_taken_63 ?_
          refine g_icmp_ne (pc := 64) (tgt := 74) C d_X_taken_64 (by decide) (fun h11 => ?_) (fun h11 => ?_)
          · replace hw := hw.2 h11
            refine g_bipush (pc := 74) C (v := (-13)) d_X_taken_74 (by decide) ?_
            exact g_iret (pc := 76) C q d_X_taken_76 (hq _ _ hw)
          · replace hw := hw.1 h11
            refine g_aload_n (pc := 67) C d_X_taken_67 2 rfl rfl ?_
            refine fX_shelves3_rowSize (pc := 68) C lk_X_263 d_X_taken_68 (v := H_rowSize (X_shelves x 3)) rfl ?_
            refine g_goto (pc := 71) (tgt := 76) C d_X_taken_71 (by decide) ?_
            exact g_iret (pc := 76) C q d_X_taken_76 (hq _ _ hw)
def w_X_taken_23  (post : Int32 → XSt → Prop)  (x : XSt) (x2 : Int32) (x3 : Nat) (s0 : Int32) : Prop :=
  ((x3 = 4) → (post (-1) x)) ∧ ((¬ x3 = 4) → (x3 < 4 ∧ (wp_X_isKind x2 (fun v3 => ((v3 = 0) → (((s0 = 0) → (post (-1) x)) ∧ ((¬ s0 = 0) → (w_X_taken_43  post  x x2 x3 s0)))) ∧ ((¬ v3 = 0) → (w_X_taken_43  post  x x2 x3 s0))))))
set_option maxRecDepth 20000 in
theorem j_X_taken_23 {X : GX} (C : GC X b_X_taken R_X 6 (rmd 2)) {Qp : Option Value → va_W → Prop} (q : RC X ((some .int)) Qp 0 0) (a : Nat → Nat)   (post : Int32 → XSt → Prop) (hq : ∀ v c1, post v c1 → Qp (some (.int v)) (woX (xt X) a c1)) : ∀ (x : XSt) (x2 : Int32) (x3 : Nat) (s0 : Int32), w_X_taken_23  post  x x2 x3 s0 → G X 0 0 (woX (xt X) a x) [(0, .ref (a 0)), (2, .int x2), (3, rfH a x3)] [.int s0] 23 := by
  intro x x2 x3 s0 hw
  unfold w_X_taken_23 at hw
  refine g_istore (pc := 23) C d_X_taken_23 (Nat.le_of_ble_eq_true rfl) (lv' := [(0, .ref (a 0)), (2, .int x2), (3, rfH a x3), (4, .int s0)]) (by (rcases rfH_or a x3 with e | ⟨y, e⟩ <;> rw [e]) <;> rfl) ?_
  by_cases h17 : x3 = 4
  · have hzh17 := hw.1 h17
    subst h17
    have hw := hzh17
    refine g_re (lv' := [(0, .ref (a 0)), (2, .int x2), (3, .null), (4, .int s0)]) (st' := []) rfl rfl ?_
    refine g_aload_nN (pc := 25) C d_X_taken_25 2 rfl rfl ?_
    refine g_ifnullN (pc := 26) (tgt := 41) C d_X_taken_26 (by decide) ?_
    refine g_iconst (pc := 41) C (v := (-1)) d_X_taken_41 (by decide) ?_
    exact g_iret (pc := 42) C q d_X_taken_42 (hq _ _ hw)
  · obtain ⟨h17, hzh17⟩ := hw.2 h17
    rcases q4 h17 with rfl | rfl | rfl | rfl
    · have hw := hzh17
      refine g_re (lv' := [(0, .ref (a 0)), (2, .int x2), (3, .ref (a 41)), (4, .int s0)]) (st' := []) rfl rfl ?_
      refine g_aload_n (pc := 25) C d_X_taken_25 2 rfl rfl ?_
      refine g_ifnull (pc := 26) C d_X_taken_26 ?_
      refine g_iload_n (pc := 29) C d_X_taken_29 1 rfl rfl ?_
      refine k_I0 (pc := 30) (co_S C (c_X_isKind (xl X) (xD X) (xt X) (xv X) x2 _ hw) mw_X_isKind lk_X_93 d_X_taken_30 [] rfl (by decide)  rfl rfl ⟨Nat.le_of_ble_eq_true rfl, Nat.le_of_ble_eq_true rfl⟩ ⟨Nat.le_of_ble_eq_true rfl, Nat.le_of_ble_eq_true rfl⟩ (rest := []) rfl rfl (Nat.le_of_ble_eq_true rfl)) (fun v3 hw => ?_)
      refine g_if_ne (pc := 33) (tgt := 43) C d_X_taken_33 (by decide) (fun h5 => ?_) (fun h5 => ?_)
      · replace hw := hw.2 h5
        exact j_X_taken_43 C q a post hq  x x2 0 s0 hw
      · replace hw := hw.1 h5
        refine g_iload (pc := 36) C d_X_taken_36 3 rfl ?_
        refine g_if_ne (pc := 38) (tgt := 43) C d_X_taken_38 (by decide) (fun h4 => ?_) (fun h4 => ?_)
        · replace hw := hw.2 h4
          exact j_X_taken_43 C q a post hq  x x2 0 s0 hw
        · replace hw := hw.1 h4
          refine g_iconst (pc := 41) C (v := (-1)) d_X_taken_41 (by decide) ?_
          exact g_iret (pc := 42) C q d_X_taken_42 (hq _ _ hw)
    · have hw := hzh17
      refine g_re (lv' := [(0, .ref (a 0)), (2, .int x2), (3, .ref (a 42)), (4, .int s0)]) (st' := []) rfl rfl ?_
      refine g_aload_n (pc := 25) C d_X_taken_25 2 rfl rfl ?_
      refine g_ifnull (pc := 26) C d_X_taken_26 ?_
      refine g_iload_n (pc := 29) C d_X_taken_29 1 rfl rfl ?_
      refine k_I0 (pc := 30) (co_S C (c_X_isKind (xl X) (xD X) (xt X) (xv X) x2 _ hw) mw_X_isKind lk_X_93 d_X_taken_30 [] rfl (by decide)  rfl rfl ⟨Nat.le_of_ble_eq_true rfl, Nat.le_of_ble_eq_true rfl⟩ ⟨Nat.le_of_ble_eq_true rfl, Nat.le_of_ble_eq_true rfl⟩ (rest := []) rfl rfl (Nat.le_of_ble_eq_true rfl)) (fun v3 hw => ?_)
      refine g_if_ne (pc := 33) (tgt := 43) C d_X_taken_33 (by decide) (fun h5 => ?_) (fun h5 => ?_)
      · replace hw := hw.2 h5
        exact j_X_taken_43 C q a post hq  x x2 1 s0 hw
      · replace hw := hw.1 h5
        refine g_iload (pc := 36) C d_X_taken_36 3 rfl ?_
        refine g_if_ne (pc := 38) (tgt := 43) C d_X_taken_38 (by decide) (fun h4 => ?_) (fun h4 => ?_)
        · replace hw := hw.2 h4
          exact j_X_taken_43 C q a post hq  x x2 1 s0 hw
        · replace hw := hw.1 h4
          refine g_iconst (pc := 41) C (v := (-1)) d_X_taken_41 (by decide) ?_
          exact g_iret (pc := 42) C q d_X_taken_42 (hq _ _ hw)
    · have hw := hzh17
      refine g_re (lv' := [(0, .ref (a 0)), (2, .int x2), (3, .ref (a 43)), (4, .int s0)]) (st' := []) rfl rfl ?_
      refine g_aload_n (pc := 25) C d_X_taken_25 2 rfl rfl ?_
      refine g_ifnull (pc := 26) C d_X_taken_26 ?_
      refine g_iload_n (pc := 29) C d_X_taken_29 1 rfl rfl ?_
      refine k_I0 (pc := 30) (co_S C (c_X_isKind (xl X) (xD X) (xt X) (xv X) x2 _ hw) mw_X_isKind lk_X_93 d_X_taken_30 [] rfl (by decide)  rfl rfl ⟨Nat.le_of_ble_eq_true rfl, Nat.le_of_ble_eq_true rfl⟩ ⟨Nat.le_of_ble_eq_true rfl, Nat.le_of_ble_eq_true rfl⟩ (rest := []) rfl rfl (Nat.le_of_ble_eq_true rfl)) (fun v3 hw => ?_)
      refine g_if_ne (pc := 33) (tgt := 43) C d_X_taken_33 (by decide) (fun h5 => ?_) (fun h5 => ?_)
      · replace hw := hw.2 h5
        exact j_X_taken_43 C q a post hq  x x2 2 s0 hw
      · replace hw := hw.1 h5
        refine g_iload (pc := 36) C d_X_taken_36 3 rfl ?_
        refine g_if_ne (pc := 38) (tgt := 43) C d_X_taken_38 (by decide) (fun h4 => ?_) (fun h4 => ?_)
        · replace hw := hw.2 h4
          exact j_X_taken_43 C q a post hq  x x2 2 s0 hw
        · replace hw := hw.1 h4
          refine g_iconst (pc := 41) C (v := (-1)) d_X_taken_41 (by decide) ?_
          exact g_iret (pc := 42) C q d_X_taken_42 (hq _ _ hw)
    · have hw := hzh17
      refine g_re (lv' := [(0, .ref (a 0)), (2, .int x2), (3, .ref (a 44)), (4, .int s0)]) (st' := []) rfl rfl ?_
      refine g_aload_n (pc := 25) C d_X_taken_25 2 rfl rfl ?_
      refine g_ifnull (pc := 26) C d_X_taken_26 ?_
      refine g_iload_n (pc := 29) C d_X_taken_29 1 rfl rfl ?_
      refine k_I0 (pc := 30) (co_S C (c_X_isKind (xl X) (xD X) (xt X) (xv X) x2 _ hw) mw_X_isKind lk_X_93 d_X_taken_30 [] rfl (by decide)  rfl rfl ⟨Nat.le_of_ble_eq_true rfl, Nat.le_of_ble_eq_true rfl⟩ ⟨Nat.le_of_ble_eq_true rfl, Nat.le_of_ble_eq_true rfl⟩ (rest := []) rfl rfl (Nat.le_of_ble_eq_true rfl)) (fun v3 hw => ?_)
      refine g_if_ne (pc := 33) (tgt := 43) C d_X_taken_33 (by decide) (fun h5 => ?_) (fun h5 => ?_)
      · replace hw := hw.2 h5
        exact j_X_taken_43 C q a post hq  x x2 3 s0 hw
      · replace hw := hw.1 h5
        refine g_iload (pc := 36) C d_X_taken_36 3 rfl ?_
        refine g_if_ne (pc := 38) (tgt := 43) C d_X_taken_38 (by decide) (fun h4 => ?_) (fun h4 => ?_)
        · replace hw := hw.2 h4
          exact j_X_taken_43 C q a post hq  x x2 3 s0 hw
        · replace hw := hw.1 h4
          refine g_iconst (pc := 41) C (v := (-1)) d_X_taken_41 (by decide) ?_
          exact g_iret (pc := 42) C q d_X_taken_42 (hq _ _ hw)
def wp_X_taken (x : XSt) (x1 : Int32) (x2 : Int32) (post : Int32 → XSt → Prop) : Prop :=
  wp_X_shelfAt x x1 (fun v1 x_2 => ((v1 = 4) → (((x2 < 10) → (w_X_taken_23  post  x_2 x2 4 0)) ∧ ((¬ x2 < 10) → (((13 < x2) → (w_X_taken_23  post  x_2 x2 4 0)) ∧ ((¬ 13 < x2) → (w_X_taken_23  post  x_2 x2 4 1)))))) ∧ ((¬ v1 = 4) → (v1 < 4 ∧ (((x2 < 10) → (w_X_taken_23  post  x_2 x2 v1 0)) ∧ ((¬ x2 < 10) → (((13 < x2) → (w_X_taken_23  post  x_2 x2 v1 0)) ∧ ((¬ 13 < x2) → (w_X_taken_23  post  x_2 x2 v1 1))))))))
set_option maxRecDepth 20000 in
theorem g_X_taken {X : GX} (C : GC X b_X_taken R_X 6 (rmd 2)) {Qp : Option Value → va_W → Prop} (q : RC X ((some .int)) Qp 0 0) (a : Nat → Nat) (x : XSt) (x1 : Int32) (x2 : Int32) (post : Int32 → XSt → Prop) (hq : ∀ v c1, post v c1 → Qp (some (.int v)) (woX (xt X) a c1)) (hw : wp_X_taken x x1 x2 post) : G X 0 0 (woX (xt X) a x) [(0, .ref (a 0)), (1, .int x1), (2, .int x2)] [] 0 := by
  unfold wp_X_taken at hw
  refine g_aload_n (pc := 0) C d_X_taken_0 0 rfl rfl ?_
  refine g_iload_n (pc := 1) C d_X_taken_1 1 rfl rfl ?_
  refine k_Ra (pc := 2) (co_V C (c_X_shelfAt (xl X) (xD X) (xt X) (xv X) a x x1 _ hw) mw_X_shelfAt lk_X_244 d_X_taken_2 (List.range _) (all_C _) (all_nd _) (rec_w C 0 5 rfl rfl) rfl rfl ⟨Nat.le_of_ble_eq_true rfl, Nat.le_of_ble_eq_true rfl⟩ ⟨Nat.le_of_ble_eq_true rfl, Nat.le_of_ble_eq_true rfl⟩ (rest := []) rfl rfl (Nat.le_of_ble_eq_true rfl)) (fun v1 x_2 hw => ?_)
  by_cases h22 : v1 = 4
  · have hzh22 := hw.1 h22
    subst h22
    have hw := hzh22
    refine g_re (lv' := [(0, .ref (a 0)), (1, .int x1), (2, .int x2)]) (st' := [.null]) rfl rfl ?_
    refine g_astore_nN (pc := 5) C d_X_taken_5 rfl (Nat.le_of_ble_eq_true rfl) (lv' := [(0, .ref (a 0)), (1, .int x1), (2, .int x2), (3, .null)]) rfl ?_
    refine g_iload_n (pc := 6) C d_X_taken_6 2 rfl rfl ?_
    refine g_bipush (pc := 7) C (v := 10) d_X_taken_7 (by decide) ?_
    refine g_icmp_lt (pc := 9) (tgt := 22) C d_X_taken_9 (by decide) (fun h19 => ?_) (fun h19 => ?_)
    · replace hw := hw.1 h19
      refine g_iconst (pc := 22) C (v := 0) d_X_taken_22 (by decide) ?_
      refine g_sub [0, 2, 3] (lv' := [(0, .ref (a 0)), (2, .int x2), (3, .null)]) rfl ?_
      exact j_X_taken_23 C q a post hq  x_2 x2 4 0 hw
    · replace hw := hw.2 h19
      refine g_iload_n (pc := 12) C d_X_taken_12 2 rfl rfl ?_
      refine g_bipush (pc := 13) C (v := 13) d_X_taken_13 (by decide) ?_
      refine g_icmp_gt (pc := 15) (tgt := 22) C d_X_taken_15 (by decide) (fun h18 => ?_) (fun h18 => ?_)
      · replace hw := hw.1 h18
        refine g_iconst (pc := 22) C (v := 0) d_X_taken_22 (by decide) ?_
        refine g_sub [0, 2, 3] (lv' := [(0, .ref (a 0)), (2, .int x2), (3, .null)]) rfl ?_
        exact j_X_taken_23 C q a post hq  x_2 x2 4 0 hw
      · replace hw := hw.2 h18
        refine g_iconst (pc := 18) C (v := 1) d_X_taken_18 (by decide) ?_
        refine g_goto (pc := 19) (tgt := 23) C d_X_taken_19 (by decide) ?_
        refine g_sub [0, 2, 3] (lv' := [(0, .ref (a 0)), (2, .int x2), (3, .null)]) rfl ?_
        exact j_X_taken_23 C q a post hq  x_2 x2 4 1 hw
  · obtain ⟨h22, hzh22⟩ := hw.2 h22
    rcases q4 h22 with rfl | rfl | rfl | rfl
    · have hw := hzh22
      refine g_re (lv' := [(0, .ref (a 0)), (1, .int x1), (2, .int x2)]) (st' := [.ref (a 41)]) rfl rfl ?_
      refine g_astore_n (pc := 5) C d_X_taken_5 rfl (Nat.le_of_ble_eq_true rfl) (lv' := [(0, .ref (a 0)), (1, .int x1), (2, .int x2), (3, .ref (a 41))]) rfl ?_
      refine g_iload_n (pc := 6) C d_X_taken_6 2 rfl rfl ?_
      refine g_bipush (pc := 7) C (v := 10) d_X_taken_7 (by decide) ?_
      refine g_icmp_lt (pc := 9) (tgt := 22) C d_X_taken_9 (by decide) (fun h21 => ?_) (fun h21 => ?_)
      · replace hw := hw.1 h21
        refine g_iconst (pc := 22) C (v := 0) d_X_taken_22 (by decide) ?_
        refine g_sub [0, 2, 3] (lv' := [(0, .ref (a 0)), (2, .int x2), (3, .ref (a 41))]) rfl ?_
        exact j_X_taken_23 C q a post hq  x_2 x2 0 0 hw
      · replace hw := hw.2 h21
        refine g_iload_n (pc := 12) C d_X_taken_12 2 rfl rfl ?_
        refine g_bipush (pc := 13) C (v := 13) d_X_taken_13 (by decide) ?_
        refine g_icmp_gt (pc := 15) (tgt := 22) C d_X_taken_15 (by decide) (fun h20 => ?_) (fun h20 => ?_)
        · replace hw := hw.1 h20
          refine g_iconst (pc := 22) C (v := 0) d_X_taken_22 (by decide) ?_
          refine g_sub [0, 2, 3] (lv' := [(0, .ref (a 0)), (2, .int x2), (3, .ref (a 41))]) rfl ?_
          exact j_X_taken_23 C q a post hq  x_2 x2 0 0 hw
        · replace hw := hw.2 h20
          refine g_iconst (pc := 18) C (v := 1) d_X_taken_18 (by decide) ?_
          refine g_goto (pc := 19) (tgt := 23) C d_X_taken_19 (by decide) ?_
          refine g_sub [0, 2, 3] (lv' := [(0, .ref (a 0)), (2, .int x2), (3, .ref (a 41))]) rfl ?_
          exact j_X_taken_23 C q a post hq  x_2 x2 0 1 hw
    · have hw := hzh22
      refine g_re (lv' := [(0, .ref (a 0)), (1, .int x1), (2, .int x2)]) (st' := [.ref (a 42)]) rfl rfl ?_
      refine g_astore_n (pc := 5) C d_X_taken_5 rfl (Nat.le_of_ble_eq_true rfl) (lv' := [(0, .ref (a 0)), (1, .int x1), (2, .int x2), (3, .ref (a 42))]) rfl ?_
      refine g_iload_n (pc := 6) C d_X_taken_6 2 rfl rfl ?_
      refine g_bipush (pc := 7) C (v := 10) d_X_taken_7 (by decide) ?_
      refine g_icmp_lt (pc := 9) (tgt := 22) C d_X_taken_9 (by decide) (fun h21 => ?_) (fun h21 => ?_)
      · replace hw := hw.1 h21
        refine g_iconst (pc := 22) C (v := 0) d_X_taken_22 (by decide) ?_
        refine g_sub [0, 2, 3] (lv' := [(0, .ref (a 0)), (2, .int x2), (3, .ref (a 42))]) rfl ?_
        exact j_X_taken_23 C q a post hq  x_2 x2 1 0 hw
      · replace hw := hw.2 h21
        refine g_iload_n (pc := 12) C d_X_taken_12 2 rfl rfl ?_
        refine g_bipush (pc := 13) C (v := 13) d_X_taken_13 (by decide) ?_
        refine g_icmp_gt (pc := 15) (tgt := 22) C d_X_taken_15 (by decide) (fun h20 => ?_) (fun h20 => ?_)
        · replace hw := hw.1 h20
          refine g_iconst (pc := 22) C (v := 0) d_X_taken_22 (by decide) ?_
          refine g_sub [0, 2, 3] (lv' := [(0, .ref (a 0)), (2, .int x2), (3, .ref (a 42))]) rfl ?_
          exact j_X_taken_23 C q a post hq  x_2 x2 1 0 hw
        · replace hw := hw.2 h20
          refine g_iconst (pc := 18) C (v := 1) d_X_taken_18 (by decide) ?_
          refine g_goto (pc := 19) (tgt := 23) C d_X_taken_19 (by decide) ?_
          refine g_sub [0, 2, 3] (lv' := [(0, .ref (a 0)), (2, .int x2), (3, .ref (a 42))]) rfl ?_
          exact j_X_taken_23 C q a post hq  x_2 x2 1 1 hw
    · have hw := hzh22
      refine g_re (lv' := [(0, .ref (a 0)), (1, .int x1), (2, .int x2)]) (st' := [.ref (a 43)]) rfl rfl ?_
      refine g_astore_n (pc := 5) C d_X_taken_5 rfl (Nat.le_of_ble_eq_true rfl) (lv' := [(0, .ref (a 0)), (1, .int x1), (2, .int x2), (3, .ref (a 43))]) rfl ?_
      refine g_iload_n (pc := 6) C d_X_taken_6 2 rfl rfl ?_
      refine g_bipush (pc := 7) C (v := 10) d_X_taken_7 (by decide) ?_
      refine g_icmp_lt (pc := 9) (tgt := 22) C d_X_taken_9 (by decide) (fun h21 => ?_) (fun h21 => ?_)
      · replace hw := hw.1 h21
        refine g_iconst (pc := 22) C (v := 0) d_X_taken_22 (by decide) ?_
        refine g_sub [0, 2, 3] (lv' := [(0, .ref (a 0)), (2, .int x2), (3, .ref (a 43))]) rfl ?_
        exact j_X_taken_23 C q a post hq  x_2 x2 2 0 hw
      · replace hw := hw.2 h21
        refine g_iload_n (pc := 12) C d_X_taken_12 2 rfl rfl ?_
        refine g_bipush (pc := 13) C (v := 13) d_X_taken_13 (by decide) ?_
        refine g_icmp_gt (pc := 15) (tgt := 22) C d_X_taken_15 (by decide) (fun h20 => ?_) (fun h20 => ?_)
        · replace hw := hw.1 h20
          refine g_iconst (pc := 22) C (v := 0) d_X_taken_22 (by decide) ?_
          refine g_sub [0, 2, 3] (lv' := [(0, .ref (a 0)), (2, .int x2), (3, .ref (a 43))]) rfl ?_
          exact j_X_taken_23 C q a post hq  x_2 x2 2 0 hw
        · replace hw := hw.2 h20
          refine g_iconst (pc := 18) C (v := 1) d_X_taken_18 (by decide) ?_
          refine g_goto (pc := 19) (tgt := 23) C d_X_taken_19 (by decide) ?_
          refine g_sub [0, 2, 3] (lv' := [(0, .ref (a 0)), (2, .int x2), (3, .ref (a 43))]) rfl ?_
          exact j_X_taken_23 C q a post hq  x_2 x2 2 1 hw
    · have hw := hzh22
      refine g_re (lv' := [(0, .ref (a 0)), (1, .int x1), (2, .int x2)]) (st' := [.ref (a 44)]) rfl rfl ?_
      refine g_astore_n (pc := 5) C d_X_taken_5 rfl (Nat.le_of_ble_eq_true rfl) (lv' := [(0, .ref (a 0)), (1, .int x1), (2, .int x2), (3, .ref (a 44))]) rfl ?_
      refine g_iload_n (pc := 6) C d_X_taken_6 2 rfl rfl ?_
      refine g_bipush (pc := 7) C (v := 10) d_X_taken_7 (by decide) ?_
      refine g_icmp_lt (pc := 9) (tgt := 22) C d_X_taken_9 (by decide) (fun h21 => ?_) (fun h21 => ?_)
      · replace hw := hw.1 h21
        refine g_iconst (pc := 22) C (v := 0) d_X_taken_22 (by decide) ?_
        refine g_sub [0, 2, 3] (lv' := [(0, .ref (a 0)), (2, .int x2), (3, .ref (a 44))]) rfl ?_
        exact j_X_taken_23 C q a post hq  x_2 x2 3 0 hw
      · replace hw := hw.2 h21
        refine g_iload_n (pc := 12) C d_X_taken_12 2 rfl rfl ?_
        refine g_bipush (pc := 13) C (v := 13) d_X_taken_13 (by decide) ?_
        refine g_icmp_gt (pc := 15) (tgt := 22) C d_X_taken_15 (by decide) (fun h20 => ?_) (fun h20 => ?_)
        · replace hw := hw.1 h20
          refine g_iconst (pc := 22) C (v := 0) d_X_taken_22 (by decide) ?_
          refine g_sub [0, 2, 3] (lv' := [(0, .ref (a 0)), (2, .int x2), (3, .ref (a 44))]) rfl ?_
          exact j_X_taken_23 C q a post hq  x_2 x2 3 0 hw
        · replace hw := hw.2 h20
          refine g_iconst (pc := 18) C (v := 1) d_X_taken_18 (by decide) ?_
          refine g_goto (pc := 19) (tgt := 23) C d_X_taken_19 (by decide) ?_
          refine g_sub [0, 2, 3] (lv' := [(0, .ref (a 0)), (2, .int x2), (3, .ref (a 44))]) rfl ?_
          exact j_X_taken_23 C q a post hq  x_2 x2 3 1 hw
set_option maxRecDepth 20000 in
theorem c_X_taken (l : Launch) (D : va_G) (t : Nat → ClassId) (ev : Nat → Nat) (a : Nat → Nat) (x : XSt) (x1 : Int32) (x2 : Int32) (post : Int32 → XSt → Prop) (hw : wp_X_taken x x1 x2 post) : Con l D t ev y_X_taken b_X_taken 6 ((some .int)) 2 (woX t a x) [.ref (a 0), .int x1, .int x2] (qI (woX t a)  post) :=
  ConR.of (by decide +kernel) (Nat.le_of_ble_eq_true rfl) (fun X el eD et ee C q _ => by subst el; subst eD; subst et; subst ee; exact g_X_taken C q a x x1 x2 post (fun v c1 h => ⟨⟨v, c1, rfl, rfl, h⟩, rfl⟩) hw)
def wp_X_act (x : XSt) (x1 : Int32) (x2 : Int32) (x3 : Int32) (post : Int32 → XSt → Prop) : Prop :=
  wp_X_shelfAt (X_acts_ x (A_traced_ (X_acts x) 0)) x1 (fun v1 x_2 => wp_X_bargeOn x_2 v1 (fun v3 x_4 => ((v3 < 0) → (post 0 x_4)) ∧ ((¬ v3 < 0) → (((x2 < 0) → (post 0 x_4)) ∧ ((¬ x2 < 0) → (((x2 < 4) → (vp_in v3 8 ∧ (vp_in v3 8 ∧ (wp_A_perform (X_acts x_4) x2 ((C_kind (X_now x_4)) v3.toNatClampNeg) v3 ((C_at (X_now x_4)) v3.toNatClampNeg) x3 (fun v7 c_8 => post v7 (X_acts_ x_4 c_8)))))) ∧ ((¬ x2 < 4) → (post 0 x_4))))))))
set_option maxRecDepth 20000 in
theorem g_X_act {X : GX} (C : GC X b_X_act R_X 5 (rmd 43)) {Qp : Option Value → va_W → Prop} (q : RC X ((some .int)) Qp 0 0) (a : Nat → Nat) (x : XSt) (x1 : Int32) (x2 : Int32) (x3 : Int32) (post : Int32 → XSt → Prop) (hq : ∀ v c1, post v c1 → Qp (some (.int v)) (woX (xt X) a c1)) (hw : wp_X_act x x1 x2 x3 post) : G X 0 0 (woX (xt X) a x) [(0, .ref (a 0)), (1, .int x1), (2, .int x2), (3, .int x3)] [] 0 := by
  unfold wp_X_act at hw
  refine g_aload_n (pc := 0) C d_X_act_0 0 rfl rfl ?_
  refine fX_acts (pc := 1) C lk_X_56 d_X_act_1 ?_
  refine g_iconst (pc := 4) C (v := 0) d_X_act_4 (by decide) ?_
  refine pX_acts_traced (pc := 5) C (c := X_acts x) rfl lk_X_273 d_X_act_5   ?_
  refine g_aload_n (pc := 8) C d_X_act_8 0 rfl rfl ?_
  refine g_aload_n (pc := 9) C d_X_act_9 0 rfl rfl ?_
  refine g_iload_n (pc := 10) C d_X_act_10 1 rfl rfl ?_
  refine k_Ra (pc := 11) (co_V C (c_X_shelfAt (xl X) (xD X) (xt X) (xv X) a (X_acts_ x (A_traced_ (X_acts x) 0)) x1 _ hw) mw_X_shelfAt lk_X_244 d_X_act_11 (List.range _) (all_C _) (all_nd _) (rec_w C 0 5 rfl rfl) rfl rfl ⟨Nat.le_of_ble_eq_true rfl, Nat.le_of_ble_eq_true rfl⟩ ⟨Nat.le_of_ble_eq_true rfl, Nat.le_of_ble_eq_true rfl⟩ (rest := [.ref (a 0)]) rfl rfl (Nat.le_of_ble_eq_true rfl)) (fun v1 x_2 hw => ?_)
  refine k_Ia (pc := 14) (co_V C (c_X_bargeOn (xl X) (xD X) (xt X) (xv X) a x_2 v1 _ hw) mw_X_bargeOn lk_X_266 d_X_act_14 (List.range _) (all_C _) (all_nd _) (rec_w C 0 5 rfl rfl) rfl rfl ⟨Nat.le_of_ble_eq_true rfl, Nat.le_of_ble_eq_true rfl⟩ ⟨Nat.le_of_ble_eq_true rfl, Nat.le_of_ble_eq_true rfl⟩ (rest := []) rfl rfl (Nat.le_of_ble_eq_true rfl)) (fun v3 x_4 hw => ?_)
  refine g_istore (pc := 17) C d_X_act_17 (Nat.le_of_ble_eq_true rfl) (lv' := [(0, .ref (a 0)), (1, .int x1), (2, .int x2), (3, .int x3), (4, .int v3)]) rfl ?_
  refine g_iload (pc := 19) C d_X_act_19 4 rfl ?_
  refine g_if_lt (pc := 21) (tgt := 33) C d_X_act_21 (by decide) (fun h11 => ?_) (fun h11 => ?_)
  · replace hw := hw.1 h11
    refine g_iconst (pc := 33) C (v := 0) d_X_act_33 (by decide) ?_
    exact g_iret (pc := 34) C q d_X_act_34 (hq _ _ hw)
  · replace hw := hw.2 h11
    refine g_iload_n (pc := 24) C d_X_act_24 2 rfl rfl ?_
    refine g_if_lt (pc := 25) (tgt := 33) C d_X_act_25 (by decide) (fun h10 => ?_) (fun h10 => ?_)
    · replace hw := hw.1 h10
      refine g_iconst (pc := 33) C (v := 0) d_X_act_33 (by decide) ?_
      exact g_iret (pc := 34) C q d_X_act_34 (hq _ _ hw)
    · replace hw := hw.2 h10
      refine g_iload_n (pc := 28) C d_X_act_28 2 rfl rfl ?_
      refine g_iconst (pc := 29) C (v := 4) d_X_act_29 (by decide) ?_
      refine g_icmp_lt (pc := 30) (tgt := 35) C d_X_act_30 (by decide) (fun h9 => ?_) (fun h9 => ?_)
      · replace hw := hw.1 h9
        refine g_aload_n (pc := 35) C d_X_act_35 0 rfl rfl ?_
        refine fX_acts (pc := 36) C lk_X_56 d_X_act_36 ?_
        refine g_iload_n (pc := 39) C d_X_act_39 2 rfl rfl ?_
        refine g_aload_n (pc := 40) C d_X_act_40 0 rfl rfl ?_
        refine fX_now (pc := 41) C lk_X_10 d_X_act_41 ?_
        refine fX_now_kind (pc := 44) C lk_X_109 d_X_act_44 ?_
        refine g_iload (pc := 47) C d_X_act_47 4 rfl ?_
        obtain ⟨h5, hw⟩ := hw
        refine lX_now_kind (pc := 49) C d_X_act_49 (f := C_kind (X_now x_4)) rfl (N0 := v3.toNatClampNeg) rfl h5 ?_
        refine g_iload (pc := 50) C d_X_act_50 4 rfl ?_
        refine g_aload_n (pc := 52) C d_X_act_52 0 rfl rfl ?_
        refine fX_now (pc := 53) C lk_X_10 d_X_act_53 ?_
        refine fX_now_at (pc := 56) C lk_X_118 d_X_act_56 ?_
        refine g_iload (pc := 59) C d_X_act_59 4 rfl ?_
        obtain ⟨h6, hw⟩ := hw
        refine lX_now_at (pc := 61) C d_X_act_61 (f := C_at (X_now x_4)) rfl (N0 := v3.toNatClampNeg) rfl h6 ?_
        refine g_iload_n (pc := 62) C d_X_act_62 3 rfl rfl ?_
        refine k_I (pc := 63) (co_V C (c_A_perform (xl X) (xD X) (xt X) (xv X) (fun i => a (45 + i)) (X_acts x_4) x2 ((C_kind (X_now x_4)) v3.toNatClampNeg) v3 ((C_at (X_now x_4)) v3.toNatClampNeg) x3 _ hw) mw_A_perform lk_X_276 d_X_act_63 [45, 46] (cC_X_acts (xt X) a a x_4) (by decide) (rec_w C 45 0 rfl rfl) rfl rfl ⟨Nat.le_of_ble_eq_true rfl, Nat.le_of_ble_eq_true rfl⟩ ⟨Nat.le_of_ble_eq_true rfl, Nat.le_of_ble_eq_true rfl⟩ (rest := []) rfl rfl (Nat.le_of_ble_eq_true rfl)) (fun c_8 => woX (xt X) a (X_acts_ x_4 c_8)) (cS_X_acts (xt X) a a x_4) (fun v7 c_8 hw => ?_)
        exact g_iret (pc := 66) C q d_X_act_66 (hq _ _ hw)
      · replace hw := hw.2 h9
        refine g_iconst (pc := 33) C (v := 0) d_X_act_33 (by decide) ?_
        exact g_iret (pc := 34) C q d_X_act_34 (hq _ _ hw)
set_option maxRecDepth 20000 in
theorem c_X_act (l : Launch) (D : va_G) (t : Nat → ClassId) (ev : Nat → Nat) (a : Nat → Nat) (x : XSt) (x1 : Int32) (x2 : Int32) (x3 : Int32) (post : Int32 → XSt → Prop) (hw : wp_X_act x x1 x2 x3 post) : Con l D t ev y_X_act b_X_act 5 ((some .int)) 43 (woX t a x) [.ref (a 0), .int x1, .int x2, .int x3] (qI (woX t a)  post) :=
  ConR.of (by decide +kernel) (Nat.le_of_ble_eq_true rfl) (fun X el eD et ee C q _ => by subst el; subst eD; subst et; subst ee; exact g_X_act C q a x x1 x2 x3 post (fun v c1 h => ⟨⟨v, c1, rfl, rfl, h⟩, rfl⟩) hw)
def wp_X_trace (x : XSt) (x1 : Int32) (post : Int32 → XSt → Prop) : Prop :=
  ((x1 < 0) → (post (-3) x)) ∧ ((¬ x1 < 0) → ((((A_traced (X_acts x)) ≤ x1) → (post (-3) x)) ∧ ((¬ (A_traced (X_acts x)) ≤ x1) → (((30 ≤ x1) → (post (-3) x)) ∧ ((¬ 30 ≤ x1) → (vp_in x1 30 ∧ (post ((A_bodies (X_acts x)) x1.toNatClampNeg) x)))))))
set_option maxRecDepth 20000 in
theorem g_X_trace {X : GX} (C : GC X b_X_trace R_X 2 (rmd 0)) {Qp : Option Value → va_W → Prop} (q : RC X ((some .int)) Qp 0 0) (a : Nat → Nat) (x : XSt) (x1 : Int32) (post : Int32 → XSt → Prop) (hq : ∀ v c1, post v c1 → Qp (some (.int v)) (woX (xt X) a c1)) (hw : wp_X_trace x x1 post) : G X 0 0 (woX (xt X) a x) [(0, .ref (a 0)), (1, .int x1)] [] 0 := by
  unfold wp_X_trace at hw
  refine g_iload_n (pc := 0) C d_X_trace_0 1 rfl rfl ?_
  refine g_if_lt (pc := 1) (tgt := 33) C d_X_trace_1 (by decide) (fun h4 => ?_) (fun h4 => ?_)
  · replace hw := hw.1 h4
    refine g_bipush (pc := 33) C (v := (-3)) d_X_trace_33 (by decide) ?_
    exact g_iret (pc := 35) C q d_X_trace_35 (hq _ _ hw)
  · replace hw := hw.2 h4
    refine g_iload_n (pc := 4) C d_X_trace_4 1 rfl rfl ?_
    refine g_aload_n (pc := 5) C d_X_trace_5 0 rfl rfl ?_
    refine fX_acts (pc := 6) C lk_X_56 d_X_trace_6 ?_
    refine fX_acts_traced (pc := 9) C lk_X_273 d_X_trace_9 (v := A_traced (X_acts x)) rfl ?_
    refine g_icmp_ge (pc := 12) (tgt := 33) C d_X_trace_12 (by decide) (fun h3 => ?_) (fun h3 => ?_)
    · replace hw := hw.1 h3
      refine g_bipush (pc := 33) C (v := (-3)) d_X_trace_33 (by decide) ?_
      exact g_iret (pc := 35) C q d_X_trace_35 (hq _ _ hw)
    · replace hw := hw.2 h3
      refine g_iload_n (pc := 15) C d_X_trace_15 1 rfl rfl ?_
      refine g_bipush (pc := 16) C (v := 30) d_X_trace_16 (by decide) ?_
      refine g_icmp_ge (pc := 18) (tgt := 33) C d_X_trace_18 (by decide) (fun h2 => ?_) (fun h2 => ?_)
      · replace hw := hw.1 h2
        refine g_bipush (pc := 33) C (v := (-3)) d_X_trace_33 (by decide) ?_
        exact g_iret (pc := 35) C q d_X_trace_35 (hq _ _ hw)
      · replace hw := hw.2 h2
        refine g_aload_n (pc := 21) C d_X_trace_21 0 rfl rfl ?_
        refine fX_acts (pc := 22) C lk_X_56 d_X_trace_22 ?_
        refine fX_acts_bodies (pc := 25) C lk_X_280 d_X_trace_25 ?_
        refine g_iload_n (pc := 28) C d_X_trace_28 1 rfl rfl ?_
        obtain ⟨h1, hw⟩ := hw
        refine lX_acts_bodies (pc := 29) C d_X_trace_29 (f := A_bodies (X_acts x)) rfl (N0 := x1.toNatClampNeg) rfl h1 ?_
        refine g_goto (pc := 30) (tgt := 35) C d_X_trace_30 (by decide) ?_
        exact g_iret (pc := 35) C q d_X_trace_35 (hq _ _ hw)
set_option maxRecDepth 20000 in
theorem c_X_trace (l : Launch) (D : va_G) (t : Nat → ClassId) (ev : Nat → Nat) (a : Nat → Nat) (x : XSt) (x1 : Int32) (post : Int32 → XSt → Prop) (hw : wp_X_trace x x1 post) : Con l D t ev y_X_trace b_X_trace 2 ((some .int)) 0 (woX t a x) [.ref (a 0), .int x1] (qI (woX t a)  post) :=
  ConR.of (by decide +kernel) (Nat.le_of_ble_eq_true rfl) (fun X el eD et ee C q _ => by subst el; subst eD; subst et; subst ee; exact g_X_trace C q a x x1 post (fun v c1 h => ⟨⟨v, c1, rfl, rfl, h⟩, rfl⟩) hw)
def wp_X_many (x : XSt) (x1 : Int32) (post : Int32 → XSt → Prop) : Prop :=
  ((x1 = 0) → (post (C_count (X_now x)) x)) ∧ ((¬ x1 = 0) → (((x1 = 1) → (wp_C_landedSet (X_now x) (fun v1 c_2 => wp_JI_bitCount v1 (fun v3 => post v3 (X_now_ x c_2))))) ∧ ((¬ x1 = 1) → (((x1 = 2) → (wp_C_usedLocks (X_now x) (fun v4 c_5 => wp_JI_bitCount v4 (fun v6 => post v6 (X_now_ x c_5))))) ∧ ((¬ x1 = 2) → (((x1 = 3) → (wp_C_locksWithLoss (X_now x) (fun v7 c_8 => post v7 (X_now_ x c_8)))) ∧ ((¬ x1 = 3) → (((x1 = 4) → (post (X_rowCount x) x)) ∧ ((¬ x1 = 4) → (((x1 = 5) → (post (T_size (X_tape x)) x)) ∧ ((¬ x1 = 5) → (((x1 = 6) → (post (A_traced (X_acts x)) x)) ∧ ((¬ x1 = 6) → (post (-1) x))))))))))))))
set_option maxRecDepth 20000 in
theorem g_X_many {X : GX} (C : GC X b_X_many R_X 2 (rmd 2)) {Qp : Option Value → va_W → Prop} (q : RC X ((some .int)) Qp 0 0) (a : Nat → Nat) (x : XSt) (x1 : Int32) (post : Int32 → XSt → Prop) (hq : ∀ v c1, post v c1 → Qp (some (.int v)) (woX (xt X) a c1)) (hw : wp_X_many x x1 post) : G X 0 0 (woX (xt X) a x) [(0, .ref (a 0)), (1, .int x1)] [] 0 := by
  unfold wp_X_many at hw
  refine g_iload_n (pc := 0) C d_X_many_0 1 rfl rfl ?_
  by_cases h9 : x1 = 0
  · replace hw := hw.1 h9
    refine g_tabIn (pc := 1) (tgt := 44) C d_X_many_1 (by rw [h9]; decide) (by rw [h9]; decide) (off := 43) (by rw [h9]; rfl) (by decide) ?_
    refine g_aload_n (pc := 44) C d_X_many_44 0 rfl rfl ?_
    refine fX_now (pc := 45) C lk_X_10 d_X_many_45 ?_
    refine fX_now_count (pc := 48) C lk_X_80 d_X_many_48 (v := C_count (X_now x)) rfl ?_
    exact g_iret (pc := 51) C q d_X_many_51 (hq _ _ hw)
  · replace hw := hw.2 h9
    by_cases h10 : x1 = 1
    · replace hw := hw.1 h10
      refine g_tabIn (pc := 1) (tgt := 52) C d_X_many_1 (by rw [h10]; decide) (by rw [h10]; decide) (off := 51) (by rw [h10]; rfl) (by decide) ?_
      refine g_aload_n (pc := 52) C d_X_many_52 0 rfl rfl ?_
      refine fX_now (pc := 53) C lk_X_10 d_X_many_53 ?_
      refine k_I (pc := 56) (co_V C (c_C_landedSet (xl X) (xD X) (xt X) (xv X) (fun i => a (1 + i)) (X_now x) _ hw) mw_C_landedSet lk_X_171 d_X_many_56 [1, 2, 3, 4, 5, 6, 7, 8, 9] (cC_X_now (xt X) a a x) (by decide) (rec_w C 1 1 rfl rfl) rfl rfl ⟨Nat.le_of_ble_eq_true rfl, Nat.le_of_ble_eq_true rfl⟩ ⟨Nat.le_of_ble_eq_true rfl, Nat.le_of_ble_eq_true rfl⟩ (rest := []) rfl rfl (Nat.le_of_ble_eq_true rfl)) (fun c_2 => woX (xt X) a (X_now_ x c_2)) (cS_X_now (xt X) a a x) (fun v1 c_2 hw => ?_)
      refine k_I0 (pc := 59) (co_S C (c_JI_bitCount (xl X) (xD X) (xt X) (xv X) v1 _ hw) mw_JI_bitCount lk_X_193 d_X_many_59 [] rfl (by decide)  rfl rfl ⟨Nat.le_of_ble_eq_true rfl, Nat.le_of_ble_eq_true rfl⟩ ⟨Nat.le_of_ble_eq_true rfl, Nat.le_of_ble_eq_true rfl⟩ (rest := []) rfl rfl (Nat.le_of_ble_eq_true rfl)) (fun v3 hw => ?_)
      exact g_iret (pc := 62) C q d_X_many_62 (hq _ _ hw)
    · replace hw := hw.2 h10
      by_cases h11 : x1 = 2
      · replace hw := hw.1 h11
        refine g_tabIn (pc := 1) (tgt := 63) C d_X_many_1 (by rw [h11]; decide) (by rw [h11]; decide) (off := 62) (by rw [h11]; rfl) (by decide) ?_
        refine g_aload_n (pc := 63) C d_X_many_63 0 rfl rfl ?_
        refine fX_now (pc := 64) C lk_X_10 d_X_many_64 ?_
        refine k_I (pc := 67) (co_V C (c_C_usedLocks (xl X) (xD X) (xt X) (xv X) (fun i => a (1 + i)) (X_now x) _ hw) mw_C_usedLocks lk_X_174 d_X_many_67 [1, 2, 3, 4, 5, 6, 7, 8, 9] (cC_X_now (xt X) a a x) (by decide) (rec_w C 1 1 rfl rfl) rfl rfl ⟨Nat.le_of_ble_eq_true rfl, Nat.le_of_ble_eq_true rfl⟩ ⟨Nat.le_of_ble_eq_true rfl, Nat.le_of_ble_eq_true rfl⟩ (rest := []) rfl rfl (Nat.le_of_ble_eq_true rfl)) (fun c_5 => woX (xt X) a (X_now_ x c_5)) (cS_X_now (xt X) a a x) (fun v4 c_5 hw => ?_)
        refine k_I0 (pc := 70) (co_S C (c_JI_bitCount (xl X) (xD X) (xt X) (xv X) v4 _ hw) mw_JI_bitCount lk_X_193 d_X_many_70 [] rfl (by decide)  rfl rfl ⟨Nat.le_of_ble_eq_true rfl, Nat.le_of_ble_eq_true rfl⟩ ⟨Nat.le_of_ble_eq_true rfl, Nat.le_of_ble_eq_true rfl⟩ (rest := []) rfl rfl (Nat.le_of_ble_eq_true rfl)) (fun v6 hw => ?_)
        exact g_iret (pc := 73) C q d_X_many_73 (hq _ _ hw)
      · replace hw := hw.2 h11
        by_cases h12 : x1 = 3
        · replace hw := hw.1 h12
          refine g_tabIn (pc := 1) (tgt := 74) C d_X_many_1 (by rw [h12]; decide) (by rw [h12]; decide) (off := 73) (by rw [h12]; rfl) (by decide) ?_
          refine g_aload_n (pc := 74) C d_X_many_74 0 rfl rfl ?_
          refine fX_now (pc := 75) C lk_X_10 d_X_many_75 ?_
          refine k_I (pc := 78) (co_V C (c_C_locksWithLoss (xl X) (xD X) (xt X) (xv X) (fun i => a (1 + i)) (X_now x) _ hw) mw_C_locksWithLoss lk_X_283 d_X_many_78 [1, 2, 3, 4, 5, 6, 7, 8, 9] (cC_X_now (xt X) a a x) (by decide) (rec_w C 1 1 rfl rfl) rfl rfl ⟨Nat.le_of_ble_eq_true rfl, Nat.le_of_ble_eq_true rfl⟩ ⟨Nat.le_of_ble_eq_true rfl, Nat.le_of_ble_eq_true rfl⟩ (rest := []) rfl rfl (Nat.le_of_ble_eq_true rfl)) (fun c_8 => woX (xt X) a (X_now_ x c_8)) (cS_X_now (xt X) a a x) (fun v7 c_8 hw => ?_)
          exact g_iret (pc := 81) C q d_X_many_81 (hq _ _ hw)
        · replace hw := hw.2 h12
          by_cases h13 : x1 = 4
          · replace hw := hw.1 h13
            refine g_tabIn (pc := 1) (tgt := 82) C d_X_many_1 (by rw [h13]; decide) (by rw [h13]; decide) (off := 81) (by rw [h13]; rfl) (by decide) ?_
            refine g_aload_n (pc := 82) C d_X_many_82 0 rfl rfl ?_
            refine fX_rowCount (pc := 83) C lk_X_37 d_X_many_83 (v := X_rowCount x) rfl ?_
            exact g_iret (pc := 86) C q d_X_many_86 (hq _ _ hw)
          · replace hw := hw.2 h13
            by_cases h14 : x1 = 5
            · replace hw := hw.1 h14
              refine g_tabIn (pc := 1) (tgt := 87) C d_X_many_1 (by rw [h14]; decide) (by rw [h14]; decide) (off := 86) (by rw [h14]; rfl) (by decide) ?_
              refine g_aload_n (pc := 87) C d_X_many_87 0 rfl rfl ?_
              refine fX_tape (pc := 88) C lk_X_29 d_X_many_88 ?_
              refine fX_tape_size (pc := 91) C lk_X_62 d_X_many_91 (v := T_size (X_tape x)) rfl ?_
              exact g_iret (pc := 94) C q d_X_many_94 (hq _ _ hw)
            · replace hw := hw.2 h14
              by_cases h15 : x1 = 6
              · replace hw := hw.1 h15
                refine g_tabIn (pc := 1) (tgt := 95) C d_X_many_1 (by rw [h15]; decide) (by rw [h15]; decide) (off := 94) (by rw [h15]; rfl) (by decide) ?_
                refine g_aload_n (pc := 95) C d_X_many_95 0 rfl rfl ?_
                refine fX_acts (pc := 96) C lk_X_56 d_X_many_96 ?_
                refine fX_acts_traced (pc := 99) C lk_X_273 d_X_many_99 (v := A_traced (X_acts x)) rfl ?_
                exact g_iret (pc := 102) C q d_X_many_102 (hq _ _ hw)
              · replace hw := hw.2 h15
                have h9_ := sw_ne (v := 0) h9 (by decide)
                have h10_ := sw_ne (v := 1) h10 (by decide)
                have h11_ := sw_ne (v := 2) h11 (by decide)
                have h12_ := sw_ne (v := 3) h12 (by decide)
                have h13_ := sw_ne (v := 4) h13 (by decide)
                have h14_ := sw_ne (v := 5) h14 (by decide)
                have h15_ := sw_ne (v := 6) h15 (by decide)
                refine g_tabOut (pc := 1) (tgt := 103) C d_X_many_1 (by omega) (by decide) ?_
                refine g_iconst (pc := 103) C (v := (-1)) d_X_many_103 (by decide) ?_
                exact g_iret (pc := 104) C q d_X_many_104 (hq _ _ hw)
set_option maxRecDepth 20000 in
theorem c_X_many (l : Launch) (D : va_G) (t : Nat → ClassId) (ev : Nat → Nat) (a : Nat → Nat) (x : XSt) (x1 : Int32) (post : Int32 → XSt → Prop) (hw : wp_X_many x x1 post) : Con l D t ev y_X_many b_X_many 2 ((some .int)) 2 (woX t a x) [.ref (a 0), .int x1] (qI (woX t a)  post) :=
  ConR.of (by decide +kernel) (Nat.le_of_ble_eq_true rfl) (fun X el eD et ee C q _ => by subst el; subst eD; subst et; subst ee; exact g_X_many C q a x x1 post (fun v c1 h => ⟨⟨v, c1, rfl, rfl, h⟩, rfl⟩) hw)
def wp_X_keep (x : XSt) (post : Int32 → XSt → Prop) : Prop :=
  wp_C_copyFrom (X_kept x, X_now x) (fun p_1 => post 1 (X_isKept_ (X_now_ (X_kept_ x p_1.1) p_1.2) 1))
set_option maxRecDepth 20000 in
theorem g_X_keep {X : GX} (C : GC X b_X_keep R_X 1 (rmd 2)) {Qp : Option Value → va_W → Prop} (q : RC X ((some .int)) Qp 0 0) (a : Nat → Nat) (x : XSt) (post : Int32 → XSt → Prop) (hq : ∀ v c1, post v c1 → Qp (some (.int v)) (woX (xt X) a c1)) (hw : wp_X_keep x post) : G X 0 0 (woX (xt X) a x) [(0, .ref (a 0))] [] 0 := by
  unfold wp_X_keep at hw
  refine g_aload_n (pc := 0) C d_X_keep_0 0 rfl rfl ?_
  refine fX_kept (pc := 1) C lk_X_19 d_X_keep_1 ?_
  refine g_aload_n (pc := 4) C d_X_keep_4 0 rfl rfl ?_
  refine fX_now (pc := 5) C lk_X_10 d_X_keep_5 ?_
  refine k_V (pc := 8) (co_V C (c_C_copyFrom (xl X) (xD X) (xt X) (xv X) (fun i => a (19 + i)) (fun i => a (1 + i)) (X_kept x, X_now x) _ hw) mw_C_copyFrom lk_X_69 d_X_keep_8 [19, 20, 21, 22, 23, 24, 25, 26, 27, 1, 2, 3, 4, 5, 6, 7, 8, 9] (cC_X_kept_now (xt X) a a x) (by decide) (rec_w C 19 1 rfl rfl) rfl rfl ⟨Nat.le_of_ble_eq_true rfl, Nat.le_of_ble_eq_true rfl⟩ ⟨Nat.le_of_ble_eq_true rfl, Nat.le_of_ble_eq_true rfl⟩ (rest := []) rfl rfl (Nat.le_of_ble_eq_true rfl)) (fun p_1 => woX (xt X) a (X_now_ (X_kept_ x p_1.1) p_1.2)) (cS_X_kept_now (xt X) a a x) (fun p_1 hw => ?_)
  refine g_aload_n (pc := 11) C d_X_keep_11 0 rfl rfl ?_
  refine g_iconst (pc := 12) C (v := 1) d_X_keep_12 (by decide) ?_
  refine pX_isKept (pc := 13) C lk_X_22 d_X_keep_13 (by decide) (by decide) ?_
  refine g_iconst (pc := 16) C (v := 1) d_X_keep_16 (by decide) ?_
  exact g_iret (pc := 17) C q d_X_keep_17 (hq _ _ hw)
set_option maxRecDepth 20000 in
theorem c_X_keep (l : Launch) (D : va_G) (t : Nat → ClassId) (ev : Nat → Nat) (a : Nat → Nat) (x : XSt) (post : Int32 → XSt → Prop) (hw : wp_X_keep x post) : Con l D t ev y_X_keep b_X_keep 1 ((some .int)) 2 (woX t a x) [.ref (a 0)] (qI (woX t a)  post) :=
  ConR.of (by decide +kernel) (Nat.le_of_ble_eq_true rfl) (fun X el eD et ee C q _ => by subst el; subst eD; subst et; subst ee; exact g_X_keep C q a x post (fun v c1 h => ⟨⟨v, c1, rfl, rfl, h⟩, rfl⟩) hw)
def wp_X_again (x : XSt) (post : Int32 → XSt → Prop) : Prop :=
  (((X_isKept x) = 0) → (post (-3) x)) ∧ ((¬ (X_isKept x) = 0) → (wp_C_copyFrom (X_now x, X_kept x) (fun p_1 => post (C_count p_1.1) (X_kept_ (X_now_ x p_1.1) p_1.2))))
set_option maxRecDepth 20000 in
theorem g_X_again {X : GX} (C : GC X b_X_again R_X 1 (rmd 2)) {Qp : Option Value → va_W → Prop} (q : RC X ((some .int)) Qp 0 0) (a : Nat → Nat) (x : XSt) (post : Int32 → XSt → Prop) (hq : ∀ v c1, post v c1 → Qp (some (.int v)) (woX (xt X) a c1)) (hw : wp_X_again x post) : G X 0 0 (woX (xt X) a x) [(0, .ref (a 0))] [] 0 := by
  unfold wp_X_again at hw
  refine g_aload_n (pc := 0) C d_X_again_0 0 rfl rfl ?_
  refine fX_isKept (pc := 1) C lk_X_22 d_X_again_1 (v := X_isKept x) rfl ?_
  refine g_if_ne (pc := 4) (tgt := 10) C d_X_again_4 (by decide) (fun h2 => ?_) (fun h2 => ?_)
  · replace hw := hw.2 h2
    refine g_aload_n (pc := 10) C d_X_again_10 0 rfl rfl ?_
    refine fX_now (pc := 11) C lk_X_10 d_X_again_11 ?_
    refine g_aload_n (pc := 14) C d_X_again_14 0 rfl rfl ?_
    refine fX_kept (pc := 15) C lk_X_19 d_X_again_15 ?_
    refine k_V (pc := 18) (co_V C (c_C_copyFrom (xl X) (xD X) (xt X) (xv X) (fun i => a (1 + i)) (fun i => a (19 + i)) (X_now x, X_kept x) _ hw) mw_C_copyFrom lk_X_69 d_X_again_18 [1, 2, 3, 4, 5, 6, 7, 8, 9, 19, 20, 21, 22, 23, 24, 25, 26, 27] (cC_X_now_kept (xt X) a a x) (by decide) (rec_w C 1 1 rfl rfl) rfl rfl ⟨Nat.le_of_ble_eq_true rfl, Nat.le_of_ble_eq_true rfl⟩ ⟨Nat.le_of_ble_eq_true rfl, Nat.le_of_ble_eq_true rfl⟩ (rest := []) rfl rfl (Nat.le_of_ble_eq_true rfl)) (fun p_1 => woX (xt X) a (X_kept_ (X_now_ x p_1.1) p_1.2)) (cS_X_now_kept (xt X) a a x) (fun p_1 hw => ?_)
    refine g_aload_n (pc := 21) C d_X_again_21 0 rfl rfl ?_
    refine fX_now (pc := 22) C lk_X_10 d_X_again_22 ?_
    refine fX_now_count (pc := 25) C lk_X_80 d_X_again_25 (v := C_count p_1.1) rfl ?_
    exact g_iret (pc := 28) C q d_X_again_28 (hq _ _ hw)
  · replace hw := hw.1 h2
    refine g_bipush (pc := 7) C (v := (-3)) d_X_again_7 (by decide) ?_
    exact g_iret (pc := 9) C q d_X_again_9 (hq _ _ hw)
set_option maxRecDepth 20000 in
theorem c_X_again (l : Launch) (D : va_G) (t : Nat → ClassId) (ev : Nat → Nat) (a : Nat → Nat) (x : XSt) (post : Int32 → XSt → Prop) (hw : wp_X_again x post) : Con l D t ev y_X_again b_X_again 1 ((some .int)) 2 (woX t a x) [.ref (a 0)] (qI (woX t a)  post) :=
  ConR.of (by decide +kernel) (Nat.le_of_ble_eq_true rfl) (fun X el eD et ee C q _ => by subst el; subst eD; subst et; subst ee; exact g_X_again C q a x post (fun v c1 h => ⟨⟨v, c1, rfl, rfl, h⟩, rfl⟩) hw)
