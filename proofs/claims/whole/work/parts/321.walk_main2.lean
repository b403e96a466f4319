def w_X_loadFits_34  (post : Int32 → XSt → Prop)  : Nat → XSt → Nat → Int32 → Int32 → Prop
  | 0, _, _, _, _ => False
  | n + 1, x, x1, x2, x4 =>
    ((x1 = 4) → (False)) ∧ ((¬ x1 = 4) → (x1 < 4 ∧ ((((S_size (X_sheets x x1)) ≤ x4) → (post 1 x)) ∧ ((¬ (S_size (X_sheets x x1)) ≤ x4) → (((40 ≤ x4) → (post 1 x)) ∧ ((¬ 40 ≤ x4) → (wp_C_passHour (X_tried x) (fun c_5 => vp_in x4 40 ∧ (((((S_items (X_sheets x x1)) x4.toNatClampNeg) = (-1)) → (∀ y7 : Int32, y7 = x4 + 1 → (w_X_loadFits_34  post  n (X_tried_ x c_5) x1 x2 y7))) ∧ ((¬ ((S_items (X_sheets x x1)) x4.toNatClampNeg) = (-1)) → (vp_in x4 40 ∧ (vp_in x2 8 ∧ (((((S_items (X_sheets x x1)) x4.toNatClampNeg) = ((C_load c_5) x2.toNatClampNeg)) → (∀ y10 : Int32, y10 = x4 + 1 → (w_X_loadFits_34  post  n (X_tried_ x c_5) x1 x2 y10))) ∧ ((¬ ((S_items (X_sheets x x1)) x4.toNatClampNeg) = ((C_load c_5) x2.toNatClampNeg)) → (post 0 (X_tried_ x c_5))))))))))))))))
set_option maxRecDepth 20000 in
theorem j_X_loadFits_34 {X : GX} (C : GC X b_X_loadFits R_X 5 (rmd 4)) {Qp : Option Value → va_W → Prop} (q : RC X ((some .boolean)) Qp 0 0) (a : Nat → Nat)   (post : Int32 → XSt → Prop) (hq : ∀ v c1, post v c1 → Qp (some (.int v)) (woX (xt X) a c1)) : ∀ (n : Nat) (x : XSt) (x1 : Nat) (x2 : Int32) (x4 : Int32), w_X_loadFits_34  post  n x x1 x2 x4 → G X 0 0 (woX (xt X) a x) [(0, .ref (a 0)), (1, rfS a x1), (2, .int x2), (4, .int x4)] [] 34 := by
  intro n
  induction n with
  | zero => intro x x1 x2 x4 hw; exact hw.elim
  | succ n ih =>
    intro x x1 x2 x4 hw
    rw [w_X_loadFits_34] at hw
    refine g_iload (pc := 34) C d_X_loadFits_34 3 rfl ?_
    by_cases h15 : x1 = 4
    · have hzh15 := hw.1 h15
      subst h15
      have hw := hzh15
      refine g_re (lv' := [(0, .ref (a 0)), (1, .null), (2, .int x2), (4, .int x4)]) (st' := [.int x4]) rfl rfl ?_
      refine g_aload_nN (pc := 36) C d_X_loadFits_36 1 rfl rfl ?_
      exact hw.elim
    · obtain ⟨h15, hzh15⟩ := hw.2 h15
      rcases q4 h15 with rfl | rfl | rfl | rfl
      · have hw := hzh15
        refine g_re (lv' := [(0, .ref (a 0)), (1, .ref (a 32)), (2, .int x2), (4, .int x4)]) (st' := [.int x4]) rfl rfl ?_
        refine g_aload_n (pc := 36) C d_X_loadFits_36 1 rfl rfl ?_
        refine fX_sheets0_size (pc := 37) C lk_X_227 d_X_loadFits_37 (v := S_size (X_sheets x 0)) rfl ?_
        refine g_icmp_ge (pc := 40) (tgt := 95) C d_X_loadFits_40 (by decide) (fun h14 => ?_) (fun h14 => ?_)
        · replace hw := hw.1 h14
          refine g_iconst (pc := 95) C (v := 1) d_X_loadFits_95 (by decide) ?_
          exact g_zret (pc := 96) C q d_X_loadFits_96 (by decide) (hq _ _ hw)
        · replace hw := hw.2 h14
          refine g_iload (pc := 43) C d_X_loadFits_43 3 rfl ?_
          refine g_bipush (pc := 45) C (v := 40) d_X_loadFits_45 (by decide) ?_
          refine g_icmp_ge (pc := 47) (tgt := 95) C d_X_loadFits_47 (by decide) (fun h13 => ?_) (fun h13 => ?_)
          · replace hw := hw.1 h13
            refine g_iconst (pc := 95) C (v := 1) d_X_loadFits_95 (by decide) ?_
            exact g_zret (pc := 96) C q d_X_loadFits_96 (by decide) (hq _ _ hw)
          · replace hw := hw.2 h13
            refine g_aload_n (pc := 50) C d_X_loadFits_50 0 rfl rfl ?_
            refine fX_tried (pc := 51) C lk_X_16 d_X_loadFits_51 ?_
            refine k_V (pc := 54) (co_V C (c_C_passHour (xl X) (xD X) (xt X) (xv X) (fun i => a (10 + i)) (X_tried x) _ hw) mw_C_passHour lk_X_183 d_X_loadFits_54 [10, 11, 12, 13, 14, 15, 16, 17, 18] (cC_X_tried (xt X) a a x) (by decide) (rec_w C 10 1 rfl rfl) rfl rfl ⟨Nat.le_of_ble_eq_true rfl, Nat.le_of_ble_eq_true rfl⟩ ⟨Nat.le_of_ble_eq_true rfl, Nat.le_of_ble_eq_true rfl⟩ (rest := []) rfl rfl (Nat.le_of_ble_eq_true rfl)) (fun c_5 => woX (xt X) a (X_tried_ x c_5)) (cS_X_tried (xt X) a a x) (fun c_5 hw => ?_)
            refine g_aload_n (pc := 57) C d_X_loadFits_57 1 rfl rfl ?_
            refine fX_sheets0_items (pc := 58) C lk_X_228 d_X_loadFits_58 ?_
            refine g_iload (pc := 61) C d_X_loadFits_61 3 rfl ?_
            obtain ⟨h6, hw⟩ := hw
            refine lX_sheets0_items (pc := 63) C d_X_loadFits_63 (f := S_items (X_sheets x 0)) rfl (N0 := x4.toNatClampNeg) rfl h6 ?_
            refine g_iconst (pc := 64) C (v := (-1)) d_X_loadFits_64 (by decide) ?_
            refine g_icmp_eq (pc := 65) (tgt := 89) C d_X_loadFits_65 (by decide) (fun h12 => ?_) (fun h12 => ?_)
            · replace hw := hw.1 h12
              obtain ⟨y7, ey7⟩ : ∃ w, w = x4 + 1 := ⟨_, rfl⟩
              replace hw := hw y7 ey7
              refine g_iinc (pc := 89) C d_X_loadFits_89 3 rfl (v := y7) (by rw [ey7]; rfl) (Nat.le_of_ble_eq_true rfl) (lv' := [(0, .ref (a 0)), (1, .ref (a 32)), (2, .int x2), (4, .int y7)]) rfl ?_
              refine g_goto (pc := 92) (tgt := 34) C d_X_loadFits_92 (by decide) ?_
              exact ih (X_tried_ x c_5) 0 x2 y7 hw
            · replace hw := hw.2 h12
              refine g_aload_n (pc := 68) C d_X_loadFits_68 1 rfl rfl ?_
              refine fX_sheets0_items (pc := 69) C lk_X_228 d_X_loadFits_69 ?_
              refine g_iload (pc := 72) C d_X_loadFits_72 3 rfl ?_
              obtain ⟨h8, hw⟩ := hw
              refine lX_sheets0_items (pc := 74) C d_X_loadFits_74 (f := S_items (X_sheets x 0)) rfl (N0 := x4.toNatClampNeg) rfl h8 ?_
              refine g_aload_n (pc := 75) C d_X_loadFits_75 0 rfl rfl ?_
              refine fX_tried (pc := 76) C lk_X_16 d_X_loadFits_76 ?_
              refine fX_tried_load (pc := 79) C lk_X_112 d_X_loadFits_79 ?_
              refine g_iload_n (pc := 82) C d_X_loadFits_82 2 rfl rfl ?_
              obtain ⟨h9, hw⟩ := hw
              refine lX_tried_load (pc := 83) C d_X_loadFits_83 (f := C_load c_5) rfl (N0 := x2.toNatClampNeg) rfl h9 ?_
              refine g_icmp_eq (pc := 84) (tgt := 89) C d_X_loadFits_84 (by decide) (fun h11 => ?_) (fun h11 => ?_)
              · replace hw := hw.1 h11
                obtain ⟨y10, ey10⟩ : ∃ w, w = x4 + 1 := ⟨_, rfl⟩
                replace hw := hw y10 ey10
                refine g_iinc (pc := 89) C d_X_loadFits_89 3 rfl (v := y10) (by rw [ey10]; rfl) (Nat.le_of_ble_eq_true rfl) (lv' := [(0, .ref (a 0)), (1, .ref (a 32)), (2, .int x2), (4, .int y10)]) rfl ?_
                refine g_goto (pc := 92) (tgt := 34) C d_X_loadFits_92 (by decide) ?_
                exact ih (X_tried_ x c_5) 0 x2 y10 hw
              · replace hw := hw.2 h11
                refine g_iconst (pc := 87) C (v := 0) d_X_loadFits_87 (by decide) ?_
                exact g_zret (pc := 88) C q d_X_loadFits_88 (by decide) (hq _ _ hw)
      · have hw := hzh15
        refine g_re (lv' := [(0, .ref (a 0)), (1, .ref (a 34)), (2, .int x2), (4, .int x4)]) (st' := [.int x4]) rfl rfl ?_
        refine g_aload_n (pc := 36) C d_X_loadFits_36 1 rfl rfl ?_
        refine fX_sheets1_size (pc := 37) C lk_X_227 d_X_loadFits_37 (v := S_size (X_sheets x 1)) rfl ?_
        refine g_icmp_ge (pc := 40) (tgt := 95) C d_X_loadFits_40 (by decide) (fun h14 => ?_) (fun h14 => ?_)
        · replace hw := hw.1 h14
          refine g_iconst (pc := 95) C (v := 1) d_X_loadFits_95 (by decide) ?_
          exact g_zret (pc := 96) C q d_X_loadFits_96 (by decide) (hq _ _ hw)
        · replace hw := hw.2 h14
          refine g_iload (pc := 43) C d_X_loadFits_43 3 rfl ?_
          refine g_bipush (pc := 45) C (v := 40) d_X_loadFits_45 (by decide) ?_
          refine g_icmp_ge (pc := 47) (tgt := 95) C d_X_loadFits_47 (by decide) (fun h13 => ?_) (fun h13 => ?_)
          · replace hw := hw.1 h13
            refine g_iconst (pc := 95) C (v := 1) d_X_loadFits_95 (by decide) ?_
            exact g_zret (pc := 96) C q d_X_loadFits_96 (by decide) (hq _ _ hw)
          · replace hw := hw.2 h13
            refine g_aload_n (pc := 50) C d_X_loadFits_50 0 rfl rfl ?_
            refine fX_tried (pc := 51) C lk_X_16 d_X_loadFits_51 ?_
            refine k_V (pc := 54) (co_V C (c_C_passHour (xl X) (xD X) (xt X) (xv X) (fun i => a (10 + i)) (X_tried x) _ hw) mw_C_passHour lk_X_183 d_X_loadFits_54 [10, 11, 12, 13, 14, 15, 16, 17, 18] (cC_X_tried (xt X) a a x) (by decide) (rec_w C 10 1 rfl rfl) rfl rfl ⟨Nat.le_of_ble_eq_true rfl, Nat.le_of_ble_eq_true rfl⟩ ⟨Nat.le_of_ble_eq_true rfl, Nat.le_of_ble_eq_true rfl⟩ (rest := []) rfl rfl (Nat.le_of_ble_eq_true rfl)) (fun c_5 => woX (xt X) a (X_tried_ x c_5)) (cS_X_tried (xt X) a a x) (fun c_5 hw => ?_)
            refine g_aload_n (pc := 57) C d_X_loadFits_57 1 rfl rfl ?_
            refine fX_sheets1_items (pc := 58) C lk_X_228 d_X_loadFits_58 ?_
            refine g_iload (pc := 61) C d_X_loadFits_61 3 rfl ?_
            obtain ⟨h6, hw⟩ := hw
            refine lX_sheets1_items (pc := 63) C d_X_loadFits_63 (f := S_items (X_sheets x 1)) rfl (N0 := x4.toNatClampNeg) rfl h6 ?_
            refine g_iconst (pc := 64) C (v := (-1)) d_X_loadFits_64 (by decide) ?_
            refine g_icmp_eq (pc := 65) (tgt := 89) C d_X_loadFits_65 (by decide) (fun h12 => ?_) (fun h12 => ?_)
            · replace hw := hw.1 h12
              obtain ⟨y7, ey7⟩ : ∃ w, w = x4 + 1 := ⟨_, rfl⟩
              replace hw := hw y7 ey7
              refine g_iinc (pc := 89) C d_X_loadFits_89 3 rfl (v := y7) (by rw [ey7]; rfl) (Nat.le_of_ble_eq_true rfl) (lv' := [(0, .ref (a 0)), (1, .ref (a 34)), (2, .int x2), (4, .int y7)]) rfl ?_
              refine g_goto (pc := 92) (tgt := 34) C d_X_loadFits_92 (by decide) ?_
              exact ih (X_tried_ x c_5) 1 x2 y7 hw
            · replace hw := hw.2 h12
              refine g_aload_n (pc := 68) C d_X_loadFits_68 1 rfl rfl ?_
              refine fX_sheets1_items (pc := 69) C lk_X_228 d_X_loadFits_69 ?_
              refine g_iload (pc := 72) C d_X_loadFits_72 3 rfl ?_
              obtain ⟨h8, hw⟩ := hw
              refine lX_sheets1_items (pc := 74) C d_X_loadFits_74 (f := S_items (X_sheets x 1)) rfl (N0 := x4.toNatClampNeg) rfl h8 ?_
              refine g_aload_n (pc := 75) C d_X_loadFits_75 0 rfl rfl ?_
              refine fX_tried (pc := 76) C lk_X_16 d_X_loadFits_76 ?_
              refine fX_tried_load (pc := 79) C lk_X_112 d_X_loadFits_79 ?_
              refine g_iload_n (pc := 82) C d_X_loadFits_82 2 rfl rfl ?_
              obtain ⟨h9, hw⟩ := hw
              refine lX_tried_load (pc := 83) C d_X_loadFits_83 (f := C_load c_5) rfl (N0 := x2.toNatClampNeg) rfl h9 ?_
              refine g_icmp_eq (pc := 84) (tgt := 89) C d_X_loadFits_84 (by decide) (fun h11 => ?_) (fun h11 => ?_)
              · replace hw := hw.1 h11
                obtain ⟨y10, ey10⟩ : ∃ w, w = x4 + 1 := ⟨_, rfl⟩
                replace hw := hw y10 ey10
                refine g_iinc (pc := 89) C d_X_loadFits_89 3 rfl (v := y10) (by rw [ey10]; rfl) (Nat.le_of_ble_eq_true rfl) (lv' := [(0, .ref (a 0)), (1, .ref (a 34)), (2, .int x2), (4, .int y10)]) rfl ?_
                refine g_goto (pc := 92) (tgt := 34) C d_X_loadFits_92 (by decide) ?_
                exact ih (X_tried_ x c_5) 1 x2 y10 hw
              · replace hw := hw.2 h11
                refine g_iconst (pc := 87) C (v := 0) d_X_loadFits_87 (by decide) ?_
                exact g_zret (pc := 88) C q d_X_loadFits_88 (by decide) (hq _ _ hw)
      · have hw := hzh15
        refine g_re (lv' := [(0, .ref (a 0)), (1, .ref (a 36)), (2, .int x2), (4, .int x4)]) (st' := [.int x4]) rfl rfl ?_
        refine g_aload_n (pc := 36) C d_X_loadFits_36 1 rfl rfl ?_
        refine fX_sheets2_size (pc := 37) C lk_X_227 d_X_loadFits_37 (v := S_size (X_sheets x 2)) rfl ?_
        refine g_icmp_ge (pc := 40) (tgt := 95) C d_X_loadFits_40 (by decide) (fun h14 => ?_) (fun h14 => ?_)
        · replace hw := hw.1 h14
          refine g_iconst (pc := 95) C (v := 1) d_X_loadFits_95 (by decide) ?_
          exact g_zret (pc := 96) C q d_X_loadFits_96 (by decide) (hq _ _ hw)
        · replace hw := hw.2 h14
          refine g_iload (pc := 43) C d_X_loadFits_43 3 rfl ?_
          refine g_bipush (pc := 45) C (v := 40) d_X_loadFits_45 (by decide) ?_
          refine g_icmp_ge (pc := 47) (tgt := 95) C d_X_loadFits_47 (by decide) (fun h13 => ?_) (fun h13 => ?_)
          · replace hw := hw.1 h13
            refine g_iconst (pc := 95) C (v := 1) d_X_loadFits_95 (by decide) ?_
            exact g_zret (pc := 96) C q d_X_loadFits_96 (by decide) (hq _ _ hw)
          · replace hw := hw.2 h13
            refine g_aload_n (pc := 50) C d_X_loadFits_50 0 rfl rfl ?_
            refine fX_tried (pc := 51) C lk_X_16 d_X_loadFits_51 ?_
            refine k_V (pc := 54) (co_V C (c_C_passHour (xl X) (xD X) (xt X) (xv X) (fun i => a (10 + i)) (X_tried x) _ hw) mw_C_passHour lk_X_183 d_X_loadFits_54 [10, 11, 12, 13, 14, 15, 16, 17, 18] (cC_X_tried (xt X) a a x) (by decide) (rec_w C 10 1 rfl rfl) rfl rfl ⟨Nat.le_of_ble_eq_true rfl, Nat.le_of_ble_eq_true rfl⟩ ⟨Nat.le_of_ble_eq_true rfl, Nat.le_of_ble_eq_true rfl⟩ (rest := []) rfl rfl (Nat.le_of_ble_eq_true rfl)) (fun c_5 => woX (xt X) a (X_tried_ x c_5)) (cS_X_tried (xt X) a a x) (fun c_5 hw => ?_)
            refine g_aload_n (pc := 57) C d_X_loadFits_57 1 rfl rfl ?_
            refine fX_sheets2_items (pc := 58) C lk_X_228 d_X_loadFits_58 ?_
            refine g_iload (pc := 61) C d_X_loadFits_61 3 rfl ?_
            obtain ⟨h6, hw⟩ := hw
            refine lX_sheets2_items (pc := 63) C d_X_loadFits_63 (f := S_items (X_sheets x 2)) rfl (N0 := x4.toNatClampNeg) rfl h6 ?_
            refine g_iconst (pc := 64) C (v := (-1)) d_X_loadFits_64 (by decide) ?_
            refine g_icmp_eq (pc := 65) (tgt := 89) C d_X_loadFits_65 (by decide) (fun h12 => ?_) (fun h12 => ?_)
            · replace hw := hw.1 h12
              obtain ⟨y7, ey7⟩ : ∃ w, w = x4 + 1 := ⟨_, rfl⟩
              replace hw := hw y7 ey7
              refine g_iinc (pc := 89) C d_X_loadFits_89 3 rfl (v := y7) (by rw [ey7]; rfl) (Nat.le_of_ble_eq_true rfl) (lv' := [(0, .ref (a 0)), (1, .ref (a 36)), (2, .int x2), (4, .int y7)]) rfl ?_
              refine g_goto (pc := 92) (tgt := 34) C d_X_loadFits_92 (by decide) ?_
              exact ih (X_tried_ x c_5) 2 x2 y7 hw
            · replace hw := hw.2 h12
              refine g_aload_n (pc := 68) C d_X_loadFits_68 1 rfl rfl ?_
              refine fX_sheets2_items (pc := 69) C lk_X_228 d_X_loadFits_69 ?_
              refine g_iload (pc := 72) C d_X_loadFits_72 3 rfl ?_
              obtain ⟨h8, hw⟩ := hw
              refine lX_sheets2_items (pc := 74) C d_X_loadFits_74 (f := S_items (X_sheets x 2)) rfl (N0 := x4.toNatClampNeg) rfl h8 ?_
              refine g_aload_n (pc := 75) C d_X_loadFits_75 0 rfl rfl ?_
              refine fX_tried (pc := 76) C lk_X_16 d_X_loadFits_76 ?_
              refine fX_tried_load (pc := 79) C lk_X_112 d_X_loadFits_79 ?_
              refine g_iload_n (pc := 82) C d_X_loadFits_82 2 rfl rfl ?_
              obtain ⟨h9, hw⟩ := hw
              refine lX_tried_load (pc := 83) C d_X_loadFits_83 (f := C_load c_5) rfl (N0 := x2.toNatClampNeg) rfl h9 ?_
              refine g_icmp_eq (pc := 84) (tgt := 89) C d_X_loadFits_84 (by decide) (fun h11 => ?_) (fun h11 => ?_)
              · replace hw := hw.1 h11
                obtain ⟨y10, ey10⟩ : ∃ w, w = x4 + 1 := ⟨_, rfl⟩
                replace hw := hw y10 ey10
                refine g_iinc (pc := 89) C d_X_loadFits_89 3 rfl (v := y10) (by rw [ey10]; rfl) (Nat.le_of_ble_eq_true rfl) (lv' := [(0, .ref (a 0)), (1, .ref (a 36)), (2, .int x2), (4, .int y10)]) rfl ?_
                refine g_goto (pc := 92) (tgt := 34) C d_X_loadFits_92 (by decide) ?_
                exact ih (X_tried_ x c_5) 2 x2 y10 hw
              · replace hw := hw.2 h11
                refine g_iconst (pc := 87) C (v := 0) d_X_loadFits_87 (by decide) ?_
                exact g_zret (pc := 88) C q d_X_loadFits_88 (by decide) (hq _ _ hw)
      · have hw := hzh15
        refine g_re (lv' := [(0, .ref (a 0)), (1, .ref (a 38)), (2, .int x2), (4, .int x4)]) (st' := [.int x4]) rfl rfl ?_
        refine g_aload_n (pc := 36) C d_X_loadFits_36 1 rfl rfl ?_
        refine fX_sheets3_size (pc := 37) C lk_X_227 d_X_loadFits_37 (v := S_size (X_sheets x 3)) rfl ?_
        refine g_icmp_ge (pc := 40) (tgt := 95) C d_X_loadFits_40 (by decide) (fun h14 => ?_) (fun h14 => ?_)
        · replace hw := hw.1 h14
          refine g_iconst (pc := 95) C (v := 1) d_X_loadFits_95 (by decide) ?_
          exact g_zret (pc := 96) C q d_X_loadFits_96 (by decide) (hq _ _ hw)
        · replace hw := hw.2 h14
          refine g_iload (pc := 43) C d_X_loadFits_43 3 rfl ?_
          refine g_bipush (pc := 45) C (v := 40) d_X_loadFits_45 (by decide) ?_
          refine g_icmp_ge (pc := 47) (tgt := 95) C d_X_loadFits_47 (by decide) (fun h13 => ?_) (fun h13 => ?_)
          · replace hw := hw.1 h13
            refine g_iconst (pc := 95) C (v := 1) d_X_loadFits_95 (by decide) ?_
            exact g_zret (pc := 96) C q d_X_loadFits_96 (by decide) (hq _ _ hw)
          · replace hw := hw.2 h13
            refine g_aload_n (pc := 50) C d_X_loadFits_50 0 rfl rfl ?_
            refine fX_tried (pc := 51) C lk_X_16 d_X_loadFits_51 ?_
            refine k_V (pc := 54) (co_V C (c_C_passHour (xl X) (xD X) (xt X) (xv X) (fun i => a (10 + i)) (X_tried x) _ hw) mw_C_passHour lk_X_183 d_X_loadFits_54 [10, 11, 12, 13, 14, 15, 16, 17, 18] (cC_X_tried (xt X) a a x) (by decide) (rec_w C 10 1 rfl rfl) rfl rfl ⟨Nat.le_of_ble_eq_true rfl, Nat.le_of_ble_eq_true rfl⟩ ⟨Nat.le_of_ble_eq_true rfl, Nat.le_of_ble_eq_true rfl⟩ (rest := []) rfl rfl (Nat.le_of_ble_eq_true rfl)) (fun c_5 => woX (xt X) a (X_tried_ x c_5)) (cS_X_tried (xt X) a a x) (fun c_5 hw => ?_)
            refine g_aload_n (pc := 57) C d_X_loadFits_57 1 rfl rfl ?_
            refine fX_sheets3_items (pc := 58) C lk_X_228 d_X_loadFits_58 ?_
            refine g_iload (pc := 61) C d_X_loadFits_61 3 rfl ?_
            obtain ⟨h6, hw⟩ := hw
            refine lX_sheets3_items (pc := 63) C d_X_loadFits_63 (f := S_items (X_sheets x 3)) rfl (N0 := x4.toNatClampNeg) rfl h6 ?_
            refine g_iconst (pc := 64) C (v := (-1)) d_X_loadFits_64 (by decide) ?_
            refine g_icmp_eq (pc := 65) (tgt := 89) C d_X_loadFits_65 (by decide) (fun h12 => ?_) (fun h12 => ?_)
            · replace hw := hw.1 h12
              obtain ⟨y7, ey7⟩ : ∃ w, w = x4 + 1 := ⟨_, rfl⟩
              replace hw := hw y7 ey7
              refine g_iinc (pc := 89) C d_X_loadFits_89 3 rfl (v := y7) (by rw [ey7]; rfl) (Nat.le_of_ble_eq_true rfl) (lv' := [(0, .ref (a 0)), (1, .ref (a 38)), (2, .int x2), (4, .int y7)]) rfl ?_
              refine g_goto (pc := 92) (tgt := 34) C d_X_loadFits_92 (by decide) ?_
              exact ih (X_tried_ x c_5) 3 x2 y7 hw
            · replace hw := hw.2 h12
              refine g_aload_n (pc := 68) C d_X_loadFits_68 1 rfl rfl ?_
              refine fX_sheets3_items (pc := 69) C lk_X_228 d_X_loadFits_69 ?_
              refine g_iload (pc := 72) C d_X_loadFits_72 3 rfl ?_
              obtain ⟨h8, hw⟩ := hw
              refine lX_sheets3_items (pc := 74) C d_X_loadFits_74 (f := S_items (X_sheets x 3)) rfl (N0 := x4.toNatClampNeg) rfl h8 ?_
              refine g_aload_n (pc := 75) C d_X_loadFits_75 0 rfl rfl ?_
              refine fX_tried (pc := 76) C lk_X_16 d_X_loadFits_76 ?_
              refine fX_tried_load (pc := 79) C lk_X_112 d_X_loadFits_79 ?_
              refine g_iload_n (pc := 82) C d_X_loadFits_82 2 rfl rfl ?_
              obtain ⟨h9, hw⟩ := hw
              refine lX_tried_load (pc := 83) C d_X_loadFits_83 (f := C_load c_5) rfl (N0 := x2.toNatClampNeg) rfl h9 ?_
              refine g_icmp_eq (pc := 84) (tgt := 89) C d_X_loadFits_84 (by decide) (fun h11 => ?_) (fun h11 => ?_)
              · replace hw := hw.1 h11
                obtain ⟨y10, ey10⟩ : ∃ w, w = x4 + 1 := ⟨_, rfl⟩
                replace hw := hw y10 ey10
                refine g_iinc (pc := 89) C d_X_loadFits_89 3 rfl (v := y10) (by rw [ey10]; rfl) (Nat.le_of_ble_eq_true rfl) (lv' := [(0, .ref (a 0)), (1, .ref (a 38)), (2, .int x2), (4, .int y10)]) rfl ?_
                refine g_goto (pc := 92) (tgt := 34) C d_X_loadFits_92 (by decide) ?_
                exact ih (X_tried_ x c_5) 3 x2 y10 hw
              · replace hw := hw.2 h11
                refine g_iconst (pc := 87) C (v := 0) d_X_loadFits_87 (by decide) ?_
                exact g_zret (pc := 88) C q d_X_loadFits_88 (by decide) (hq _ _ hw)
def wp_X_loadFits (x : XSt) (x1 : Nat) (x2 : Int32) (x3 : Int32) (post : Int32 → XSt → Prop) : Prop :=
  wp_X_isBarge x x2 (fun v1 x_2 => ((v1 = 0) → (post 0 x_2)) ∧ ((¬ v1 = 0) → (wp_C_copyFrom (X_tried x_2, X_now x_2) (fun p_3 => vp_in x2 8 ∧ (w_X_loadFits_34  post  2000 (X_tried_ (X_now_ (X_tried_ x_2 p_3.1) p_3.2) (C_load_ p_3.1 (upd (C_load p_3.1) x2.toNatClampNeg x3))) x1 x2 0)))))
set_option maxRecDepth 20000 in
theorem g_X_loadFits {X : GX} (C : GC X b_X_loadFits R_X 5 (rmd 4)) {Qp : Option Value → va_W → Prop} (q : RC X ((some .boolean)) Qp 0 0) (a : Nat → Nat) (x : XSt) (x1 : Nat) (x2 : Int32) (x3 : Int32) (post : Int32 → XSt → Prop) (hq : ∀ v c1, post v c1 → Qp (some (.int v)) (woX (xt X) a c1)) (hw : wp_X_loadFits x x1 x2 x3 post) : G X 0 0 (woX (xt X) a x) [(0, .ref (a 0)), (1, rfS a x1), (2, .int x2), (3, .int x3)] [] 0 := by
  unfold wp_X_loadFits at hw
  refine g_aload_n (pc := 0) C d_X_loadFits_0 0 rfl rfl ?_
  refine g_iload_n (pc := 1) C d_X_loadFits_1 2 rfl rfl ?_
  refine k_Ia (pc := 2) (co_V C (c_X_isBarge (xl X) (xD X) (xt X) (xv X) a x x2 _ hw) mw_X_isBarge lk_X_106 d_X_loadFits_2 (List.range _) (all_C _) (all_nd _) (rec_w C 0 5 rfl rfl) rfl rfl ⟨Nat.le_of_ble_eq_true rfl, Nat.le_of_ble_eq_true rfl⟩ ⟨Nat.le_of_ble_eq_true rfl, Nat.le_of_ble_eq_true rfl⟩ (rest := []) rfl rfl (Nat.le_of_ble_eq_true rfl)) (fun v1 x_2 hw => ?_)
  refine g_if_ne (pc := 5) (tgt := 10) C d_X_loadFits_5 (by decide) (fun h16 => ?_) (fun h16 => ?_)
  · replace hw := hw.2 h16
    refine g_aload_n (pc := 10) C d_X_loadFits_10 0 rfl rfl ?_
    refine fX_tried (pc := 11) C lk_X_16 d_X_loadFits_11 ?_
    refine g_aload_n (pc := 14) C d_X_loadFits_14 0 rfl rfl ?_
    refine fX_now (pc := 15) C lk_X_10 d_X_loadFits_15 ?_
    refine k_V (pc := 18) (co_V C (c_C_copyFrom (xl X) (xD X) (xt X) (xv X) (fun i => a (10 + i)) (fun i => a (1 + i)) (X_tried x_2, X_now x_2) _ hw) mw_C_copyFrom lk_X_69 d_X_loadFits_18 [10, 11, 12, 13, 14, 15, 16, 17, 18, 1, 2, 3, 4, 5, 6, 7, 8, 9] (cC_X_tried_now (xt X) a a x_2) (by decide) (rec_w C 10 1 rfl rfl) rfl rfl ⟨Nat.le_of_ble_eq_true rfl, Nat.le_of_ble_eq_true rfl⟩ ⟨Nat.le_of_ble_eq_true rfl, Nat.le_of_ble_eq_true rfl⟩ (rest := []) rfl rfl (Nat.le_of_ble_eq_true rfl)) (fun p_3 => woX (xt X) a (X_now_ (X_tried_ x_2 p_3.1) p_3.2)) (cS_X_tried_now (xt X) a a x_2) (fun p_3 hw => ?_)
    refine g_aload_n (pc := 21) C d_X_loadFits_21 0 rfl rfl ?_
    refine fX_tried (pc := 22) C lk_X_16 d_X_loadFits_22 ?_
    refine fX_tried_load (pc := 25) C lk_X_112 d_X_loadFits_25 ?_
    refine g_iload_n (pc := 28) C d_X_loadFits_28 2 rfl rfl ?_
    refine g_iload_n (pc := 29) C d_X_loadFits_29 3 rfl rfl ?_
    obtain ⟨h4, hw⟩ := hw
    refine sX_tried_load (pc := 30) C (c := p_3.1) rfl d_X_loadFits_30 (f := C_load p_3.1) rfl (N0 := x2.toNatClampNeg) rfl h4 ?_
    refine g_iconst (pc := 31) C (v := 0) d_X_loadFits_31 (by decide) ?_
    refine g_istore (pc := 32) C d_X_loadFits_32 (Nat.le_of_ble_eq_true rfl) (lv' := [(0, .ref (a 0)), (1, rfS a x1), (2, .int x2), (3, .int x3), (4, .int 0)]) (by (rcases rfS_or a x1 with e | ⟨y, e⟩ <;> rw [e]) <;> rfl) ?_
    refine g_sub [0, 1, 2, 4] (lv' := [(0, .ref (a 0)), (1, rfS a x1), (2, .int x2), (4, .int 0)]) rfl ?_
    exact j_X_loadFits_34 C q a post hq  2000 (X_tried_ (X_now_ (X_tried_ x_2 p_3.1) p_3.2) (C_load_ p_3.1 (upd (C_load p_3.1) x2.toNatClampNeg x3))) x1 x2 0 hw
  · replace hw := hw.1 h16
    refine g_iconst (pc := 8) C (v := 0) d_X_loadFits_8 (by decide) ?_
    exact g_zret (pc := 9) C q d_X_loadFits_9 (by decide) (hq _ _ hw)
set_option maxRecDepth 20000 in
theorem c_X_loadFits (l : Launch) (D : va_G) (t : Nat → ClassId) (ev : Nat → Nat) (a : Nat → Nat) (x : XSt) (x1 : Nat) (x2 : Int32) (x3 : Int32) (post : Int32 → XSt → Prop) (hw : wp_X_loadFits x x1 x2 x3 post) : Con l D t ev y_X_loadFits b_X_loadFits 5 ((some .boolean)) 4 (woX t a x) [.ref (a 0), rfS a x1, .int x2, .int x3] (qI (woX t a)  post) :=
  ConR.of (by decide +kernel) (by rcases rfS_or a x1 with e | ⟨y, e⟩ <;> rw [e] <;> exact Nat.le_of_ble_eq_true rfl) (fun X el eD et ee C q _ => by subst el; subst eD; subst et; subst ee; have e0 : lv_args 0 [.ref (a 0), rfS a x1, .int x2, .int x3] = [(0, .ref (a 0)), (1, rfS a x1), (2, .int x2), (3, .int x3)] := (by rcases rfS_or a x1 with e | ⟨y, e⟩ <;> rw [e] <;> rfl); rw [e0]; exact g_X_loadFits C q a x x1 x2 x3 post (fun v c1 h => ⟨⟨v, c1, rfl, rfl, h⟩, rfl⟩) hw)
def wp_X_sheetAt (x : XSt) (x1 : Int32) (post : Nat → XSt → Prop) : Prop :=
  ((x1 < 0) → (post 4 x)) ∧ ((¬ x1 < 0) → (((4 ≤ x1) → (post 4 x)) ∧ ((¬ 4 ≤ x1) → (vp_in x1 4 ∧ (post x1.toNatClampNeg x)))))
set_option maxRecDepth 20000 in
theorem g_X_sheetAt {X : GX} (C : GC X b_X_sheetAt R_X 2 (rmd 0)) {Qp : Option Value → va_W → Prop} (q : RC X ((some (.object "SilenceCanal$Sheet"))) Qp 0 0) (a : Nat → Nat) (x : XSt) (x1 : Int32) (post : Nat → XSt → Prop) (hq : ∀ v c1, post v c1 → Qp (some (rfS a v)) (woX (xt X) a c1)) (hw : wp_X_sheetAt x x1 post) : G X 0 0 (woX (xt X) a x) [(0, .ref (a 0)), (1, .int x1)] [] 0 := by
  unfold wp_X_sheetAt at hw
  refine g_iload_n (pc := 0) C d_X_sheetAt_0 1 rfl rfl ?_
  refine g_if_lt (pc := 1) (tgt := 18) C d_X_sheetAt_1 (by decide) (fun h4 => ?_) (fun h4 => ?_)
  · replace hw := hw.1 h4
    refine g_null (pc := 18) C d_X_sheetAt_18 ?_
    exact g_aret (pc := 19) C q (v := rfS a 4) d_X_sheetAt_19 (rfS_or _ _) (hq _ _ hw)
  · replace hw := hw.2 h4
    refine g_iload_n (pc := 4) C d_X_sheetAt_4 1 rfl rfl ?_
    refine g_iconst (pc := 5) C (v := 4) d_X_sheetAt_5 (by decide) ?_
    refine g_icmp_ge (pc := 6) (tgt := 18) C d_X_sheetAt_6 (by decide) (fun h3 => ?_) (fun h3 => ?_)
    · replace hw := hw.1 h3
      refine g_null (pc := 18) C d_X_sheetAt_18 ?_
      exact g_aret (pc := 19) C q (v := rfS a 4) d_X_sheetAt_19 (rfS_or _ _) (hq _ _ hw)
    · replace hw := hw.2 h3
      refine g_aload_n (pc := 9) C d_X_sheetAt_9 0 rfl rfl ?_
      refine fX_sheets (pc := 10) C lk_X_43 d_X_sheetAt_10 ?_
      refine g_iload_n (pc := 13) C d_X_sheetAt_13 1 rfl rfl ?_
      obtain ⟨h1, hw⟩ := hw
      refine g_aaload (pc := 14) C 31 4 d_X_sheetAt_14 rfl rfl h1 ?_
      have h2 : x1.toNatClampNeg < 4 := vp_lt h1
      refine g_st (st' := [rfS a x1.toNatClampNeg]) (by simp [rfS, h2, va_rf]) ?_
      refine g_goto (pc := 15) (tgt := 19) C d_X_sheetAt_15 (by decide) ?_
      exact g_aret (pc := 19) C q (v := rfS a x1.toNatClampNeg) d_X_sheetAt_19 (rfS_or _ _) (hq _ _ hw)
set_option maxRecDepth 20000 in
theorem c_X_sheetAt (l : Launch) (D : va_G) (t : Nat → ClassId) (ev : Nat → Nat) (a : Nat → Nat) (x : XSt) (x1 : Int32) (post : Nat → XSt → Prop) (hw : wp_X_sheetAt x x1 post) : Con l D t ev y_X_sheetAt b_X_sheetAt 2 ((some (.object "SilenceCanal$Sheet"))) 0 (woX t a x) [.ref (a 0), .int x1] (qR (woX t a) (rfS a) post) :=
  ConR.of (by decide +kernel) (Nat.le_of_ble_eq_true rfl) (fun X el eD et ee C q _ => by subst el; subst eD; subst et; subst ee; exact g_X_sheetAt C q a x x1 post (fun v c1 h => ⟨⟨v, c1, rfl, rfl, h⟩, rfl⟩) hw)
def w_X_fits_53  (post : Int32 → XSt → Prop)  : Nat → XSt → Int32 → Int32 → Nat → Int32 → Int32 → Int32 → Prop
  | 0, _, _, _, _, _, _, _ => False
  | n + 1, x, x2, x3, x4, x5, x6, x7 =>
    ((99 < x7) → (((x3 = 0) → (post x5 x)) ∧ ((¬ x3 = 0) → (post x6 x)))) ∧ ((¬ 99 < x7) → (((x4 = 4) → (wp_X_loadFits x 4 x2 x7 (fun v6 x_7 => ((v6 = 0) → (∀ y8 : Int32, y8 = x7 + 1 → (w_X_fits_53  post  n x_7 x2 x3 4 x5 x6 y8))) ∧ ((¬ v6 = 0) → (∀ y9 : Int32, y9 = x5 + 1 → (((x6 = (-3)) → (∀ y11 : Int32, y11 = x7 + 1 → (w_X_fits_53  post  n x_7 x2 x3 4 y9 x7 y11))) ∧ ((¬ x6 = (-3)) → (∀ y10 : Int32, y10 = x7 + 1 → (w_X_fits_53  post  n x_7 x2 x3 4 y9 x6 y10))))))))) ∧ ((¬ x4 = 4) → (x4 < 4 ∧ (wp_X_loadFits x x4 x2 x7 (fun v14 x_15 => ((v14 = 0) → (∀ y16 : Int32, y16 = x7 + 1 → (w_X_fits_53  post  n x_15 x2 x3 x4 x5 x6 y16))) ∧ ((¬ v14 = 0) → (∀ y17 : Int32, y17 = x5 + 1 → (((x6 = (-3)) → (∀ y19 : Int32, y19 = x7 + 1 → (w_X_fits_53  post  n x_15 x2 x3 x4 y17 x7 y19))) ∧ ((¬ x6 = (-3)) → (∀ y18 : Int32, y18 = x7 + 1 → (w_X_fits_53  post  n x_15 x2 x3 x4 y17 x6 y18))))))))))))
set_option maxRecDepth 20000 in
theorem j_X_fits_53 {X : GX} (C : GC X b_X_fits R_X 8 (rmd 5)) {Qp : Option Value → va_W → Prop} (q : RC X ((some .int)) Qp 0 0) (a : Nat → Nat)   (post : Int32 → XSt → Prop) (hq : ∀ v c1, post v c1 → Qp (some (.int v)) (woX (xt X) a c1)) : ∀ (n : Nat) (x : XSt) (x2 : Int32) (x3 : Int32) (x4 : Nat) (x5 : Int32) (x6 : Int32) (x7 : Int32), w_X_fits_53  post  n x x2 x3 x4 x5 x6 x7 → G X 0 0 (woX (xt X) a x) [(0, .ref (a 0)), (2, .int x2), (3, .int x3), (4, rfS a x4), (5, .int x5), (6, .int x6), (7, .int x7)] [] 53 := by
  intro n
  induction n with
  | zero => intro x x2 x3 x4 x5 x6 x7 hw; exact hw.elim
  | succ n ih =>
    intro x x2 x3 x4 x5 x6 x7 hw
    rw [w_X_fits_53] at hw
    refine g_iload (pc := 53) C d_X_fits_53 6 rfl ?_
    refine g_bipush (pc := 55) C (v := 99) d_X_fits_55 (by decide) ?_
    refine g_icmp_gt (pc := 57) (tgt := 97) C d_X_fits_57 (by decide) (fun h23 => ?_) (fun h23 => ?_)
    · replace hw := hw.1 h23
      refine g_iload_n (pc := 97) C d_X_fits_97 2 rfl rfl ?_
      refine g_if_ne (pc := 98) (tgt := 106) C d_X_fits_98 (by decide) (fun h5 => ?_) (fun h5 => ?_)
      · replace hw := hw.2 h5
        refine g_iload (pc := 106) C d_X_fits_106 5 rfl ?_
        exact g_iret (pc := 108) C q d_X_fits_108 (hq _ _ hw)
      · replace hw := hw.1 h5
        refine g_iload (pc := 101) C d_X_fits_101 4 rfl ?_
        refine g_goto (pc := 103) (tgt := 108) C d_X_fits_103 (by decide) ?_
        exact g_iret (pc := 108) C q d_X_fits_108 (hq _ _ hw)
    · replace hw := hw.2 h23
      refine g_aload_n (pc := 60) C d_X_fits_60 0 rfl rfl ?_
      by_cases h22 : x4 = 4
      · have hzh22 := hw.1 h22
        subst h22
        have hw := hzh22
        refine g_re (lv' := [(0, .ref (a 0)), (2, .int x2), (3, .int x3), (4, .null), (5, .int x5), (6, .int x6), (7, .int x7)]) (st' := [.ref (a 0)]) rfl rfl ?_
        refine g_aloadN (pc := 61) C d_X_fits_61 3 rfl ?_
        refine g_iload_n (pc := 63) C d_X_fits_63 1 rfl rfl ?_
        refine g_iload (pc := 64) C d_X_fits_64 6 rfl ?_
        refine k_Ia (pc := 66) (co_V C (c_X_loadFits (xl X) (xD X) (xt X) (xv X) a x 4 x2 x7 _ hw) mw_X_loadFits lk_X_204 d_X_fits_66 (List.range _) (all_C _) (all_nd _) (rec_w C 0 5 rfl rfl) rfl rfl ⟨Nat.le_of_ble_eq_true rfl, Nat.le_of_ble_eq_true rfl⟩ ⟨Nat.le_of_ble_eq_true rfl, Nat.le_of_ble_eq_true rfl⟩ (rest := []) rfl rfl (Nat.le_of_ble_eq_true rfl)) (fun v6 x_7 hw => ?_)
        refine g_if_eq (pc := 69) (tgt := 91) C d_X_fits_69 (by decide) (fun h13 => ?_) (fun h13 => ?_)
        · replace hw := hw.1 h13
          obtain ⟨y8, ey8⟩ : ∃ w, w = x7 + 1 := ⟨_, rfl⟩
          replace hw := hw y8 ey8
          refine g_iinc (pc := 91) C d_X_fits_91 6 rfl (v := y8) (by rw [ey8]; rfl) (Nat.le_of_ble_eq_true rfl) (lv' := [(0, .ref (a 0)), (2, .int x2), (3, .int x3), (4, .null), (5, .int x5), (6, .int x6), (7, .int y8)]) rfl ?_
          refine g_goto (pc := 94) (tgt := 53) C d_X_fits_94 (by decide) ?_
          exact ih x_7 x2 x3 4 x5 x6 y8 hw
        · replace hw := hw.2 h13
          obtain ⟨y9, ey9⟩ : ∃ w, w = x5 + 1 := ⟨_, rfl⟩
          replace hw := hw y9 ey9
          refine g_iinc (pc := 72) C d_X_fits_72 4 rfl (v := y9) (by rw [ey9]; rfl) (Nat.le_of_ble_eq_true rfl) (lv' := [(0, .ref (a 0)), (2, .int x2), (3, .int x3), (4, .null), (5, .int y9), (6, .int x6), (7, .int x7)]) rfl ?_
          refine g_iload (pc := 75) C d_X_fits_75 5 rfl ?_
          refine g_bipush (pc := 77) C (v := (-3)) d_X_fits_77 (by decide) ?_
          refine g_icmp_ne (pc := 79) (tgt := 87) C d_X_fits_79 (by decide) (fun h12 => ?_) (fun h12 => ?_)
          · replace hw := hw.2 h12
            refine g_iload (pc := 87) C d_X_fits_87 5 rfl ?_
            refine g_istore (pc := 89) C d_X_fits_89 (Nat.le_of_ble_eq_true rfl) (lv' := [(0, .ref (a 0)), (2, .int x2), (3, .int x3), (4, .null), (5, .int y9), (6, .int x6), (7, .int x7)]) rfl ?_
            obtain ⟨y10, ey10⟩ : ∃ w, w = x7 + 1 := ⟨_, rfl⟩
            replace hw := hw y10 ey10
            refine g_iinc (pc := 91) C d_X_fits_91 6 rfl (v := y10) (by rw [ey10]; rfl) (Nat.le_of_ble_eq_true rfl) (lv' := [(0, .ref (a 0)), (2, .int x2), (3, .int x3), (4, .null), (5, .int y9), (6, .int x6), (7, .int y10)]) rfl ?_
            refine g_goto (pc := 94) (tgt := 53) C d_X_fits_94 (by decide) ?_
            exact ih x_7 x2 x3 4 y9 x6 y10 hw
          · replace hw := hw.1 h12
            refine g_iload (pc := 82) C d_X_fits_82 6 rfl ?_
            refine g_goto (pc := 84) (tgt := 89) C d_X_fits_84 (by decide) ?_
            refine g_istore (pc := 89) C d_X_fits_89 (Nat.le_of_ble_eq_true rfl) (lv' := [(0, .ref (a 0)), (2, .int x2), (3, .int x3), (4, .null), (5, .int y9), (6, .int x7), (7, .int x7)]) rfl ?_
            obtain ⟨y11, ey11⟩ : ∃ w, w = x7 + 1 := ⟨_, rfl⟩
            replace hw := hw y11 ey11
            refine g_iinc (pc := 91) C d_X_fits_91 6 rfl (v := y11) (by rw [ey11]; rfl) (Nat.le_of_ble_eq_true rfl) (lv' := [(0, .ref (a 0)), (2, .int x2), (3, .int x3), (4, .null), (5, .int y9), (6, .int x7), (7, .int y11)]) rfl ?_
            refine g_goto (pc := 94) (tgt := 53) C d_X_fits_94 (by decide) ?_
            exact ih x_7 x2 x3 4 y9 x7 y11 hw
      · obtain ⟨h22, hzh22⟩ := hw.2 h22
        rcases q4 h22 with rfl | rfl | rfl | rfl
        · have hw := hzh22
          refine g_re (lv' := [(0, .ref (a 0)), (2, .int x2), (3, .int x3), (4, .ref (a 32)), (5, .int x5), (6, .int x6), (7, .int x7)]) (st' := [.ref (a 0)]) rfl rfl ?_
          refine g_aload (pc := 61) C d_X_fits_61 3 rfl ?_
          refine g_iload_n (pc := 63) C d_X_fits_63 1 rfl rfl ?_
          refine g_iload (pc := 64) C d_X_fits_64 6 rfl ?_
          refine k_Ia (pc := 66) (co_V C (c_X_loadFits (xl X) (xD X) (xt X) (xv X) a x 0 x2 x7 _ hw) mw_X_loadFits lk_X_204 d_X_fits_66 (List.range _) (all_C _) (all_nd _) (rec_w C 0 5 rfl rfl) rfl rfl ⟨Nat.le_of_ble_eq_true rfl, Nat.le_of_ble_eq_true rfl⟩ ⟨Nat.le_of_ble_eq_true rfl, Nat.le_of_ble_eq_true rfl⟩ (rest := []) rfl rfl (Nat.le_of_ble_eq_true rfl)) (fun v14 x_15 hw => ?_)
          refine g_if_eq (pc := 69) (tgt := 91) C d_X_fits_69 (by decide) (fun h21 => ?_) (fun h21 => ?_)
          · replace hw := hw.1 h21
            obtain ⟨y16, ey16⟩ : ∃ w, w = x7 + 1 := ⟨_, rfl⟩
            replace hw := hw y16 ey16
            refine g_iinc (pc := 91) C d_X_fits_91 6 rfl (v := y16) (by rw [ey16]; rfl) (Nat.le_of_ble_eq_true rfl) (lv' := [(0, .ref (a 0)), (2, .int x2), (3, .int x3), (4, .ref (a 32)), (5, .int x5), (6, .int x6), (7, .int y16)]) rfl ?_
            refine g_goto (pc := 94) (tgt := 53) C d_X_fits_94 (by decide) ?_
            exact ih x_15 x2 x3 0 x5 x6 y16 hw
          · replace hw := hw.2 h21
            obtain ⟨y17, ey17⟩ : ∃ w, w = x5 + 1 := ⟨_, rfl⟩
            replace hw := hw y17 ey17
            refine g_iinc (pc := 72) C d_X_fits_72 4 rfl (v := y17) (by rw [ey17]; rfl) (Nat.le_of_ble_eq_true rfl) (lv' := [(0, .ref (a 0)), (2, .int x2), (3, .int x3), (4, .ref (a 32)), (5, .int y17), (6, .int x6), (7, .int x7)]) rfl ?_
            refine g_iload (pc := 75) C d_X_fits_75 5 rfl ?_
            refine g_bipush (pc := 77) C (v := (-3)) d_X_fits_77 (by decide) ?_
            refine g_icmp_ne (pc := 79) (tgt := 87) C d_X_fits_79 (by decide) (fun h20 => ?_) (fun h20 => ?_)
            · replace hw := hw.2 h20
              refine g_iload (pc := 87) C d_X_fits_87 5 rfl ?_
              refine g_istore (pc := 89) C d_X_fits_89 (Nat.le_of_ble_eq_true rfl) (lv' := [(0, .ref (a 0)), (2, .int x2), (3, .int x3), (4, .ref (a 32)), (5, .int y17), (6, .int x6), (7, .int x7)]) rfl ?_
              obtain ⟨y18, ey18⟩ : ∃ w, w = x7 + 1 := ⟨_, rfl⟩
              replace hw := hw y18 ey18
              refine g_iinc (pc := 91) C d_X_fits_91 6 rfl (v := y18) (by rw [ey18]; rfl) (Nat.le_of_ble_eq_true rfl) (lv' := [(0, .ref (a 0)), (2, .int x2), (3, .int x3), (4, .ref (a 32)), (5, .int y17), (6, .int x6), (7, .int y18)]) rfl ?_
              refine g_goto (pc := 94) (tgt := 53) C d_X_fits_94 (by decide) ?_
              exact ih x_15 x2 x3 0 y17 x6 y18 hw
            · replace hw := hw.1 h20
              refine g_iload (pc := 82) C d_X_fits_82 6 rfl ?_
              refine g_goto (pc := 84) (tgt := 89) C d_X_fits_84 (by decide) ?_
              refine g_istore (pc := 89) C d_X_fits_89 (Nat.le_of_ble_eq_true rfl) (lv' := [(0, .ref (a 0)), (2, .int x2), (3, .int x3), (4, .ref (a 32)), (5, .int y17), (6, .int x7), (7, .int x7)]) rfl ?_
              obtain ⟨y19, ey19⟩ : ∃ w, w = x7 + 1 := ⟨_, rfl⟩
              replace hw := hw y19 ey19
              refine g_iinc (pc := 91) C d_X_fits_91 6 rfl (v := y19) (by rw [ey19]; rfl) (Nat.le_of_ble_eq_true rfl) (lv' := [(0, .ref (a 0)), (2, .int x2), (3, .int x3), (4, .ref (a 32)), (5, .int y17), (6, .int x7), (7, .int y19)]) rfl ?_
              refine g_goto (pc := 94) (tgt := 53) C d_X_fits_94 (by decide) ?_
              exact ih x_15 x2 x3 0 y17 x7 y19 hw
        · have hw := hzh22
          refine g_re (lv' := [(0, .ref (a 0)), (2, .int x2), (3, .int x3), (4, .ref (a 34)), (5, .int x5), (6, .int x6), (7, .int x7)]) (st' := [.ref (a 0)]) rfl rfl ?_
          refine g_aload (pc := 61) C d_X_fits_61 3 rfl ?_
          refine g_iload_n (pc := 63) C d_X_fits_63 1 rfl rfl ?_
          refine g_iload (pc := 64) C d_X_fits_64 6 rfl ?_
          refine k_Ia (pc := 66) (co_V C (c_X_loadFits (xl X) (xD X) (xt X) (xv X) a x 1 x2 x7 _ hw) mw_X_loadFits lk_X_204 d_X_fits_66 (List.range _) (all_C _) (all_nd _) (rec_w C 0 5 rfl rfl) rfl rfl ⟨Nat.le_of_ble_eq_true rfl, Nat.le_of_ble_eq_true rfl⟩ ⟨Nat.le_of_ble_eq_true rfl, Nat.le_of_ble_eq_true rfl⟩ (rest := []) rfl rfl (Nat.le_of_ble_eq_true rfl)) (fun v14 x_15 hw => ?_)
          refine g_if_eq (pc := 69) (tgt := 91) C d_X_fits_69 (by decide) (fun h21 => ?_) (fun h21 => ?_)
          · replace hw := hw.1 h21
            obtain ⟨y16, ey16⟩ : ∃ w, w = x7 + 1 := ⟨_, rfl⟩
            replace hw := hw y16 ey16
            refine g_iinc (pc := 91) C d_X_fits_91 6 rfl (v := y16) (by rw [ey16]; rfl) (Nat.le_of_ble_eq_true rfl) (lv' := [(0, .ref (a 0)), (2, .int x2), (3, .int x3), (4, .ref (a 34)), (5, .int x5), (6, .int x6), (7, .int y16)]) rfl ?_
            refine g_goto (pc := 94) (tgt := 53) C d_X_fits_94 (by decide) ?_
            exact ih x_15 x2 x3 1 x5 x6 y16 hw
          · replace hw := hw.2 h21
            obtain ⟨y17, ey17⟩ : ∃ w, w = x5 + 1 := ⟨_, rfl⟩
            replace hw := hw y17 ey17
            refine g_iinc (pc := 72) C d_X_fits_72 4 rfl (v := y17) (by rw [ey17]; rfl) (Nat.le_of_ble_eq_true rfl) (lv' := [(0, .ref (a 0)), (2, .int x2), (3, .int x3), (4, .ref (a 34)), (5, .int y17), (6, .int x6), (7, .int x7)]) rfl ?_
            refine g_iload (pc := 75) C d_X_fits_75 5 rfl ?_
            refine g_bipush (pc := 77) C (v := (-3)) d_X_fits_77 (by decide) ?_
            refine g_icmp_ne (pc := 79) (tgt := 87) C d_X_fits_79 (by decide) (fun h20 => ?_) (fun h20 => ?_)
            · replace hw := hw.2 h20
              refine g_iload (pc := 87) C d_X_fits_87 5 rfl ?_
              refine g_istore (pc := 89) C d_X_fits_89 (Nat.le_of_ble_eq_true rfl) (lv' := [(0, .ref (a 0)), (2, .int x2), (3, .int x3), (4, .ref (a 34)), (5, .int y17), (6, .int x6), (7, .int x7)]) rfl ?_
              obtain ⟨y18, ey18⟩ : ∃ w, w = x7 + 1 := ⟨_, rfl⟩
              replace hw := hw y18 ey18
              refine g_iinc (pc := 91) C d_X_fits_91 6 rfl (v := y18) (by rw [ey18]; rfl) (Nat.le_of_ble_eq_true rfl) (lv' := [(0, .ref (a 0)), (2, .int x2), (3, .int x3), (4, .ref (a 34)), (5, .int y17), (6, .int x6), (7, .int y18)]) rfl ?_
              refine g_goto (pc := 94) (tgt := 53) C d_X_fits_94 (by decide) ?_
              exact ih x_15 x2 x3 1 y17 x6 y18 hw
            · replace hw := hw.1 h20
              refine g_iload (pc := 82) C d_X_fits_82 6 rfl ?_
              refine g_goto (pc := 84) (tgt := 89) C d_X_fits_84 (by decide) ?_
              refine g_istore (pc := 89) C d_X_fits_89 (Nat.le_of_ble_eq_true rfl) (lv' := [(0, .ref (a 0)), (2, .int x2), (3, .int x3), (4, .ref (a 34)), (5, .int y17), (6, .int x7), (7, .int x7)]) rfl ?_
              obtain ⟨y19, ey19⟩ : ∃ w, w = x7 + 1 := ⟨_, rfl⟩
              replace hw := hw y19 ey19
              refine g_iinc (pc := 91) C d_X_fits_91 6 rfl (v := y19) (by rw [ey19]; rfl) (Nat.le_of_ble_eq_true rfl) (lv' := [(0, .ref (a 0)), (2, .int x2), (3, .int x3), (4, .ref (a 34)), (5, .int y17), (6, .int x7), (7, .int y19)]) rfl ?_
              refine g_goto (pc := 94) (tgt := 53) C d_X_fits_94 (by decide) ?_
              exact ih x_15 x2 x3 1 y17 x7 y19 hw
        · have hw := hzh22
          refine g_re (lv' := [(0, .ref (a 0)), (2, .int x2), (3, .int x3), (4, .ref (a 36)), (5, .int x5), (6, .int x6), (7, .int x7)]) (st' := [.ref (a 0)]) rfl rfl ?_
          refine g_aload (pc := 61) C d_X_fits_61 3 rfl ?_
          refine g_iload_n (pc := 63) C d_X_fits_63 1 rfl rfl ?_
          refine g_iload (pc := 64) C d_X_fits_64 6 rfl ?_
          refine k_Ia (pc := 66) (co_V C (c_X_loadFits (xl X) (xD X) (xt X) (xv X) a x 2 x2 x7 _ hw) mw_X_loadFits lk_X_204 d_X_fits_66 (List.range _) (all_C _) (all_nd _) (rec_w C 0 5 rfl rfl) rfl rfl ⟨Nat.le_of_ble_eq_true rfl, Nat.le_of_ble_eq_true rfl⟩ ⟨Nat.le_of_ble_eq_true rfl, Nat.le_of_ble_eq_true rfl⟩ (rest := []) rfl rfl (Nat.le_of_ble_eq_true rfl)) (fun v14 x_15 hw => ?_)
          refine g_if_eq (pc := 69) (tgt := 91) C d_X_fits_69 (by decide) (fun h21 => ?_) (fun h21 => ?_)
          · replace hw := hw.1 h21
            obtain ⟨y16, ey16⟩ : ∃ w, w = x7 + 1 := ⟨_, rfl⟩
            replace hw := hw y16 ey16
            refine g_iinc (pc := 91) C d_X_fits_91 6 rfl (v := y16) (by rw [ey16]; rfl) (Nat.le_of_ble_eq_true rfl) (lv' := [(0, .ref (a 0)), (2, .int x2), (3, .int x3), (4, .ref (a 36)), (5, .int x5), (6, .int x6), (7, .int y16)]) rfl ?_
            refine g_goto (pc := 94) (tgt := 53) C d_X_fits_94 (by decide) ?_
            exact ih x_15 x2 x3 2 x5 x6 y16 hw
          · replace hw := hw.2 h21
            obtain ⟨y17, ey17⟩ : ∃ w, w = x5 + 1 := ⟨_, rfl⟩
            replace hw := hw y17 ey17
            refine g_iinc (pc := 72) C d_X_fits_72 4 rfl (v := y17) (by rw [ey17]; rfl) (Nat.le_of_ble_eq_true rfl) (lv' := [(0, .ref (a 0)), (2, .int x2), (3, .int x3), (4, .ref (a 36)), (5, .int y17), (6, .int x6), (7, .int x7)]) rfl ?_
            refine g_iload (pc := 75) C d_X_fits_75 5 rfl ?_
            refine g_bipush (pc := 77) C (v := (-3)) d_X_fits_77 (by decide) ?_
            refine g_icmp_ne (pc := 79) (tgt := 87) C d_X_fits_79 (by decide) (fun h20 => ?_) (fun h20 => ?_)
            · replace hw := hw.2 h20
              refine g_iload (pc := 87) C d_X_fits_87 5 rfl ?_
              refine g_istore (pc := 89) C d_X_fits_89 (Nat.le_of_ble_eq_true rfl) (lv' := [(0, .ref (a 0)), (2, .int x2), (3, .int x3), (4, .ref (a 36)), (5, .int y17), (6, .int x6), (7, .int x7)]) rfl ?_
              obtain ⟨y18, ey18⟩ : ∃ w, w = x7 + 1 := ⟨_, rfl⟩
              replace hw := hw y18 ey18
              refine g_iinc (pc := 91) C d_X_fits_91 6 rfl (v := y18) (by rw [ey18]; rfl) (Nat.le_of_ble_eq_true rfl) (lv' := [(0, .ref (a 0)), (2, .int x2), (3, .int x3), (4, .ref (a 36)), (5, .int y17), (6, .int x6), (7, .int y18)]) rfl ?_
              refine g_goto (pc := 94) (tgt := 53) C d_X_fits_94 (by decide) ?_
              exact ih x_15 x2 x3 2 y17 x6 y18 hw
            · replace hw := hw.1 h20
              refine g_iload (pc := 82) C d_X_fits_82 6 rfl ?_
              refine g_goto (pc := 84) (tgt := 89) C d_X_fits_84 (by decide) ?_
              refine g_istore (pc := 89) C d_X_fits_89 (Nat.le_of_ble_eq_true rfl) (lv' := [(0, .ref (a 0)), (2, .int x2), (3, .int x3), (4, .ref (a 36)), (5, .int y17), (6, .int x7), (7, .int x7)]) rfl ?_
              obtain ⟨y19, ey19⟩ : ∃ w, w = x7 + 1 := ⟨_, rfl⟩
              replace hw := hw y19 ey19
              refine g_iinc (pc := 91) C d_X_fits_91 6 rfl (v := y19) (by rw [ey19]; rfl) (Nat.le_of_ble_eq_true rfl) (lv' := [(0, .ref (a 0)), (2, .int x2), (3, .int x3), (4, .ref (a 36)), (5, .int y17), (6, .int x7), (7, .int y19)]) rfl ?_
              refine g_goto (pc := 94) (tgt := 53) C d_X_fits_94 (by decide) ?_
              exact ih x_15 x2 x3 2 y17 x7 y19 hw
        · have hw := hzh22
          refine g_re (lv' := [(0, .ref (a 0)), (2, .int x2), (3, .int x3), (4, .ref (a 38)), (5, .int x5), (6, .int x6), (7, .int x7)]) (st' := [.ref (a 0)]) rfl rfl ?_
          refine g_aload (pc := 61) C d_X_fits_61 3 rfl ?_
          refine g_iload_n (pc := 63) C d_X_fits_63 1 rfl rfl ?_
          refine g_iload (pc := 64) C d_X_fits_64 6 rfl ?_
          refine k_Ia (pc := 66) (co_V C (c_X_loadFits (xl X) (xD X) (xt X) (xv X) a x 3 x2 x7 _ hw) mw_X_loadFits lk_X_204 d_X_fits_66 (List.range _) (all_C _) (all_nd _) (rec_w C 0 5 rfl rfl) rfl rfl ⟨Nat.le_of_ble_eq_true rfl, Nat.le_of_ble_eq_true rfl⟩ ⟨Nat.le_of_ble_eq_true rfl, Nat.le_of_ble_eq_true rfl⟩ (rest := []) rfl rfl (Nat.le_of_ble_eq_true rfl)) (fun v14 x_15 hw => ?_)
          refine g_if_eq (pc := 69) (tgt := 91) C d_X_fits_69 (by decide) (fun h21 => ?_) (fun h21 => ?_)
          · replace hw := hw.1 h21
            obtain ⟨y16, ey16⟩ : ∃ w, w = x7 + 1 := ⟨_, rfl⟩
            replace hw := hw y16 ey16
            refine g_iinc (pc := 91) C d_X_fits_91 6 rfl (v := y16) (by rw [ey16]; rfl) (Nat.le_of_ble_eq_true rfl) (lv' := [(0, .ref (a 0)), (2, .int x2), (3, .int x3), (4, .ref (a 38)), (5, .int x5), (6, .int x6), (7, .int y16)]) rfl ?_
            refine g_goto (pc := 94) (tgt := 53) C d_X_fits_94 (by decide) ?_
            exact ih x_15 x2 x3 3 x5 x6 y16 hw
          · replace hw := hw.2 h21
            obtain ⟨y17, ey17⟩ : ∃ w, w = x5 + 1 := ⟨_, rfl⟩
            replace hw := hw y17 ey17
            refine g_iinc (pc := 72) C d_X_fits_72 4 rfl (v := y17) (by rw [ey17]; rfl) (Nat.le_of_ble_eq_true rfl) (lv' := [(0, .ref (a 0)), (2, .int x2), (3, .int x3), (4, .ref (a 38)), (5, .int y17), (6, .int x6), (7, .int x7)]) rfl ?_
            refine g_iload (pc := 75) C d_X_fits_75 5 rfl ?_
            refine g_bipush (pc := 77) C (v := (-3)) d_X_fits_77 (by decide) ?_
            refine g_icmp_ne (pc := 79) (tgt := 87) C d_X_fits_79 (by decide) (fun h20 => ?_) (fun h20 => ?_)
            · replace hw := hw.2 h20
              refine g_iload (pc := 87) C d_X_fits_87 5 rfl ?_
              refine g_istore (pc := 89) C d_X_fits_89 (Nat.le_of_ble_eq_true rfl) (lv' := [(0, .ref (a 0)), (2, .int x2), (3, .int x3), (4, .ref (a 38)), (5, .int y17), (6, .int x6), (7, .int x7)]) rfl ?_
              obtain ⟨y18, ey18⟩ : ∃ w, w = x7 + 1 := ⟨_, rfl⟩
              replace hw := hw y18 ey18
              refine g_iinc (pc := 91) C d_X_fits_91 6 rfl (v := y18) (by rw [ey18]; rfl) (Nat.le_of_ble_eq_true rfl) (lv' := [(0, .ref (a 0)), (2, .int x2), (3, .int x3), (4, .ref (a 38)), (5, .int y17), (6, .int x6), (7, .int y18)]) rfl ?_
              refine g_goto (pc := 94) (tgt := 53) C d_X_fits_94 (by decide) ?_
              exact ih x_15 x2 x3 3 y17 x6 y18 hw
            · replace hw := hw.1 h20
              refine g_iload (pc := 82) C d_X_fits_82 6 rfl ?_
              refine g_goto (pc := 84) (tgt := 89) C d_X_fits_84 (by decide) ?_
              refine g_istore (pc := 89) C d_X_fits_89 (Nat.le_of_ble_eq_true rfl) (lv' := [(0, .ref (a 0)), (2, .int x2), (3, .int x3), (4, .ref (a 38)), (5, .int y17), (6, .int x7), (7, .int x7)]) rfl ?_
              obtain ⟨y19, ey19⟩ : ∃ w, w = x7 + 1 := ⟨_, rfl⟩
              replace hw := hw y19 ey19
              refine g_iinc (pc := 91) C d_X_fits_91 6 rfl (v := y19) (by rw [ey19]; rfl) (Nat.le_of_ble_eq_true rfl) (lv' := [(0, .ref (a 0)), (2, .int x2), (3, .int x3), (4, .ref (a 38)), (5, .int y17), (6, .int x7), (7, .int y19)]) rfl ?_
              refine g_goto (pc := 94) (tgt := 53) C d_X_fits_94 (by decide) ?_
              exact ih x_15 x2 x3 3 y17 x7 y19 hw
def wp_X_fits (x : XSt) (x1 : Int32) (x2 : Int32) (x3 : Int32) (post : Int32 → XSt → Prop) : Prop :=
  wp_X_sheetAt x x1 (fun v1 x_2 => ((v1 = 4) → (post (-1) x_2)) ∧ ((¬ v1 = 4) → (v1 < 4 ∧ (wp_X_isBarge x_2 x2 (fun v3 x_4 => ((v3 = 0) → (post (-1) x_4)) ∧ ((¬ v3 = 0) → (((x3 < 0) → (post (-1) x_4)) ∧ ((¬ x3 < 0) → (((x3 ≤ 1) → ((((S_sort (X_sheets x_4 v1)) = (-1)) → (post (-11) x_4)) ∧ ((¬ (S_sort (X_sheets x_4 v1)) = (-1)) → (w_X_fits_53  post  2000 x_4 x2 x3 v1 0 (-3) 0)))) ∧ ((¬ x3 ≤ 1) → (post (-1) x_4)))))))))))
set_option maxRecDepth 20000 in
theorem g_X_fits {X : GX} (C : GC X b_X_fits R_X 8 (rmd 5)) {Qp : Option Value → va_W → Prop} (q : RC X ((some .int)) Qp 0 0) (a : Nat → Nat) (x : XSt) (x1 : Int32) (x2 : Int32) (x3 : Int32) (post : Int32 → XSt → Prop) (hq : ∀ v c1, post v c1 → Qp (some (.int v)) (woX (xt X) a c1)) (hw : wp_X_fits x x1 x2 x3 post) : G X 0 0 (woX (xt X) a x) [(0, .ref (a 0)), (1, .int x1), (2, .int x2), (3, .int x3)] [] 0 := by
  unfold wp_X_fits at hw
  refine g_aload_n (pc := 0) C d_X_fits_0 0 rfl rfl ?_
  refine g_iload_n (pc := 1) C d_X_fits_1 1 rfl rfl ?_
  refine k_Ra (pc := 2) (co_V C (c_X_sheetAt (xl X) (xD X) (xt X) (xv X) a x x1 _ hw) mw_X_sheetAt lk_X_198 d_X_fits_2 (List.range _) (all_C _) (all_nd _) (rec_w C 0 5 rfl rfl) rfl rfl ⟨Nat.le_of_ble_eq_true rfl, Nat.le_of_ble_eq_true rfl⟩ ⟨Nat.le_of_ble_eq_true rfl, Nat.le_of_ble_eq_true rfl⟩ (rest := []) rfl rfl (Nat.le_of_ble_eq_true rfl)) (fun v1 x_2 hw => ?_)
  by_cases h28 : v1 = 4
  · have hzh28 := hw.1 h28
    subst h28
    have hw := hzh28
    refine g_re (lv' := [(0, .ref (a 0)), (1, .int x1), (2, .int x2), (3, .int x3)]) (st' := [.null]) rfl rfl ?_
    refine g_astoreN (pc := 5) C d_X_fits_5 (Nat.le_of_ble_eq_true rfl) (lv' := [(0, .ref (a 0)), (1, .int x1), (2, .int x2), (3, .int x3), (4, .null)]) rfl ?_
    refine g_aloadN (pc := 7) C d_X_fits_7 4 rfl ?_
    refine g_ifnullN (pc := 9) (tgt := 29) C d_X_fits_9 (by decide) ?_
    refine g_iconst (pc := 29) C (v := (-1)) d_X_fits_29 (by decide) ?_
    exact g_iret (pc := 30) C q d_X_fits_30 (hq _ _ hw)
  · obtain ⟨h28, hzh28⟩ := hw.2 h28
    rcases q4 h28 with rfl | rfl | rfl | rfl
    · have hw := hzh28
      refine g_re (lv' := [(0, .ref (a 0)), (1, .int x1), (2, .int x2), (3, .int x3)]) (st' := [.ref (a 32)]) rfl rfl ?_
      refine g_astore (pc := 5) C d_X_fits_5 (Nat.le_of_ble_eq_true rfl) (lv' := [(0, .ref (a 0)), (1, .int x1), (2, .int x2), (3, .int x3), (4, .ref (a 32))]) rfl ?_
      refine g_aload (pc := 7) C d_X_fits_7 4 rfl ?_
      refine g_ifnull (pc := 9) C d_X_fits_9 ?_
      refine g_aload_n (pc := 12) C d_X_fits_12 0 rfl rfl ?_
      refine g_iload_n (pc := 13) C d_X_fits_13 2 rfl rfl ?_
      refine k_Ia (pc := 14) (co_V C (c_X_isBarge (xl X) (xD X) (xt X) (xv X) a x_2 x2 _ hw) mw_X_isBarge lk_X_106 d_X_fits_14 (List.range _) (all_C _) (all_nd _) (rec_w C 0 5 rfl rfl) rfl rfl ⟨Nat.le_of_ble_eq_true rfl, Nat.le_of_ble_eq_true rfl⟩ ⟨Nat.le_of_ble_eq_true rfl, Nat.le_of_ble_eq_true rfl⟩ (rest := []) rfl rfl (Nat.le_of_ble_eq_true rfl)) (fun v3 x_4 hw => ?_)
      refine g_if_eq (pc := 17) (tgt := 29) C d_X_fits_17 (by decide) (fun h8 => ?_) (fun h8 => ?_)
      · replace hw := hw.1 h8
        refine g_iconst (pc := 29) C (v := (-1)) d_X_fits_29 (by decide) ?_
        exact g_iret (pc := 30) C q d_X_fits_30 (hq _ _ hw)
      · replace hw := hw.2 h8
        refine g_iload_n (pc := 20) C d_X_fits_20 3 rfl rfl ?_
        refine g_if_lt (pc := 21) (tgt := 29) C d_X_fits_21 (by decide) (fun h7 => ?_) (fun h7 => ?_)
        · replace hw := hw.1 h7
          refine g_iconst (pc := 29) C (v := (-1)) d_X_fits_29 (by decide) ?_
          exact g_iret (pc := 30) C q d_X_fits_30 (hq _ _ hw)
        · replace hw := hw.2 h7
          refine g_iload_n (pc := 24) C d_X_fits_24 3 rfl rfl ?_
          refine g_iconst (pc := 25) C (v := 1) d_X_fits_25 (by decide) ?_
          refine g_icmp_le (pc := 26) (tgt := 31) C d_X_fits_26 (by decide) (fun h6 => ?_) (fun h6 => ?_)
          · replace hw := hw.1 h6
            refine g_aload (pc := 31) C d_X_fits_31 4 rfl ?_
            refine fX_sheets0_sort (pc := 33) C lk_X_202 d_X_fits_33 (v := S_sort (X_sheets x_4 0)) rfl ?_
            refine g_iconst (pc := 36) C (v := (-1)) d_X_fits_36 (by decide) ?_
            refine g_icmp_ne (pc := 37) (tgt := 43) C d_X_fits_37 (by decide) (fun h5 => ?_) (fun h5 => ?_)
            · replace hw := hw.2 h5
              refine g_iconst (pc := 43) C (v := 0) d_X_fits_43 (by decide) ?_
              refine g_istore (pc := 44) C d_X_fits_44 (Nat.le_of_ble_eq_true rfl) (lv' := [(0, .ref (a 0)), (1, .int x1), (2, .int x2), (3, .int x3), (4, .ref (a 32)), (5, .int 0)]) rfl ?_
              refine g_bipush (pc := 46) C (v := (-3)) d_X_fits_46 (by decide) ?_
              refine g_istore (pc := 48) C d_X_fits_48 (Nat.le_of_ble_eq_true rfl) (lv' := [(0, .ref (a 0)), (1, .int x1), (2, .int x2), (3, .int x3), (4, .ref (a 32)), (5, .int 0), (6, .int (-3))]) rfl ?_
              refine g_iconst (pc := 50) C (v := 0) d_X_fits_50 (by decide) ?_
              refine g_istore (pc := 51) C d_X_fits_51 (Nat.le_of_ble_eq_true rfl) (lv' := [(0, .ref (a 0)), (1, .int x1), (2, .int x2), (3, .int x3), (4, .ref (a 32)), (5, .int 0), (6, .int (-3)), (7, .int 0)]) rfl ?_
              refine g_sub [0, 2, 3, 4, 5, 6, 7] (lv' := [(0, .ref (a 0)), (2, .int x2), (3, .int x3), (4, .ref (a 32)), (5, .int 0), (6, .int (-3)), (7, .int 0)]) rfl ?_
              exact j_X_fits_53 C q a post hq  2000 x_4 x2 x3 0 0 (-3) 0 hw
            · replace hw := hw.1 h5
              refine g_bipush (pc := 40) C (v := (-11)) d_X_fits_40 (by decide) ?_
              exact g_iret (pc := 42) C q d_X_fits_42 (hq _ _ hw)
          · replace hw := hw.2 h6
            refine g_iconst (pc := 29) C (v := (-1)) d_X_fits_29 (by decide) ?_
            exact g_iret (pc := 30) C q d_X_fits_30 (hq _ _ hw)
    · have hw := hzh28
      refine g_re (lv' := [(0, .ref (a 0)), (1, .int x1), (2, .int x2), (3, .int x3)]) (st' := [.ref (a 34)]) rfl rfl ?_
      refine g_astore (pc := 5) C d_X_fits_5 (Nat.le_of_ble_eq_true rfl) (lv' := [(0, .ref (a 0)), (1, .int x1), (2, .int x2), (3, .int x3), (4, .ref (a 34))]) rfl ?_
      refine g_aload (pc := 7) C d_X_fits_7 4 rfl ?_
      refine g_ifnull (pc := 9) C d_X_fits_9 ?_
      refine g_aload_n (pc := 12) C d_X_fits_12 0 rfl rfl ?_
      refine g_iload_n (pc := 13) C d_X_fits_13 2 rfl rfl ?_
      refine k_Ia (pc := 14) (co_V C (c_X_isBarge (xl X) (xD X) (xt X) (xv X) a x_2 x2 _ hw) mw_X_isBarge lk_X_106 d_X_fits_14 (List.range _) (all_C _) (all_nd _) (rec_w C 0 5 rfl rfl) rfl rfl ⟨Nat.le_of_ble_eq_true rfl, Nat.le_of_ble_eq_true rfl⟩ ⟨Nat.le_of_ble_eq_true rfl, Nat.le_of_ble_eq_true rfl⟩ (rest := []) rfl rfl (Nat.le_of_ble_eq_true rfl)) (fun v3 x_4 hw => ?_)
      refine g_if_eq (pc := 17) (tgt := 29) C d_X_fits_17 (by decide) (fun h8 => ?_) (fun h8 => ?_)
      · replace hw := hw.1 h8
        refine g_iconst (pc := 29) C (v := (-1)) d_X_fits_29 (by decide) ?_
        exact g_iret (pc := 30) C q d_X_fits_30 (hq _ _ hw)
      · replace hw := hw.2 h8
        refine g_iload_n (pc := 20) C d_X_fits_20 3 rfl rfl ?_
        refine g_if_lt (pc := 21) (tgt := 29) C d_X_fits_21 (by decide) (fun h7 => ?_) (fun h7 => ?_)
        · replace hw := hw.1 h7
          refine g_iconst (pc := 29) C (v := (-1)) d_X_fits_29 (by decide) ?_
          exact g_iret (pc := 30) C q d_X_fits_30 (hq _ _ hw)
        · replace hw := hw.2 h7
          refine g_iload_n (pc := 24) C d_X_fits_24 3 rfl rfl ?_
          refine g_iconst (pc := 25) C (v := 1) d_X_fits_25 (by decide) ?_
          refine g_icmp_le (pc := 26) (tgt := 31) C d_X_fits_26 (by decide) (fun h6 => ?_) (fun h6 => ?_)
          · replace hw := hw.1 h6
            refine g_aload (pc := 31) C d_X_fits_31 4 rfl ?_
            refine fX_sheets1_sort (pc := 33) C lk_X_202 d_X_fits_33 (v := S_sort (X_sheets x_4 1)) rfl ?_
            refine g_iconst (pc := 36) C (v := (-1)) d_X_fits_36 (by decide) ?_
            refine g_icmp_ne (pc := 37) (tgt := 43) C d_X_fits_37 (by decide) (fun h5 => ?_) (fun h5 => ?_)
            · replace hw := hw.2 h5
              refine g_iconst (pc := 43) C (v := 0) d_X_fits_43 (by decide) ?_
              refine g_istore (pc := 44) C d_X_fits_44 (Nat.le_of_ble_eq_true rfl) (lv' := [(0, .ref (a 0)), (1, .int x1), (2, .int x2), (3, .int x3), (4, .ref (a 34)), (5, .int 0)]) rfl ?_
              refine g_bipush (pc := 46) C (v := (-3)) d_X_fits_46 (by decide) ?_
              refine g_istore (pc := 48) C d_X_fits_48 (Nat.le_of_ble_eq_true rfl) (lv' := [(0, .ref (a 0)), (1, .int x1), (2, .int x2), (3, .int x3), (4, .ref (a 34)), (5, .int 0), (6, .int (-3))]) rfl ?_
              refine g_iconst (pc := 50) C (v := 0) d_X_fits_50 (by decide) ?_
              refine g_istore (pc := 51) C d_X_fits_51 (Nat.le_of_ble_eq_true rfl) (lv' := [(0, .ref (a 0)), (1, .int x1), (2, .int x2), (3, .int x3), (4, .ref (a 34)), (5, .int 0), (6, .int (-3)), (7, .int 0)]) rfl ?_
              refine g_sub [0, 2, 3, 4, 5, 6, 7] (lv' := [(0, .ref (a 0)), (2, .int x2), (3, .int x3), (4, .ref (a 34)), (5, .int 0), (6, .int (-3)), (7, .int 0)]) rfl ?_
              exact j_X_fits_53 C q a post hq  2000 x_4 x2 x3 1 0 (-3) 0 hw
            · replace hw := hw.1 h5
              refine g_bipush (pc := 40) C (v := (-11)) d_X_fits_40 (by decide) ?_
              exact g_iret (pc := 42) C q d_X_fits_42 (hq _ _ hw)
          · replace hw := hw.2 h6
            refine g_iconst (pc := 29) C (v := (-1)) d_X_fits_29 (by decide) ?_
            exact g_iret (pc := 30) C q d_X_fits_30 (hq _ _ hw)
    · have hw := hzh28
      refine g_re (lv' := [(0, .ref (a 0)), (1, .int x1), (2, .int x2), (3, .int x3)]) (st' := [.ref (a 36)]) rfl rfl ?_
      refine g_astore (pc := 5) C d_X_fits_5 (Nat.le_of_ble_eq_true rfl) (lv' := [(0, .ref (a 0)), (1, .int x1), (2, .int x2), (3, .int x3), (4, .ref (a 36))]) rfl ?_
      refine g_aload (pc := 7) C d_X_fits_7 4 rfl ?_
      refine g_ifnull (pc := 9) C d_X_fits_9 ?_
      refine g_aload_n (pc := 12) C d_X_fits_12 0 rfl rfl ?_
      refine g_iload_n (pc := 13) C d_X_fits_13 2 rfl rfl ?_
      refine k_Ia (pc := 14) (co_V C (c_X_isBarge (xl X) (xD X) (xt X) (xv X) a x_2 x2 _ hw) mw_X_isBarge lk_X_106 d_X_fits_14 (List.range _) (all_C _) (all_nd _) (rec_w C 0 5 rfl rfl) rfl rfl ⟨Nat.le_of_ble_eq_true rfl, Nat.le_of_ble_eq_true rfl⟩ ⟨Nat.le_of_ble_eq_true rfl, Nat.le_of_ble_eq_true rfl⟩ (rest := []) rfl rfl (Nat.le_of_ble_eq_true rfl)) (fun v3 x_4 hw => ?_)
      refine g_if_eq (pc := 17) (tgt := 29) C d_X_fits_17 (by decide) (fun h8 => ?_) (fun h8 => ?_)
      · replace hw := hw.1 h8
        refine g_iconst (pc := 29) C (v := (-1)) d_X_fits_29 (by decide) ?_
        exact g_iret (pc := 30) C q d_X_fits_30 (hq _ _ hw)
      · replace hw := hw.2 h8
        refine g_iload_n (pc := 20) C d_X_fits_20 3 rfl rfl ?_
        refine g_if_lt (pc := 21) (tgt := 29) C d_X_fits_21 (by decide) (fun h7 => ?_) (fun h7 => ?_)
        · replace hw := hw.1 h7
          refine g_iconst (pc := 29) C (v := (-1)) d_X_fits_29 (by decide) ?_
          exact g_iret (pc := 30) C q d_X_fits_30 (hq _ _ hw)
        · replace hw := hw.2 h7
          refine g_iload_n (pc := 24) C d_X_fits_24 3 rfl rfl ?_
          refine g_iconst (pc := 25) C (v := 1) d_X_fits_25 (by decide) ?_
          refine g_icmp_le (pc := 26) (tgt := 31) C d_X_fits_26 (by decide) (fun h6 => ?_) (fun h6 => ?_)
          · replace hw := hw.1 h6
            refine g_aload (pc := 31) C d_X_fits_31 4 rfl ?_
            refine fX_sheets2_sort (pc := 33) C lk_X_202 d_X_fits_33 (v := S_sort (X_sheets x_4 2)) rfl ?_
            refine g_iconst (pc := 36) C (v := (-1)) d_X_fits_36 (by decide) ?_
            refine g_icmp_ne (pc := 37) (tgt := 43) C d_X_fits_37 (by decide) (fun h5 => ?_) (fun h5 => ?_)
            · replace hw := hw.2 h5
              refine g_iconst (pc := 43) C (v := 0) d_X_fits_43 (by decide) ?_
              refine g_istore (pc := 44) C d_X_fits_44 (Nat.le_of_ble_eq_true rfl) (lv' := [(0, .ref (a 0)), (1, .int x1), (2, .int x2), (3, .int x3), (4, .ref (a 36)), (5, .int 0)]) rfl ?_
              refine g_bipush (pc := 46) C (v := (-3)) d_X_fits_46 (by decide) ?_
              refine g_istore (pc := 48) C d_X_fits_48 (Nat.le_of_ble_eq_true rfl) (lv' := [(0, .ref (a 0)), (1, .int x1), (2, .int x2), (3, .int x3), (4, .ref (a 36)), (5, .int 0), (6, .int (-3))]) rfl ?_
              refine g_iconst (pc := 50) C (v := 0) d_X_fits_50 (by decide) ?_
              refine g_istore (pc := 51) C d_X_fits_51 (Nat.le_of_ble_eq_true rfl) (lv' := [(0, .ref (a 0)), (1, .int x1), (2, .int x2), (3, .int x3), (4, .ref (a 36)), (5, .int 0), (6, .int (-3)), (7, .int 0)]) rfl ?_
              refine g_sub [0, 2, 3, 4, 5, 6, 7] (lv' := [(0, .ref (a 0)), (2, .int x2), (3, .int x3), (4, .ref (a 36)), (5, .int 0), (6, .int (-3)), (7, .int 0)]) rfl ?_
              exact j_X_fits_53 C q a post hq  2000 x_4 x2 x3 2 0 (-3) 0 hw
            · replace hw := hw.1 h5
              refine g_bipush (pc := 40) C (v := (-11)) d_X_fits_40 (by decide) ?_
              exact g_iret (pc := 42) C q d_X_fits_42 (hq _ _ hw)
          · replace hw := hw.2 h6
            refine g_iconst (pc := 29) C (v := (-1)) d_X_fits_29 (by decide) ?_
            exact g_iret (pc := 30) C q d_X_fits_30 (hq _ _ hw)
    · have hw := hzh28
      refine g_re (lv' := [(0, .ref (a 0)), (1, .int x1), (2, .int x2), (3, .int x3)]) (st' := [.ref (a 38)]) rfl rfl ?_
      refine g_astore (pc := 5) C d_X_fits_5 (Nat.le_of_ble_eq_true rfl) (lv' := [(0, .ref (a 0)), (1, .int x1), (2, .int x2), (3, .int x3), (4, .ref (a 38))]) rfl ?_
      refine g_aload (pc := 7) C d_X_fits_7 4 rfl ?_
      refine g_ifnull (pc := 9) C d_X_fits_9 ?_
      refine g_aload_n (pc := 12) C d_X_fits_12 0 rfl rfl ?_
      refine g_iload_n (pc := 13) C d_X_fits_13 2 rfl rfl ?_
      refine k_Ia (pc := 14) (co_V C (c_X_isBarge (xl X) (xD X) (xt X) (xv X) a x_2 x2 _ hw) mw_X_isBarge lk_X_106 d_X_fits_14 (List.range _) (all_C _) (all_nd _) (rec_w C 0 5 rfl rfl) rfl rfl ⟨Nat.le_of_ble_eq_true rfl, Nat.le_of_ble_eq_true rfl⟩ ⟨Nat.le_of_ble_eq_true rfl, Nat.le_of_ble_eq_true rfl⟩ (rest := []) rfl rfl (Nat.le_of_ble_eq_true rfl)) (fun v3 x_4 hw => ?_)
      refine g_if_eq (pc := 17) (tgt := 29) C d_X_fits_17 (by decide) (fun h8 => ?_) (fun h8 => ?_)
      · replace hw := hw.1 h8
        refine g_iconst (pc := 29) C (v := (-1)) d_X_fits_29 (by decide) ?_
        exact g_iret (pc := 30) C q d_X_fits_30 (hq _ _ hw)
      · replace hw := hw.2 h8
        refine g_iload_n (pc := 20) C d_X_fits_20 3 rfl rfl ?_
        refine g_if_lt (pc := 21) (tgt := 29) C d_X_fits_21 (by decide) (fun h7 => ?_) (fun h7 => ?_)
        · replace hw := hw.1 h7
          refine g_iconst (pc := 29) C (v := (-1)) d_X_fits_29 (by decide) ?_
          exact g_iret (pc := 30) C q d_X_fits_30 (hq _ _ hw)
        · replace hw := hw.2 h7
          refine g_iload_n (pc := 24) C d_X_fits_24 3 rfl rfl ?_
          refine g_iconst (pc := 25) C (v := 1) d_X_fits_25 (by decide) ?_
          refine g_icmp_le (pc := 26) (tgt := 31) C d_X_fits_26 (by decide) (fun h6 => ?_) (fun h6 => ?_)
          · replace hw := hw.1 h6
            refine g_aload (pc := 31) C d_X_fits_31 4 rfl ?_
            refine fX_sheets3_sort (pc := 33) C lk_X_202 d_X_fits_33 (v := S_sort (X_sheets x_4 3)) rfl ?_
            refine g_iconst (pc := 36) C (v := (-1)) d_X_fits_36 (by decide) ?_
            refine g_icmp_ne (pc := 37) (tgt := 43) C d_X_fits_37 (by decide) (fun h5 => ?_) (fun h5 => ?_)
            · replace hw := hw.2 h5
              refine g_iconst (pc := 43) C (v := 0) d_X_fits_43 (by decide) ?_
              refine g_istore (pc := 44) C d_X_fits_44 (Nat.le_of_ble_eq_true rfl) (lv' := [(0, .ref (a 0)), (1, .int x1), (2, .int x2), (3, .int x3), (4, .ref (a 38)), (5, .int 0)]) rfl ?_
              refine g_bipush (pc := 46) C (v := (-3)) d_X_fits_46 (by decide) ?_
              refine g_istore (pc := 48) C d_X_fits_48 (Nat.le_of_ble_eq_true rfl) (lv' := [(0, .ref (a 0)), (1, .int x1), (2, .int x2), (3, .int x3), (4, .ref (a 38)), (5, .int 0), (6, .int (-3))]) rfl ?_
              refine g_iconst (pc := 50) C (v := 0) d_X_fits_50 (by decide) ?_
              refine g_istore (pc := 51) C d_X_fits_51 (Nat.le_of_ble_eq_true rfl) (lv' := [(0, .ref (a 0)), (1, .int x1), (2, .int x2), (3, .int x3), (4, .ref (a 38)), (5, .int 0), (6, .int (-3)), (7, .int 0)]) rfl ?_
              refine g_sub [0, 2, 3, 4, 5, 6, 7] (lv' := [(0, .ref (a 0)), (2, .int x2), (3, .int x3), (4, .ref (a 38)), (5, .int 0), (6, .int (-3)), (7, .int 0)]) rfl ?_
              exact j_X_fits_53 C q a post hq  2000 x_4 x2 x3 3 0 (-3) 0 hw
            · replace hw := hw.1 h5
              refine g_bipush (pc := 40) C (v := (-11)) d_X_fits_40 (by decide) ?_
              exact g_iret (pc := 42) C q d_X_fits_42 (hq _ _ hw)
          · replace hw := hw.2 h6
            refine g_iconst (pc := 29) C (v := (-1)) d_X_fits_29 (by decide) ?_
            exact g_iret (pc := 30) C q d_X_fits_30 (hq _ _ hw)
set_option maxRecDepth 20000 in
theorem c_X_fits (l : Launch) (D : va_G) (t : Nat → ClassId) (ev : Nat → Nat) (a : Nat → Nat) (x : XSt) (x1 : Int32) (x2 : Int32) (x3 : Int32) (post : Int32 → XSt → Prop) (hw : wp_X_fits x x1 x2 x3 post) : Con l D t ev y_X_fits b_X_fits 8 ((some .int)) 5 (woX t a x) [.ref (a 0), .int x1, .int x2, .int x3] (qI (woX t a)  post) :=
  ConR.of (by decide +kernel) (Nat.le_of_ble_eq_true rfl) (fun X el eD et ee C q _ => by subst el; subst eD; subst et; subst ee; exact g_X_fits C q a x x1 x2 x3 post (fun v c1 h => ⟨⟨v, c1, rfl, rfl, h⟩, rfl⟩) hw)
def w_X_partOf_45  (post : Int64 → Prop)  (x0 : Int64) (x2 : Int64) (x4 : Int32) (x5 : Int64) : Prop :=
  (((lg_cmp x5 0) = 0) → (post 0 )) ∧ ((¬ (lg_cmp x5 0) = 0) → (((x4 = 0) → (¬ x5 = 0 ∧ (post (x0 / x5) ))) ∧ ((¬ x4 = 0) → (¬ x5 = 0 ∧ (post (x2 / x5) )))))
set_option maxRecDepth 20000 in
theorem j_X_partOf_45 {X : GX} (C : GC X b_X_partOf R_X 12 (rmd 0)) {Qp : Option Value → va_W → Prop} (q : RC X ((some .long)) Qp 0 0)    (post : Int64 → Prop) (hq : ∀ v, post v → Qp (some (.long v)) []) : ∀ (x0 : Int64) (x2 : Int64) (x4 : Int32) (x5 : Int64), w_X_partOf_45  post  x0 x2 x4 x5 → G X 0 0 ([]) [(0, .long x0), (2, .long x2), (4, .int x4), (5, .long x5)] [] 45 := by
  intro x0 x2 x4 x5 hw
  unfold w_X_partOf_45 at hw
  refine g_lload (pc := 45) C d_X_partOf_45 3 rfl ?_
  refine g_lconst (pc := 47) C (v := 0) d_X_partOf_47 (by decide) ?_
  refine g_lcmp (pc := 48) C d_X_partOf_48 ?_
  refine g_if_ne (pc := 49) (tgt := 54) C d_X_partOf_49 (by decide) (fun h4 => ?_) (fun h4 => ?_)
  · replace hw := hw.2 h4
    refine g_iload (pc := 54) C d_X_partOf_54 2 rfl ?_
    refine g_if_ne (pc := 56) (tgt := 63) C d_X_partOf_56 (by decide) (fun h3 => ?_) (fun h3 => ?_)
    · replace hw := hw.2 h3
      refine g_lload_n (pc := 63) C d_X_partOf_63 1 rfl rfl ?_
      refine g_lload (pc := 64) C d_X_partOf_64 3 rfl ?_
      obtain ⟨h1, hw⟩ := hw
      refine g_ldiv (pc := 66) C d_X_partOf_66 h1 ?_
      exact g_lret (pc := 67) C q d_X_partOf_67 (hq _ hw)
    · replace hw := hw.1 h3
      refine g_lload_n (pc := 59) C d_X_partOf_59 0 rfl rfl ?_
      refine g_goto (pc := 60) (tgt := 64) C d_X_partOf_60 (by decide) ?_
      refine g_lload (pc := 64) C d_X_partOf_64 3 rfl ?_
      obtain ⟨h2, hw⟩ := hw
      refine g_ldiv (pc := 66) C d_X_partOf_66 h2 ?_
      exact g_lret (pc := 67) C q d_X_partOf_67 (hq _ hw)
  · replace hw := hw.1 h4
    refine g_lconst (pc := 52) C (v := 0) d_X_partOf_52 (by decide) ?_
    exact g_lret (pc := 53) C q d_X_partOf_53 (hq _ hw)
def w_X_partOf_9  (post : Int64 → Prop)  : Nat → Int64 → Int64 → Int32 → Int64 → Int64 → Int32 → Prop
  | 0, _, _, _, _, _, _ => False
  | n + 1, x0, x2, x4, x5, x7, x9 =>
    ((200 ≤ x9) → (w_X_partOf_45  post  x0 x2 x4 x5)) ∧ ((¬ 200 ≤ x9) → ((((lg_cmp x7 0) = 0) → (w_X_partOf_45  post  x0 x2 x4 x5)) ∧ ((¬ (lg_cmp x7 0) = 0) → (¬ x7 = 0 ∧ (∀ y6 : Int64, y6 = x5 - x5 / x7 * x7 → (∀ y7 : Int32, y7 = x9 + 1 → (w_X_partOf_9  post  n x0 x2 x4 x7 y6 y7)))))))
set_option maxRecDepth 20000 in
theorem j_X_partOf_9 {X : GX} (C : GC X b_X_partOf R_X 12 (rmd 0)) {Qp : Option Value → va_W → Prop} (q : RC X ((some .long)) Qp 0 0)    (post : Int64 → Prop) (hq : ∀ v, post v → Qp (some (.long v)) []) : ∀ (n : Nat) (x0 : Int64) (x2 : Int64) (x4 : Int32) (x5 : Int64) (x7 : Int64) (x9 : Int32), w_X_partOf_9  post  n x0 x2 x4 x5 x7 x9 → G X 0 0 ([]) [(0, .long x0), (2, .long x2), (4, .int x4), (5, .long x5), (7, .long x7), (9, .int x9)] [] 9 := by
  intro n
  induction n with
  | zero => intro x0 x2 x4 x5 x7 x9 hw; exact hw.elim
  | succ n ih =>
    intro x0 x2 x4 x5 x7 x9 hw
    rw [w_X_partOf_9] at hw
    refine g_iload (pc := 9) C d_X_partOf_9 5 rfl ?_
    refine g_sipush (pc := 11) C (v := 200) d_X_partOf_11 (by decide) ?_
    refine g_icmp_ge (pc := 14) (tgt := 45) C d_X_partOf_14 (by decide) (fun h9 => ?_) (fun h9 => ?_)
    · replace hw := hw.1 h9
      refine g_sub [0, 1, 2, 3] (lv' := [(0, .long x0), (2, .long x2), (4, .int x4), (5, .long x5)]) rfl ?_
      exact j_X_partOf_45 C q  post hq  x0 x2 x4 x5 hw
    · replace hw := hw.2 h9
      refine g_lload (pc := 17) C d_X_partOf_17 4 rfl ?_
      refine g_lconst (pc := 19) C (v := 0) d_X_partOf_19 (by decide) ?_
      refine g_lcmp (pc := 20) C d_X_partOf_20 ?_
      refine g_if_eq (pc := 21) (tgt := 45) C d_X_partOf_21 (by decide) (fun h8 => ?_) (fun h8 => ?_)
      · replace hw := hw.1 h8
        refine g_sub [0, 1, 2, 3] (lv' := [(0, .long x0), (2, .long x2), (4, .int x4), (5, .long x5)]) rfl ?_
        exact j_X_partOf_45 C q  post hq  x0 x2 x4 x5 hw
      · replace hw := hw.2 h8
        refine g_lload (pc := 24) C d_X_partOf_24 3 rfl ?_
        refine g_lload (pc := 26) C d_X_partOf_26 4 rfl ?_
        obtain ⟨h5, hw⟩ := hw
        refine g_lrem (pc := 28) C d_X_partOf_28 h5 ?_
        refine g_topl (fun y6 ey6 => ?_)
        replace hw := hw y6 ey6
        refine g_lstore (pc := 29) C d_X_partOf_29 (Nat.le_of_ble_eq_true rfl) (lv' := [(0, .long x0), (2, .long x2), (4, .int x4), (5, .long x5), (7, .long x7), (9, .int x9), (10, .long y6)]) rfl ?_
        refine g_lload (pc := 31) C d_X_partOf_31 4 rfl ?_
        refine g_lstore (pc := 33) C d_X_partOf_33 (Nat.le_of_ble_eq_true rfl) (lv' := [(0, .long x0), (2, .long x2), (4, .int x4), (5, .long x7), (7, .long x7), (9, .int x9), (10, .long y6)]) rfl ?_
        refine g_lload (pc := 35) C d_X_partOf_35 6 rfl ?_
        refine g_lstore (pc := 37) C d_X_partOf_37 (Nat.le_of_ble_eq_true rfl) (lv' := [(0, .long x0), (2, .long x2), (4, .int x4), (5, .long x7), (7, .long y6), (9, .int x9), (10, .long y6)]) rfl ?_
        obtain ⟨y7, ey7⟩ : ∃ w, w = x9 + 1 := ⟨_, rfl⟩
        replace hw := hw y7 ey7
        refine g_iinc (pc := 39) C d_X_partOf_39 5 rfl (v := y7) (by rw [ey7]; rfl) (Nat.le_of_ble_eq_true rfl) (lv' := [(0, .long x0), (2, .long x2), (4, .int x4), (5, .long x7), (7, .long y6), (9, .int y7), (10, .long y6)]) rfl ?_
        refine g_goto (pc := 42) (tgt := 9) C d_X_partOf_42 (by decide) ?_
        refine g_sub [0, 1, 2, 3, 4, 5] (lv' := [(0, .long x0), (2, .long x2), (4, .int x4), (5, .long x7), (7, .long y6), (9, .int y7)]) rfl ?_
        exact ih x0 x2 x4 x7 y6 y7 hw
def wp_X_partOf (x0 : Int64) (x2 : Int64) (x4 : Int32) (post : Int64 → Prop) : Prop :=
  w_X_partOf_9  post  2000 x0 x2 x4 x0 x2 0
set_option maxRecDepth 20000 in
theorem g_X_partOf {X : GX} (C : GC X b_X_partOf R_X 12 (rmd 0)) {Qp : Option Value → va_W → Prop} (q : RC X ((some .long)) Qp 0 0) (x0 : Int64) (x2 : Int64) (x4 : Int32) (post : Int64 → Prop) (hq : ∀ v, post v → Qp (some (.long v)) []) (hw : wp_X_partOf x0 x2 x4 post) : G X 0 0 ([]) [(0, .long x0), (2, .long x2), (4, .int x4)] [] 0 := by
  unfold wp_X_partOf at hw
  refine g_lload_n (pc := 0) C d_X_partOf_0 0 rfl rfl ?_
  refine g_lstore (pc := 1) C d_X_partOf_1 (Nat.le_of_ble_eq_true rfl) (lv' := [(0, .long x0), (2, .long x2), (4, .int x4), (5, .long x0)]) rfl ?_
  refine g_lload_n (pc := 3) C d_X_partOf_3 1 rfl rfl ?_
  refine g_lstore (pc := 4) C d_X_partOf_4 (Nat.le_of_ble_eq_true rfl) (lv' := [(0, .long x0), (2, .long x2), (4, .int x4), (5, .long x0), (7, .long x2)]) rfl ?_
  refine g_iconst (pc := 6) C (v := 0) d_X_partOf_6 (by decide) ?_
  refine g_istore (pc := 7) C d_X_partOf_7 (Nat.le_of_ble_eq_true rfl) (lv' := [(0, .long x0), (2, .long x2), (4, .int x4), (5, .long x0), (7, .long x2), (9, .int 0)]) rfl ?_
  exact j_X_partOf_9 C q  post hq  2000 x0 x2 x4 x0 x2 0 hw
set_option maxRecDepth 20000 in
theorem c_X_partOf (l : Launch) (D : va_G) (t : Nat → ClassId) (ev : Nat → Nat) (x0 : Int64) (x2 : Int64) (x4 : Int32) (post : Int64 → Prop) (hw : wp_X_partOf x0 x2 x4 post) : Con l D t ev y_X_partOf b_X_partOf 12 ((some .long)) 0 ([]) [.long x0, .long x2, .int x4] (qL (fun _ : Unit => [])  (fun v _ => post v)) :=
  ConR.of (by decide +kernel) (Nat.le_of_ble_eq_true rfl) (fun X el eD et ee C q _ => by subst el; subst eD; subst et; subst ee; exact g_X_partOf C q x0 x2 x4 post (fun v h => ⟨⟨v, (), rfl, rfl, h⟩, rfl⟩) hw)
def w_X_ways_5  (post : Int64 → Prop)  : Nat → Int32 → Int32 → Int64 → Int32 → Prop
  | 0, _, _, _, _ => False
  | n + 1, x0, x1, x2, x4 =>
    ((x1 ≤ x4) → (post x2 )) ∧ ((¬ x1 ≤ x4) → (∀ y1 : Int64, y1 = x2 * ((x0 - x4).toInt64) → (¬ ((x4 + 1).toInt64) = 0 ∧ (∀ y3 : Int64, y3 = y1 / ((x4 + 1).toInt64) → (∀ y4 : Int32, y4 = x4 + 1 → (w_X_ways_5  post  n x0 x1 y3 y4))))))
set_option maxRecDepth 20000 in
theorem j_X_ways_5 {X : GX} (C : GC X b_X_ways R_X 5 (rmd 0)) {Qp : Option Value → va_W → Prop} (q : RC X ((some .long)) Qp 0 0)    (post : Int64 → Prop) (hq : ∀ v, post v → Qp (some (.long v)) []) : ∀ (n : Nat) (x0 : Int32) (x1 : Int32) (x2 : Int64) (x4 : Int32), w_X_ways_5  post  n x0 x1 x2 x4 → G X 0 0 ([]) [(0, .int x0), (1, .int x1), (2, .long x2), (4, .int x4)] [] 5 := by
  intro n
  induction n with
  | zero => intro x0 x1 x2 x4 hw; exact hw.elim
  | succ n ih =>
    intro x0 x1 x2 x4 hw
    rw [w_X_ways_5] at hw
    refine g_iload (pc := 5) C d_X_ways_5 3 rfl ?_
    refine g_iload_n (pc := 7) C d_X_ways_7 1 rfl rfl ?_
    refine g_icmp_ge (pc := 8) (tgt := 31) C d_X_ways_8 (by decide) (fun h5 => ?_) (fun h5 => ?_)
    · replace hw := hw.1 h5
      refine g_lload_n (pc := 31) C d_X_ways_31 2 rfl rfl ?_
      exact g_lret (pc := 32) C q d_X_ways_32 (hq _ hw)
    · replace hw := hw.2 h5
      refine g_lload_n (pc := 11) C d_X_ways_11 2 rfl rfl ?_
      refine g_iload_n (pc := 12) C d_X_ways_12 0 rfl rfl ?_
      refine g_iload (pc := 13) C d_X_ways_13 3 rfl ?_
      refine g_isub (pc := 15) C d_X_ways_15 ?_
      refine g_i2l (pc := 16) C d_X_ways_16 ?_
      refine g_lmul (pc := 17) C d_X_ways_17 ?_
      refine g_topl (fun y1 ey1 => ?_)
      replace hw := hw y1 ey1
      refine g_iload (pc := 18) C d_X_ways_18 3 rfl ?_
      refine g_iconst (pc := 20) C (v := 1) d_X_ways_20 (by decide) ?_
      refine g_iadd (pc := 21) C d_X_ways_21 ?_
      refine g_i2l (pc := 22) C d_X_ways_22 ?_
      obtain ⟨h2, hw⟩ := hw
      refine g_ldiv (pc := 23) C d_X_ways_23 h2 ?_
      refine g_topl (fun y3 ey3 => ?_)
      replace hw := hw y3 ey3
      refine g_lstore_n (pc := 24) C d_X_ways_24 rfl (Nat.le_of_ble_eq_true rfl) (lv' := [(0, .int x0), (1, .int x1), (2, .long y3), (4, .int x4)]) rfl ?_
      obtain ⟨y4, ey4⟩ : ∃ w, w = x4 + 1 := ⟨_, rfl⟩
      replace hw := hw y4 ey4
      refine g_iinc (pc := 25) C d_X_ways_25 3 rfl (v := y4) (by rw [ey4]; rfl) (Nat.le_of_ble_eq_true rfl) (lv' := [(0, .int x0), (1, .int x1), (2, .long y3), (4, .int y4)]) rfl ?_
      refine g_goto (pc := 28) (tgt := 5) C d_X_ways_28 (by decide) ?_
      exact ih x0 x1 y3 y4 hw
def wp_X_ways (x0 : Int32) (x1 : Int32) (post : Int64 → Prop) : Prop :=
  w_X_ways_5  post  2000 x0 x1 1 0
set_option maxRecDepth 20000 in
theorem g_X_ways {X : GX} (C : GC X b_X_ways R_X 5 (rmd 0)) {Qp : Option Value → va_W → Prop} (q : RC X ((some .long)) Qp 0 0) (x0 : Int32) (x1 : Int32) (post : Int64 → Prop) (hq : ∀ v, post v → Qp (some (.long v)) []) (hw : wp_X_ways x0 x1 post) : G X 0 0 ([]) [(0, .int x0), (1, .int x1)] [] 0 := by
  unfold wp_X_ways at hw
  refine g_lconst (pc := 0) C (v := 1) d_X_ways_0 (by decide) ?_
  refine g_lstore_n (pc := 1) C d_X_ways_1 rfl (Nat.le_of_ble_eq_true rfl) (lv' := [(0, .int x0), (1, .int x1), (2, .long 1)]) rfl ?_
  refine g_iconst (pc := 2) C (v := 0) d_X_ways_2 (by decide) ?_
  refine g_istore (pc := 3) C d_X_ways_3 (Nat.le_of_ble_eq_true rfl) (lv' := [(0, .int x0), (1, .int x1), (2, .long 1), (4, .int 0)]) rfl ?_
  exact j_X_ways_5 C q  post hq  2000 x0 x1 1 0 hw
set_option maxRecDepth 20000 in
theorem c_X_ways (l : Launch) (D : va_G) (t : Nat → ClassId) (ev : Nat → Nat) (x0 : Int32) (x1 : Int32) (post : Int64 → Prop) (hw : wp_X_ways x0 x1 post) : Con l D t ev y_X_ways b_X_ways 5 ((some .long)) 0 ([]) [.int x0, .int x1] (qL (fun _ : Unit => [])  (fun v _ => post v)) :=
  ConR.of (by decide +kernel) (Nat.le_of_ble_eq_true rfl) (fun X el eD et ee C q _ => by subst el; subst eD; subst et; subst ee; exact g_X_ways C q x0 x1 post (fun v h => ⟨⟨v, (), rfl, rfl, h⟩, rfl⟩) hw)
def w_X_odds_45  (post : Int64 → XSt → Prop)  : Nat → XSt → Int32 → Int32 → Int32 → Int64 → Int64 → Int32 → Prop
  | 0, _, _, _, _, _, _, _ => False
  | n + 1, x, x1, x2, x3, x4, x6, x8 =>
    ((x1 ≤ x8) → (wp_X_partOf x4 x6 x3 (fun v2 => post v2 x))) ∧ ((¬ x1 ≤ x8) → (((x2 ≤ x8) → (∀ y3 : Int64, y3 = x4 * ((100 - ((C_laws (X_now x)) 3)).toInt64) → (∀ y4 : Int64, y4 = x6 * 100 → (∀ y5 : Int32, y5 = x8 + 1 → (w_X_odds_45  post  n x x1 x2 x3 y3 y4 y5))))) ∧ ((¬ x2 ≤ x8) → (∀ y6 : Int64, y6 = ((C_laws (X_now x)) 3).toInt64 → (∀ y7 : Int64, y7 = x4 * y6 → (∀ y8 : Int64, y8 = x6 * 100 → (∀ y9 : Int32, y9 = x8 + 1 → (w_X_odds_45  post  n x x1 x2 x3 y7 y8 y9))))))))
set_option maxRecDepth 20000 in
theorem j_X_odds_45 {X : GX} (C : GC X b_X_odds R_X 9 (rmd 1)) {Qp : Option Value → va_W → Prop} (q : RC X ((some .long)) Qp 0 0) (a : Nat → Nat)   (post : Int64 → XSt → Prop) (hq : ∀ v c1, post v c1 → Qp (some (.long v)) (woX (xt X) a c1)) : ∀ (n : Nat) (x : XSt) (x1 : Int32) (x2 : Int32) (x3 : Int32) (x4 : Int64) (x6 : Int64) (x8 : Int32), w_X_odds_45  post  n x x1 x2 x3 x4 x6 x8 → G X 0 0 (woX (xt X) a x) [(0, .ref (a 0)), (1, .int x1), (2, .int x2), (3, .int x3), (4, .long x4), (6, .long x6), (8, .int x8)] [] 45 := by
  intro n
  induction n with
  | zero => intro x x1 x2 x3 x4 x6 x8 hw; exact hw.elim
  | succ n ih =>
    intro x x1 x2 x3 x4 x6 x8 hw
    rw [w_X_odds_45] at hw
    refine g_iload (pc := 45) C d_X_odds_45 6 rfl ?_
    refine g_iload_n (pc := 47) C d_X_odds_47 1 rfl rfl ?_
    refine g_icmp_ge (pc := 48) (tgt := 102) C d_X_odds_48 (by decide) (fun h11 => ?_) (fun h11 => ?_)
    · replace hw := hw.1 h11
      refine g_lload (pc := 102) C d_X_odds_102 4 rfl ?_
      refine g_lload (pc := 104) C d_X_odds_104 5 rfl ?_
      refine g_iload_n (pc := 106) C d_X_odds_106 3 rfl rfl ?_
      refine k_L0 (pc := 107) (co_S C (c_X_partOf (xl X) (xD X) (xt X) (xv X) x4 x6 x3 _ hw) mw_X_partOf lk_X_216 d_X_odds_107 [] rfl (by decide)  rfl rfl ⟨Nat.le_of_ble_eq_true rfl, Nat.le_of_ble_eq_true rfl⟩ ⟨Nat.le_of_ble_eq_true rfl, Nat.le_of_ble_eq_true rfl⟩ (rest := []) rfl rfl (Nat.le_of_ble_eq_true rfl)) (fun v2 hw => ?_)
      exact g_lret (pc := 110) C q d_X_odds_110 (hq _ _ hw)
    · replace hw := hw.2 h11
      refine g_lload (pc := 51) C d_X_odds_51 4 rfl ?_
      refine g_iload (pc := 53) C d_X_odds_53 6 rfl ?_
      refine g_iload_n (pc := 55) C d_X_odds_55 2 rfl rfl ?_
      refine g_icmp_ge (pc := 56) (tgt := 72) C d_X_odds_56 (by decide) (fun h10 => ?_) (fun h10 => ?_)
      · replace hw := hw.1 h10
        refine g_bipush (pc := 72) C (v := 100) d_X_odds_72 (by decide) ?_
        refine g_aload_n (pc := 74) C d_X_odds_74 0 rfl rfl ?_
        refine fX_now (pc := 75) C lk_X_10 d_X_odds_75 ?_
        refine fX_now_laws (pc := 78) C lk_X_90 d_X_odds_78 ?_
        refine g_iconst (pc := 81) C (v := 3) d_X_odds_81 (by decide) ?_
        refine lX_now_laws (pc := 82) C d_X_odds_82 (f := C_laws (X_now x)) rfl (N0 := 3) (by decide) (by unfold vp_in; decide) ?_
        refine g_isub (pc := 83) C d_X_odds_83 ?_
        refine g_i2l (pc := 84) C d_X_odds_84 ?_
        refine g_lmul (pc := 85) C d_X_odds_85 ?_
        refine g_topl (fun y3 ey3 => ?_)
        replace hw := hw y3 ey3
        refine g_lstore (pc := 86) C d_X_odds_86 (Nat.le_of_ble_eq_true rfl) (lv' := [(0, .ref (a 0)), (1, .int x1), (2, .int x2), (3, .int x3), (4, .long y3), (6, .long x6), (8, .int x8)]) rfl ?_
        refine g_lload (pc := 88) C d_X_odds_88 5 rfl ?_
        refine g_ldc2_w (pc := 90) C (v := 100) d_X_odds_90 lk_X_214 ?_
        refine g_lmul (pc := 93) C d_X_odds_93 ?_
        refine g_topl (fun y4 ey4 => ?_)
        replace hw := hw y4 ey4
        refine g_lstore (pc := 94) C d_X_odds_94 (Nat.le_of_ble_eq_true rfl) (lv' := [(0, .ref (a 0)), (1, .int x1), (2, .int x2), (3, .int x3), (4, .long y3), (6, .long y4), (8, .int x8)]) rfl ?_
        obtain ⟨y5, ey5⟩ : ∃ w, w = x8 + 1 := ⟨_, rfl⟩
        replace hw := hw y5 ey5
        refine g_iinc (pc := 96) C d_X_odds_96 6 rfl (v := y5) (by rw [ey5]; rfl) (Nat.le_of_ble_eq_true rfl) (lv' := [(0, .ref (a 0)), (1, .int x1), (2, .int x2), (3, .int x3), (4, .long y3), (6, .long y4), (8, .int y5)]) rfl ?_
        refine g_goto (pc := 99) (tgt := 45) C d_X_odds_99 (by decide) ?_
        exact ih x x1 x2 x3 y3 y4 y5 hw
      · replace hw := hw.2 h10
        refine g_aload_n (pc := 59) C d_X_odds_59 0 rfl rfl ?_
        refine fX_now (pc := 60) C lk_X_10 d_X_odds_60 ?_
        refine fX_now_laws (pc := 63) C lk_X_90 d_X_odds_63 ?_
        refine g_iconst (pc := 66) C (v := 3) d_X_odds_66 (by decide) ?_
        refine lX_now_laws (pc := 67) C d_X_odds_67 (f := C_laws (X_now x)) rfl (N0 := 3) (by decide) (by unfold vp_in; decide) ?_
        refine g_i2l (pc := 68) C d_X_odds_68 ?_
        refine g_topl (fun y6 ey6 => ?_)
        replace hw := hw y6 ey6
        refine g_goto (pc := 69) (tgt := 85) C d_X_odds_69 (by decide) ?_
        refine g_lmul (pc := 85) C d_X_odds_85 ?_
        refine g_topl (fun y7 ey7 => ?_)
        replace hw := hw y7 ey7
        refine g_lstore (pc := 86) C d_X_odds_86 (Nat.le_of_ble_eq_true rfl) (lv' := [(0, .ref (a 0)), (1, .int x1), (2, .int x2), (3, .int x3), (4, .long y7), (6, .long x6), (8, .int x8)]) rfl ?_
        refine g_lload (pc := 88) C d_X_odds_88 5 rfl ?_
        refine g_ldc2_w (pc := 90) C (v := 100) d_X_odds_90 lk_X_214 ?_
        refine g_lmul (pc := 93) C d_X_odds_93 ?_
        refine g_topl (fun y8 ey8 => ?_)
        replace hw := hw y8 ey8
        refine g_lstore (pc := 94) C d_X_odds_94 (Nat.le_of_ble_eq_true rfl) (lv' := [(0, .ref (a 0)), (1, .int x1), (2, .int x2), (3, .int x3), (4, .long y7), (6, .long y8), (8, .int x8)]) rfl ?_
        obtain ⟨y9, ey9⟩ : ∃ w, w = x8 + 1 := ⟨_, rfl⟩
        replace hw := hw y9 ey9
        refine g_iinc (pc := 96) C d_X_odds_96 6 rfl (v := y9) (by rw [ey9]; rfl) (Nat.le_of_ble_eq_true rfl) (lv' := [(0, .ref (a 0)), (1, .int x1), (2, .int x2), (3, .int x3), (4, .long y7), (6, .long y8), (8, .int y9)]) rfl ?_
        refine g_goto (pc := 99) (tgt := 45) C d_X_odds_99 (by decide) ?_
        exact ih x x1 x2 x3 y7 y8 y9 hw
def wp_X_odds (x : XSt) (x1 : Int32) (x2 : Int32) (x3 : Int32) (post : Int64 → XSt → Prop) : Prop :=
  ((x1 < 0) → (post (-1) x)) ∧ ((¬ x1 < 0) → (((8 < x1) → (post (-1) x)) ∧ ((¬ 8 < x1) → (((x2 < 0) → (post (-1) x)) ∧ ((¬ x2 < 0) → (((x1 < x2) → (post (-1) x)) ∧ ((¬ x1 < x2) → (((x3 < 0) → (post (-1) x)) ∧ ((¬ x3 < 0) → (((x3 ≤ 1) → (wp_X_ways x1 x2 (fun v1 => w_X_odds_45  post  2000 x x1 x2 x3 v1 1 0))) ∧ ((¬ x3 ≤ 1) → (post (-1) x))))))))))))
set_option maxRecDepth 20000 in
theorem g_X_odds {X : GX} (C : GC X b_X_odds R_X 9 (rmd 1)) {Qp : Option Value → va_W → Prop} (q : RC X ((some .long)) Qp 0 0) (a : Nat → Nat) (x : XSt) (x1 : Int32) (x2 : Int32) (x3 : Int32) (post : Int64 → XSt → Prop) (hq : ∀ v c1, post v c1 → Qp (some (.long v)) (woX (xt X) a c1)) (hw : wp_X_odds x x1 x2 x3 post) : G X 0 0 (woX (xt X) a x) [(0, .ref (a 0)), (1, .int x1), (2, .int x2), (3, .int x3)] [] 0 := by
  unfold wp_X_odds at hw
  refine g_iload_n (pc := 0) C d_X_odds_0 1 rfl rfl ?_
  refine g_if_lt (pc := 1) (tgt := 28) C d_X_odds_1 (by decide) (fun h17 => ?_) (fun h17 => ?_)
  · replace hw := hw.1 h17
    refine g_ldc2_w (pc := 28) C (v := (-1)) d_X_odds_28 lk_X_208 ?_
    exact g_lret (pc := 31) C q d_X_odds_31 (hq _ _ hw)
  · replace hw := hw.2 h17
    refine g_iload_n (pc := 4) C d_X_odds_4 1 rfl rfl ?_
    refine g_bipush (pc := 5) C (v := 8) d_X_odds_5 (by decide) ?_
    refine g_icmp_gt (pc := 7) (tgt := 28) C d_X_odds_7 (by decide) (fun h16 => ?_) (fun h16 => ?_)
    · replace hw := hw.1 h16
      refine g_ldc2_w (pc := 28) C (v := (-1)) d_X_odds_28 lk_X_208 ?_
      exact g_lret (pc := 31) C q d_X_odds_31 (hq _ _ hw)
    · replace hw := hw.2 h16
      refine g_iload_n (pc := 10) C d_X_odds_10 2 rfl rfl ?_
      refine g_if_lt (pc := 11) (tgt := 28) C d_X_odds_11 (by decide) (fun h15 => ?_) (fun h15 => ?_)
      · replace hw := hw.1 h15
        refine g_ldc2_w (pc := 28) C (v := (-1)) d_X_odds_28 lk_X_208 ?_
        exact g_lret (pc := 31) C q d_X_odds_31 (hq _ _ hw)
      · replace hw := hw.2 h15
        refine g_iload_n (pc := 14) C d_X_odds_14 2 rfl rfl ?_
        refine g_iload_n (pc := 15) C d_X_odds_15 1 rfl rfl ?_
        refine g_icmp_gt (pc := 16) (tgt := 28) C d_X_odds_16 (by decide) (fun h14 => ?_) (fun h14 => ?_)
        · replace hw := hw.1 h14
          refine g_ldc2_w (pc := 28) C (v := (-1)) d_X_odds_28 lk_X_208 ?_
          exact g_lret (pc := 31) C q d_X_odds_31 (hq _ _ hw)
        · replace hw := hw.2 h14
          refine g_iload_n (pc := 19) C d_X_odds_19 3 rfl rfl ?_
          refine g_if_lt (pc := 20) (tgt := 28) C d_X_odds_20 (by decide) (fun h13 => ?_) (fun h13 => ?_)
          · replace hw := hw.1 h13
            refine g_ldc2_w (pc := 28) C (v := (-1)) d_X_odds_28 lk_X_208 ?_
            exact g_lret (pc := 31) C q d_X_odds_31 (hq _ _ hw)
          · replace hw := hw.2 h13
            refine g_iload_n (pc := 23) C d_X_odds_23 3 rfl rfl ?_
            refine g_iconst (pc := 24) C (v := 1) d_X_odds_24 (by decide) ?_
            refine g_icmp_le (pc := 25) (tgt := 32) C d_X_odds_25 (by decide) (fun h12 => ?_) (fun h12 => ?_)
            · replace hw := hw.1 h12
              refine g_iload_n (pc := 32) C d_X_odds_32 1 rfl rfl ?_
              refine g_iload_n (pc := 33) C d_X_odds_33 2 rfl rfl ?_
              refine k_L0 (pc := 34) (co_S C (c_X_ways (xl X) (xD X) (xt X) (xv X) x1 x2 _ hw) mw_X_ways lk_X_210 d_X_odds_34 [] rfl (by decide)  rfl rfl ⟨Nat.le_of_ble_eq_true rfl, Nat.le_of_ble_eq_true rfl⟩ ⟨Nat.le_of_ble_eq_true rfl, Nat.le_of_ble_eq_true rfl⟩ (rest := []) rfl rfl (Nat.le_of_ble_eq_true rfl)) (fun v1 hw => ?_)
              refine g_lstore (pc := 37) C d_X_odds_37 (Nat.le_of_ble_eq_true rfl) (lv' := [(0, .ref (a 0)), (1, .int x1), (2, .int x2), (3, .int x3), (4, .long v1)]) rfl ?_
              refine g_lconst (pc := 39) C (v := 1) d_X_odds_39 (by decide) ?_
              refine g_lstore (pc := 40) C d_X_odds_40 (Nat.le_of_ble_eq_true rfl) (lv' := [(0, .ref (a 0)), (1, .int x1), (2, .int x2), (3, .int x3), (4, .long v1), (6, .long 1)]) rfl ?_
              refine g_iconst (pc := 42) C (v := 0) d_X_odds_42 (by decide) ?_
              refine g_istore (pc := 43) C d_X_odds_43 (Nat.le_of_ble_eq_true rfl) (lv' := [(0, .ref (a 0)), (1, .int x1), (2, .int x2), (3, .int x3), (4, .long v1), (6, .long 1), (8, .int 0)]) rfl ?_
              exact j_X_odds_45 C q a post hq  2000 x x1 x2 x3 v1 1 0 hw
            · replace hw := hw.2 h12
              refine g_ldc2_w (pc := 28) C (v := (-1)) d_X_odds_28 lk_X_208 ?_
              exact g_lret (pc := 31) C q d_X_odds_31 (hq _ _ hw)
set_option maxRecDepth 20000 in
theorem c_X_odds (l : Launch) (D : va_G) (t : Nat → ClassId) (ev : Nat → Nat) (a : Nat → Nat) (x : XSt) (x1 : Int32) (x2 : Int32) (x3 : Int32) (post : Int64 → XSt → Prop) (hw : wp_X_odds x x1 x2 x3 post) : Con l D t ev y_X_odds b_X_odds 9 ((some .long)) 1 (woX t a x) [.ref (a 0), .int x1, .int x2, .int x3] (qL (woX t a)  post) :=
  ConR.of (by decide +kernel) (Nat.le_of_ble_eq_true rfl) (fun X el eD et ee C q _ => by subst el; subst eD; subst et; subst ee; exact g_X_odds C q a x x1 x2 x3 post (fun v c1 h => ⟨⟨v, c1, rfl, rfl, h⟩, rfl⟩) hw)
def wp_X_hope (x : XSt) (x1 : Int32) (x2 : Int32) (post : Int64 → XSt → Prop) : Prop :=
  ((x1 < 0) → (post (-1) x)) ∧ ((¬ x1 < 0) → (((99 < x1) → (post (-1) x)) ∧ ((¬ 99 < x1) → (((x2 < 0) → (post (-1) x)) ∧ ((¬ x2 < 0) → (((x2 ≤ 1) → (∀ y1 : Int64, y1 = x1.toInt64 → (∀ y2 : Int64, y2 = y1 * (((C_laws (X_now x)) 3).toInt64) → (wp_X_partOf y2 100 x2 (fun v3 => post v3 x))))) ∧ ((¬ x2 ≤ 1) → (post (-1) x))))))))
set_option maxRecDepth 20000 in
theorem g_X_hope {X : GX} (C : GC X b_X_hope R_X 3 (rmd 1)) {Qp : Option Value → va_W → Prop} (q : RC X ((some .long)) Qp 0 0) (a : Nat → Nat) (x : XSt) (x1 : Int32) (x2 : Int32) (post : Int64 → XSt → Prop) (hq : ∀ v c1, post v c1 → Qp (some (.long v)) (woX (xt X) a c1)) (hw : wp_X_hope x x1 x2 post) : G X 0 0 (woX (xt X) a x) [(0, .ref (a 0)), (1, .int x1), (2, .int x2)] [] 0 := by
  unfold wp_X_hope at hw
  refine g_iload_n (pc := 0) C d_X_hope_0 1 rfl rfl ?_
  refine g_if_lt (pc := 1) (tgt := 19) C d_X_hope_1 (by decide) (fun h7 => ?_) (fun h7 => ?_)
  · replace hw := hw.1 h7
    refine g_ldc2_w (pc := 19) C (v := (-1)) d_X_hope_19 lk_X_208 ?_
    exact g_lret (pc := 22) C q d_X_hope_22 (hq _ _ hw)
  · replace hw := hw.2 h7
    refine g_iload_n (pc := 4) C d_X_hope_4 1 rfl rfl ?_
    refine g_bipush (pc := 5) C (v := 99) d_X_hope_5 (by decide) ?_
    refine g_icmp_gt (pc := 7) (tgt := 19) C d_X_hope_7 (by decide) (fun h6 => ?_) (fun h6 => ?_)
    · replace hw := hw.1 h6
      refine g_ldc2_w (pc := 19) C (v := (-1)) d_X_hope_19 lk_X_208 ?_
      exact g_lret (pc := 22) C q d_X_hope_22 (hq _ _ hw)
    · replace hw := hw.2 h6
      refine g_iload_n (pc := 10) C d_X_hope_10 2 rfl rfl ?_
      refine g_if_lt (pc := 11) (tgt := 19) C d_X_hope_11 (by decide) (fun h5 => ?_) (fun h5 => ?_)
      · replace hw := hw.1 h5
        refine g_ldc2_w (pc := 19) C (v := (-1)) d_X_hope_19 lk_X_208 ?_
        exact g_lret (pc := 22) C q d_X_hope_22 (hq _ _ hw)
      · replace hw := hw.2 h5
        refine g_iload_n (pc := 14) C d_X_hope_14 2 rfl rfl ?_
        refine g_iconst (pc := 15) C (v := 1) d_X_hope_15 (by decide) ?_
        refine g_icmp_le (pc := 16) (tgt := 23) C d_X_hope_16 (by decide) (fun h4 => ?_) (fun h4 => ?_)
        · replace hw := hw.1 h4
          refine g_iload_n (pc := 23) C d_X_hope_23 1 rfl rfl ?_
          refine g_i2l (pc := 24) C d_X_hope_24 ?_
          refine g_topl (fun y1 ey1 => ?_)
          replace hw := hw y1 ey1
          refine g_aload_n (pc := 25) C d_X_hope_25 0 rfl rfl ?_
          refine fX_now (pc := 26) C lk_X_10 d_X_hope_26 ?_
          refine fX_now_laws (pc := 29) C lk_X_90 d_X_hope_29 ?_
          refine g_iconst (pc := 32) C (v := 3) d_X_hope_32 (by decide) ?_
          refine lX_now_laws (pc := 33) C d_X_hope_33 (f := C_laws (X_now x)) rfl (N0 := 3) (by decide) (by unfold vp_in; decide) ?_
          refine g_i2l (pc := 34) C d_X_hope_34 ?_
          refine g_lmul (pc := 35) C d_X_hope_35 ?_
          refine g_topl (fun y2 ey2 => ?_)
          replace hw := hw y2 ey2
          refine g_ldc2_w (pc := 36) C (v := 100) d_X_hope_36 lk_X_214 ?_
          refine g_iload_n (pc := 39) C d_X_hope_39 2 rfl rfl ?_
          refine k_L0 (pc := 40) (co_S C (c_X_partOf (xl X) (xD X) (xt X) (xv X) y2 100 x2 _ hw) mw_X_partOf lk_X_216 d_X_hope_40 [] rfl (by decide)  rfl rfl ⟨Nat.le_of_ble_eq_true rfl, Nat.le_of_ble_eq_true rfl⟩ ⟨Nat.le_of_ble_eq_true rfl, Nat.le_of_ble_eq_true rfl⟩ (rest := []) rfl rfl (Nat.le_of_ble_eq_true rfl)) (fun v3 hw => ?_)
          exact g_lret (pc := 43) C q d_X_hope_43 (hq _ _ hw)
        · replace hw := hw.2 h4
          refine g_ldc2_w (pc := 19) C (v := (-1)) d_X_hope_19 lk_X_208 ?_
          exact g_lret (pc := 22) C q d_X_hope_22 (hq _ _ hw)
set_option maxRecDepth 20000 in
theorem c_X_hope (l : Launch) (D : va_G) (t : Nat → ClassId) (ev : Nat → Nat) (a : Nat → Nat) (x : XSt) (x1 : Int32) (x2 : Int32) (post : Int64 → XSt → Prop) (hw : wp_X_hope x x1 x2 post) : Con l D t ev y_X_hope b_X_hope 3 ((some .long)) 1 (woX t a x) [.ref (a 0), .int x1, .int x2] (qL (woX t a)  post) :=
  ConR.of (by decide +kernel) (Nat.le_of_ble_eq_true rfl) (fun X el eD et ee C q _ => by subst el; subst eD; subst et; subst ee; exact g_X_hope C q a x x1 x2 post (fun v c1 h => ⟨⟨v, c1, rfl, rfl, h⟩, rfl⟩) hw)
def wp_X_triedRowPart (x : XSt) (x1 : Int32) (x2 : Int32) (post : Int32 → XSt → Prop) : Prop :=
  wp_X_isBarge x x1 (fun v1 x_2 => ((v1 = 0) → (post 0 x_2)) ∧ ((¬ v1 = 0) → (((x2 = 0) → (vp_in x1 8 ∧ (post ((C_at (X_tried x_2)) x1.toNatClampNeg) x_2))) ∧ ((¬ x2 = 0) → (((x2 = 1) → (vp_in x1 8 ∧ (post ((C_load (X_tried x_2)) x1.toNatClampNeg) x_2))) ∧ ((¬ x2 = 1) → (wp_C_allLost (X_tried x_2) (fun v5 c_6 => post v5 (X_tried_ x_2 c_6)))))))))
set_option maxRecDepth 20000 in
theorem g_X_triedRowPart {X : GX} (C : GC X b_X_triedRowPart R_X 3 (rmd 1)) {Qp : Option Value → va_W → Prop} (q : RC X ((some .int)) Qp 0 0) (a : Nat → Nat) (x : XSt) (x1 : Int32) (x2 : Int32) (post : Int32 → XSt → Prop) (hq : ∀ v c1, post v c1 → Qp (some (.int v)) (woX (xt X) a c1)) (hw : wp_X_triedRowPart x x1 x2 post) : G X 0 0 (woX (xt X) a x) [(0, .ref (a 0)), (1, .int x1), (2, .int x2)] [] 0 := by
  unfold wp_X_triedRowPart at hw
  refine g_aload_n (pc := 0) C d_X_triedRowPart_0 0 rfl rfl ?_
  refine g_iload_n (pc := 1) C d_X_triedRowPart_1 1 rfl rfl ?_
  refine k_Ia (pc := 2) (co_V C (c_X_isBarge (xl X) (xD X) (xt X) (xv X) a x x1 _ hw) mw_X_isBarge lk_X_106 d_X_triedRowPart_2 (List.range _) (all_C _) (all_nd _) (rec_w C 0 5 rfl rfl) rfl rfl ⟨Nat.le_of_ble_eq_true rfl, Nat.le_of_ble_eq_true rfl⟩ ⟨Nat.le_of_ble_eq_true rfl, Nat.le_of_ble_eq_true rfl⟩ (rest := []) rfl rfl (Nat.le_of_ble_eq_true rfl)) (fun v1 x_2 hw => ?_)
  refine g_if_ne (pc := 5) (tgt := 10) C d_X_triedRowPart_5 (by decide) (fun h9 => ?_) (fun h9 => ?_)
  · replace hw := hw.2 h9
    refine g_iload_n (pc := 10) C d_X_triedRowPart_10 2 rfl rfl ?_
    by_cases h7 : x2 = 0
    · replace hw := hw.1 h7
      refine g_lookup (pc := 11) (tgt := 36) C d_X_triedRowPart_11 (by decide) (off := 25) (by rw [h7]; rfl) (by decide) ?_
      refine g_aload_n (pc := 36) C d_X_triedRowPart_36 0 rfl rfl ?_
      refine fX_tried (pc := 37) C lk_X_16 d_X_triedRowPart_37 ?_
      refine fX_tried_at (pc := 40) C lk_X_118 d_X_triedRowPart_40 ?_
      refine g_iload_n (pc := 43) C d_X_triedRowPart_43 1 rfl rfl ?_
      obtain ⟨h3, hw⟩ := hw
      refine lX_tried_at (pc := 44) C d_X_triedRowPart_44 (f := C_at (X_tried x_2)) rfl (N0 := x1.toNatClampNeg) rfl h3 ?_
      exact g_iret (pc := 45) C q d_X_triedRowPart_45 (hq _ _ hw)
    · replace hw := hw.2 h7
      by_cases h8 : x2 = 1
      · replace hw := hw.1 h8
        refine g_lookup (pc := 11) (tgt := 46) C d_X_triedRowPart_11 (by decide) (off := 35) (by rw [h8]; rfl) (by decide) ?_
        refine g_aload_n (pc := 46) C d_X_triedRowPart_46 0 rfl rfl ?_
        refine fX_tried (pc := 47) C lk_X_16 d_X_triedRowPart_47 ?_
        refine fX_tried_load (pc := 50) C lk_X_112 d_X_triedRowPart_50 ?_
        refine g_iload_n (pc := 53) C d_X_triedRowPart_53 1 rfl rfl ?_
        obtain ⟨h4, hw⟩ := hw
        refine lX_tried_load (pc := 54) C d_X_triedRowPart_54 (f := C_load (X_tried x_2)) rfl (N0 := x1.toNatClampNeg) rfl h4 ?_
        exact g_iret (pc := 55) C q d_X_triedRowPart_55 (hq _ _ hw)
      · replace hw := hw.2 h8
        have h7_ := sw_ne (v := 0) h7 (by decide)
        have h8_ := sw_ne (v := 1) h8 (by decide)
        refine g_lookup (pc := 11) (tgt := 56) C d_X_triedRowPart_11 (by decide) (off := 45) (by simp [Op.lookupswitch.offset, h7_, h7_.symm, h8_, h8_.symm]) (by decide) ?_
        refine g_aload_n (pc := 56) C d_X_triedRowPart_56 0 rfl rfl ?_
        refine fX_tried (pc := 57) C lk_X_16 d_X_triedRowPart_57 ?_
        refine k_I (pc := 60) (co_V C (c_C_allLost (xl X) (xD X) (xt X) (xv X) (fun i => a (10 + i)) (X_tried x_2) _ hw) mw_C_allLost lk_X_168 d_X_triedRowPart_60 [10, 11, 12, 13, 14, 15, 16, 17, 18] (cC_X_tried (xt X) a a x_2) (by decide) (rec_w C 10 1 rfl rfl) rfl rfl ⟨Nat.le_of_ble_eq_true rfl, Nat.le_of_ble_eq_true rfl⟩ ⟨Nat.le_of_ble_eq_true rfl, Nat.le_of_ble_eq_true rfl⟩ (rest := []) rfl rfl (Nat.le_of_ble_eq_true rfl)) (fun c_6 => woX (xt X) a (X_tried_ x_2 c_6)) (cS_X_tried (xt X) a a x_2) (fun v5 c_6 hw => ?_)
        exact g_iret (pc := 63) C q d_X_triedRowPart_63 (hq _ _ hw)
  · replace hw := hw.1 h9
    refine g_iconst (pc := 8) C (v := 0) d_X_triedRowPart_8 (by decide) ?_
    exact g_iret (pc := 9) C q d_X_triedRowPart_9 (hq _ _ hw)
set_option maxRecDepth 20000 in
theorem c_X_triedRowPart (l : Launch) (D : va_G) (t : Nat → ClassId) (ev : Nat → Nat) (a : Nat → Nat) (x : XSt) (x1 : Int32) (x2 : Int32) (post : Int32 → XSt → Prop) (hw : wp_X_triedRowPart x x1 x2 post) : Con l D t ev y_X_triedRowPart b_X_triedRowPart 3 ((some .int)) 1 (woX t a x) [.ref (a 0), .int x1, .int x2] (qI (woX t a)  post) :=
  ConR.of (by decide +kernel) (Nat.le_of_ble_eq_true rfl) (fun X el eD et ee C q _ => by subst el; subst eD; subst et; subst ee; exact g_X_triedRowPart C q a x x1 x2 post (fun v c1 h => ⟨⟨v, c1, rfl, rfl, h⟩, rfl⟩) hw)
def w_X_prove_49  (post : Int32 → XSt → Prop) (k34 : XSt → Int32 → Int32 → Int32 → Prop) : Nat → XSt → Int32 → Int32 → Int32 → Int32 → Prop
  | 0, _, _, _, _, _ => False
  | n + 1, x, x1, x2, x3, x4 =>
    ((3 ≤ x4) → (∀ y5 : Int32, y5 = x3 + 1 → (k34 x x1 x2 y5))) ∧ ((¬ 3 ≤ x4) → (∀ y6 : Int32, y6 = x3 * 3 → (∀ y7 : Int32, y7 = y6 + x4 → (wp_X_triedRowPart x x1 x4 (fun v8 x_9 => vp_in y7 30 ∧ (∀ y11 : Int32, y11 = x4 + 1 → (w_X_prove_49  post k34 n (X_rows_ x_9 (upd (X_rows x_9) y7.toNatClampNeg v8)) x1 x2 x3 y11)))))))
set_option maxRecDepth 20000 in
theorem j_X_prove_49 {X : GX} (C : GC X b_X_prove R_X 5 (rmd 4)) {Qp : Option Value → va_W → Prop} (q : RC X ((some .int)) Qp 0 0) (a : Nat → Nat)   (post : Int32 → XSt → Prop) (hq : ∀ v c1, post v c1 → Qp (some (.int v)) (woX (xt X) a c1)) {k34 : XSt → Int32 → Int32 → Int32 → Prop} (hk34 : ∀ (x : XSt) (x1 : Int32) (x2 : Int32) (x3 : Int32), k34 x x1 x2 x3 → G X 0 0 (woX (xt X) a x) [(0, .ref (a 0)), (1, .int x1), (2, .int x2), (3, .int x3)] [] 34) : ∀ (n : Nat) (x : XSt) (x1 : Int32) (x2 : Int32) (x3 : Int32) (x4 : Int32), w_X_prove_49  post k34 n x x1 x2 x3 x4 → G X 0 0 (woX (xt X) a x) [(0, .ref (a 0)), (1, .int x1), (2, .int x2), (3, .int x3), (4, .int x4)] [] 49 := by
  intro n
  induction n with
  | zero => intro x x1 x2 x3 x4 hw; exact hw.elim
  | succ n ih =>
    intro x x1 x2 x3 x4 hw
    rw [w_X_prove_49] at hw
    refine g_iload (pc := 49) C d_X_prove_49 4 rfl ?_
    refine g_iconst (pc := 51) C (v := 3) d_X_prove_51 (by decide) ?_
    refine g_icmp_ge (pc := 52) (tgt := 79) C d_X_prove_52 (by decide) (fun h12 => ?_) (fun h12 => ?_)
    · replace hw := hw.1 h12
      obtain ⟨y5, ey5⟩ : ∃ w, w = x3 + 1 := ⟨_, rfl⟩
      replace hw := hw y5 ey5
      refine g_iinc (pc := 79) C d_X_prove_79 3 rfl (v := y5) (by rw [ey5]; rfl) (Nat.le_of_ble_eq_true rfl) (lv' := [(0, .ref (a 0)), (1, .int x1), (2, .int x2), (3, .int y5), (4, .int x4)]) rfl ?_
      refine g_goto (pc := 82) (tgt := 34) C d_X_prove_82 (by decide) ?_
      refine g_sub [0, 1, 2, 3] (lv' := [(0, .ref (a 0)), (1, .int x1), (2, .int x2), (3, .int y5)]) rfl ?_
      exact hk34 x x1 x2 y5 hw
    · replace hw := hw.2 h12
      refine g_aload_n (pc := 55) C d_X_prove_55 0 rfl rfl ?_
      refine fX_rows (pc := 56) C lk_X_33 d_X_prove_56 ?_
      refine g_iload_n (pc := 59) C d_X_prove_59 3 rfl rfl ?_
      refine g_iconst (pc := 60) C (v := 3) d_X_prove_60 (by decide) ?_
      refine g_imul (pc := 61) C d_X_prove_61 ?_
      refine g_topi (fun y6 ey6 => ?_)
      replace hw := hw y6 ey6
      refine g_iload (pc := 62) C d_X_prove_62 4 rfl ?_
      refine g_iadd (pc := 64) C d_X_prove_64 ?_
      refine g_topi (fun y7 ey7 => ?_)
      replace hw := hw y7 ey7
      refine g_aload_n (pc := 65) C d_X_prove_65 0 rfl rfl ?_
      refine g_iload_n (pc := 66) C d_X_prove_66 1 rfl rfl ?_
      refine g_iload (pc := 67) C d_X_prove_67 4 rfl ?_
      refine k_Ia (pc := 69) (co_V C (c_X_triedRowPart (xl X) (xD X) (xt X) (xv X) a x x1 x4 _ hw) mw_X_triedRowPart lk_X_220 d_X_prove_69 (List.range _) (all_C _) (all_nd _) (rec_w C 0 5 rfl rfl) rfl rfl ⟨Nat.le_of_ble_eq_true rfl, Nat.le_of_ble_eq_true rfl⟩ ⟨Nat.le_of_ble_eq_true rfl, Nat.le_of_ble_eq_true rfl⟩ (rest := [.int y7, .ref (a 30)]) rfl rfl (Nat.le_of_ble_eq_true rfl)) (fun v8 x_9 hw => ?_)
      obtain ⟨h10, hw⟩ := hw
      refine sX_rows (pc := 72) C d_X_prove_72 (f := X_rows x_9) rfl (N0 := y7.toNatClampNeg) rfl h10 ?_
      obtain ⟨y11, ey11⟩ : ∃ w, w = x4 + 1 := ⟨_, rfl⟩
      replace hw := hw y11 ey11
      refine g_iinc (pc := 73) C d_X_prove_73 4 rfl (v := y11) (by rw [ey11]; rfl) (Nat.le_of_ble_eq_true rfl) (lv' := [(0, .ref (a 0)), (1, .int x1), (2, .int x2), (3, .int x3), (4, .int y11)]) rfl ?_
      refine g_goto (pc := 76) (tgt := 49) C d_X_prove_76 (by decide) ?_
      exact ih (X_rows_ x_9 (upd (X_rows x_9) y7.toNatClampNeg v8)) x1 x2 x3 y11 hw
def w_X_prove_34  (post : Int32 → XSt → Prop)  : Nat → XSt → Int32 → Int32 → Int32 → Prop
  | 0, _, _, _, _ => False
  | n + 1, x, x1, x2, x3 =>
    ((x2 ≤ x3) → (post x2 (X_rowCount_ x x2))) ∧ ((¬ x2 ≤ x3) → (wp_C_passHour (X_tried x) (fun c_4 => w_X_prove_49  post (w_X_prove_34  post  n) 2000 (X_tried_ x c_4) x1 x2 x3 0)))
set_option maxRecDepth 20000 in
theorem j_X_prove_34 {X : GX} (C : GC X b_X_prove R_X 5 (rmd 4)) {Qp : Option Value → va_W → Prop} (q : RC X ((some .int)) Qp 0 0) (a : Nat → Nat)   (post : Int32 → XSt → Prop) (hq : ∀ v c1, post v c1 → Qp (some (.int v)) (woX (xt X) a c1)) : ∀ (n : Nat) (x : XSt) (x1 : Int32) (x2 : Int32) (x3 : Int32), w_X_prove_34  post  n x x1 x2 x3 → G X 0 0 (woX (xt X) a x) [(0, .ref (a 0)), (1, .int x1), (2, .int x2), (3, .int x3)] [] 34 := by
  intro n
  induction n with
  | zero => intro x x1 x2 x3 hw; exact hw.elim
  | succ n ih =>
    intro x x1 x2 x3 hw
    rw [w_X_prove_34] at hw
    refine g_iload_n (pc := 34) C d_X_prove_34 3 rfl rfl ?_
    refine g_iload_n (pc := 35) C d_X_prove_35 2 rfl rfl ?_
    refine g_icmp_ge (pc := 36) (tgt := 85) C d_X_prove_36 (by decide) (fun h13 => ?_) (fun h13 => ?_)
    · replace hw := hw.1 h13
      refine g_aload_n (pc := 85) C d_X_prove_85 0 rfl rfl ?_
      refine g_iload_n (pc := 86) C d_X_prove_86 2 rfl rfl ?_
      refine pX_rowCount (pc := 87) C lk_X_37 d_X_prove_87   ?_
      refine g_iload_n (pc := 90) C d_X_prove_90 2 rfl rfl ?_
      exact g_iret (pc := 91) C q d_X_prove_91 (hq _ _ hw)
    · replace hw := hw.2 h13
      refine g_aload_n (pc := 39) C d_X_prove_39 0 rfl rfl ?_
      refine fX_tried (pc := 40) C lk_X_16 d_X_prove_40 ?_
      refine k_V (pc := 43) (co_V C (c_C_passHour (xl X) (xD X) (xt X) (xv X) (fun i => a (10 + i)) (X_tried x) _ hw) mw_C_passHour lk_X_183 d_X_prove_43 [10, 11, 12, 13, 14, 15, 16, 17, 18] (cC_X_tried (xt X) a a x) (by decide) (rec_w C 10 1 rfl rfl) rfl rfl ⟨Nat.le_of_ble_eq_true rfl, Nat.le_of_ble_eq_true rfl⟩ ⟨Nat.le_of_ble_eq_true rfl, Nat.le_of_ble_eq_true rfl⟩ (rest := []) rfl rfl (Nat.le_of_ble_eq_true rfl)) (fun c_4 => woX (xt X) a (X_tried_ x c_4)) (cS_X_tried (xt X) a a x) (fun c_4 hw => ?_)
      refine g_iconst (pc := 46) C (v := 0) d_X_prove_46 (by decide) ?_
      refine g_istore (pc := 47) C d_X_prove_47 (Nat.le_of_ble_eq_true rfl) (lv' := [(0, .ref (a 0)), (1, .int x1), (2, .int x2), (3, .int x3), (4, .int 0)]) rfl ?_
      exact j_X_prove_49 C q a post hq ih 2000 (X_tried_ x c_4) x1 x2 x3 0 hw
def wp_X_prove (x : XSt) (x1 : Int32) (x2 : Int32) (post : Int32 → XSt → Prop) : Prop :=
  wp_X_isBarge x x1 (fun v1 x_2 => ((v1 = 0) → (post (-1) x_2)) ∧ ((¬ v1 = 0) → (((x2 < 1) → (post (-1) x_2)) ∧ ((¬ x2 < 1) → (((x2 ≤ 10) → (wp_C_copyFrom (X_tried x_2, X_now x_2) (fun p_3 => w_X_prove_34  post  2000 (X_now_ (X_tried_ x_2 p_3.1) p_3.2) x1 x2 0))) ∧ ((¬ x2 ≤ 10) → (post (-1) x_2)))))))
set_option maxRecDepth 20000 in
theorem g_X_prove {X : GX} (C : GC X b_X_prove R_X 5 (rmd 4)) {Qp : Option Value → va_W → Prop} (q : RC X ((some .int)) Qp 0 0) (a : Nat → Nat) (x : XSt) (x1 : Int32) (x2 : Int32) (post : Int32 → XSt → Prop) (hq : ∀ v c1, post v c1 → Qp (some (.int v)) (woX (xt X) a c1)) (hw : wp_X_prove x x1 x2 post) : G X 0 0 (woX (xt X) a x) [(0, .ref (a 0)), (1, .int x1), (2, .int x2)] [] 0 := by
  unfold wp_X_prove at hw
  refine g_aload_n (pc := 0) C d_X_prove_0 0 rfl rfl ?_
  refine g_iload_n (pc := 1) C d_X_prove_1 1 rfl rfl ?_
  refine k_Ia (pc := 2) (co_V C (c_X_isBarge (xl X) (xD X) (xt X) (xv X) a x x1 _ hw) mw_X_isBarge lk_X_106 d_X_prove_2 (List.range _) (all_C _) (all_nd _) (rec_w C 0 5 rfl rfl) rfl rfl ⟨Nat.le_of_ble_eq_true rfl, Nat.le_of_ble_eq_true rfl⟩ ⟨Nat.le_of_ble_eq_true rfl, Nat.le_of_ble_eq_true rfl⟩ (rest := []) rfl rfl (Nat.le_of_ble_eq_true rfl)) (fun v1 x_2 hw => ?_)
  refine g_if_eq (pc := 5) (tgt := 19) C d_X_prove_5 (by decide) (fun h16 => ?_) (fun h16 => ?_)
  · replace hw := hw.1 h16
    refine g_iconst (pc := 19) C (v := (-1)) d_X_prove_19 (by decide) ?_
    exact g_iret (pc := 20) C q d_X_prove_20 (hq _ _ hw)
  · replace hw := hw.2 h16
    refine g_iload_n (pc := 8) C d_X_prove_8 2 rfl rfl ?_
    refine g_iconst (pc := 9) C (v := 1) d_X_prove_9 (by decide) ?_
    refine g_icmp_lt (pc := 10) (tgt := 19) C d_X_prove_10 (by decide) (fun h15 => ?_) (fun h15 => ?_)
    · replace hw := hw.1 h15
      refine g_iconst (pc := 19) C (v := (-1)) d_X_prove_19 (by decide) ?_
      exact g_iret (pc := 20) C q d_X_prove_20 (hq _ _ hw)
    · replace hw := hw.2 h15
      refine g_iload_n (pc := 13) C d_X_prove_13 2 rfl rfl ?_
      refine g_bipush (pc := 14) C (v := 10) d_X_prove_14 (by decide) ?_
      refine g_icmp_le (pc := 16) (tgt := 21) C d_X_prove_16 (by decide) (fun h14 => ?_) (fun h14 => ?_)
      · replace hw := hw.1 h14
        refine g_aload_n (pc := 21) C d_X_prove_21 0 rfl rfl ?_
        refine fX_tried (pc := 22) C lk_X_16 d_X_prove_22 ?_
        refine g_aload_n (pc := 25) C d_X_prove_25 0 rfl rfl ?_
        refine fX_now (pc := 26) C lk_X_10 d_X_prove_26 ?_
        refine k_V (pc := 29) (co_V C (c_C_copyFrom (xl X) (xD X) (xt X) (xv X) (fun i => a (10 + i)) (fun i => a (1 + i)) (X_tried x_2, X_now x_2) _ hw) mw_C_copyFrom lk_X_69 d_X_prove_29 [10, 11, 12, 13, 14, 15, 16, 17, 18, 1, 2, 3, 4, 5, 6, 7, 8, 9] (cC_X_tried_now (xt X) a a x_2) (by decide) (rec_w C 10 1 rfl rfl) rfl rfl ⟨Nat.le_of_ble_eq_true rfl, Nat.le_of_ble_eq_true rfl⟩ ⟨Nat.le_of_ble_eq_true rfl, Nat.le_of_ble_eq_true rfl⟩ (rest := []) rfl rfl (Nat.le_of_ble_eq_true rfl)) (fun p_3 => woX (xt X) a (X_now_ (X_tried_ x_2 p_3.1) p_3.2)) (cS_X_tried_now (xt X) a a x_2) (fun p_3 hw => ?_)
        refine g_iconst (pc := 32) C (v := 0) d_X_prove_32 (by decide) ?_
        refine g_istore_n (pc := 33) C d_X_prove_33 rfl (Nat.le_of_ble_eq_true rfl) (lv' := [(0, .ref (a 0)), (1, .int x1), (2, .int x2), (3, .int 0)]) rfl ?_
        exact j_X_prove_34 C q a post hq  2000 (X_now_ (X_tried_ x_2 p_3.1) p_3.2) x1 x2 0 hw
      · replace hw := hw.2 h14
        refine g_iconst (pc := 19) C (v := (-1)) d_X_prove_19 (by decide) ?_
        exact g_iret (pc := 20) C q d_X_prove_20 (hq _ _ hw)
set_option maxRecDepth 20000 in
theorem c_X_prove (l : Launch) (D : va_G) (t : Nat → ClassId) (ev : Nat → Nat) (a : Nat → Nat) (x : XSt) (x1 : Int32) (x2 : Int32) (post : Int32 → XSt → Prop) (hw : wp_X_prove x x1 x2 post) : Con l D t ev y_X_prove b_X_prove 5 ((some .int)) 4 (woX t a x) [.ref (a 0), .int x1, .int x2] (qI (woX t a)  post) :=
  ConR.of (by decide +kernel) (Nat.le_of_ble_eq_true rfl) (fun X el eD et ee C q _ => by subst el; subst eD; subst et; subst ee; exact g_X_prove C q a x x1 x2 post (fun v c1 h => ⟨⟨v, c1, rfl, rfl, h⟩, rfl⟩) hw)
def wp_X_isRowPart (x : XSt) (x1 : Int32) (x2 : Int32) (post : Int32 → XSt → Prop) : Prop :=
  ((x1 < 0) → (post 0 x)) ∧ ((¬ x1 < 0) → ((((X_rowCount x) ≤ x1) → (post 0 x)) ∧ ((¬ (X_rowCount x) ≤ x1) → (((10 ≤ x1) → (post 0 x)) ∧ ((¬ 10 ≤ x1) → (((x2 < 0) → (post 0 x)) ∧ ((¬ x2 < 0) → (((3 ≤ x2) → (post 0 x)) ∧ ((¬ 3 ≤ x2) → (post 1 x))))))))))
set_option maxRecDepth 20000 in
theorem g_X_isRowPart {X : GX} (C : GC X b_X_isRowPart R_X 3 (rmd 0)) {Qp : Option Value → va_W → Prop} (q : RC X ((some .boolean)) Qp 0 0) (a : Nat → Nat) (x : XSt) (x1 : Int32) (x2 : Int32) (post : Int32 → XSt → Prop) (hq : ∀ v c1, post v c1 → Qp (some (.int v)) (woX (xt X) a c1)) (hw : wp_X_isRowPart x x1 x2 post) : G X 0 0 (woX (xt X) a x) [(0, .ref (a 0)), (1, .int x1), (2, .int x2)] [] 0 := by
  unfold wp_X_isRowPart at hw
  refine g_iload_n (pc := 0) C d_X_isRowPart_0 1 rfl rfl ?_
  refine g_if_lt (pc := 1) (tgt := 31) C d_X_isRowPart_1 (by decide) (fun h5 => ?_) (fun h5 => ?_)
  · replace hw := hw.1 h5
    refine g_iconst (pc := 31) C (v := 0) d_X_isRowPart_31 (by decide) ?_
    exact g_zret (pc := 32) C q d_X_isRowPart_32 (by decide) (hq _ _ hw)
  · replace hw := hw.2 h5
    refine g_iload_n (pc := 4) C d_X_isRowPart_4 1 rfl rfl ?_
    refine g_aload_n (pc := 5) C d_X_isRowPart_5 0 rfl rfl ?_
    refine fX_rowCount (pc := 6) C lk_X_37 d_X_isRowPart_6 (v := X_rowCount x) rfl ?_
    refine g_icmp_ge (pc := 9) (tgt := 31) C d_X_isRowPart_9 (by decide) (fun h4 => ?_) (fun h4 => ?_)
    · replace hw := hw.1 h4
      refine g_iconst (pc := 31) C (v := 0) d_X_isRowPart_31 (by decide) ?_
      exact g_zret (pc := 32) C q d_X_isRowPart_32 (by decide) (hq _ _ hw)
    · replace hw := hw.2 h4
      refine g_iload_n (pc := 12) C d_X_isRowPart_12 1 rfl rfl ?_
      refine g_bipush (pc := 13) C (v := 10) d_X_isRowPart_13 (by decide) ?_
      refine g_icmp_ge (pc := 15) (tgt := 31) C d_X_isRowPart_15 (by decide) (fun h3 => ?_) (fun h3 => ?_)
      · replace hw := hw.1 h3
        refine g_iconst (pc := 31) C (v := 0) d_X_isRowPart_31 (by decide) ?_
        exact g_zret (pc := 32) C q d_X_isRowPart_32 (by decide) (hq _ _ hw)
      · replace hw := hw.2 h3
        refine g_iload_n (pc := 18) C d_X_isRowPart_18 2 rfl rfl ?_
        refine g_if_lt (pc := 19) (tgt := 31) C d_X_isRowPart_19 (by decide) (fun h2 => ?_) (fun h2 => ?_)
        · replace hw := hw.1 h2
          refine g_iconst (pc := 31) C (v := 0) d_X_isRowPart_31 (by decide) ?_
          exact g_zret (pc := 32) C q d_X_isRowPart_32 (by decide) (hq _ _ hw)
        · replace hw := hw.2 h2
          refine g_iload_n (pc := 22) C d_X_isRowPart_22 2 rfl rfl ?_
          refine g_iconst (pc := 23) C (v := 3) d_X_isRowPart_23 (by decide) ?_
          refine g_icmp_ge (pc := 24) (tgt := 31) C d_X_isRowPart_24 (by decide) (fun h1 => ?_) (fun h1 => ?_)
          · replace hw := hw.1 h1
            refine g_iconst (pc := 31) C (v := 0) d_X_isRowPart_31 (by decide) ?_
            exact g_zret (pc := 32) C q d_X_isRowPart_32 (by decide) (hq _ _ hw)
          · replace hw := hw.2 h1
            refine g_iconst (pc := 27) C (v := 1) d_X_isRowPart_27 (by decide) ?_
            refine g_goto (pc := 28) (tgt := 32) C d_X_isRowPart_28 (by decide) ?_
            exact g_zret (pc := 32) C q d_X_isRowPart_32 (by decide) (hq _ _ hw)
set_option maxRecDepth 20000 in
theorem c_X_isRowPart (l : Launch) (D : va_G) (t : Nat → ClassId) (ev : Nat → Nat) (a : Nat → Nat) (x : XSt) (x1 : Int32) (x2 : Int32) (post : Int32 → XSt → Prop) (hw : wp_X_isRowPart x x1 x2 post) : Con l D t ev y_X_isRowPart b_X_isRowPart 3 ((some .boolean)) 0 (woX t a x) [.ref (a 0), .int x1, .int x2] (qI (woX t a)  post) :=
  ConR.of (by decide +kernel) (Nat.le_of_ble_eq_true rfl) (fun X el eD et ee C q _ => by subst el; subst eD; subst et; subst ee; exact g_X_isRowPart C q a x x1 x2 post (fun v c1 h => ⟨⟨v, c1, rfl, rfl, h⟩, rfl⟩) hw)
def wp_X_row (x : XSt) (x1 : Int32) (x2 : Int32) (post : Int32 → XSt → Prop) : Prop :=
  wp_X_isRowPart x x1 x2 (fun v1 x_2 => ((v1 = 0) → (post (-9) x_2)) ∧ ((¬ v1 = 0) → (∀ y3 : Int32, y3 = x1 * 3 → (∀ y4 : Int32, y4 = y3 + x2 → (vp_in y4 30 ∧ (post ((X_rows x_2) y4.toNatClampNeg) x_2))))))
set_option maxRecDepth 20000 in
theorem g_X_row {X : GX} (C : GC X b_X_row R_X 3 (rmd 1)) {Qp : Option Value → va_W → Prop} (q : RC X ((some .int)) Qp 0 0) (a : Nat → Nat) (x : XSt) (x1 : Int32) (x2 : Int32) (post : Int32 → XSt → Prop) (hq : ∀ v c1, post v c1 → Qp (some (.int v)) (woX (xt X) a c1)) (hw : wp_X_row x x1 x2 post) : G X 0 0 (woX (xt X) a x) [(0, .ref (a 0)), (1, .int x1), (2, .int x2)] [] 0 := by
  unfold wp_X_row at hw
  refine g_aload_n (pc := 0) C d_X_row_0 0 rfl rfl ?_
  refine g_iload_n (pc := 1) C d_X_row_1 1 rfl rfl ?_
  refine g_iload_n (pc := 2) C d_X_row_2 2 rfl rfl ?_
  refine k_Ia (pc := 3) (co_V C (c_X_isRowPart (xl X) (xD X) (xt X) (xv X) a x x1 x2 _ hw) mw_X_isRowPart lk_X_223 d_X_row_3 (List.range _) (all_C _) (all_nd _) (rec_w C 0 5 rfl rfl) rfl rfl ⟨Nat.le_of_ble_eq_true rfl, Nat.le_of_ble_eq_true rfl⟩ ⟨Nat.le_of_ble_eq_true rfl, Nat.le_of_ble_eq_true rfl⟩ (rest := []) rfl rfl (Nat.le_of_ble_eq_true rfl)) (fun v1 x_2 hw => ?_)
  refine g_if_eq (pc := 6) (tgt := 22) C d_X_row_6 (by decide) (fun h6 => ?_) (fun h6 => ?_)
  · replace hw := hw.1 h6
    refine g_bipush (pc := 22) C (v := (-9)) d_X_row_22 (by decide) ?_
    exact g_iret (pc := 24) C q d_X_row_24 (hq _ _ hw)
  · replace hw := hw.2 h6
    refine g_aload_n (pc := 9) C d_X_row_9 0 rfl rfl ?_
    refine fX_rows (pc := 10) C lk_X_33 d_X_row_10 ?_
    refine g_iload_n (pc := 13) C d_X_row_13 1 rfl rfl ?_
    refine g_iconst (pc := 14) C (v := 3) d_X_row_14 (by decide) ?_
    refine g_imul (pc := 15) C d_X_row_15 ?_
    refine g_topi (fun y3 ey3 => ?_)
    replace hw := hw y3 ey3
    refine g_iload_n (pc := 16) C d_X_row_16 2 rfl rfl ?_
    refine g_iadd (pc := 17) C d_X_row_17 ?_
    refine g_topi (fun y4 ey4 => ?_)
    replace hw := hw y4 ey4
    obtain ⟨h5, hw⟩ := hw
    refine lX_rows (pc := 18) C d_X_row_18 (f := X_rows x_2) rfl (N0 := y4.toNatClampNeg) rfl h5 ?_
    refine g_goto (pc := 19) (tgt := 24) C d_X_row_19 (by decide) ?_
    exact g_iret (pc := 24) C q d_X_row_24 (hq _ _ hw)
set_option maxRecDepth 20000 in
theorem c_X_row (l : Launch) (D : va_G) (t : Nat → ClassId) (ev : Nat → Nat) (a : Nat → Nat) (x : XSt) (x1 : Int32) (x2 : Int32) (post : Int32 → XSt → Prop) (hw : wp_X_row x x1 x2 post) : Con l D t ev y_X_row b_X_row 3 ((some .int)) 1 (woX t a x) [.ref (a 0), .int x1, .int x2] (qI (woX t a)  post) :=
  ConR.of (by decide +kernel) (Nat.le_of_ble_eq_true rfl) (fun X el eD et ee C q _ => by subst el; subst eD; subst et; subst ee; exact g_X_row C q a x x1 x2 post (fun v c1 h => ⟨⟨v, c1, rfl, rfl, h⟩, rfl⟩) hw)
def wp_X_alterRow (x : XSt) (x1 : Int32) (x2 : Int32) (x3 : Int32) (post : Int32 → XSt → Prop) : Prop :=
  wp_X_isRowPart x x1 x2 (fun v1 x_2 => ((v1 = 0) → (post (-9) x_2)) ∧ ((¬ v1 = 0) → (∀ y3 : Int32, y3 = x1 * 3 → (∀ y4 : Int32, y4 = y3 + x2 → (vp_in y4 30 ∧ (∀ y6 : Int32, y6 = x1 * 3 → (∀ y7 : Int32, y7 = y6 + x2 → (vp_in y7 30 ∧ (post ((X_rows x_2) y4.toNatClampNeg) (X_rows_ x_2 (upd (X_rows x_2) y7.toNatClampNeg x3)))))))))))
set_option maxRecDepth 20000 in
theorem g_X_alterRow {X : GX} (C : GC X b_X_alterRow R_X 5 (rmd 1)) {Qp : Option Value → va_W → Prop} (q : RC X ((some .int)) Qp 0 0) (a : Nat → Nat) (x : XSt) (x1 : Int32) (x2 : Int32) (x3 : Int32) (post : Int32 → XSt → Prop) (hq : ∀ v c1, post v c1 → Qp (some (.int v)) (woX (xt X) a c1)) (hw : wp_X_alterRow x x1 x2 x3 post) : G X 0 0 (woX (xt X) a x) [(0, .ref (a 0)), (1, .int x1), (2, .int x2), (3, .int x3)] [] 0 := by
  unfold wp_X_alterRow at hw
  refine g_aload_n (pc := 0) C d_X_alterRow_0 0 rfl rfl ?_
  refine g_iload_n (pc := 1) C d_X_alterRow_1 1 rfl rfl ?_
  refine g_iload_n (pc := 2) C d_X_alterRow_2 2 rfl rfl ?_
  refine k_Ia (pc := 3) (co_V C (c_X_isRowPart (xl X) (xD X) (xt X) (xv X) a x x1 x2 _ hw) mw_X_isRowPart lk_X_223 d_X_alterRow_3 (List.range _) (all_C _) (all_nd _) (rec_w C 0 5 rfl rfl) rfl rfl ⟨Nat.le_of_ble_eq_true rfl, Nat.le_of_ble_eq_true rfl⟩ ⟨Nat.le_of_ble_eq_true rfl, Nat.le_of_ble_eq_true rfl⟩ (rest := []) rfl rfl (Nat.le_of_ble_eq_true rfl)) (fun v1 x_2 hw => ?_)
  refine g_if_ne (pc := 6) (tgt := 12) C d_X_alterRow_6 (by decide) (fun h9 => ?_) (fun h9 => ?_)
  · replace hw := hw.2 h9
    refine g_aload_n (pc := 12) C d_X_alterRow_12 0 rfl rfl ?_
    refine fX_rows (pc := 13) C lk_X_33 d_X_alterRow_13 ?_
    refine g_iload_n (pc := 16) C d_X_alterRow_16 1 rfl rfl ?_
    refine g_iconst (pc := 17) C (v := 3) d_X_alterRow_17 (by decide) ?_
    refine g_imul (pc := 18) C d_X_alterRow_18 ?_
    refine g_topi (fun y3 ey3 => ?_)
    replace hw := hw y3 ey3
    refine g_iload_n (pc := 19) C d_X_alterRow_19 2 rfl rfl ?_
    refine g_iadd (pc := 20) C d_X_alterRow_20 ?_
    refine g_topi (fun y4 ey4 => ?_)
    replace hw := hw y4 ey4
    obtain ⟨h5, hw⟩ := hw
    refine lX_rows (pc := 21) C d_X_alterRow_21 (f := X_rows x_2) rfl (N0 := y4.toNatClampNeg) rfl h5 ?_
    refine g_istore (pc := 22) C d_X_alterRow_22 (Nat.le_of_ble_eq_true rfl) (lv' := [(0, .ref (a 0)), (1, .int x1), (2, .int x2), (3, .int x3), (4, .int ((X_rows x_2) y4.toNatClampNeg))]) rfl ?_
    refine g_aload_n (pc := 24) C d_X_alterRow_24 0 rfl rfl ?_
    refine fX_rows (pc := 25) C lk_X_33 d_X_alterRow_25 ?_
    refine g_iload_n (pc := 28) C d_X_alterRow_28 1 rfl rfl ?_
    refine g_iconst (pc := 29) C (v := 3) d_X_alterRow_29 (by decide) ?_
    refine g_imul (pc := 30) C d_X_alterRow_30 ?_
    refine g_topi (fun y6 ey6 => ?_)
    replace hw := hw y6 ey6
    refine g_iload_n (pc := 31) C d_X_alterRow_31 2 rfl rfl ?_
    refine g_iadd (pc := 32) C d_X_alterRow_32 ?_
    refine g_topi (fun y7 ey7 => ?_)
    replace hw := hw y7 ey7
    refine g_iload_n (pc := 33) C d_X_alterRow_33 3 rfl rfl ?_
    obtain ⟨h8, hw⟩ := hw
    refine sX_rows (pc := 34) C d_X_alterRow_34 (f := X_rows x_2) rfl (N0 := y7.toNatClampNeg) rfl h8 ?_
    refine g_iload (pc := 35) C d_X_alterRow_35 4 rfl ?_
    exact g_iret (pc := 37) C q d_X_alterRow_37 (hq _ _ hw)
  · replace hw := hw.1 h9
    refine g_bipush (pc := 9) C (v := (-9)) d_X_alterRow_9 (by decide) ?_
    exact g_iret (pc := 11) C q d_X_alterRow_11 (hq _ _ hw)
set_option maxRecDepth 20000 in
theorem c_X_alterRow (l : Launch) (D : va_G) (t : Nat → ClassId) (ev : Nat → Nat) (a : Nat → Nat) (x : XSt) (x1 : Int32) (x2 : Int32) (x3 : Int32) (post : Int32 → XSt → Prop) (hw : wp_X_alterRow x x1 x2 x3 post) : Con l D t ev y_X_alterRow b_X_alterRow 5 ((some .int)) 1 (woX t a x) [.ref (a 0), .int x1, .int x2, .int x3] (qI (woX t a)  post) :=
  ConR.of (by decide +kernel) (Nat.le_of_ble_eq_true rfl) (fun X el eD et ee C q _ => by subst el; subst eD; subst et; subst ee; exact g_X_alterRow C q a x x1 x2 x3 post (fun v c1 h => ⟨⟨v, c1, rfl, rfl, h⟩, rfl⟩) hw)
def w_X_judge_46  (post : Int32 → XSt → Prop) (k23 : XSt → Int32 → Int32 → Prop) : Nat → XSt → Int32 → Int32 → Int32 → Prop
  | 0, _, _, _, _ => False
  | n + 1, x, x1, x2, x3 =>
    ((3 ≤ x3) → (∀ y5 : Int32, y5 = x2 + 1 → (k23 x x1 y5))) ∧ ((¬ 3 ≤ x3) → (∀ y6 : Int32, y6 = x2 * 3 → (∀ y7 : Int32, y7 = y6 + x3 → (vp_in y7 30 ∧ (wp_X_triedRowPart x x1 x3 (fun v9 x_10 => ((((X_rows x) y7.toNatClampNeg) = v9) → (∀ y11 : Int32, y11 = x3 + 1 → (w_X_judge_46  post k23 n x_10 x1 x2 y11))) ∧ ((¬ ((X_rows x) y7.toNatClampNeg) = v9) → (post (x2 + 1) x_10))))))))
set_option maxRecDepth 20000 in
theorem j_X_judge_46 {X : GX} (C : GC X b_X_judge R_X 4 (rmd 4)) {Qp : Option Value → va_W → Prop} (q : RC X ((some .int)) Qp 0 0) (a : Nat → Nat)   (post : Int32 → XSt → Prop) (hq : ∀ v c1, post v c1 → Qp (some (.int v)) (woX (xt X) a c1)) {k23 : XSt → Int32 → Int32 → Prop} (hk23 : ∀ (x : XSt) (x1 : Int32) (x2 : Int32), k23 x x1 x2 → G X 0 0 (woX (xt X) a x) [(0, .ref (a 0)), (1, .int x1), (2, .int x2)] [] 23) : ∀ (n : Nat) (x : XSt) (x1 : Int32) (x2 : Int32) (x3 : Int32), w_X_judge_46  post k23 n x x1 x2 x3 → G X 0 0 (woX (xt X) a x) [(0, .ref (a 0)), (1, .int x1), (2, .int x2), (3, .int x3)] [] 46 := by
  intro n
  induction n with
  | zero => intro x x1 x2 x3 hw; exact hw.elim
  | succ n ih =>
    intro x x1 x2 x3 hw
    rw [w_X_judge_46] at hw
    refine g_iload_n (pc := 46) C d_X_judge_46 3 rfl rfl ?_
    refine g_iconst (pc := 47) C (v := 3) d_X_judge_47 (by decide) ?_
    refine g_icmp_ge (pc := 48) (tgt := 80) C d_X_judge_48 (by decide) (fun h13 => ?_) (fun h13 => ?_)
    · replace hw := hw.1 h13
      obtain ⟨y5, ey5⟩ : ∃ w, w = x2 + 1 := ⟨_, rfl⟩
      replace hw := hw y5 ey5
      refine g_iinc (pc := 80) C d_X_judge_80 2 rfl (v := y5) (by rw [ey5]; rfl) (Nat.le_of_ble_eq_true rfl) (lv' := [(0, .ref (a 0)), (1, .int x1), (2, .int y5), (3, .int x3)]) rfl ?_
      refine g_goto (pc := 83) (tgt := 23) C d_X_judge_83 (by decide) ?_
      refine g_sub [0, 1, 2] (lv' := [(0, .ref (a 0)), (1, .int x1), (2, .int y5)]) rfl ?_
      exact hk23 x x1 y5 hw
    · replace hw := hw.2 h13
      refine g_aload_n (pc := 51) C d_X_judge_51 0 rfl rfl ?_
      refine fX_rows (pc := 52) C lk_X_33 d_X_judge_52 ?_
      refine g_iload_n (pc := 55) C d_X_judge_55 2 rfl rfl ?_
      refine g_iconst (pc := 56) C (v := 3) d_X_judge_56 (by decide) ?_
      refine g_imul (pc := 57) C d_X_judge_57 ?_
      refine g_topi (fun y6 ey6 => ?_)
      replace hw := hw y6 ey6
      refine g_iload_n (pc := 58) C d_X_judge_58 3 rfl rfl ?_
      refine g_iadd (pc := 59) C d_X_judge_59 ?_
      refine g_topi (fun y7 ey7 => ?_)
      replace hw := hw y7 ey7
      obtain ⟨h8, hw⟩ := hw
      refine lX_rows (pc := 60) C d_X_judge_60 (f := X_rows x) rfl (N0 := y7.toNatClampNeg) rfl h8 ?_
      refine g_aload_n (pc := 61) C d_X_judge_61 0 rfl rfl ?_
      refine g_iload_n (pc := 62) C d_X_judge_62 1 rfl rfl ?_
      refine g_iload_n (pc := 63) C d_X_judge_63 3 rfl rfl ?_
      refine k_Ia (pc := 64) (co_V C (c_X_triedRowPart (xl X) (xD X) (xt X) (xv X) a x x1 x3 _ hw) mw_X_triedRowPart lk_X_220 d_X_judge_64 (List.range _) (all_C _) (all_nd _) (rec_w C 0 5 rfl rfl) rfl rfl ⟨Nat.le_of_ble_eq_true rfl, Nat.le_of_ble_eq_true rfl⟩ ⟨Nat.le_of_ble_eq_true rfl, Nat.le_of_ble_eq_true rfl⟩ (rest := [.int ((X_rows x) y7.toNatClampNeg)]) rfl rfl (Nat.le_of_ble_eq_true rfl)) (fun v9 x_10 hw => ?_)
      refine g_icmp_eq (pc := 67) (tgt := 74) C d_X_judge_67 (by decide) (fun h12 => ?_) (fun h12 => ?_)
      · replace hw := hw.1 h12
        obtain ⟨y11, ey11⟩ : ∃ w, w = x3 + 1 := ⟨_, rfl⟩
        replace hw := hw y11 ey11
        refine g_iinc (pc := 74) C d_X_judge_74 3 rfl (v := y11) (by rw [ey11]; rfl) (Nat.le_of_ble_eq_true rfl) (lv' := [(0, .ref (a 0)), (1, .int x1), (2, .int x2), (3, .int y11)]) rfl ?_
        refine g_goto (pc := 77) (tgt := 46) C d_X_judge_77 (by decide) ?_
        exact ih x_10 x1 x2 y11 hw
      · replace hw := hw.2 h12
        refine g_iload_n (pc := 70) C d_X_judge_70 2 rfl rfl ?_
        refine g_iconst (pc := 71) C (v := 1) d_X_judge_71 (by decide) ?_
        refine g_iadd (pc := 72) C d_X_judge_72 ?_
        exact g_iret (pc := 73) C q d_X_judge_73 (hq _ _ hw)
def w_X_judge_23  (post : Int32 → XSt → Prop)  : Nat → XSt → Int32 → Int32 → Prop
  | 0, _, _, _ => False
  | n + 1, x, x1, x2 =>
    (((X_rowCount x) ≤ x2) → (post 0 x)) ∧ ((¬ (X_rowCount x) ≤ x2) → (((10 ≤ x2) → (post 0 x)) ∧ ((¬ 10 ≤ x2) → (wp_C_passHour (X_tried x) (fun c_4 => w_X_judge_46  post (w_X_judge_23  post  n) 2000 (X_tried_ x c_4) x1 x2 0)))))
set_option maxRecDepth 20000 in
theorem j_X_judge_23 {X : GX} (C : GC X b_X_judge R_X 4 (rmd 4)) {Qp : Option Value → va_W → Prop} (q : RC X ((some .int)) Qp 0 0) (a : Nat → Nat)   (post : Int32 → XSt → Prop) (hq : ∀ v c1, post v c1 → Qp (some (.int v)) (woX (xt X) a c1)) : ∀ (n : Nat) (x : XSt) (x1 : Int32) (x2 : Int32), w_X_judge_23  post  n x x1 x2 → G X 0 0 (woX (xt X) a x) [(0, .ref (a 0)), (1, .int x1), (2, .int x2)] [] 23 := by
  intro n
  induction n with
  | zero => intro x x1 x2 hw; exact hw.elim
  | succ n ih =>
    intro x x1 x2 hw
    rw [w_X_judge_23] at hw
    refine g_iload_n (pc := 23) C d_X_judge_23 2 rfl rfl ?_
    refine g_aload_n (pc := 24) C d_X_judge_24 0 rfl rfl ?_
    refine fX_rowCount (pc := 25) C lk_X_37 d_X_judge_25 (v := X_rowCount x) rfl ?_
    refine g_icmp_ge (pc := 28) (tgt := 86) C d_X_judge_28 (by decide) (fun h15 => ?_) (fun h15 => ?_)
    · replace hw := hw.1 h15
      refine g_iconst (pc := 86) C (v := 0) d_X_judge_86 (by decide) ?_
      exact g_iret (pc := 87) C q d_X_judge_87 (hq _ _ hw)
    · replace hw := hw.2 h15
      refine g_iload_n (pc := 31) C d_X_judge_31 2 rfl rfl ?_
      refine g_bipush (pc := 32) C (v := 10) d_X_judge_32 (by decide) ?_
      refine g_icmp_ge (pc := 34) (tgt := 86) C d_X_judge_34 (by decide) (fun h14 => ?_) (fun h14 => ?_)
      · replace hw := hw.1 h14
        refine g_iconst (pc := 86) C (v := 0) d_X_judge_86 (by decide) ?_
        exact g_iret (pc := 87) C q d_X_judge_87 (hq _ _ hw)
      · replace hw := hw.2 h14
        refine g_aload_n (pc := 37) C d_X_judge_37 0 rfl rfl ?_
        refine fX_tried (pc := 38) C lk_X_16 d_X_judge_38 ?_
        refine k_V (pc := 41) (co_V C (c_C_passHour (xl X) (xD X) (xt X) (xv X) (fun i => a (10 + i)) (X_tried x) _ hw) mw_C_passHour lk_X_183 d_X_judge_41 [10, 11, 12, 13, 14, 15, 16, 17, 18] (cC_X_tried (xt X) a a x) (by decide) (rec_w C 10 1 rfl rfl) rfl rfl ⟨Nat.le_of_ble_eq_true rfl, Nat.le_of_ble_eq_true rfl⟩ ⟨Nat.le_of_ble_eq_true rfl, Nat.le_of_ble_eq_true rfl⟩ (rest := []) rfl rfl (Nat.le_of_ble_eq_true rfl)) (fun c_4 => woX (xt X) a (X_tried_ x c_4)) (cS_X_tried (xt X) a a x) (fun c_4 hw => ?_)
        refine g_iconst (pc := 44) C (v := 0) d_X_judge_44 (by decide) ?_
        refine g_istore_n (pc := 45) C d_X_judge_45 rfl (Nat.le_of_ble_eq_true rfl) (lv' := [(0, .ref (a 0)), (1, .int x1), (2, .int x2), (3, .int 0)]) rfl ?_
        exact j_X_judge_46 C q a post hq ih 2000 (X_tried_ x c_4) x1 x2 0 hw
def wp_X_judge (x : XSt) (x1 : Int32) (post : Int32 → XSt → Prop) : Prop :=
  wp_X_isBarge x x1 (fun v1 x_2 => ((v1 = 0) → (post (-1) x_2)) ∧ ((¬ v1 = 0) → (wp_C_copyFrom (X_tried x_2, X_now x_2) (fun p_3 => w_X_judge_23  post  2000 (X_now_ (X_tried_ x_2 p_3.1) p_3.2) x1 0))))
set_option maxRecDepth 20000 in
theorem g_X_judge {X : GX} (C : GC X b_X_judge R_X 4 (rmd 4)) {Qp : Option Value → va_W → Prop} (q : RC X ((some .int)) Qp 0 0) (a : Nat → Nat) (x : XSt) (x1 : Int32) (post : Int32 → XSt → Prop) (hq : ∀ v c1, post v c1 → Qp (some (.int v)) (woX (xt X) a c1)) (hw : wp_X_judge x x1 post) : G X 0 0 (woX (xt X) a x) [(0, .ref (a 0)), (1, .int x1)] [] 0 := by
  unfold wp_X_judge at hw
  refine g_aload_n (pc := 0) C d_X_judge_0 0 rfl rfl ?_
  refine g_iload_n (pc := 1) C d_X_judge_1 1 rfl rfl ?_
  refine k_Ia (pc := 2) (co_V C (c_X_isBarge (xl X) (xD X) (xt X) (xv X) a x x1 _ hw) mw_X_isBarge lk_X_106 d_X_judge_2 (List.range _) (all_C _) (all_nd _) (rec_w C 0 5 rfl rfl) rfl rfl ⟨Nat.le_of_ble_eq_true rfl, Nat.le_of_ble_eq_true rfl⟩ ⟨Nat.le_of_ble_eq_true rfl, Nat.le_of_ble_eq_true rfl⟩ (rest := []) rfl rfl (Nat.le_of_ble_eq_true rfl)) (fun v1 x_2 hw => ?_)
  refine g_if_ne (pc := 5) (tgt := 10) C d_X_judge_5 (by decide) (fun h16 => ?_) (fun h16 => ?_)
  · replace hw := hw.2 h16
    refine g_aload_n (pc := 10) C d_X_judge_10 0 rfl rfl ?_
    refine fX_tried (pc := 11) C lk_X_16 d_X_judge_11 ?_
    refine g_aload_n (pc := 14) C d_X_judge_14 0 rfl rfl ?_
    refine fX_now (pc := 15) C lk_X_10 d_X_judge_15 ?_
    refine k_V (pc := 18) (co_V C (c_C_copyFrom (xl X) (xD X) (xt X) (xv X) (fun i => a (10 + i)) (fun i => a (1 + i)) (X_tried x_2, X_now x_2) _ hw) mw_C_copyFrom lk_X_69 d_X_judge_18 [10, 11, 12, 13, 14, 15, 16, 17, 18, 1, 2, 3, 4, 5, 6, 7, 8, 9] (cC_X_tried_now (xt X) a a x_2) (by decide) (rec_w C 10 1 rfl rfl) rfl rfl ⟨Nat.le_of_ble_eq_true rfl, Nat.le_of_ble_eq_true rfl⟩ ⟨Nat.le_of_ble_eq_true rfl, Nat.le_of_ble_eq_true rfl⟩ (rest := []) rfl rfl (Nat.le_of_ble_eq_true rfl)) (fun p_3 => woX (xt X) a (X_now_ (X_tried_ x_2 p_3.1) p_3.2)) (cS_X_tried_now (xt X) a a x_2) (fun p_3 hw => ?_)
    refine g_iconst (pc := 21) C (v := 0) d_X_judge_21 (by decide) ?_
    refine g_istore_n (pc := 22) C d_X_judge_22 rfl (Nat.le_of_ble_eq_true rfl) (lv' := [(0, .ref (a 0)), (1, .int x1), (2, .int 0)]) rfl ?_
    exact j_X_judge_23 C q a post hq  2000 (X_now_ (X_tried_ x_2 p_3.1) p_3.2) x1 0 hw
  · replace hw := hw.1 h16
    refine g_iconst (pc := 8) C (v := (-1)) d_X_judge_8 (by decide) ?_
    exact g_iret (pc := 9) C q d_X_judge_9 (hq _ _ hw)
set_option maxRecDepth 20000 in
theorem c_X_judge (l : Launch) (D : va_G) (t : Nat → ClassId) (ev : Nat → Nat) (a : Nat → Nat) (x : XSt) (x1 : Int32) (post : Int32 → XSt → Prop) (hw : wp_X_judge x x1 post) : Con l D t ev y_X_judge b_X_judge 4 ((some .int)) 4 (woX t a x) [.ref (a 0), .int x1] (qI (woX t a)  post) :=
  ConR.of (by decide +kernel) (Nat.le_of_ble_eq_true rfl) (fun X el eD et ee C q _ => by subst el; subst eD; subst et; subst ee; exact g_X_judge C q a x x1 post (fun v c1 h => ⟨⟨v, c1, rfl, rfl, h⟩, rfl⟩) hw)
