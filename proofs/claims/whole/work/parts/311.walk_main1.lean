def w_X_spoilt_35  (post : Int32 → XSt → Prop)  : Nat → XSt → Int32 → Int32 → Int32 → Int32 → Int32 → Prop
  | 0, _, _, _, _, _, _ => False
  | n + 1, x, x1, x2, x3, x4, x5 =>
    ((x1 ≤ x5) → (post x4 x)) ∧ ((¬ x1 ≤ x5) → (wp_C_copyFrom (X_tried x, X_now x) (fun p_3 => wp_C_passHourByDraws (C_z_ p_3.1 x3) (fun c_4 => wp_C_allLoads c_4 (fun v5 c_6 => ((x2 ≤ v5) → (∀ y7 : Int32, y7 = x5 + 1 → (w_X_spoilt_35  post  n (X_tried_ (X_tried_ (X_tried_ (X_now_ (X_tried_ x p_3.1) p_3.2) (C_z_ p_3.1 x3)) c_4) c_6) x1 x2 (C_z c_4) x4 y7))) ∧ ((¬ x2 ≤ v5) → (∀ y8 : Int32, y8 = x4 + 1 → (∀ y9 : Int32, y9 = x5 + 1 → (w_X_spoilt_35  post  n (X_tried_ (X_tried_ (X_tried_ (X_now_ (X_tried_ x p_3.1) p_3.2) (C_z_ p_3.1 x3)) c_4) c_6) x1 x2 (C_z c_4) y8 y9)))))))))
set_option maxRecDepth 20000 in
theorem j_X_spoilt_35 {X : GX} (C : GC X b_X_spoilt R_X 6 (rmd 6)) {Qp : Option Value → va_W → Prop} (q : RC X ((some .int)) Qp 0 0) (a : Nat → Nat)   (post : Int32 → XSt → Prop) (hq : ∀ v c1, post v c1 → Qp (some (.int v)) (woX (xt X) a c1)) : ∀ (n : Nat) (x : XSt) (x1 : Int32) (x2 : Int32) (x3 : Int32) (x4 : Int32) (x5 : Int32), w_X_spoilt_35  post  n x x1 x2 x3 x4 x5 → G X 0 0 (woX (xt X) a x) [(0, .ref (a 0)), (1, .int x1), (2, .int x2), (3, .int x3), (4, .int x4), (5, .int x5)] [] 35 := by
  intro n
  induction n with
  | zero => intro x x1 x2 x3 x4 x5 hw; exact hw.elim
  | succ n ih =>
    intro x x1 x2 x3 x4 x5 hw
    rw [w_X_spoilt_35] at hw
    refine g_iload (pc := 35) C d_X_spoilt_35 5 rfl ?_
    refine g_iload_n (pc := 37) C d_X_spoilt_37 1 rfl rfl ?_
    refine g_icmp_ge (pc := 38) (tgt := 95) C d_X_spoilt_38 (by decide) (fun h11 => ?_) (fun h11 => ?_)
    · replace hw := hw.1 h11
      refine g_iload (pc := 95) C d_X_spoilt_95 4 rfl ?_
      exact g_iret (pc := 97) C q d_X_spoilt_97 (hq _ _ hw)
    · replace hw := hw.2 h11
      refine g_aload_n (pc := 41) C d_X_spoilt_41 0 rfl rfl ?_
      refine fX_tried (pc := 42) C lk_X_16 d_X_spoilt_42 ?_
      refine g_aload_n (pc := 45) C d_X_spoilt_45 0 rfl rfl ?_
      refine fX_now (pc := 46) C lk_X_10 d_X_spoilt_46 ?_
      refine k_V (pc := 49) (co_V C (c_C_copyFrom (xl X) (xD X) (xt X) (xv X) (fun i => a (10 + i)) (fun i => a (1 + i)) (X_tried x, X_now x) _ hw) mw_C_copyFrom lk_X_69 d_X_spoilt_49 [10, 11, 12, 13, 14, 15, 16, 17, 18, 1, 2, 3, 4, 5, 6, 7, 8, 9] (cC_X_tried_now (xt X) a a x) (by decide) (rec_w C 10 1 rfl rfl) rfl rfl ⟨Nat.le_of_ble_eq_true rfl, Nat.le_of_ble_eq_true rfl⟩ ⟨Nat.le_of_ble_eq_true rfl, Nat.le_of_ble_eq_true rfl⟩ (rest := []) rfl rfl (Nat.le_of_ble_eq_true rfl)) (fun p_3 => woX (xt X) a (X_now_ (X_tried_ x p_3.1) p_3.2)) (cS_X_tried_now (xt X) a a x) (fun p_3 hw => ?_)
      refine g_aload_n (pc := 52) C d_X_spoilt_52 0 rfl rfl ?_
      refine fX_tried (pc := 53) C lk_X_16 d_X_spoilt_53 ?_
      refine g_iload_n (pc := 56) C d_X_spoilt_56 3 rfl rfl ?_
      refine pX_tried_z (pc := 57) C (c := p_3.1) rfl lk_X_155 d_X_spoilt_57   ?_
      refine g_aload_n (pc := 60) C d_X_spoilt_60 0 rfl rfl ?_
      refine fX_tried (pc := 61) C lk_X_16 d_X_spoilt_61 ?_
      refine k_V (pc := 64) (co_V C (c_C_passHourByDraws (xl X) (xD X) (xt X) (xv X) (fun i => a (10 + i)) (C_z_ p_3.1 x3) _ hw) mw_C_passHourByDraws lk_X_158 d_X_spoilt_64 [10, 11, 12, 13, 14, 15, 16, 17, 18] (cC_X_tried (xt X) a a (X_tried_ (X_now_ (X_tried_ x p_3.1) p_3.2) (C_z_ p_3.1 x3))) (by decide) (rec_w C 10 1 rfl rfl) rfl rfl ⟨Nat.le_of_ble_eq_true rfl, Nat.le_of_ble_eq_true rfl⟩ ⟨Nat.le_of_ble_eq_true rfl, Nat.le_of_ble_eq_true rfl⟩ (rest := []) rfl rfl (Nat.le_of_ble_eq_true rfl)) (fun c_4 => woX (xt X) a (X_tried_ (X_tried_ (X_now_ (X_tried_ x p_3.1) p_3.2) (C_z_ p_3.1 x3)) c_4)) (cS_X_tried (xt X) a a (X_tried_ (X_now_ (X_tried_ x p_3.1) p_3.2) (C_z_ p_3.1 x3))) (fun c_4 hw => ?_)
      refine g_aload_n (pc := 67) C d_X_spoilt_67 0 rfl rfl ?_
      refine fX_tried (pc := 68) C lk_X_16 d_X_spoilt_68 ?_
      refine fX_tried_z (pc := 71) C lk_X_155 d_X_spoilt_71 (v := C_z c_4) rfl ?_
      refine g_istore_n (pc := 74) C d_X_spoilt_74 rfl (Nat.le_of_ble_eq_true rfl) (lv' := [(0, .ref (a 0)), (1, .int x1), (2, .int x2), (3, .int (C_z c_4)), (4, .int x4), (5, .int x5)]) rfl ?_
      refine g_aload_n (pc := 75) C d_X_spoilt_75 0 rfl rfl ?_
      refine fX_tried (pc := 76) C lk_X_16 d_X_spoilt_76 ?_
      refine k_I (pc := 79) (co_V C (c_C_allLoads (xl X) (xD X) (xt X) (xv X) (fun i => a (10 + i)) c_4 _ hw) mw_C_allLoads lk_X_151 d_X_spoilt_79 [10, 11, 12, 13, 14, 15, 16, 17, 18] (cC_X_tried (xt X) a a (X_tried_ (X_tried_ (X_now_ (X_tried_ x p_3.1) p_3.2) (C_z_ p_3.1 x3)) c_4)) (by decide) (rec_w C 10 1 rfl rfl) rfl rfl ⟨Nat.le_of_ble_eq_true rfl, Nat.le_of_ble_eq_true rfl⟩ ⟨Nat.le_of_ble_eq_true rfl, Nat.le_of_ble_eq_true rfl⟩ (rest := []) rfl rfl (Nat.le_of_ble_eq_true rfl)) (fun c_6 => woX (xt X) a (X_tried_ (X_tried_ (X_tried_ (X_now_ (X_tried_ x p_3.1) p_3.2) (C_z_ p_3.1 x3)) c_4) c_6)) (cS_X_tried (xt X) a a (X_tried_ (X_tried_ (X_now_ (X_tried_ x p_3.1) p_3.2) (C_z_ p_3.1 x3)) c_4)) (fun v5 c_6 hw => ?_)
      refine g_iload_n (pc := 82) C d_X_spoilt_82 2 rfl rfl ?_
      refine g_icmp_ge (pc := 83) (tgt := 89) C d_X_spoilt_83 (by decide) (fun h10 => ?_) (fun h10 => ?_)
      · replace hw := hw.1 h10
        obtain ⟨y7, ey7⟩ : ∃ w, w = x5 + 1 := ⟨_, rfl⟩
        replace hw := hw y7 ey7
        refine g_iinc (pc := 89) C d_X_spoilt_89 5 rfl (v := y7) (by rw [ey7]; rfl) (Nat.le_of_ble_eq_true rfl) (lv' := [(0, .ref (a 0)), (1, .int x1), (2, .int x2), (3, .int (C_z c_4)), (4, .int x4), (5, .int y7)]) rfl ?_
        refine g_goto (pc := 92) (tgt := 35) C d_X_spoilt_92 (by decide) ?_
        exact ih (X_tried_ (X_tried_ (X_tried_ (X_now_ (X_tried_ x p_3.1) p_3.2) (C_z_ p_3.1 x3)) c_4) c_6) x1 x2 (C_z c_4) x4 y7 hw
      · replace hw := hw.2 h10
        obtain ⟨y8, ey8⟩ : ∃ w, w = x4 + 1 := ⟨_, rfl⟩
        replace hw := hw y8 ey8
        refine g_iinc (pc := 86) C d_X_spoilt_86 4 rfl (v := y8) (by rw [ey8]; rfl) (Nat.le_of_ble_eq_true rfl) (lv' := [(0, .ref (a 0)), (1, .int x1), (2, .int x2), (3, .int (C_z c_4)), (4, .int y8), (5, .int x5)]) rfl ?_
        obtain ⟨y9, ey9⟩ : ∃ w, w = x5 + 1 := ⟨_, rfl⟩
        replace hw := hw y9 ey9
        refine g_iinc (pc := 89) C d_X_spoilt_89 5 rfl (v := y9) (by rw [ey9]; rfl) (Nat.le_of_ble_eq_true rfl) (lv' := [(0, .ref (a 0)), (1, .int x1), (2, .int x2), (3, .int (C_z c_4)), (4, .int y8), (5, .int y9)]) rfl ?_
        refine g_goto (pc := 92) (tgt := 35) C d_X_spoilt_92 (by decide) ?_
        exact ih (X_tried_ (X_tried_ (X_tried_ (X_now_ (X_tried_ x p_3.1) p_3.2) (C_z_ p_3.1 x3)) c_4) c_6) x1 x2 (C_z c_4) y8 y9 hw
def wp_X_spoilt (x : XSt) (x1 : Int32) (post : Int32 → XSt → Prop) : Prop :=
  ((x1 < 1) → (post (-1) x)) ∧ ((¬ x1 < 1) → (((x1 ≤ 30) → (wp_X_triedCargo x 1 0 (-1) (fun v1 x_2 => w_X_spoilt_35  post  2000 x_2 x1 v1 (C_z (X_now x_2)) 0 0))) ∧ ((¬ x1 ≤ 30) → (post (-1) x))))
set_option maxRecDepth 20000 in
theorem g_X_spoilt {X : GX} (C : GC X b_X_spoilt R_X 6 (rmd 6)) {Qp : Option Value → va_W → Prop} (q : RC X ((some .int)) Qp 0 0) (a : Nat → Nat) (x : XSt) (x1 : Int32) (post : Int32 → XSt → Prop) (hq : ∀ v c1, post v c1 → Qp (some (.int v)) (woX (xt X) a c1)) (hw : wp_X_spoilt x x1 post) : G X 0 0 (woX (xt X) a x) [(0, .ref (a 0)), (1, .int x1)] [] 0 := by
  unfold wp_X_spoilt at hw
  refine g_iload_n (pc := 0) C d_X_spoilt_0 1 rfl rfl ?_
  refine g_iconst (pc := 1) C (v := 1) d_X_spoilt_1 (by decide) ?_
  refine g_icmp_lt (pc := 2) (tgt := 11) C d_X_spoilt_2 (by decide) (fun h13 => ?_) (fun h13 => ?_)
  · replace hw := hw.1 h13
    refine g_iconst (pc := 11) C (v := (-1)) d_X_spoilt_11 (by decide) ?_
    exact g_iret (pc := 12) C q d_X_spoilt_12 (hq _ _ hw)
  · replace hw := hw.2 h13
    refine g_iload_n (pc := 5) C d_X_spoilt_5 1 rfl rfl ?_
    refine g_bipush (pc := 6) C (v := 30) d_X_spoilt_6 (by decide) ?_
    refine g_icmp_le (pc := 8) (tgt := 13) C d_X_spoilt_8 (by decide) (fun h12 => ?_) (fun h12 => ?_)
    · replace hw := hw.1 h12
      refine g_aload_n (pc := 13) C d_X_spoilt_13 0 rfl rfl ?_
      refine g_iconst (pc := 14) C (v := 1) d_X_spoilt_14 (by decide) ?_
      refine g_iconst (pc := 15) C (v := 0) d_X_spoilt_15 (by decide) ?_
      refine g_iconst (pc := 16) C (v := (-1)) d_X_spoilt_16 (by decide) ?_
      refine k_Ia (pc := 17) (co_V C (c_X_triedCargo (xl X) (xD X) (xt X) (xv X) a x 1 0 (-1) _ hw) mw_X_triedCargo lk_X_161 d_X_spoilt_17 (List.range _) (all_C _) (all_nd _) (rec_w C 0 5 rfl rfl) rfl rfl ⟨Nat.le_of_ble_eq_true rfl, Nat.le_of_ble_eq_true rfl⟩ ⟨Nat.le_of_ble_eq_true rfl, Nat.le_of_ble_eq_true rfl⟩ (rest := []) rfl rfl (Nat.le_of_ble_eq_true rfl)) (fun v1 x_2 hw => ?_)
      refine g_istore_n (pc := 20) C d_X_spoilt_20 rfl (Nat.le_of_ble_eq_true rfl) (lv' := [(0, .ref (a 0)), (1, .int x1), (2, .int v1)]) rfl ?_
      refine g_aload_n (pc := 21) C d_X_spoilt_21 0 rfl rfl ?_
      refine fX_now (pc := 22) C lk_X_10 d_X_spoilt_22 ?_
      refine fX_now_z (pc := 25) C lk_X_155 d_X_spoilt_25 (v := C_z (X_now x_2)) rfl ?_
      refine g_istore_n (pc := 28) C d_X_spoilt_28 rfl (Nat.le_of_ble_eq_true rfl) (lv' := [(0, .ref (a 0)), (1, .int x1), (2, .int v1), (3, .int (C_z (X_now x_2)))]) rfl ?_
      refine g_iconst (pc := 29) C (v := 0) d_X_spoilt_29 (by decide) ?_
      refine g_istore (pc := 30) C d_X_spoilt_30 (Nat.le_of_ble_eq_true rfl) (lv' := [(0, .ref (a 0)), (1, .int x1), (2, .int v1), (3, .int (C_z (X_now x_2))), (4, .int 0)]) rfl ?_
      refine g_iconst (pc := 32) C (v := 0) d_X_spoilt_32 (by decide) ?_
      refine g_istore (pc := 33) C d_X_spoilt_33 (Nat.le_of_ble_eq_true rfl) (lv' := [(0, .ref (a 0)), (1, .int x1), (2, .int v1), (3, .int (C_z (X_now x_2))), (4, .int 0), (5, .int 0)]) rfl ?_
      exact j_X_spoilt_35 C q a post hq  2000 x_2 x1 v1 (C_z (X_now x_2)) 0 0 hw
    · replace hw := hw.2 h12
      refine g_iconst (pc := 11) C (v := (-1)) d_X_spoilt_11 (by decide) ?_
      exact g_iret (pc := 12) C q d_X_spoilt_12 (hq _ _ hw)
set_option maxRecDepth 20000 in
theorem c_X_spoilt (l : Launch) (D : va_G) (t : Nat → ClassId) (ev : Nat → Nat) (a : Nat → Nat) (x : XSt) (x1 : Int32) (post : Int32 → XSt → Prop) (hw : wp_X_spoilt x x1 post) : Con l D t ev y_X_spoilt b_X_spoilt 6 ((some .int)) 6 (woX t a x) [.ref (a 0), .int x1] (qI (woX t a)  post) :=
  ConR.of (by decide +kernel) (Nat.le_of_ble_eq_true rfl) (fun X el eD et ee C q _ => by subst el; subst eD; subst et; subst ee; exact g_X_spoilt C q a x x1 post (fun v c1 h => ⟨⟨v, c1, rfl, rfl, h⟩, rfl⟩) hw)
def wp_X_state (x : XSt) (x1 : Int32) (post : Int32 → XSt → Prop) : Prop :=
  ((x1 = 0) → (post (C_hour (X_now x)) x)) ∧ ((¬ x1 = 0) → (((x1 = 1) → (wp_C_allLoads (X_now x) (fun v1 c_2 => post v1 (X_now_ x c_2)))) ∧ ((¬ x1 = 1) → (((x1 = 2) → (wp_C_allLost (X_now x) (fun v3 c_4 => post v3 (X_now_ x c_4)))) ∧ ((¬ x1 = 2) → (((x1 = 3) → (wp_C_landedSet (X_now x) (fun v5 c_6 => post v5 (X_now_ x c_6)))) ∧ ((¬ x1 = 3) → (((x1 = 4) → (wp_C_usedLocks (X_now x) (fun v7 c_8 => post v7 (X_now_ x c_8)))) ∧ ((¬ x1 = 4) → (((x1 = 5) → (wp_C_loudest (X_now x) (fun v9 c_10 => post v9 (X_now_ x c_10)))) ∧ ((¬ x1 = 5) → (post (-1) x))))))))))))
set_option maxRecDepth 20000 in
theorem g_X_state {X : GX} (C : GC X b_X_state R_X 2 (rmd 2)) {Qp : Option Value → va_W → Prop} (q : RC X ((some .int)) Qp 0 0) (a : Nat → Nat) (x : XSt) (x1 : Int32) (post : Int32 → XSt → Prop) (hq : ∀ v c1, post v c1 → Qp (some (.int v)) (woX (xt X) a c1)) (hw : wp_X_state x x1 post) : G X 0 0 (woX (xt X) a x) [(0, .ref (a 0)), (1, .int x1)] [] 0 := by
  unfold wp_X_state at hw
  refine g_iload_n (pc := 0) C d_X_state_0 1 rfl rfl ?_
  by_cases h11 : x1 = 0
  · replace hw := hw.1 h11
    refine g_tabIn (pc := 1) (tgt := 40) C d_X_state_1 (by rw [h11]; decide) (by rw [h11]; decide) (off := 39) (by rw [h11]; rfl) (by decide) ?_
    refine g_aload_n (pc := 40) C d_X_state_40 0 rfl rfl ?_
    refine fX_now (pc := 41) C lk_X_10 d_X_state_41 ?_
    refine fX_now_hour (pc := 44) C lk_X_165 d_X_state_44 (v := C_hour (X_now x)) rfl ?_
    exact g_iret (pc := 47) C q d_X_state_47 (hq _ _ hw)
  · replace hw := hw.2 h11
    by_cases h12 : x1 = 1
    · replace hw := hw.1 h12
      refine g_tabIn (pc := 1) (tgt := 48) C d_X_state_1 (by rw [h12]; decide) (by rw [h12]; decide) (off := 47) (by rw [h12]; rfl) (by decide) ?_
      refine g_aload_n (pc := 48) C d_X_state_48 0 rfl rfl ?_
      refine fX_now (pc := 49) C lk_X_10 d_X_state_49 ?_
      refine k_I (pc := 52) (co_V C (c_C_allLoads (xl X) (xD X) (xt X) (xv X) (fun i => a (1 + i)) (X_now x) _ hw) mw_C_allLoads lk_X_151 d_X_state_52 [1, 2, 3, 4, 5, 6, 7, 8, 9] (cC_X_now (xt X) a a x) (by decide) (rec_w C 1 1 rfl rfl) rfl rfl ⟨Nat.le_of_ble_eq_true rfl, Nat.le_of_ble_eq_true rfl⟩ ⟨Nat.le_of_ble_eq_true rfl, Nat.le_of_ble_eq_true rfl⟩ (rest := []) rfl rfl (Nat.le_of_ble_eq_true rfl)) (fun c_2 => woX (xt X) a (X_now_ x c_2)) (cS_X_now (xt X) a a x) (fun v1 c_2 hw => ?_)
      exact g_iret (pc := 55) C q d_X_state_55 (hq _ _ hw)
    · replace hw := hw.2 h12
      by_cases h13 : x1 = 2
      · replace hw := hw.1 h13
        refine g_tabIn (pc := 1) (tgt := 56) C d_X_state_1 (by rw [h13]; decide) (by rw [h13]; decide) (off := 55) (by rw [h13]; rfl) (by decide) ?_
        refine g_aload_n (pc := 56) C d_X_state_56 0 rfl rfl ?_
        refine fX_now (pc := 57) C lk_X_10 d_X_state_57 ?_
        refine k_I (pc := 60) (co_V C (c_C_allLost (xl X) (xD X) (xt X) (xv X) (fun i => a (1 + i)) (X_now x) _ hw) mw_C_allLost lk_X_168 d_X_state_60 [1, 2, 3, 4, 5, 6, 7, 8, 9] (cC_X_now (xt X) a a x) (by decide) (rec_w C 1 1 rfl rfl) rfl rfl ⟨Nat.le_of_ble_eq_true rfl, Nat.le_of_ble_eq_true rfl⟩ ⟨Nat.le_of_ble_eq_true rfl, Nat.le_of_ble_eq_true rfl⟩ (rest := []) rfl rfl (Nat.le_of_ble_eq_true rfl)) (fun c_4 => woX (xt X) a (X_now_ x c_4)) (cS_X_now (xt X) a a x) (fun v3 c_4 hw => ?_)
        exact g_iret (pc := 63) C q d_X_state_63 (hq _ _ hw)
      · replace hw := hw.2 h13
        by_cases h14 : x1 = 3
        · replace hw := hw.1 h14
          refine g_tabIn (pc := 1) (tgt := 64) C d_X_state_1 (by rw [h14]; decide) (by rw [h14]; decide) (off := 63) (by rw [h14]; rfl) (by decide) ?_
          refine g_aload_n (pc := 64) C d_X_state_64 0 rfl rfl ?_
          refine fX_now (pc := 65) C lk_X_10 d_X_state_65 ?_
          refine k_I (pc := 68) (co_V C (c_C_landedSet (xl X) (xD X) (xt X) (xv X) (fun i => a (1 + i)) (X_now x) _ hw) mw_C_landedSet lk_X_171 d_X_state_68 [1, 2, 3, 4, 5, 6, 7, 8, 9] (cC_X_now (xt X) a a x) (by decide) (rec_w C 1 1 rfl rfl) rfl rfl ⟨Nat.le_of_ble_eq_true rfl, Nat.le_of_ble_eq_true rfl⟩ ⟨Nat.le_of_ble_eq_true rfl, Nat.le_of_ble_eq_true rfl⟩ (rest := []) rfl rfl (Nat.le_of_ble_eq_true rfl)) (fun c_6 => woX (xt X) a (X_now_ x c_6)) (cS_X_now (xt X) a a x) (fun v5 c_6 hw => ?_)
          exact g_iret (pc := 71) C q d_X_state_71 (hq _ _ hw)
        · replace hw := hw.2 h14
          by_cases h15 : x1 = 4
          · replace hw := hw.1 h15
            refine g_tabIn (pc := 1) (tgt := 72) C d_X_state_1 (by rw [h15]; decide) (by rw [h15]; decide) (off := 71) (by rw [h15]; rfl) (by decide) ?_
            refine g_aload_n (pc := 72) C d_X_state_72 0 rfl rfl ?_
            refine fX_now (pc := 73) C lk_X_10 d_X_state_73 ?_
            refine k_I (pc := 76) (co_V C (c_C_usedLocks (xl X) (xD X) (xt X) (xv X) (fun i => a (1 + i)) (X_now x) _ hw) mw_C_usedLocks lk_X_174 d_X_state_76 [1, 2, 3, 4, 5, 6, 7, 8, 9] (cC_X_now (xt X) a a x) (by decide) (rec_w C 1 1 rfl rfl) rfl rfl ⟨Nat.le_of_ble_eq_true rfl, Nat.le_of_ble_eq_true rfl⟩ ⟨Nat.le_of_ble_eq_true rfl, Nat.le_of_ble_eq_true rfl⟩ (rest := []) rfl rfl (Nat.le_of_ble_eq_true rfl)) (fun c_8 => woX (xt X) a (X_now_ x c_8)) (cS_X_now (xt X) a a x) (fun v7 c_8 hw => ?_)
            exact g_iret (pc := 79) C q d_X_state_79 (hq _ _ hw)
          · replace hw := hw.2 h15
            by_cases h16 : x1 = 5
            · replace hw := hw.1 h16
              refine g_tabIn (pc := 1) (tgt := 80) C d_X_state_1 (by rw [h16]; decide) (by rw [h16]; decide) (off := 79) (by rw [h16]; rfl) (by decide) ?_
              refine g_aload_n (pc := 80) C d_X_state_80 0 rfl rfl ?_
              refine fX_now (pc := 81) C lk_X_10 d_X_state_81 ?_
              refine k_I (pc := 84) (co_V C (c_C_loudest (xl X) (xD X) (xt X) (xv X) (fun i => a (1 + i)) (X_now x) _ hw) mw_C_loudest lk_X_177 d_X_state_84 [1, 2, 3, 4, 5, 6, 7, 8, 9] (cC_X_now (xt X) a a x) (by decide) (rec_w C 1 1 rfl rfl) rfl rfl ⟨Nat.le_of_ble_eq_true rfl, Nat.le_of_ble_eq_true rfl⟩ ⟨Nat.le_of_ble_eq_true rfl, Nat.le_of_ble_eq_true rfl⟩ (rest := []) rfl rfl (Nat.le_of_ble_eq_true rfl)) (fun c_10 => woX (xt X) a (X_now_ x c_10)) (cS_X_now (xt X) a a x) (fun v9 c_10 hw => ?_)
              exact g_iret (pc := 87) C q d_X_state_87 (hq _ _ hw)
            · replace hw := hw.2 h16
              have h11_ := sw_ne (v := 0) h11 (by decide)
              have h12_ := sw_ne (v := 1) h12 (by decide)
              have h13_ := sw_ne (v := 2) h13 (by decide)
              have h14_ := sw_ne (v := 3) h14 (by decide)
              have h15_ := sw_ne (v := 4) h15 (by decide)
              have h16_ := sw_ne (v := 5) h16 (by decide)
              refine g_tabOut (pc := 1) (tgt := 88) C d_X_state_1 (by omega) (by decide) ?_
              refine g_iconst (pc := 88) C (v := (-1)) d_X_state_88 (by decide) ?_
              exact g_iret (pc := 89) C q d_X_state_89 (hq _ _ hw)
set_option maxRecDepth 20000 in
theorem c_X_state (l : Launch) (D : va_G) (t : Nat → ClassId) (ev : Nat → Nat) (a : Nat → Nat) (x : XSt) (x1 : Int32) (post : Int32 → XSt → Prop) (hw : wp_X_state x x1 post) : Con l D t ev y_X_state b_X_state 2 ((some .int)) 2 (woX t a x) [.ref (a 0), .int x1] (qI (woX t a)  post) :=
  ConR.of (by decide +kernel) (Nat.le_of_ble_eq_true rfl) (fun X el eD et ee C q _ => by subst el; subst eD; subst et; subst ee; exact g_X_state C q a x x1 post (fun v c1 h => ⟨⟨v, c1, rfl, rfl, h⟩, rfl⟩) hw)
def wp_X_triedFreight (x : XSt) (x1 : Int32) (x2 : Int32) (post : Int32 → XSt → Prop) : Prop :=
  wp_C_passHours (X_tried x) x2 (fun c_1 => wp_X_isBarge (X_tried_ x c_1) x1 (fun v2 x_3 => ((v2 = 0) → (post 0 x_3)) ∧ ((¬ v2 = 0) → (vp_in x1 8 ∧ (post ((C_load (X_tried x_3)) x1.toNatClampNeg) x_3)))))
set_option maxRecDepth 20000 in
theorem g_X_triedFreight {X : GX} (C : GC X b_X_triedFreight R_X 3 (rmd 5)) {Qp : Option Value → va_W → Prop} (q : RC X ((some .int)) Qp 0 0) (a : Nat → Nat) (x : XSt) (x1 : Int32) (x2 : Int32) (post : Int32 → XSt → Prop) (hq : ∀ v c1, post v c1 → Qp (some (.int v)) (woX (xt X) a c1)) (hw : wp_X_triedFreight x x1 x2 post) : G X 0 0 (woX (xt X) a x) [(0, .ref (a 0)), (1, .int x1), (2, .int x2)] [] 0 := by
  unfold wp_X_triedFreight at hw
  refine g_aload_n (pc := 0) C d_X_triedFreight_0 0 rfl rfl ?_
  refine fX_tried (pc := 1) C lk_X_16 d_X_triedFreight_1 ?_
  refine g_iload_n (pc := 4) C d_X_triedFreight_4 2 rfl rfl ?_
  refine k_V (pc := 5) (co_V C (c_C_passHours (xl X) (xD X) (xt X) (xv X) (fun i => a (10 + i)) (X_tried x) x2 _ hw) mw_C_passHours lk_X_147 d_X_triedFreight_5 [10, 11, 12, 13, 14, 15, 16, 17, 18] (cC_X_tried (xt X) a a x) (by decide) (rec_w C 10 1 rfl rfl) rfl rfl ⟨Nat.le_of_ble_eq_true rfl, Nat.le_of_ble_eq_true rfl⟩ ⟨Nat.le_of_ble_eq_true rfl, Nat.le_of_ble_eq_true rfl⟩ (rest := []) rfl rfl (Nat.le_of_ble_eq_true rfl)) (fun c_1 => woX (xt X) a (X_tried_ x c_1)) (cS_X_tried (xt X) a a x) (fun c_1 hw => ?_)
  refine g_aload_n (pc := 8) C d_X_triedFreight_8 0 rfl rfl ?_
  refine g_iload_n (pc := 9) C d_X_triedFreight_9 1 rfl rfl ?_
  refine k_Ia (pc := 10) (co_V C (c_X_isBarge (xl X) (xD X) (xt X) (xv X) a (X_tried_ x c_1) x1 _ hw) mw_X_isBarge lk_X_106 d_X_triedFreight_10 (List.range _) (all_C _) (all_nd _) (rec_w C 0 5 rfl rfl) rfl rfl ⟨Nat.le_of_ble_eq_true rfl, Nat.le_of_ble_eq_true rfl⟩ ⟨Nat.le_of_ble_eq_true rfl, Nat.le_of_ble_eq_true rfl⟩ (rest := []) rfl rfl (Nat.le_of_ble_eq_true rfl)) (fun v2 x_3 hw => ?_)
  refine g_if_eq (pc := 13) (tgt := 28) C d_X_triedFreight_13 (by decide) (fun h5 => ?_) (fun h5 => ?_)
  · replace hw := hw.1 h5
    refine g_iconst (pc := 28) C (v := 0) d_X_triedFreight_28 (by decide) ?_
    exact g_iret (pc := 29) C q d_X_triedFreight_29 (hq _ _ hw)
  · replace hw := hw.2 h5
    refine g_aload_n (pc := 16) C d_X_triedFreight_16 0 rfl rfl ?_
    refine fX_tried (pc := 17) C lk_X_16 d_X_triedFreight_17 ?_
    refine fX_tried_load (pc := 20) C lk_X_112 d_X_triedFreight_20 ?_
    refine g_iload_n (pc := 23) C d_X_triedFreight_23 1 rfl rfl ?_
    obtain ⟨h4, hw⟩ := hw
    refine lX_tried_load (pc := 24) C d_X_triedFreight_24 (f := C_load (X_tried x_3)) rfl (N0 := x1.toNatClampNeg) rfl h4 ?_
    refine g_goto (pc := 25) (tgt := 29) C d_X_triedFreight_25 (by decide) ?_
    exact g_iret (pc := 29) C q d_X_triedFreight_29 (hq _ _ hw)
set_option maxRecDepth 20000 in
theorem c_X_triedFreight (l : Launch) (D : va_G) (t : Nat → ClassId) (ev : Nat → Nat) (a : Nat → Nat) (x : XSt) (x1 : Int32) (x2 : Int32) (post : Int32 → XSt → Prop) (hw : wp_X_triedFreight x x1 x2 post) : Con l D t ev y_X_triedFreight b_X_triedFreight 3 ((some .int)) 5 (woX t a x) [.ref (a 0), .int x1, .int x2] (qI (woX t a)  post) :=
  ConR.of (by decide +kernel) (Nat.le_of_ble_eq_true rfl) (fun X el eD et ee C q _ => by subst el; subst eD; subst et; subst ee; exact g_X_triedFreight C q a x x1 x2 post (fun v c1 h => ⟨⟨v, c1, rfl, rfl, h⟩, rfl⟩) hw)
def wp_X_freight (x : XSt) (x1 : Int32) (x2 : Int32) (post : Int32 → XSt → Prop) : Prop :=
  wp_X_isBarge x x1 (fun v1 x_2 => ((v1 = 0) → (post (-1) x_2)) ∧ ((¬ v1 = 0) → (((x2 < 0) → (post (-1) x_2)) ∧ ((¬ x2 < 0) → (((x2 ≤ 60) → (wp_C_copyFrom (X_tried x_2, X_now x_2) (fun p_3 => wp_X_triedFreight (X_now_ (X_tried_ x_2 p_3.1) p_3.2) x1 x2 (fun v4 x_5 => post v4 x_5)))) ∧ ((¬ x2 ≤ 60) → (post (-1) x_2)))))))
set_option maxRecDepth 20000 in
theorem g_X_freight {X : GX} (C : GC X b_X_freight R_X 3 (rmd 6)) {Qp : Option Value → va_W → Prop} (q : RC X ((some .int)) Qp 0 0) (a : Nat → Nat) (x : XSt) (x1 : Int32) (x2 : Int32) (post : Int32 → XSt → Prop) (hq : ∀ v c1, post v c1 → Qp (some (.int v)) (woX (xt X) a c1)) (hw : wp_X_freight x x1 x2 post) : G X 0 0 (woX (xt X) a x) [(0, .ref (a 0)), (1, .int x1), (2, .int x2)] [] 0 := by
  unfold wp_X_freight at hw
  refine g_aload_n (pc := 0) C d_X_freight_0 0 rfl rfl ?_
  refine g_iload_n (pc := 1) C d_X_freight_1 1 rfl rfl ?_
  refine k_Ia (pc := 2) (co_V C (c_X_isBarge (xl X) (xD X) (xt X) (xv X) a x x1 _ hw) mw_X_isBarge lk_X_106 d_X_freight_2 (List.range _) (all_C _) (all_nd _) (rec_w C 0 5 rfl rfl) rfl rfl ⟨Nat.le_of_ble_eq_true rfl, Nat.le_of_ble_eq_true rfl⟩ ⟨Nat.le_of_ble_eq_true rfl, Nat.le_of_ble_eq_true rfl⟩ (rest := []) rfl rfl (Nat.le_of_ble_eq_true rfl)) (fun v1 x_2 hw => ?_)
  refine g_if_eq (pc := 5) (tgt := 18) C d_X_freight_5 (by decide) (fun h8 => ?_) (fun h8 => ?_)
  · replace hw := hw.1 h8
    refine g_iconst (pc := 18) C (v := (-1)) d_X_freight_18 (by decide) ?_
    exact g_iret (pc := 19) C q d_X_freight_19 (hq _ _ hw)
  · replace hw := hw.2 h8
    refine g_iload_n (pc := 8) C d_X_freight_8 2 rfl rfl ?_
    refine g_if_lt (pc := 9) (tgt := 18) C d_X_freight_9 (by decide) (fun h7 => ?_) (fun h7 => ?_)
    · replace hw := hw.1 h7
      refine g_iconst (pc := 18) C (v := (-1)) d_X_freight_18 (by decide) ?_
      exact g_iret (pc := 19) C q d_X_freight_19 (hq _ _ hw)
    · replace hw := hw.2 h7
      refine g_iload_n (pc := 12) C d_X_freight_12 2 rfl rfl ?_
      refine g_bipush (pc := 13) C (v := 60) d_X_freight_13 (by decide) ?_
      refine g_icmp_le (pc := 15) (tgt := 20) C d_X_freight_15 (by decide) (fun h6 => ?_) (fun h6 => ?_)
      · replace hw := hw.1 h6
        refine g_aload_n (pc := 20) C d_X_freight_20 0 rfl rfl ?_
        refine fX_tried (pc := 21) C lk_X_16 d_X_freight_21 ?_
        refine g_aload_n (pc := 24) C d_X_freight_24 0 rfl rfl ?_
        refine fX_now (pc := 25) C lk_X_10 d_X_freight_25 ?_
        refine k_V (pc := 28) (co_V C (c_C_copyFrom (xl X) (xD X) (xt X) (xv X) (fun i => a (10 + i)) (fun i => a (1 + i)) (X_tried x_2, X_now x_2) _ hw) mw_C_copyFrom lk_X_69 d_X_freight_28 [10, 11, 12, 13, 14, 15, 16, 17, 18, 1, 2, 3, 4, 5, 6, 7, 8, 9] (cC_X_tried_now (xt X) a a x_2) (by decide) (rec_w C 10 1 rfl rfl) rfl rfl ⟨Nat.le_of_ble_eq_true rfl, Nat.le_of_ble_eq_true rfl⟩ ⟨Nat.le_of_ble_eq_true rfl, Nat.le_of_ble_eq_true rfl⟩ (rest := []) rfl rfl (Nat.le_of_ble_eq_true rfl)) (fun p_3 => woX (xt X) a (X_now_ (X_tried_ x_2 p_3.1) p_3.2)) (cS_X_tried_now (xt X) a a x_2) (fun p_3 hw => ?_)
        refine g_aload_n (pc := 31) C d_X_freight_31 0 rfl rfl ?_
        refine g_iload_n (pc := 32) C d_X_freight_32 1 rfl rfl ?_
        refine g_iload_n (pc := 33) C d_X_freight_33 2 rfl rfl ?_
        refine k_Ia (pc := 34) (co_V C (c_X_triedFreight (xl X) (xD X) (xt X) (xv X) a (X_now_ (X_tried_ x_2 p_3.1) p_3.2) x1 x2 _ hw) mw_X_triedFreight lk_X_180 d_X_freight_34 (List.range _) (all_C _) (all_nd _) (rec_w C 0 5 rfl rfl) rfl rfl ⟨Nat.le_of_ble_eq_true rfl, Nat.le_of_ble_eq_true rfl⟩ ⟨Nat.le_of_ble_eq_true rfl, Nat.le_of_ble_eq_true rfl⟩ (rest := []) rfl rfl (Nat.le_of_ble_eq_true rfl)) (fun v4 x_5 hw => ?_)
        exact g_iret (pc := 37) C q d_X_freight_37 (hq _ _ hw)
      · replace hw := hw.2 h6
        refine g_iconst (pc := 18) C (v := (-1)) d_X_freight_18 (by decide) ?_
        exact g_iret (pc := 19) C q d_X_freight_19 (hq _ _ hw)
set_option maxRecDepth 20000 in
theorem c_X_freight (l : Launch) (D : va_G) (t : Nat → ClassId) (ev : Nat → Nat) (a : Nat → Nat) (x : XSt) (x1 : Int32) (x2 : Int32) (post : Int32 → XSt → Prop) (hw : wp_X_freight x x1 x2 post) : Con l D t ev y_X_freight b_X_freight 3 ((some .int)) 6 (woX t a x) [.ref (a 0), .int x1, .int x2] (qI (woX t a)  post) :=
  ConR.of (by decide +kernel) (Nat.le_of_ble_eq_true rfl) (fun X el eD et ee C q _ => by subst el; subst eD; subst et; subst ee; exact g_X_freight C q a x x1 x2 post (fun v c1 h => ⟨⟨v, c1, rfl, rfl, h⟩, rfl⟩) hw)
def w_X_lands_23  (post : Int32 → XSt → Prop)  : Nat → XSt → Int32 → Int32 → Prop
  | 0, _, _, _ => False
  | n + 1, x, x1, x2 =>
    ((60 < x2) → (post (-3) x)) ∧ ((¬ 60 < x2) → (wp_C_hasLanded (X_tried x) x1 (fun v4 c_5 => ((v4 = 0) → (wp_C_passHour c_5 (fun c_6 => ∀ y7 : Int32, y7 = x2 + 1 → (w_X_lands_23  post  n (X_tried_ (X_tried_ x c_5) c_6) x1 y7)))) ∧ ((¬ v4 = 0) → (post x2 (X_tried_ x c_5))))))
set_option maxRecDepth 20000 in
theorem j_X_lands_23 {X : GX} (C : GC X b_X_lands R_X 3 (rmd 4)) {Qp : Option Value → va_W → Prop} (q : RC X ((some .int)) Qp 0 0) (a : Nat → Nat)   (post : Int32 → XSt → Prop) (hq : ∀ v c1, post v c1 → Qp (some (.int v)) (woX (xt X) a c1)) : ∀ (n : Nat) (x : XSt) (x1 : Int32) (x2 : Int32), w_X_lands_23  post  n x x1 x2 → G X 0 0 (woX (xt X) a x) [(0, .ref (a 0)), (1, .int x1), (2, .int x2)] [] 23 := by
  intro n
  induction n with
  | zero => intro x x1 x2 hw; exact hw.elim
  | succ n ih =>
    intro x x1 x2 hw
    rw [w_X_lands_23] at hw
    refine g_iload_n (pc := 23) C d_X_lands_23 2 rfl rfl ?_
    refine g_bipush (pc := 24) C (v := 60) d_X_lands_24 (by decide) ?_
    refine g_icmp_gt (pc := 26) (tgt := 55) C d_X_lands_26 (by decide) (fun h9 => ?_) (fun h9 => ?_)
    · replace hw := hw.1 h9
      refine g_bipush (pc := 55) C (v := (-3)) d_X_lands_55 (by decide) ?_
      exact g_iret (pc := 57) C q d_X_lands_57 (hq _ _ hw)
    · replace hw := hw.2 h9
      refine g_aload_n (pc := 29) C d_X_lands_29 0 rfl rfl ?_
      refine fX_tried (pc := 30) C lk_X_16 d_X_lands_30 ?_
      refine g_iload_n (pc := 33) C d_X_lands_33 1 rfl rfl ?_
      refine k_I (pc := 34) (co_V C (c_C_hasLanded (xl X) (xD X) (xt X) (xv X) (fun i => a (10 + i)) (X_tried x) x1 _ hw) mw_C_hasLanded lk_X_124 d_X_lands_34 [10, 11, 12, 13, 14, 15, 16, 17, 18] (cC_X_tried (xt X) a a x) (by decide) (rec_w C 10 1 rfl rfl) rfl rfl ⟨Nat.le_of_ble_eq_true rfl, Nat.le_of_ble_eq_true rfl⟩ ⟨Nat.le_of_ble_eq_true rfl, Nat.le_of_ble_eq_true rfl⟩ (rest := []) rfl rfl (Nat.le_of_ble_eq_true rfl)) (fun c_5 => woX (xt X) a (X_tried_ x c_5)) (cS_X_tried (xt X) a a x) (fun v4 c_5 hw => ?_)
      refine g_if_eq (pc := 37) (tgt := 42) C d_X_lands_37 (by decide) (fun h8 => ?_) (fun h8 => ?_)
      · replace hw := hw.1 h8
        refine g_aload_n (pc := 42) C d_X_lands_42 0 rfl rfl ?_
        refine fX_tried (pc := 43) C lk_X_16 d_X_lands_43 ?_
        refine k_V (pc := 46) (co_V C (c_C_passHour (xl X) (xD X) (xt X) (xv X) (fun i => a (10 + i)) c_5 _ hw) mw_C_passHour lk_X_183 d_X_lands_46 [10, 11, 12, 13, 14, 15, 16, 17, 18] (cC_X_tried (xt X) a a (X_tried_ x c_5)) (by decide) (rec_w C 10 1 rfl rfl) rfl rfl ⟨Nat.le_of_ble_eq_true rfl, Nat.le_of_ble_eq_true rfl⟩ ⟨Nat.le_of_ble_eq_true rfl, Nat.le_of_ble_eq_true rfl⟩ (rest := []) rfl rfl (Nat.le_of_ble_eq_true rfl)) (fun c_6 => woX (xt X) a (X_tried_ (X_tried_ x c_5) c_6)) (cS_X_tried (xt X) a a (X_tried_ x c_5)) (fun c_6 hw => ?_)
        obtain ⟨y7, ey7⟩ : ∃ w, w = x2 + 1 := ⟨_, rfl⟩
        replace hw := hw y7 ey7
        refine g_iinc (pc := 49) C d_X_lands_49 2 rfl (v := y7) (by rw [ey7]; rfl) (Nat.le_of_ble_eq_true rfl) (lv' := [(0, .ref (a 0)), (1, .int x1), (2, .int y7)]) rfl ?_
        refine g_goto (pc := 52) (tgt := 23) C d_X_lands_52 (by decide) ?_
        exact ih (X_tried_ (X_tried_ x c_5) c_6) x1 y7 hw
      · replace hw := hw.2 h8
        refine g_iload_n (pc := 40) C d_X_lands_40 2 rfl rfl ?_
        exact g_iret (pc := 41) C q d_X_lands_41 (hq _ _ hw)
def wp_X_lands (x : XSt) (x1 : Int32) (post : Int32 → XSt → Prop) : Prop :=
  wp_X_isBarge x x1 (fun v1 x_2 => ((v1 = 0) → (post (-1) x_2)) ∧ ((¬ v1 = 0) → (wp_C_copyFrom (X_tried x_2, X_now x_2) (fun p_3 => w_X_lands_23  post  2000 (X_now_ (X_tried_ x_2 p_3.1) p_3.2) x1 0))))
set_option maxRecDepth 20000 in
theorem g_X_lands {X : GX} (C : GC X b_X_lands R_X 3 (rmd 4)) {Qp : Option Value → va_W → Prop} (q : RC X ((some .int)) Qp 0 0) (a : Nat → Nat) (x : XSt) (x1 : Int32) (post : Int32 → XSt → Prop) (hq : ∀ v c1, post v c1 → Qp (some (.int v)) (woX (xt X) a c1)) (hw : wp_X_lands x x1 post) : G X 0 0 (woX (xt X) a x) [(0, .ref (a 0)), (1, .int x1)] [] 0 := by
  unfold wp_X_lands at hw
  refine g_aload_n (pc := 0) C d_X_lands_0 0 rfl rfl ?_
  refine g_iload_n (pc := 1) C d_X_lands_1 1 rfl rfl ?_
  refine k_Ia (pc := 2) (co_V C (c_X_isBarge (xl X) (xD X) (xt X) (xv X) a x x1 _ hw) mw_X_isBarge lk_X_106 d_X_lands_2 (List.range _) (all_C _) (all_nd _) (rec_w C 0 5 rfl rfl) rfl rfl ⟨Nat.le_of_ble_eq_true rfl, Nat.le_of_ble_eq_true rfl⟩ ⟨Nat.le_of_ble_eq_true rfl, Nat.le_of_ble_eq_true rfl⟩ (rest := []) rfl rfl (Nat.le_of_ble_eq_true rfl)) (fun v1 x_2 hw => ?_)
  refine g_if_ne (pc := 5) (tgt := 10) C d_X_lands_5 (by decide) (fun h10 => ?_) (fun h10 => ?_)
  · replace hw := hw.2 h10
    refine g_aload_n (pc := 10) C d_X_lands_10 0 rfl rfl ?_
    refine fX_tried (pc := 11) C lk_X_16 d_X_lands_11 ?_
    refine g_aload_n (pc := 14) C d_X_lands_14 0 rfl rfl ?_
    refine fX_now (pc := 15) C lk_X_10 d_X_lands_15 ?_
    refine k_V (pc := 18) (co_V C (c_C_copyFrom (xl X) (xD X) (xt X) (xv X) (fun i => a (10 + i)) (fun i => a (1 + i)) (X_tried x_2, X_now x_2) _ hw) mw_C_copyFrom lk_X_69 d_X_lands_18 [10, 11, 12, 13, 14, 15, 16, 17, 18, 1, 2, 3, 4, 5, 6, 7, 8, 9] (cC_X_tried_now (xt X) a a x_2) (by decide) (rec_w C 10 1 rfl rfl) rfl rfl ⟨Nat.le_of_ble_eq_true rfl, Nat.le_of_ble_eq_true rfl⟩ ⟨Nat.le_of_ble_eq_true rfl, Nat.le_of_ble_eq_true rfl⟩ (rest := []) rfl rfl (Nat.le_of_ble_eq_true rfl)) (fun p_3 => woX (xt X) a (X_now_ (X_tried_ x_2 p_3.1) p_3.2)) (cS_X_tried_now (xt X) a a x_2) (fun p_3 hw => ?_)
    refine g_iconst (pc := 21) C (v := 0) d_X_lands_21 (by decide) ?_
    refine g_istore_n (pc := 22) C d_X_lands_22 rfl (Nat.le_of_ble_eq_true rfl) (lv' := [(0, .ref (a 0)), (1, .int x1), (2, .int 0)]) rfl ?_
    exact j_X_lands_23 C q a post hq  2000 (X_now_ (X_tried_ x_2 p_3.1) p_3.2) x1 0 hw
  · replace hw := hw.1 h10
    refine g_iconst (pc := 8) C (v := (-1)) d_X_lands_8 (by decide) ?_
    exact g_iret (pc := 9) C q d_X_lands_9 (hq _ _ hw)
set_option maxRecDepth 20000 in
theorem c_X_lands (l : Launch) (D : va_G) (t : Nat → ClassId) (ev : Nat → Nat) (a : Nat → Nat) (x : XSt) (x1 : Int32) (post : Int32 → XSt → Prop) (hw : wp_X_lands x x1 post) : Con l D t ev y_X_lands b_X_lands 3 ((some .int)) 4 (woX t a x) [.ref (a 0), .int x1] (qI (woX t a)  post) :=
  ConR.of (by decide +kernel) (Nat.le_of_ble_eq_true rfl) (fun X el eD et ee C q _ => by subst el; subst eD; subst et; subst ee; exact g_X_lands C q a x x1 post (fun v c1 h => ⟨⟨v, c1, rfl, rfl, h⟩, rfl⟩) hw)
def w_X_meets_36  (post : Int32 → XSt → Prop)  : Nat → XSt → Int32 → Int32 → Int32 → Prop
  | 0, _, _, _, _ => False
  | n + 1, x, x1, x2, x3 =>
    ((60 < x3) → (post (-3) x)) ∧ ((¬ 60 < x3) → (vp_in x1 8 ∧ (vp_in x2 8 ∧ (((((C_at (X_tried x)) x1.toNatClampNeg) = ((C_at (X_tried x)) x2.toNatClampNeg)) → (post x3 x)) ∧ ((¬ ((C_at (X_tried x)) x1.toNatClampNeg) = ((C_at (X_tried x)) x2.toNatClampNeg)) → (wp_C_passHour (X_tried x) (fun c_8 => ∀ y9 : Int32, y9 = x3 + 1 → (w_X_meets_36  post  n (X_tried_ x c_8) x1 x2 y9))))))))
set_option maxRecDepth 20000 in
theorem j_X_meets_36 {X : GX} (C : GC X b_X_meets R_X 4 (rmd 4)) {Qp : Option Value → va_W → Prop} (q : RC X ((some .int)) Qp 0 0) (a : Nat → Nat)   (post : Int32 → XSt → Prop) (hq : ∀ v c1, post v c1 → Qp (some (.int v)) (woX (xt X) a c1)) : ∀ (n : Nat) (x : XSt) (x1 : Int32) (x2 : Int32) (x3 : Int32), w_X_meets_36  post  n x x1 x2 x3 → G X 0 0 (woX (xt X) a x) [(0, .ref (a 0)), (1, .int x1), (2, .int x2), (3, .int x3)] [] 36 := by
  intro n
  induction n with
  | zero => intro x x1 x2 x3 hw; exact hw.elim
  | succ n ih =>
    intro x x1 x2 x3 hw
    rw [w_X_meets_36] at hw
    refine g_iload_n (pc := 36) C d_X_meets_36 3 rfl rfl ?_
    refine g_bipush (pc := 37) C (v := 60) d_X_meets_37 (by decide) ?_
    refine g_icmp_gt (pc := 39) (tgt := 78) C d_X_meets_39 (by decide) (fun h11 => ?_) (fun h11 => ?_)
    · replace hw := hw.1 h11
      refine g_bipush (pc := 78) C (v := (-3)) d_X_meets_78 (by decide) ?_
      exact g_iret (pc := 80) C q d_X_meets_80 (hq _ _ hw)
    · replace hw := hw.2 h11
      refine g_aload_n (pc := 42) C d_X_meets_42 0 rfl rfl ?_
      refine fX_tried (pc := 43) C lk_X_16 d_X_meets_43 ?_
      refine fX_tried_at (pc := 46) C lk_X_118 d_X_meets_46 ?_
      refine g_iload_n (pc := 49) C d_X_meets_49 1 rfl rfl ?_
      obtain ⟨h6, hw⟩ := hw
      refine lX_tried_at (pc := 50) C d_X_meets_50 (f := C_at (X_tried x)) rfl (N0 := x1.toNatClampNeg) rfl h6 ?_
      refine g_aload_n (pc := 51) C d_X_meets_51 0 rfl rfl ?_
      refine fX_tried (pc := 52) C lk_X_16 d_X_meets_52 ?_
      refine fX_tried_at (pc := 55) C lk_X_118 d_X_meets_55 ?_
      refine g_iload_n (pc := 58) C d_X_meets_58 2 rfl rfl ?_
      obtain ⟨h7, hw⟩ := hw
      refine lX_tried_at (pc := 59) C d_X_meets_59 (f := C_at (X_tried x)) rfl (N0 := x2.toNatClampNeg) rfl h7 ?_
      refine g_icmp_ne (pc := 60) (tgt := 65) C d_X_meets_60 (by decide) (fun h10 => ?_) (fun h10 => ?_)
      · replace hw := hw.2 h10
        refine g_aload_n (pc := 65) C d_X_meets_65 0 rfl rfl ?_
        refine fX_tried (pc := 66) C lk_X_16 d_X_meets_66 ?_
        refine k_V (pc := 69) (co_V C (c_C_passHour (xl X) (xD X) (xt X) (xv X) (fun i => a (10 + i)) (X_tried x) _ hw) mw_C_passHour lk_X_183 d_X_meets_69 [10, 11, 12, 13, 14, 15, 16, 17, 18] (cC_X_tried (xt X) a a x) (by decide) (rec_w C 10 1 rfl rfl) rfl rfl ⟨Nat.le_of_ble_eq_true rfl, Nat.le_of_ble_eq_true rfl⟩ ⟨Nat.le_of_ble_eq_true rfl, Nat.le_of_ble_eq_true rfl⟩ (rest := []) rfl rfl (Nat.le_of_ble_eq_true rfl)) (fun c_8 => woX (xt X) a (X_tried_ x c_8)) (cS_X_tried (xt X) a a x) (fun c_8 hw => ?_)
        obtain ⟨y9, ey9⟩ : ∃ w, w = x3 + 1 := ⟨_, rfl⟩
        replace hw := hw y9 ey9
        refine g_iinc (pc := 72) C d_X_meets_72 3 rfl (v := y9) (by rw [ey9]; rfl) (Nat.le_of_ble_eq_true rfl) (lv' := [(0, .ref (a 0)), (1, .int x1), (2, .int x2), (3, .int y9)]) rfl ?_
        refine g_goto (pc := 75) (tgt := 36) C d_X_meets_75 (by decide) ?_
        exact ih (X_tried_ x c_8) x1 x2 y9 hw
      · replace hw := hw.1 h10
        refine g_iload_n (pc := 63) C d_X_meets_63 3 rfl rfl ?_
        exact g_iret (pc := 64) C q d_X_meets_64 (hq _ _ hw)
def wp_X_meets (x : XSt) (x1 : Int32) (x2 : Int32) (post : Int32 → XSt → Prop) : Prop :=
  wp_X_isBarge x x1 (fun v1 x_2 => ((v1 = 0) → (post (-1) x_2)) ∧ ((¬ v1 = 0) → (wp_X_isBarge x_2 x2 (fun v3 x_4 => ((v3 = 0) → (post (-1) x_4)) ∧ ((¬ v3 = 0) → (((x1 = x2) → (post (-1) x_4)) ∧ ((¬ x1 = x2) → (wp_C_copyFrom (X_tried x_4, X_now x_4) (fun p_5 => w_X_meets_36  post  2000 (X_now_ (X_tried_ x_4 p_5.1) p_5.2) x1 x2 0)))))))))
set_option maxRecDepth 20000 in
theorem g_X_meets {X : GX} (C : GC X b_X_meets R_X 4 (rmd 4)) {Qp : Option Value → va_W → Prop} (q : RC X ((some .int)) Qp 0 0) (a : Nat → Nat) (x : XSt) (x1 : Int32) (x2 : Int32) (post : Int32 → XSt → Prop) (hq : ∀ v c1, post v c1 → Qp (some (.int v)) (woX (xt X) a c1)) (hw : wp_X_meets x x1 x2 post) : G X 0 0 (woX (xt X) a x) [(0, .ref (a 0)), (1, .int x1), (2, .int x2)] [] 0 := by
  unfold wp_X_meets at hw
  refine g_aload_n (pc := 0) C d_X_meets_0 0 rfl rfl ?_
  refine g_iload_n (pc := 1) C d_X_meets_1 1 rfl rfl ?_
  refine k_Ia (pc := 2) (co_V C (c_X_isBarge (xl X) (xD X) (xt X) (xv X) a x x1 _ hw) mw_X_isBarge lk_X_106 d_X_meets_2 (List.range _) (all_C _) (all_nd _) (rec_w C 0 5 rfl rfl) rfl rfl ⟨Nat.le_of_ble_eq_true rfl, Nat.le_of_ble_eq_true rfl⟩ ⟨Nat.le_of_ble_eq_true rfl, Nat.le_of_ble_eq_true rfl⟩ (rest := []) rfl rfl (Nat.le_of_ble_eq_true rfl)) (fun v1 x_2 hw => ?_)
  refine g_if_eq (pc := 5) (tgt := 21) C d_X_meets_5 (by decide) (fun h14 => ?_) (fun h14 => ?_)
  · replace hw := hw.1 h14
    refine g_iconst (pc := 21) C (v := (-1)) d_X_meets_21 (by decide) ?_
    exact g_iret (pc := 22) C q d_X_meets_22 (hq _ _ hw)
  · replace hw := hw.2 h14
    refine g_aload_n (pc := 8) C d_X_meets_8 0 rfl rfl ?_
    refine g_iload_n (pc := 9) C d_X_meets_9 2 rfl rfl ?_
    refine k_Ia (pc := 10) (co_V C (c_X_isBarge (xl X) (xD X) (xt X) (xv X) a x_2 x2 _ hw) mw_X_isBarge lk_X_106 d_X_meets_10 (List.range _) (all_C _) (all_nd _) (rec_w C 0 5 rfl rfl) rfl rfl ⟨Nat.le_of_ble_eq_true rfl, Nat.le_of_ble_eq_true rfl⟩ ⟨Nat.le_of_ble_eq_true rfl, Nat.le_of_ble_eq_true rfl⟩ (rest := []) rfl rfl (Nat.le_of_ble_eq_true rfl)) (fun v3 x_4 hw => ?_)
    refine g_if_eq (pc := 13) (tgt := 21) C d_X_meets_13 (by decide) (fun h13 => ?_) (fun h13 => ?_)
    · replace hw := hw.1 h13
      refine g_iconst (pc := 21) C (v := (-1)) d_X_meets_21 (by decide) ?_
      exact g_iret (pc := 22) C q d_X_meets_22 (hq _ _ hw)
    · replace hw := hw.2 h13
      refine g_iload_n (pc := 16) C d_X_meets_16 1 rfl rfl ?_
      refine g_iload_n (pc := 17) C d_X_meets_17 2 rfl rfl ?_
      refine g_icmp_ne (pc := 18) (tgt := 23) C d_X_meets_18 (by decide) (fun h12 => ?_) (fun h12 => ?_)
      · replace hw := hw.2 h12
        refine g_aload_n (pc := 23) C d_X_meets_23 0 rfl rfl ?_
        refine fX_tried (pc := 24) C lk_X_16 d_X_meets_24 ?_
        refine g_aload_n (pc := 27) C d_X_meets_27 0 rfl rfl ?_
        refine fX_now (pc := 28) C lk_X_10 d_X_meets_28 ?_
        refine k_V (pc := 31) (co_V C (c_C_copyFrom (xl X) (xD X) (xt X) (xv X) (fun i => a (10 + i)) (fun i => a (1 + i)) (X_tried x_4, X_now x_4) _ hw) mw_C_copyFrom lk_X_69 d_X_meets_31 [10, 11, 12, 13, 14, 15, 16, 17, 18, 1, 2, 3, 4, 5, 6, 7, 8, 9] (cC_X_tried_now (xt X) a a x_4) (by decide) (rec_w C 10 1 rfl rfl) rfl rfl ⟨Nat.le_of_ble_eq_true rfl, Nat.le_of_ble_eq_true rfl⟩ ⟨Nat.le_of_ble_eq_true rfl, Nat.le_of_ble_eq_true rfl⟩ (rest := []) rfl rfl (Nat.le_of_ble_eq_true rfl)) (fun p_5 => woX (xt X) a (X_now_ (X_tried_ x_4 p_5.1) p_5.2)) (cS_X_tried_now (xt X) a a x_4) (fun p_5 hw => ?_)
        refine g_iconst (pc := 34) C (v := 0) d_X_meets_34 (by decide) ?_
        refine g_istore_n (pc := 35) C d_X_meets_35 rfl (Nat.le_of_ble_eq_true rfl) (lv' := [(0, .ref (a 0)), (1, .int x1), (2, .int x2), (3, .int 0)]) rfl ?_
        exact j_X_meets_36 C q a post hq  2000 (X_now_ (X_tried_ x_4 p_5.1) p_5.2) x1 x2 0 hw
      · replace hw := hw.1 h12
        refine g_iconst (pc := 21) C (v := (-1)) d_X_meets_21 (by decide) ?_
        exact g_iret (pc := 22) C q d_X_meets_22 (hq _ _ hw)
set_option maxRecDepth 20000 in
theorem c_X_meets (l : Launch) (D : va_G) (t : Nat → ClassId) (ev : Nat → Nat) (a : Nat → Nat) (x : XSt) (x1 : Int32) (x2 : Int32) (post : Int32 → XSt → Prop) (hw : wp_X_meets x x1 x2 post) : Con l D t ev y_X_meets b_X_meets 4 ((some .int)) 4 (woX t a x) [.ref (a 0), .int x1, .int x2] (qI (woX t a)  post) :=
  ConR.of (by decide +kernel) (Nat.le_of_ble_eq_true rfl) (fun X el eD et ee C q _ => by subst el; subst eD; subst et; subst ee; exact g_X_meets C q a x x1 x2 post (fun v c1 h => ⟨⟨v, c1, rfl, rfl, h⟩, rfl⟩) hw)
def w_X_quiet_13  (post : Int32 → XSt → Prop)  : Nat → XSt → Int32 → Prop
  | 0, _, _ => False
  | n + 1, x, x1 =>
    ((60 < x1) → (post (-3) x)) ∧ ((¬ 60 < x1) → (wp_C_allLanded (X_tried x) (fun v2 c_3 => ((v2 = 0) → (wp_C_passHour c_3 (fun c_4 => ∀ y5 : Int32, y5 = x1 + 1 → (w_X_quiet_13  post  n (X_tried_ (X_tried_ x c_3) c_4) y5)))) ∧ ((¬ v2 = 0) → (post x1 (X_tried_ x c_3))))))
set_option maxRecDepth 20000 in
theorem j_X_quiet_13 {X : GX} (C : GC X b_X_quiet R_X 2 (rmd 4)) {Qp : Option Value → va_W → Prop} (q : RC X ((some .int)) Qp 0 0) (a : Nat → Nat)   (post : Int32 → XSt → Prop) (hq : ∀ v c1, post v c1 → Qp (some (.int v)) (woX (xt X) a c1)) : ∀ (n : Nat) (x : XSt) (x1 : Int32), w_X_quiet_13  post  n x x1 → G X 0 0 (woX (xt X) a x) [(0, .ref (a 0)), (1, .int x1)] [] 13 := by
  intro n
  induction n with
  | zero => intro x x1 hw; exact hw.elim
  | succ n ih =>
    intro x x1 hw
    rw [w_X_quiet_13] at hw
    refine g_iload_n (pc := 13) C d_X_quiet_13 1 rfl rfl ?_
    refine g_bipush (pc := 14) C (v := 60) d_X_quiet_14 (by decide) ?_
    refine g_icmp_gt (pc := 16) (tgt := 44) C d_X_quiet_16 (by decide) (fun h7 => ?_) (fun h7 => ?_)
    · replace hw := hw.1 h7
      refine g_bipush (pc := 44) C (v := (-3)) d_X_quiet_44 (by decide) ?_
      exact g_iret (pc := 46) C q d_X_quiet_46 (hq _ _ hw)
    · replace hw := hw.2 h7
      refine g_aload_n (pc := 19) C d_X_quiet_19 0 rfl rfl ?_
      refine fX_tried (pc := 20) C lk_X_16 d_X_quiet_20 ?_
      refine k_I (pc := 23) (co_V C (c_C_allLanded (xl X) (xD X) (xt X) (xv X) (fun i => a (10 + i)) (X_tried x) _ hw) mw_C_allLanded lk_X_186 d_X_quiet_23 [10, 11, 12, 13, 14, 15, 16, 17, 18] (cC_X_tried (xt X) a a x) (by decide) (rec_w C 10 1 rfl rfl) rfl rfl ⟨Nat.le_of_ble_eq_true rfl, Nat.le_of_ble_eq_true rfl⟩ ⟨Nat.le_of_ble_eq_true rfl, Nat.le_of_ble_eq_true rfl⟩ (rest := []) rfl rfl (Nat.le_of_ble_eq_true rfl)) (fun c_3 => woX (xt X) a (X_tried_ x c_3)) (cS_X_tried (xt X) a a x) (fun v2 c_3 hw => ?_)
      refine g_if_eq (pc := 26) (tgt := 31) C d_X_quiet_26 (by decide) (fun h6 => ?_) (fun h6 => ?_)
      · replace hw := hw.1 h6
        refine g_aload_n (pc := 31) C d_X_quiet_31 0 rfl rfl ?_
        refine fX_tried (pc := 32) C lk_X_16 d_X_quiet_32 ?_
        refine k_V (pc := 35) (co_V C (c_C_passHour (xl X) (xD X) (xt X) (xv X) (fun i => a (10 + i)) c_3 _ hw) mw_C_passHour lk_X_183 d_X_quiet_35 [10, 11, 12, 13, 14, 15, 16, 17, 18] (cC_X_tried (xt X) a a (X_tried_ x c_3)) (by decide) (rec_w C 10 1 rfl rfl) rfl rfl ⟨Nat.le_of_ble_eq_true rfl, Nat.le_of_ble_eq_true rfl⟩ ⟨Nat.le_of_ble_eq_true rfl, Nat.le_of_ble_eq_true rfl⟩ (rest := []) rfl rfl (Nat.le_of_ble_eq_true rfl)) (fun c_4 => woX (xt X) a (X_tried_ (X_tried_ x c_3) c_4)) (cS_X_tried (xt X) a a (X_tried_ x c_3)) (fun c_4 hw => ?_)
        obtain ⟨y5, ey5⟩ : ∃ w, w = x1 + 1 := ⟨_, rfl⟩
        replace hw := hw y5 ey5
        refine g_iinc (pc := 38) C d_X_quiet_38 1 rfl (v := y5) (by rw [ey5]; rfl) (Nat.le_of_ble_eq_true rfl) (lv' := [(0, .ref (a 0)), (1, .int y5)]) rfl ?_
        refine g_goto (pc := 41) (tgt := 13) C d_X_quiet_41 (by decide) ?_
        exact ih (X_tried_ (X_tried_ x c_3) c_4) y5 hw
      · replace hw := hw.2 h6
        refine g_iload_n (pc := 29) C d_X_quiet_29 1 rfl rfl ?_
        exact g_iret (pc := 30) C q d_X_quiet_30 (hq _ _ hw)
def wp_X_quiet (x : XSt) (post : Int32 → XSt → Prop) : Prop :=
  wp_C_copyFrom (X_tried x, X_now x) (fun p_1 => w_X_quiet_13  post  2000 (X_now_ (X_tried_ x p_1.1) p_1.2) 0)
set_option maxRecDepth 20000 in
theorem g_X_quiet {X : GX} (C : GC X b_X_quiet R_X 2 (rmd 4)) {Qp : Option Value → va_W → Prop} (q : RC X ((some .int)) Qp 0 0) (a : Nat → Nat) (x : XSt) (post : Int32 → XSt → Prop) (hq : ∀ v c1, post v c1 → Qp (some (.int v)) (woX (xt X) a c1)) (hw : wp_X_quiet x post) : G X 0 0 (woX (xt X) a x) [(0, .ref (a 0))] [] 0 := by
  unfold wp_X_quiet at hw
  refine g_aload_n (pc := 0) C d_X_quiet_0 0 rfl rfl ?_
  refine fX_tried (pc := 1) C lk_X_16 d_X_quiet_1 ?_
  refine g_aload_n (pc := 4) C d_X_quiet_4 0 rfl rfl ?_
  refine fX_now (pc := 5) C lk_X_10 d_X_quiet_5 ?_
  refine k_V (pc := 8) (co_V C (c_C_copyFrom (xl X) (xD X) (xt X) (xv X) (fun i => a (10 + i)) (fun i => a (1 + i)) (X_tried x, X_now x) _ hw) mw_C_copyFrom lk_X_69 d_X_quiet_8 [10, 11, 12, 13, 14, 15, 16, 17, 18, 1, 2, 3, 4, 5, 6, 7, 8, 9] (cC_X_tried_now (xt X) a a x) (by decide) (rec_w C 10 1 rfl rfl) rfl rfl ⟨Nat.le_of_ble_eq_true rfl, Nat.le_of_ble_eq_true rfl⟩ ⟨Nat.le_of_ble_eq_true rfl, Nat.le_of_ble_eq_true rfl⟩ (rest := []) rfl rfl (Nat.le_of_ble_eq_true rfl)) (fun p_1 => woX (xt X) a (X_now_ (X_tried_ x p_1.1) p_1.2)) (cS_X_tried_now (xt X) a a x) (fun p_1 hw => ?_)
  refine g_iconst (pc := 11) C (v := 0) d_X_quiet_11 (by decide) ?_
  refine g_istore_n (pc := 12) C d_X_quiet_12 rfl (Nat.le_of_ble_eq_true rfl) (lv' := [(0, .ref (a 0)), (1, .int 0)]) rfl ?_
  exact j_X_quiet_13 C q a post hq  2000 (X_now_ (X_tried_ x p_1.1) p_1.2) 0 hw
set_option maxRecDepth 20000 in
theorem c_X_quiet (l : Launch) (D : va_G) (t : Nat → ClassId) (ev : Nat → Nat) (a : Nat → Nat) (x : XSt) (post : Int32 → XSt → Prop) (hw : wp_X_quiet x post) : Con l D t ev y_X_quiet b_X_quiet 2 ((some .int)) 4 (woX t a x) [.ref (a 0)] (qI (woX t a)  post) :=
  ConR.of (by decide +kernel) (Nat.le_of_ble_eq_true rfl) (fun X el eD et ee C q _ => by subst el; subst eD; subst et; subst ee; exact g_X_quiet C q a x post (fun v c1 h => ⟨⟨v, c1, rfl, rfl, h⟩, rfl⟩) hw)
def wp_X_cargo (x : XSt) (x1 : Int32) (post : Int32 → XSt → Prop) : Prop :=
  ((x1 < 0) → (post (-1) x)) ∧ ((¬ x1 < 0) → (((x1 ≤ 60) → (wp_X_triedCargo x x1 0 (-1) (fun v1 x_2 => post v1 x_2))) ∧ ((¬ x1 ≤ 60) → (post (-1) x))))
set_option maxRecDepth 20000 in
theorem g_X_cargo {X : GX} (C : GC X b_X_cargo R_X 2 (rmd 6)) {Qp : Option Value → va_W → Prop} (q : RC X ((some .int)) Qp 0 0) (a : Nat → Nat) (x : XSt) (x1 : Int32) (post : Int32 → XSt → Prop) (hq : ∀ v c1, post v c1 → Qp (some (.int v)) (woX (xt X) a c1)) (hw : wp_X_cargo x x1 post) : G X 0 0 (woX (xt X) a x) [(0, .ref (a 0)), (1, .int x1)] [] 0 := by
  unfold wp_X_cargo at hw
  refine g_iload_n (pc := 0) C d_X_cargo_0 1 rfl rfl ?_
  refine g_if_lt (pc := 1) (tgt := 10) C d_X_cargo_1 (by decide) (fun h4 => ?_) (fun h4 => ?_)
  · replace hw := hw.1 h4
    refine g_iconst (pc := 10) C (v := (-1)) d_X_cargo_10 (by decide) ?_
    refine g_goto (pc := 11) (tgt := 21) C d_X_cargo_11 (by decide) ?_
    exact g_iret (pc := 21) C q d_X_cargo_21 (hq _ _ hw)
  · replace hw := hw.2 h4
    refine g_iload_n (pc := 4) C d_X_cargo_4 1 rfl rfl ?_
    refine g_bipush (pc := 5) C (v := 60) d_X_cargo_5 (by decide) ?_
    refine g_icmp_le (pc := 7) (tgt := 14) C d_X_cargo_7 (by decide) (fun h3 => ?_) (fun h3 => ?_)
    · replace hw := hw.1 h3
      refine g_aload_n (pc := 14) C d_X_cargo_14 0 rfl rfl ?_
      refine g_iload_n (pc := 15) C d_X_cargo_15 1 rfl rfl ?_
      refine g_iconst (pc := 16) C (v := 0) d_X_cargo_16 (by decide) ?_
      refine g_iconst (pc := 17) C (v := (-1)) d_X_cargo_17 (by decide) ?_
      refine k_Ia (pc := 18) (co_V C (c_X_triedCargo (xl X) (xD X) (xt X) (xv X) a x x1 0 (-1) _ hw) mw_X_triedCargo lk_X_161 d_X_cargo_18 (List.range _) (all_C _) (all_nd _) (rec_w C 0 5 rfl rfl) rfl rfl ⟨Nat.le_of_ble_eq_true rfl, Nat.le_of_ble_eq_true rfl⟩ ⟨Nat.le_of_ble_eq_true rfl, Nat.le_of_ble_eq_true rfl⟩ (rest := []) rfl rfl (Nat.le_of_ble_eq_true rfl)) (fun v1 x_2 hw => ?_)
      exact g_iret (pc := 21) C q d_X_cargo_21 (hq _ _ hw)
    · replace hw := hw.2 h3
      refine g_iconst (pc := 10) C (v := (-1)) d_X_cargo_10 (by decide) ?_
      refine g_goto (pc := 11) (tgt := 21) C d_X_cargo_11 (by decide) ?_
      exact g_iret (pc := 21) C q d_X_cargo_21 (hq _ _ hw)
set_option maxRecDepth 20000 in
theorem c_X_cargo (l : Launch) (D : va_G) (t : Nat → ClassId) (ev : Nat → Nat) (a : Nat → Nat) (x : XSt) (x1 : Int32) (post : Int32 → XSt → Prop) (hw : wp_X_cargo x x1 post) : Con l D t ev y_X_cargo b_X_cargo 2 ((some .int)) 6 (woX t a x) [.ref (a 0), .int x1] (qI (woX t a)  post) :=
  ConR.of (by decide +kernel) (Nat.le_of_ble_eq_true rfl) (fun X el eD et ee C q _ => by subst el; subst eD; subst et; subst ee; exact g_X_cargo C q a x x1 post (fun v c1 h => ⟨⟨v, c1, rfl, rfl, h⟩, rfl⟩) hw)
def w_X_stillFor_46  (post : Int32 → XSt → Prop)  : Nat → XSt → Int32 → Int32 → Int32 → Int32 → Int32 → Prop
  | 0, _, _, _, _, _, _ => False
  | n + 1, x, x1, x2, x3, x4, x5 =>
    ((10 ≤ x5) → (post x4 x)) ∧ ((¬ 10 ≤ x5) → (wp_C_copyFrom (X_tried x, X_now x) (fun p_6 => vp_in x5 10 ∧ (wp_X_triedFreight (X_tried_ (X_now_ (X_tried_ x p_6.1) p_6.2) (C_noise_ p_6.1 (upd (C_noise p_6.1) x5.toNatClampNeg 0))) x1 x2 (fun v8 x_9 => ((v8 ≤ x3) → (∀ y10 : Int32, y10 = x5 + 1 → (w_X_stillFor_46  post  n x_9 x1 x2 x3 x4 y10))) ∧ ((¬ v8 ≤ x3) → (∀ y11 : Int32, y11 = x5 + 1 → (w_X_stillFor_46  post  n x_9 x1 x2 v8 x5 y11))))))))
set_option maxRecDepth 20000 in
theorem j_X_stillFor_46 {X : GX} (C : GC X b_X_stillFor R_X 7 (rmd 6)) {Qp : Option Value → va_W → Prop} (q : RC X ((some .int)) Qp 0 0) (a : Nat → Nat)   (post : Int32 → XSt → Prop) (hq : ∀ v c1, post v c1 → Qp (some (.int v)) (woX (xt X) a c1)) : ∀ (n : Nat) (x : XSt) (x1 : Int32) (x2 : Int32) (x3 : Int32) (x4 : Int32) (x5 : Int32), w_X_stillFor_46  post  n x x1 x2 x3 x4 x5 → G X 0 0 (woX (xt X) a x) [(0, .ref (a 0)), (1, .int x1), (2, .int x2), (3, .int x3), (4, .int x4), (5, .int x5)] [] 46 := by
  intro n
  induction n with
  | zero => intro x x1 x2 x3 x4 x5 hw; exact hw.elim
  | succ n ih =>
    intro x x1 x2 x3 x4 x5 hw
    rw [w_X_stillFor_46] at hw
    refine g_iload (pc := 46) C d_X_stillFor_46 5 rfl ?_
    refine g_bipush (pc := 48) C (v := 10) d_X_stillFor_48 (by decide) ?_
    refine g_icmp_ge (pc := 50) (tgt := 102) C d_X_stillFor_50 (by decide) (fun h13 => ?_) (fun h13 => ?_)
    · replace hw := hw.1 h13
      refine g_iload (pc := 102) C d_X_stillFor_102 4 rfl ?_
      exact g_iret (pc := 104) C q d_X_stillFor_104 (hq _ _ hw)
    · replace hw := hw.2 h13
      refine g_aload_n (pc := 53) C d_X_stillFor_53 0 rfl rfl ?_
      refine fX_tried (pc := 54) C lk_X_16 d_X_stillFor_54 ?_
      refine g_aload_n (pc := 57) C d_X_stillFor_57 0 rfl rfl ?_
      refine fX_now (pc := 58) C lk_X_10 d_X_stillFor_58 ?_
      refine k_V (pc := 61) (co_V C (c_C_copyFrom (xl X) (xD X) (xt X) (xv X) (fun i => a (10 + i)) (fun i => a (1 + i)) (X_tried x, X_now x) _ hw) mw_C_copyFrom lk_X_69 d_X_stillFor_61 [10, 11, 12, 13, 14, 15, 16, 17, 18, 1, 2, 3, 4, 5, 6, 7, 8, 9] (cC_X_tried_now (xt X) a a x) (by decide) (rec_w C 10 1 rfl rfl) rfl rfl ⟨Nat.le_of_ble_eq_true rfl, Nat.le_of_ble_eq_true rfl⟩ ⟨Nat.le_of_ble_eq_true rfl, Nat.le_of_ble_eq_true rfl⟩ (rest := []) rfl rfl (Nat.le_of_ble_eq_true rfl)) (fun p_6 => woX (xt X) a (X_now_ (X_tried_ x p_6.1) p_6.2)) (cS_X_tried_now (xt X) a a x) (fun p_6 hw => ?_)
      refine g_aload_n (pc := 64) C d_X_stillFor_64 0 rfl rfl ?_
      refine fX_tried (pc := 65) C lk_X_16 d_X_stillFor_65 ?_
      refine fX_tried_noise (pc := 68) C lk_X_138 d_X_stillFor_68 ?_
      refine g_iload (pc := 71) C d_X_stillFor_71 5 rfl ?_
      refine g_iconst (pc := 73) C (v := 0) d_X_stillFor_73 (by decide) ?_
      obtain ⟨h7, hw⟩ := hw
      refine sX_tried_noise (pc := 74) C (c := p_6.1) rfl d_X_stillFor_74 (f := C_noise p_6.1) rfl (N0 := x5.toNatClampNeg) rfl h7 ?_
      refine g_aload_n (pc := 75) C d_X_stillFor_75 0 rfl rfl ?_
      refine g_iload_n (pc := 76) C d_X_stillFor_76 1 rfl rfl ?_
      refine g_iload_n (pc := 77) C d_X_stillFor_77 2 rfl rfl ?_
      refine k_Ia (pc := 78) (co_V C (c_X_triedFreight (xl X) (xD X) (xt X) (xv X) a (X_tried_ (X_now_ (X_tried_ x p_6.1) p_6.2) (C_noise_ p_6.1 (upd (C_noise p_6.1) x5.toNatClampNeg 0))) x1 x2 _ hw) mw_X_triedFreight lk_X_180 d_X_stillFor_78 (List.range _) (all_C _) (all_nd _) (rec_w C 0 5 rfl rfl) rfl rfl ⟨Nat.le_of_ble_eq_true rfl, Nat.le_of_ble_eq_true rfl⟩ ⟨Nat.le_of_ble_eq_true rfl, Nat.le_of_ble_eq_true rfl⟩ (rest := []) rfl rfl (Nat.le_of_ble_eq_true rfl)) (fun v8 x_9 hw => ?_)
      refine g_istore (pc := 81) C d_X_stillFor_81 (Nat.le_of_ble_eq_true rfl) (lv' := [(0, .ref (a 0)), (1, .int x1), (2, .int x2), (3, .int x3), (4, .int x4), (5, .int x5), (6, .int v8)]) rfl ?_
      refine g_iload (pc := 83) C d_X_stillFor_83 6 rfl ?_
      refine g_iload_n (pc := 85) C d_X_stillFor_85 3 rfl rfl ?_
      refine g_icmp_le (pc := 86) (tgt := 96) C d_X_stillFor_86 (by decide) (fun h12 => ?_) (fun h12 => ?_)
      · replace hw := hw.1 h12
        obtain ⟨y10, ey10⟩ : ∃ w, w = x5 + 1 := ⟨_, rfl⟩
        replace hw := hw y10 ey10
        refine g_iinc (pc := 96) C d_X_stillFor_96 5 rfl (v := y10) (by rw [ey10]; rfl) (Nat.le_of_ble_eq_true rfl) (lv' := [(0, .ref (a 0)), (1, .int x1), (2, .int x2), (3, .int x3), (4, .int x4), (5, .int y10), (6, .int v8)]) rfl ?_
        refine g_goto (pc := 99) (tgt := 46) C d_X_stillFor_99 (by decide) ?_
        refine g_sub [0, 1, 2, 3, 4, 5] (lv' := [(0, .ref (a 0)), (1, .int x1), (2, .int x2), (3, .int x3), (4, .int x4), (5, .int y10)]) rfl ?_
        exact ih x_9 x1 x2 x3 x4 y10 hw
      · replace hw := hw.2 h12
        refine g_iload (pc := 89) C d_X_stillFor_89 6 rfl ?_
        refine g_istore_n (pc := 91) C d_X_stillFor_91 rfl (Nat.le_of_ble_eq_true rfl) (lv' := [(0, .ref (a 0)), (1, .int x1), (2, .int x2), (3, .int v8), (4, .int x4), (5, .int x5), (6, .int v8)]) rfl ?_
        refine g_iload (pc := 92) C d_X_stillFor_92 5 rfl ?_
        refine g_istore (pc := 94) C d_X_stillFor_94 (Nat.le_of_ble_eq_true rfl) (lv' := [(0, .ref (a 0)), (1, .int x1), (2, .int x2), (3, .int v8), (4, .int x5), (5, .int x5), (6, .int v8)]) rfl ?_
        obtain ⟨y11, ey11⟩ : ∃ w, w = x5 + 1 := ⟨_, rfl⟩
        replace hw := hw y11 ey11
        refine g_iinc (pc := 96) C d_X_stillFor_96 5 rfl (v := y11) (by rw [ey11]; rfl) (Nat.le_of_ble_eq_true rfl) (lv' := [(0, .ref (a 0)), (1, .int x1), (2, .int x2), (3, .int v8), (4, .int x5), (5, .int y11), (6, .int v8)]) rfl ?_
        refine g_goto (pc := 99) (tgt := 46) C d_X_stillFor_99 (by decide) ?_
        refine g_sub [0, 1, 2, 3, 4, 5] (lv' := [(0, .ref (a 0)), (1, .int x1), (2, .int x2), (3, .int v8), (4, .int x5), (5, .int y11)]) rfl ?_
        exact ih x_9 x1 x2 v8 x5 y11 hw
def wp_X_stillFor (x : XSt) (x1 : Int32) (x2 : Int32) (post : Int32 → XSt → Prop) : Prop :=
  wp_X_isBarge x x1 (fun v1 x_2 => ((v1 = 0) → (post (-1) x_2)) ∧ ((¬ v1 = 0) → (((x2 < 1) → (post (-1) x_2)) ∧ ((¬ x2 < 1) → (((x2 ≤ 30) → (wp_C_copyFrom (X_tried x_2, X_now x_2) (fun p_3 => wp_X_triedFreight (X_now_ (X_tried_ x_2 p_3.1) p_3.2) x1 x2 (fun v4 x_5 => w_X_stillFor_46  post  2000 x_5 x1 x2 v4 (-3) 0)))) ∧ ((¬ x2 ≤ 30) → (post (-1) x_2)))))))
set_option maxRecDepth 20000 in
theorem g_X_stillFor {X : GX} (C : GC X b_X_stillFor R_X 7 (rmd 6)) {Qp : Option Value → va_W → Prop} (q : RC X ((some .int)) Qp 0 0) (a : Nat → Nat) (x : XSt) (x1 : Int32) (x2 : Int32) (post : Int32 → XSt → Prop) (hq : ∀ v c1, post v c1 → Qp (some (.int v)) (woX (xt X) a c1)) (hw : wp_X_stillFor x x1 x2 post) : G X 0 0 (woX (xt X) a x) [(0, .ref (a 0)), (1, .int x1), (2, .int x2)] [] 0 := by
  unfold wp_X_stillFor at hw
  refine g_aload_n (pc := 0) C d_X_stillFor_0 0 rfl rfl ?_
  refine g_iload_n (pc := 1) C d_X_stillFor_1 1 rfl rfl ?_
  refine k_Ia (pc := 2) (co_V C (c_X_isBarge (xl X) (xD X) (xt X) (xv X) a x x1 _ hw) mw_X_isBarge lk_X_106 d_X_stillFor_2 (List.range _) (all_C _) (all_nd _) (rec_w C 0 5 rfl rfl) rfl rfl ⟨Nat.le_of_ble_eq_true rfl, Nat.le_of_ble_eq_true rfl⟩ ⟨Nat.le_of_ble_eq_true rfl, Nat.le_of_ble_eq_true rfl⟩ (rest := []) rfl rfl (Nat.le_of_ble_eq_true rfl)) (fun v1 x_2 hw => ?_)
  refine g_if_eq (pc := 5) (tgt := 19) C d_X_stillFor_5 (by decide) (fun h16 => ?_) (fun h16 => ?_)
  · replace hw := hw.1 h16
    refine g_iconst (pc := 19) C (v := (-1)) d_X_stillFor_19 (by decide) ?_
    exact g_iret (pc := 20) C q d_X_stillFor_20 (hq _ _ hw)
  · replace hw := hw.2 h16
    refine g_iload_n (pc := 8) C d_X_stillFor_8 2 rfl rfl ?_
    refine g_iconst (pc := 9) C (v := 1) d_X_stillFor_9 (by decide) ?_
    refine g_icmp_lt (pc := 10) (tgt := 19) C d_X_stillFor_10 (by decide) (fun h15 => ?_) (fun h15 => ?_)
    · replace hw := hw.1 h15
      refine g_iconst (pc := 19) C (v := (-1)) d_X_stillFor_19 (by decide) ?_
      exact g_iret (pc := 20) C q d_X_stillFor_20 (hq _ _ hw)
    · replace hw := hw.2 h15
      refine g_iload_n (pc := 13) C d_X_stillFor_13 2 rfl rfl ?_
      refine g_bipush (pc := 14) C (v := 30) d_X_stillFor_14 (by decide) ?_
      refine g_icmp_le (pc := 16) (tgt := 21) C d_X_stillFor_16 (by decide) (fun h14 => ?_) (fun h14 => ?_)
      · replace hw := hw.1 h14
        refine g_aload_n (pc := 21) C d_X_stillFor_21 0 rfl rfl ?_
        refine fX_tried (pc := 22) C lk_X_16 d_X_stillFor_22 ?_
        refine g_aload_n (pc := 25) C d_X_stillFor_25 0 rfl rfl ?_
        refine fX_now (pc := 26) C lk_X_10 d_X_stillFor_26 ?_
        refine k_V (pc := 29) (co_V C (c_C_copyFrom (xl X) (xD X) (xt X) (xv X) (fun i => a (10 + i)) (fun i => a (1 + i)) (X_tried x_2, X_now x_2) _ hw) mw_C_copyFrom lk_X_69 d_X_stillFor_29 [10, 11, 12, 13, 14, 15, 16, 17, 18, 1, 2, 3, 4, 5, 6, 7, 8, 9] (cC_X_tried_now (xt X) a a x_2) (by decide) (rec_w C 10 1 rfl rfl) rfl rfl ⟨Nat.le_of_ble_eq_true rfl, Nat.le_of_ble_eq_true rfl⟩ ⟨Nat.le_of_ble_eq_true rfl, Nat.le_of_ble_eq_true rfl⟩ (rest := []) rfl rfl (Nat.le_of_ble_eq_true rfl)) (fun p_3 => woX (xt X) a (X_now_ (X_tried_ x_2 p_3.1) p_3.2)) (cS_X_tried_now (xt X) a a x_2) (fun p_3 hw => ?_)
        refine g_aload_n (pc := 32) C d_X_stillFor_32 0 rfl rfl ?_
        refine g_iload_n (pc := 33) C d_X_stillFor_33 1 rfl rfl ?_
        refine g_iload_n (pc := 34) C d_X_stillFor_34 2 rfl rfl ?_
        refine k_Ia (pc := 35) (co_V C (c_X_triedFreight (xl X) (xD X) (xt X) (xv X) a (X_now_ (X_tried_ x_2 p_3.1) p_3.2) x1 x2 _ hw) mw_X_triedFreight lk_X_180 d_X_stillFor_35 (List.range _) (all_C _) (all_nd _) (rec_w C 0 5 rfl rfl) rfl rfl ⟨Nat.le_of_ble_eq_true rfl, Nat.le_of_ble_eq_true rfl⟩ ⟨Nat.le_of_ble_eq_true rfl, Nat.le_of_ble_eq_true rfl⟩ (rest := []) rfl rfl (Nat.le_of_ble_eq_true rfl)) (fun v4 x_5 hw => ?_)
        refine g_istore_n (pc := 38) C d_X_stillFor_38 rfl (Nat.le_of_ble_eq_true rfl) (lv' := [(0, .ref (a 0)), (1, .int x1), (2, .int x2), (3, .int v4)]) rfl ?_
        refine g_bipush (pc := 39) C (v := (-3)) d_X_stillFor_39 (by decide) ?_
        refine g_istore (pc := 41) C d_X_stillFor_41 (Nat.le_of_ble_eq_true rfl) (lv' := [(0, .ref (a 0)), (1, .int x1), (2, .int x2), (3, .int v4), (4, .int (-3))]) rfl ?_
        refine g_iconst (pc := 43) C (v := 0) d_X_stillFor_43 (by decide) ?_
        refine g_istore (pc := 44) C d_X_stillFor_44 (Nat.le_of_ble_eq_true rfl) (lv' := [(0, .ref (a 0)), (1, .int x1), (2, .int x2), (3, .int v4), (4, .int (-3)), (5, .int 0)]) rfl ?_
        exact j_X_stillFor_46 C q a post hq  2000 x_5 x1 x2 v4 (-3) 0 hw
      · replace hw := hw.2 h14
        refine g_iconst (pc := 19) C (v := (-1)) d_X_stillFor_19 (by decide) ?_
        exact g_iret (pc := 20) C q d_X_stillFor_20 (hq _ _ hw)
set_option maxRecDepth 20000 in
theorem c_X_stillFor (l : Launch) (D : va_G) (t : Nat → ClassId) (ev : Nat → Nat) (a : Nat → Nat) (x : XSt) (x1 : Int32) (x2 : Int32) (post : Int32 → XSt → Prop) (hw : wp_X_stillFor x x1 x2 post) : Con l D t ev y_X_stillFor b_X_stillFor 7 ((some .int)) 6 (woX t a x) [.ref (a 0), .int x1, .int x2] (qI (woX t a)  post) :=
  ConR.of (by decide +kernel) (Nat.le_of_ble_eq_true rfl) (fun X el eD et ee C q _ => by subst el; subst eD; subst et; subst ee; exact g_X_stillFor C q a x x1 x2 post (fun v c1 h => ⟨⟨v, c1, rfl, rfl, h⟩, rfl⟩) hw)
def w_X_kindFor_29  (post : Int32 → XSt → Prop)  : Nat → XSt → Int32 → Int32 → Int32 → Int32 → Int32 → Prop
  | 0, _, _, _, _, _, _ => False
  | n + 1, x, x1, x2, x3, x4, x5 =>
    ((6 ≤ x5) → (post x4 x)) ∧ ((¬ 6 ≤ x5) → (wp_C_copyFrom (X_tried x, X_now x) (fun p_3 => vp_in x1 8 ∧ (wp_X_triedFreight (X_tried_ (X_now_ (X_tried_ x p_3.1) p_3.2) (C_kind_ p_3.1 (upd (C_kind p_3.1) x1.toNatClampNeg x5))) x1 x2 (fun v5 x_6 => ((v5 ≤ x3) → (∀ y7 : Int32, y7 = x5 + 1 → (w_X_kindFor_29  post  n x_6 x1 x2 x3 x4 y7))) ∧ ((¬ v5 ≤ x3) → (∀ y8 : Int32, y8 = x5 + 1 → (w_X_kindFor_29  post  n x_6 x1 x2 v5 x5 y8))))))))
set_option maxRecDepth 20000 in
theorem j_X_kindFor_29 {X : GX} (C : GC X b_X_kindFor R_X 7 (rmd 6)) {Qp : Option Value → va_W → Prop} (q : RC X ((some .int)) Qp 0 0) (a : Nat → Nat)   (post : Int32 → XSt → Prop) (hq : ∀ v c1, post v c1 → Qp (some (.int v)) (woX (xt X) a c1)) : ∀ (n : Nat) (x : XSt) (x1 : Int32) (x2 : Int32) (x3 : Int32) (x4 : Int32) (x5 : Int32), w_X_kindFor_29  post  n x x1 x2 x3 x4 x5 → G X 0 0 (woX (xt X) a x) [(0, .ref (a 0)), (1, .int x1), (2, .int x2), (3, .int x3), (4, .int x4), (5, .int x5)] [] 29 := by
  intro n
  induction n with
  | zero => intro x x1 x2 x3 x4 x5 hw; exact hw.elim
  | succ n ih =>
    intro x x1 x2 x3 x4 x5 hw
    rw [w_X_kindFor_29] at hw
    refine g_iload (pc := 29) C d_X_kindFor_29 5 rfl ?_
    refine g_bipush (pc := 31) C (v := 6) d_X_kindFor_31 (by decide) ?_
    refine g_icmp_ge (pc := 33) (tgt := 85) C d_X_kindFor_33 (by decide) (fun h10 => ?_) (fun h10 => ?_)
    · replace hw := hw.1 h10
      refine g_iload (pc := 85) C d_X_kindFor_85 4 rfl ?_
      exact g_iret (pc := 87) C q d_X_kindFor_87 (hq _ _ hw)
    · replace hw := hw.2 h10
      refine g_aload_n (pc := 36) C d_X_kindFor_36 0 rfl rfl ?_
      refine fX_tried (pc := 37) C lk_X_16 d_X_kindFor_37 ?_
      refine g_aload_n (pc := 40) C d_X_kindFor_40 0 rfl rfl ?_
      refine fX_now (pc := 41) C lk_X_10 d_X_kindFor_41 ?_
      refine k_V (pc := 44) (co_V C (c_C_copyFrom (xl X) (xD X) (xt X) (xv X) (fun i => a (10 + i)) (fun i => a (1 + i)) (X_tried x, X_now x) _ hw) mw_C_copyFrom lk_X_69 d_X_kindFor_44 [10, 11, 12, 13, 14, 15, 16, 17, 18, 1, 2, 3, 4, 5, 6, 7, 8, 9] (cC_X_tried_now (xt X) a a x) (by decide) (rec_w C 10 1 rfl rfl) rfl rfl ⟨Nat.le_of_ble_eq_true rfl, Nat.le_of_ble_eq_true rfl⟩ ⟨Nat.le_of_ble_eq_true rfl, Nat.le_of_ble_eq_true rfl⟩ (rest := []) rfl rfl (Nat.le_of_ble_eq_true rfl)) (fun p_3 => woX (xt X) a (X_now_ (X_tried_ x p_3.1) p_3.2)) (cS_X_tried_now (xt X) a a x) (fun p_3 hw => ?_)
      refine g_aload_n (pc := 47) C d_X_kindFor_47 0 rfl rfl ?_
      refine fX_tried (pc := 48) C lk_X_16 d_X_kindFor_48 ?_
      refine fX_tried_kind (pc := 51) C lk_X_109 d_X_kindFor_51 ?_
      refine g_iload_n (pc := 54) C d_X_kindFor_54 1 rfl rfl ?_
      refine g_iload (pc := 55) C d_X_kindFor_55 5 rfl ?_
      obtain ⟨h4, hw⟩ := hw
      refine sX_tried_kind (pc := 57) C (c := p_3.1) rfl d_X_kindFor_57 (f := C_kind p_3.1) rfl (N0 := x1.toNatClampNeg) rfl h4 ?_
      refine g_aload_n (pc := 58) C d_X_kindFor_58 0 rfl rfl ?_
      refine g_iload_n (pc := 59) C d_X_kindFor_59 1 rfl rfl ?_
      refine g_iload_n (pc := 60) C d_X_kindFor_60 2 rfl rfl ?_
      refine k_Ia (pc := 61) (co_V C (c_X_triedFreight (xl X) (xD X) (xt X) (xv X) a (X_tried_ (X_now_ (X_tried_ x p_3.1) p_3.2) (C_kind_ p_3.1 (upd (C_kind p_3.1) x1.toNatClampNeg x5))) x1 x2 _ hw) mw_X_triedFreight lk_X_180 d_X_kindFor_61 (List.range _) (all_C _) (all_nd _) (rec_w C 0 5 rfl rfl) rfl rfl ⟨Nat.le_of_ble_eq_true rfl, Nat.le_of_ble_eq_true rfl⟩ ⟨Nat.le_of_ble_eq_true rfl, Nat.le_of_ble_eq_true rfl⟩ (rest := []) rfl rfl (Nat.le_of_ble_eq_true rfl)) (fun v5 x_6 hw => ?_)
      refine g_istore (pc := 64) C d_X_kindFor_64 (Nat.le_of_ble_eq_true rfl) (lv' := [(0, .ref (a 0)), (1, .int x1), (2, .int x2), (3, .int x3), (4, .int x4), (5, .int x5), (6, .int v5)]) rfl ?_
      refine g_iload (pc := 66) C d_X_kindFor_66 6 rfl ?_
      refine g_iload_n (pc := 68) C d_X_kindFor_68 3 rfl rfl ?_
      refine g_icmp_le (pc := 69) (tgt := 79) C d_X_kindFor_69 (by decide) (fun h9 => ?_) (fun h9 => ?_)
      · replace hw := hw.1 h9
        obtain ⟨y7, ey7⟩ : ∃ w, w = x5 + 1 := ⟨_, rfl⟩
        replace hw := hw y7 ey7
        refine g_iinc (pc := 79) C d_X_kindFor_79 5 rfl (v := y7) (by rw [ey7]; rfl) (Nat.le_of_ble_eq_true rfl) (lv' := [(0, .ref (a 0)), (1, .int x1), (2, .int x2), (3, .int x3), (4, .int x4), (5, .int y7), (6, .int v5)]) rfl ?_
        refine g_goto (pc := 82) (tgt := 29) C d_X_kindFor_82 (by decide) ?_
        refine g_sub [0, 1, 2, 3, 4, 5] (lv' := [(0, .ref (a 0)), (1, .int x1), (2, .int x2), (3, .int x3), (4, .int x4), (5, .int y7)]) rfl ?_
        exact ih x_6 x1 x2 x3 x4 y7 hw
      · replace hw := hw.2 h9
        refine g_iload (pc := 72) C d_X_kindFor_72 6 rfl ?_
        refine g_istore_n (pc := 74) C d_X_kindFor_74 rfl (Nat.le_of_ble_eq_true rfl) (lv' := [(0, .ref (a 0)), (1, .int x1), (2, .int x2), (3, .int v5), (4, .int x4), (5, .int x5), (6, .int v5)]) rfl ?_
        refine g_iload (pc := 75) C d_X_kindFor_75 5 rfl ?_
        refine g_istore (pc := 77) C d_X_kindFor_77 (Nat.le_of_ble_eq_true rfl) (lv' := [(0, .ref (a 0)), (1, .int x1), (2, .int x2), (3, .int v5), (4, .int x5), (5, .int x5), (6, .int v5)]) rfl ?_
        obtain ⟨y8, ey8⟩ : ∃ w, w = x5 + 1 := ⟨_, rfl⟩
        replace hw := hw y8 ey8
        refine g_iinc (pc := 79) C d_X_kindFor_79 5 rfl (v := y8) (by rw [ey8]; rfl) (Nat.le_of_ble_eq_true rfl) (lv' := [(0, .ref (a 0)), (1, .int x1), (2, .int x2), (3, .int v5), (4, .int x5), (5, .int y8), (6, .int v5)]) rfl ?_
        refine g_goto (pc := 82) (tgt := 29) C d_X_kindFor_82 (by decide) ?_
        refine g_sub [0, 1, 2, 3, 4, 5] (lv' := [(0, .ref (a 0)), (1, .int x1), (2, .int x2), (3, .int v5), (4, .int x5), (5, .int y8)]) rfl ?_
        exact ih x_6 x1 x2 v5 x5 y8 hw
def wp_X_kindFor (x : XSt) (x1 : Int32) (x2 : Int32) (post : Int32 → XSt → Prop) : Prop :=
  wp_X_isBarge x x1 (fun v1 x_2 => ((v1 = 0) → (post (-1) x_2)) ∧ ((¬ v1 = 0) → (((x2 < 1) → (post (-1) x_2)) ∧ ((¬ x2 < 1) → (((x2 ≤ 30) → (w_X_kindFor_29  post  2000 x_2 x1 x2 (-1) 0 0)) ∧ ((¬ x2 ≤ 30) → (post (-1) x_2)))))))
set_option maxRecDepth 20000 in
theorem g_X_kindFor {X : GX} (C : GC X b_X_kindFor R_X 7 (rmd 6)) {Qp : Option Value → va_W → Prop} (q : RC X ((some .int)) Qp 0 0) (a : Nat → Nat) (x : XSt) (x1 : Int32) (x2 : Int32) (post : Int32 → XSt → Prop) (hq : ∀ v c1, post v c1 → Qp (some (.int v)) (woX (xt X) a c1)) (hw : wp_X_kindFor x x1 x2 post) : G X 0 0 (woX (xt X) a x) [(0, .ref (a 0)), (1, .int x1), (2, .int x2)] [] 0 := by
  unfold wp_X_kindFor at hw
  refine g_aload_n (pc := 0) C d_X_kindFor_0 0 rfl rfl ?_
  refine g_iload_n (pc := 1) C d_X_kindFor_1 1 rfl rfl ?_
  refine k_Ia (pc := 2) (co_V C (c_X_isBarge (xl X) (xD X) (xt X) (xv X) a x x1 _ hw) mw_X_isBarge lk_X_106 d_X_kindFor_2 (List.range _) (all_C _) (all_nd _) (rec_w C 0 5 rfl rfl) rfl rfl ⟨Nat.le_of_ble_eq_true rfl, Nat.le_of_ble_eq_true rfl⟩ ⟨Nat.le_of_ble_eq_true rfl, Nat.le_of_ble_eq_true rfl⟩ (rest := []) rfl rfl (Nat.le_of_ble_eq_true rfl)) (fun v1 x_2 hw => ?_)
  refine g_if_eq (pc := 5) (tgt := 19) C d_X_kindFor_5 (by decide) (fun h13 => ?_) (fun h13 => ?_)
  · replace hw := hw.1 h13
    refine g_iconst (pc := 19) C (v := (-1)) d_X_kindFor_19 (by decide) ?_
    exact g_iret (pc := 20) C q d_X_kindFor_20 (hq _ _ hw)
  · replace hw := hw.2 h13
    refine g_iload_n (pc := 8) C d_X_kindFor_8 2 rfl rfl ?_
    refine g_iconst (pc := 9) C (v := 1) d_X_kindFor_9 (by decide) ?_
    refine g_icmp_lt (pc := 10) (tgt := 19) C d_X_kindFor_10 (by decide) (fun h12 => ?_) (fun h12 => ?_)
    · replace hw := hw.1 h12
      refine g_iconst (pc := 19) C (v := (-1)) d_X_kindFor_19 (by decide) ?_
      exact g_iret (pc := 20) C q d_X_kindFor_20 (hq _ _ hw)
    · replace hw := hw.2 h12
      refine g_iload_n (pc := 13) C d_X_kindFor_13 2 rfl rfl ?_
      refine g_bipush (pc := 14) C (v := 30) d_X_kindFor_14 (by decide) ?_
      refine g_icmp_le (pc := 16) (tgt := 21) C d_X_kindFor_16 (by decide) (fun h11 => ?_) (fun h11 => ?_)
      · replace hw := hw.1 h11
        refine g_iconst (pc := 21) C (v := (-1)) d_X_kindFor_21 (by decide) ?_
        refine g_istore_n (pc := 22) C d_X_kindFor_22 rfl (Nat.le_of_ble_eq_true rfl) (lv' := [(0, .ref (a 0)), (1, .int x1), (2, .int x2), (3, .int (-1))]) rfl ?_
        refine g_iconst (pc := 23) C (v := 0) d_X_kindFor_23 (by decide) ?_
        refine g_istore (pc := 24) C d_X_kindFor_24 (Nat.le_of_ble_eq_true rfl) (lv' := [(0, .ref (a 0)), (1, .int x1), (2, .int x2), (3, .int (-1)), (4, .int 0)]) rfl ?_
        refine g_iconst (pc := 26) C (v := 0) d_X_kindFor_26 (by decide) ?_
        refine g_istore (pc := 27) C d_X_kindFor_27 (Nat.le_of_ble_eq_true rfl) (lv' := [(0, .ref (a 0)), (1, .int x1), (2, .int x2), (3, .int (-1)), (4, .int 0), (5, .int 0)]) rfl ?_
        exact j_X_kindFor_29 C q a post hq  2000 x_2 x1 x2 (-1) 0 0 hw
      · replace hw := hw.2 h11
        refine g_iconst (pc := 19) C (v := (-1)) d_X_kindFor_19 (by decide) ?_
        exact g_iret (pc := 20) C q d_X_kindFor_20 (hq _ _ hw)
set_option maxRecDepth 20000 in
theorem c_X_kindFor (l : Launch) (D : va_G) (t : Nat → ClassId) (ev : Nat → Nat) (a : Nat → Nat) (x : XSt) (x1 : Int32) (x2 : Int32) (post : Int32 → XSt → Prop) (hw : wp_X_kindFor x x1 x2 post) : Con l D t ev y_X_kindFor b_X_kindFor 7 ((some .int)) 6 (woX t a x) [.ref (a 0), .int x1, .int x2] (qI (woX t a)  post) :=
  ConR.of (by decide +kernel) (Nat.le_of_ble_eq_true rfl) (fun X el eD et ee C q _ => by subst el; subst eD; subst et; subst ee; exact g_X_kindFor C q a x x1 x2 post (fun v c1 h => ⟨⟨v, c1, rfl, rfl, h⟩, rfl⟩) hw)
def w_X_loadFor_31  (post : Int32 → XSt → Prop)  : Nat → XSt → Int32 → Int32 → Int32 → Int32 → Prop
  | 0, _, _, _, _, _ => False
  | n + 1, x, x1, x2, x3, x4 =>
    ((99 < x4) → (post (-3) x)) ∧ ((¬ 99 < x4) → (wp_C_copyFrom (X_tried x, X_now x) (fun p_4 => vp_in x1 8 ∧ (wp_X_triedFreight (X_tried_ (X_now_ (X_tried_ x p_4.1) p_4.2) (C_load_ p_4.1 (upd (C_load p_4.1) x1.toNatClampNeg x4))) x1 x2 (fun v6 x_7 => ((v6 < x3) → (∀ y8 : Int32, y8 = x4 + 1 → (w_X_loadFor_31  post  n x_7 x1 x2 x3 y8))) ∧ ((¬ v6 < x3) → (post x4 x_7)))))))
set_option maxRecDepth 20000 in
theorem j_X_loadFor_31 {X : GX} (C : GC X b_X_loadFor R_X 5 (rmd 6)) {Qp : Option Value → va_W → Prop} (q : RC X ((some .int)) Qp 0 0) (a : Nat → Nat)   (post : Int32 → XSt → Prop) (hq : ∀ v c1, post v c1 → Qp (some (.int v)) (woX (xt X) a c1)) : ∀ (n : Nat) (x : XSt) (x1 : Int32) (x2 : Int32) (x3 : Int32) (x4 : Int32), w_X_loadFor_31  post  n x x1 x2 x3 x4 → G X 0 0 (woX (xt X) a x) [(0, .ref (a 0)), (1, .int x1), (2, .int x2), (3, .int x3), (4, .int x4)] [] 31 := by
  intro n
  induction n with
  | zero => intro x x1 x2 x3 x4 hw; exact hw.elim
  | succ n ih =>
    intro x x1 x2 x3 x4 hw
    rw [w_X_loadFor_31] at hw
    refine g_iload (pc := 31) C d_X_loadFor_31 4 rfl ?_
    refine g_bipush (pc := 33) C (v := 99) d_X_loadFor_33 (by decide) ?_
    refine g_icmp_gt (pc := 35) (tgt := 79) C d_X_loadFor_35 (by decide) (fun h10 => ?_) (fun h10 => ?_)
    · replace hw := hw.1 h10
      refine g_bipush (pc := 79) C (v := (-3)) d_X_loadFor_79 (by decide) ?_
      exact g_iret (pc := 81) C q d_X_loadFor_81 (hq _ _ hw)
    · replace hw := hw.2 h10
      refine g_aload_n (pc := 38) C d_X_loadFor_38 0 rfl rfl ?_
      refine fX_tried (pc := 39) C lk_X_16 d_X_loadFor_39 ?_
      refine g_aload_n (pc := 42) C d_X_loadFor_42 0 rfl rfl ?_
      refine fX_now (pc := 43) C lk_X_10 d_X_loadFor_43 ?_
      refine k_V (pc := 46) (co_V C (c_C_copyFrom (xl X) (xD X) (xt X) (xv X) (fun i => a (10 + i)) (fun i => a (1 + i)) (X_tried x, X_now x) _ hw) mw_C_copyFrom lk_X_69 d_X_loadFor_46 [10, 11, 12, 13, 14, 15, 16, 17, 18, 1, 2, 3, 4, 5, 6, 7, 8, 9] (cC_X_tried_now (xt X) a a x) (by decide) (rec_w C 10 1 rfl rfl) rfl rfl ⟨Nat.le_of_ble_eq_true rfl, Nat.le_of_ble_eq_true rfl⟩ ⟨Nat.le_of_ble_eq_true rfl, Nat.le_of_ble_eq_true rfl⟩ (rest := []) rfl rfl (Nat.le_of_ble_eq_true rfl)) (fun p_4 => woX (xt X) a (X_now_ (X_tried_ x p_4.1) p_4.2)) (cS_X_tried_now (xt X) a a x) (fun p_4 hw => ?_)
      refine g_aload_n (pc := 49) C d_X_loadFor_49 0 rfl rfl ?_
      refine fX_tried (pc := 50) C lk_X_16 d_X_loadFor_50 ?_
      refine fX_tried_load (pc := 53) C lk_X_112 d_X_loadFor_53 ?_
      refine g_iload_n (pc := 56) C d_X_loadFor_56 1 rfl rfl ?_
      refine g_iload (pc := 57) C d_X_loadFor_57 4 rfl ?_
      obtain ⟨h5, hw⟩ := hw
      refine sX_tried_load (pc := 59) C (c := p_4.1) rfl d_X_loadFor_59 (f := C_load p_4.1) rfl (N0 := x1.toNatClampNeg) rfl h5 ?_
      refine g_aload_n (pc := 60) C d_X_loadFor_60 0 rfl rfl ?_
      refine g_iload_n (pc := 61) C d_X_loadFor_61 1 rfl rfl ?_
      refine g_iload_n (pc := 62) C d_X_loadFor_62 2 rfl rfl ?_
      refine k_Ia (pc := 63) (co_V C (c_X_triedFreight (xl X) (xD X) (xt X) (xv X) a (X_tried_ (X_now_ (X_tried_ x p_4.1) p_4.2) (C_load_ p_4.1 (upd (C_load p_4.1) x1.toNatClampNeg x4))) x1 x2 _ hw) mw_X_triedFreight lk_X_180 d_X_loadFor_63 (List.range _) (all_C _) (all_nd _) (rec_w C 0 5 rfl rfl) rfl rfl ⟨Nat.le_of_ble_eq_true rfl, Nat.le_of_ble_eq_true rfl⟩ ⟨Nat.le_of_ble_eq_true rfl, Nat.le_of_ble_eq_true rfl⟩ (rest := []) rfl rfl (Nat.le_of_ble_eq_true rfl)) (fun v6 x_7 hw => ?_)
      refine g_iload_n (pc := 66) C d_X_loadFor_66 3 rfl rfl ?_
      refine g_icmp_lt (pc := 67) (tgt := 73) C d_X_loadFor_67 (by decide) (fun h9 => ?_) (fun h9 => ?_)
      · replace hw := hw.1 h9
        obtain ⟨y8, ey8⟩ : ∃ w, w = x4 + 1 := ⟨_, rfl⟩
        replace hw := hw y8 ey8
        refine g_iinc (pc := 73) C d_X_loadFor_73 4 rfl (v := y8) (by rw [ey8]; rfl) (Nat.le_of_ble_eq_true rfl) (lv' := [(0, .ref (a 0)), (1, .int x1), (2, .int x2), (3, .int x3), (4, .int y8)]) rfl ?_
        refine g_goto (pc := 76) (tgt := 31) C d_X_loadFor_76 (by decide) ?_
        exact ih x_7 x1 x2 x3 y8 hw
      · replace hw := hw.2 h9
        refine g_iload (pc := 70) C d_X_loadFor_70 4 rfl ?_
        exact g_iret (pc := 72) C q d_X_loadFor_72 (hq _ _ hw)
def wp_X_loadFor (x : XSt) (x1 : Int32) (x2 : Int32) (x3 : Int32) (post : Int32 → XSt → Prop) : Prop :=
  wp_X_isBarge x x1 (fun v1 x_2 => ((v1 = 0) → (post (-1) x_2)) ∧ ((¬ v1 = 0) → (((x2 < 1) → (post (-1) x_2)) ∧ ((¬ x2 < 1) → (((30 < x2) → (post (-1) x_2)) ∧ ((¬ 30 < x2) → (wp_X_isLoad x3 (fun v3 => ((v3 = 0) → (post (-1) x_2)) ∧ ((¬ v3 = 0) → (w_X_loadFor_31  post  2000 x_2 x1 x2 x3 0))))))))))
set_option maxRecDepth 20000 in
theorem g_X_loadFor {X : GX} (C : GC X b_X_loadFor R_X 5 (rmd 6)) {Qp : Option Value → va_W → Prop} (q : RC X ((some .int)) Qp 0 0) (a : Nat → Nat) (x : XSt) (x1 : Int32) (x2 : Int32) (x3 : Int32) (post : Int32 → XSt → Prop) (hq : ∀ v c1, post v c1 → Qp (some (.int v)) (woX (xt X) a c1)) (hw : wp_X_loadFor x x1 x2 x3 post) : G X 0 0 (woX (xt X) a x) [(0, .ref (a 0)), (1, .int x1), (2, .int x2), (3, .int x3)] [] 0 := by
  unfold wp_X_loadFor at hw
  refine g_aload_n (pc := 0) C d_X_loadFor_0 0 rfl rfl ?_
  refine g_iload_n (pc := 1) C d_X_loadFor_1 1 rfl rfl ?_
  refine k_Ia (pc := 2) (co_V C (c_X_isBarge (xl X) (xD X) (xt X) (xv X) a x x1 _ hw) mw_X_isBarge lk_X_106 d_X_loadFor_2 (List.range _) (all_C _) (all_nd _) (rec_w C 0 5 rfl rfl) rfl rfl ⟨Nat.le_of_ble_eq_true rfl, Nat.le_of_ble_eq_true rfl⟩ ⟨Nat.le_of_ble_eq_true rfl, Nat.le_of_ble_eq_true rfl⟩ (rest := []) rfl rfl (Nat.le_of_ble_eq_true rfl)) (fun v1 x_2 hw => ?_)
  refine g_if_eq (pc := 5) (tgt := 26) C d_X_loadFor_5 (by decide) (fun h14 => ?_) (fun h14 => ?_)
  · replace hw := hw.1 h14
    refine g_iconst (pc := 26) C (v := (-1)) d_X_loadFor_26 (by decide) ?_
    exact g_iret (pc := 27) C q d_X_loadFor_27 (hq _ _ hw)
  · replace hw := hw.2 h14
    refine g_iload_n (pc := 8) C d_X_loadFor_8 2 rfl rfl ?_
    refine g_iconst (pc := 9) C (v := 1) d_X_loadFor_9 (by decide) ?_
    refine g_icmp_lt (pc := 10) (tgt := 26) C d_X_loadFor_10 (by decide) (fun h13 => ?_) (fun h13 => ?_)
    · replace hw := hw.1 h13
      refine g_iconst (pc := 26) C (v := (-1)) d_X_loadFor_26 (by decide) ?_
      exact g_iret (pc := 27) C q d_X_loadFor_27 (hq _ _ hw)
    · replace hw := hw.2 h13
      refine g_iload_n (pc := 13) C d_X_loadFor_13 2 rfl rfl ?_
      refine g_bipush (pc := 14) C (v := 30) d_X_loadFor_14 (by decide) ?_
      refine g_icmp_gt (pc := 16) (tgt := 26) C d_X_loadFor_16 (by decide) (fun h12 => ?_) (fun h12 => ?_)
      · replace hw := hw.1 h12
        refine g_iconst (pc := 26) C (v := (-1)) d_X_loadFor_26 (by decide) ?_
        exact g_iret (pc := 27) C q d_X_loadFor_27 (hq _ _ hw)
      · replace hw := hw.2 h12
        refine g_iload_n (pc := 19) C d_X_loadFor_19 3 rfl rfl ?_
        refine k_I0 (pc := 20) (co_S C (c_X_isLoad (xl X) (xD X) (xt X) (xv X) x3 _ hw) mw_X_isLoad lk_X_96 d_X_loadFor_20 [] rfl (by decide)  rfl rfl ⟨Nat.le_of_ble_eq_true rfl, Nat.le_of_ble_eq_true rfl⟩ ⟨Nat.le_of_ble_eq_true rfl, Nat.le_of_ble_eq_true rfl⟩ (rest := []) rfl rfl (Nat.le_of_ble_eq_true rfl)) (fun v3 hw => ?_)
        refine g_if_ne (pc := 23) (tgt := 28) C d_X_loadFor_23 (by decide) (fun h11 => ?_) (fun h11 => ?_)
        · replace hw := hw.2 h11
          refine g_iconst (pc := 28) C (v := 0) d_X_loadFor_28 (by decide) ?_
          refine g_istore (pc := 29) C d_X_loadFor_29 (Nat.le_of_ble_eq_true rfl) (lv' := [(0, .ref (a 0)), (1, .int x1), (2, .int x2), (3, .int x3), (4, .int 0)]) rfl ?_
          exact j_X_loadFor_31 C q a post hq  2000 x_2 x1 x2 x3 0 hw
        · replace hw := hw.1 h11
          refine g_iconst (pc := 26) C (v := (-1)) d_X_loadFor_26 (by decide) ?_
          exact g_iret (pc := 27) C q d_X_loadFor_27 (hq _ _ hw)
set_option maxRecDepth 20000 in
theorem c_X_loadFor (l : Launch) (D : va_G) (t : Nat → ClassId) (ev : Nat → Nat) (a : Nat → Nat) (x : XSt) (x1 : Int32) (x2 : Int32) (x3 : Int32) (post : Int32 → XSt → Prop) (hw : wp_X_loadFor x x1 x2 x3 post) : Con l D t ev y_X_loadFor b_X_loadFor 5 ((some .int)) 6 (woX t a x) [.ref (a 0), .int x1, .int x2, .int x3] (qI (woX t a)  post) :=
  ConR.of (by decide +kernel) (Nat.le_of_ble_eq_true rfl) (fun X el eD et ee C q _ => by subst el; subst eD; subst et; subst ee; exact g_X_loadFor C q a x x1 x2 x3 post (fun v c1 h => ⟨⟨v, c1, rfl, rfl, h⟩, rfl⟩) hw)
def w_X_hushedFor_93  (post : Int32 → XSt → Prop) (k51 : XSt → Int32 → Int32 → Int32 → Int32 → Prop) (k61 : XSt → Int32 → Int32 → Int32 → Int32 → Int32 → Prop) (x : XSt) (x1 : Int32) (x2 : Int32) (x3 : Int32) (x4 : Int32) (x5 : Int32) (s0 : Int32) : Prop :=
  ((s0 = 0) → (∀ y6 : Int32, y6 = x5 + 1 → (k61 x x1 x2 x3 x4 y6))) ∧ ((¬ s0 = 0) → (wp_X_triedCargo x x1 x5 (-1) (fun v7 x_8 => ((v7 < x2) → (∀ y9 : Int32, y9 = x5 + 1 → (k61 x_8 x1 x2 x3 x4 y9))) ∧ ((¬ v7 < x2) → (post x5 x_8)))))
set_option maxRecDepth 20000 in
theorem j_X_hushedFor_93 {X : GX} (C : GC X b_X_hushedFor R_X 7 (rmd 6)) {Qp : Option Value → va_W → Prop} (q : RC X ((some .int)) Qp 0 0) (a : Nat → Nat)   (post : Int32 → XSt → Prop) (hq : ∀ v c1, post v c1 → Qp (some (.int v)) (woX (xt X) a c1)) {k51 : XSt → Int32 → Int32 → Int32 → Int32 → Prop} (hk51 : ∀ (x : XSt) (x1 : Int32) (x2 : Int32) (x3 : Int32) (x4 : Int32), k51 x x1 x2 x3 x4 → G X 0 0 (woX (xt X) a x) [(0, .ref (a 0)), (1, .int x1), (2, .int x2), (3, .int x3), (4, .int x4)] [] 51) {k61 : XSt → Int32 → Int32 → Int32 → Int32 → Int32 → Prop} (hk61 : ∀ (x : XSt) (x1 : Int32) (x2 : Int32) (x3 : Int32) (x4 : Int32) (x5 : Int32), k61 x x1 x2 x3 x4 x5 → G X 0 0 (woX (xt X) a x) [(0, .ref (a 0)), (1, .int x1), (2, .int x2), (3, .int x3), (4, .int x4), (5, .int x5)] [] 61) : ∀ (x : XSt) (x1 : Int32) (x2 : Int32) (x3 : Int32) (x4 : Int32) (x5 : Int32) (s0 : Int32), w_X_hushedFor_93  post k51 k61 x x1 x2 x3 x4 x5 s0 → G X 0 0 (woX (xt X) a x) [(0, .ref (a 0)), (1, .int x1), (2, .int x2), (3, .int x3), (4, .int x4), (5, .int x5)] [.int s0] 93 := by
  intro x x1 x2 x3 x4 x5 s0 hw
  unfold w_X_hushedFor_93 at hw
  refine g_istore (pc := 93) C d_X_hushedFor_93 (Nat.le_of_ble_eq_true rfl) (lv' := [(0, .ref (a 0)), (1, .int x1), (2, .int x2), (3, .int x3), (4, .int x4), (5, .int x5), (6, .int s0)]) rfl ?_
  refine g_iload (pc := 95) C d_X_hushedFor_95 6 rfl ?_
  refine g_if_eq (pc := 97) (tgt := 115) C d_X_hushedFor_97 (by decide) (fun h11 => ?_) (fun h11 => ?_)
  · replace hw := hw.1 h11
    obtain ⟨y6, ey6⟩ : ∃ w, w = x5 + 1 := ⟨_, rfl⟩
    replace hw := hw y6 ey6
    refine g_iinc (pc := 115) C d_X_hushedFor_115 5 rfl (v := y6) (by rw [ey6]; rfl) (Nat.le_of_ble_eq_true rfl) (lv' := [(0, .ref (a 0)), (1, .int x1), (2, .int x2), (3, .int x3), (4, .int x4), (5, .int y6), (6, .int s0)]) rfl ?_
    refine g_goto (pc := 118) (tgt := 61) C d_X_hushedFor_118 (by decide) ?_
    refine g_sub [0, 1, 2, 3, 4, 5] (lv' := [(0, .ref (a 0)), (1, .int x1), (2, .int x2), (3, .int x3), (4, .int x4), (5, .int y6)]) rfl ?_
    exact hk61 x x1 x2 x3 x4 y6 hw
  · replace hw := hw.2 h11
    refine g_aload_n (pc := 100) C d_X_hushedFor_100 0 rfl rfl ?_
    refine g_iload_n (pc := 101) C d_X_hushedFor_101 1 rfl rfl ?_
    refine g_iload (pc := 102) C d_X_hushedFor_102 5 rfl ?_
    refine g_iconst (pc := 104) C (v := (-1)) d_X_hushedFor_104 (by decide) ?_
    refine k_Ia (pc := 105) (co_V C (c_X_triedCargo (xl X) (xD X) (xt X) (xv X) a x x1 x5 (-1) _ hw) mw_X_triedCargo lk_X_161 d_X_hushedFor_105 (List.range _) (all_C _) (all_nd _) (rec_w C 0 5 rfl rfl) rfl rfl ⟨Nat.le_of_ble_eq_true rfl, Nat.le_of_ble_eq_true rfl⟩ ⟨Nat.le_of_ble_eq_true rfl, Nat.le_of_ble_eq_true rfl⟩ (rest := []) rfl rfl (Nat.le_of_ble_eq_true rfl)) (fun v7 x_8 hw => ?_)
    refine g_iload_n (pc := 108) C d_X_hushedFor_108 2 rfl rfl ?_
    refine g_icmp_lt (pc := 109) (tgt := 115) C d_X_hushedFor_109 (by decide) (fun h10 => ?_) (fun h10 => ?_)
    · replace hw := hw.1 h10
      obtain ⟨y9, ey9⟩ : ∃ w, w = x5 + 1 := ⟨_, rfl⟩
      replace hw := hw y9 ey9
      refine g_iinc (pc := 115) C d_X_hushedFor_115 5 rfl (v := y9) (by rw [ey9]; rfl) (Nat.le_of_ble_eq_true rfl) (lv' := [(0, .ref (a 0)), (1, .int x1), (2, .int x2), (3, .int x3), (4, .int x4), (5, .int y9), (6, .int s0)]) rfl ?_
      refine g_goto (pc := 118) (tgt := 61) C d_X_hushedFor_118 (by decide) ?_
      refine g_sub [0, 1, 2, 3, 4, 5] (lv' := [(0, .ref (a 0)), (1, .int x1), (2, .int x2), (3, .int x3), (4, .int x4), (5, .int y9)]) rfl ?_
      exact hk61 x_8 x1 x2 x3 x4 y9 hw
    · replace hw := hw.2 h10
      refine g_iload (pc := 112) C d_X_hushedFor_112 5 rfl ?_
      exact g_iret (pc := 114) C q d_X_hushedFor_114 (hq _ _ hw)
def w_X_hushedFor_61  (post : Int32 → XSt → Prop) (k51 : XSt → Int32 → Int32 → Int32 → Int32 → Prop) : Nat → XSt → Int32 → Int32 → Int32 → Int32 → Int32 → Prop
  | 0, _, _, _, _, _, _ => False
  | n + 1, x, x1, x2, x3, x4, x5 =>
    ((1023 < x5) → (∀ y5 : Int32, y5 = x4 + 1 → (k51 x x1 x2 x3 y5))) ∧ ((¬ 1023 < x5) → ((((x5 &&& (x3 ^^^ (-1))) = 0) → (wp_JI_bitCount x5 (fun v12 => ((v12 = x4) → (w_X_hushedFor_93  post k51 (w_X_hushedFor_61  post k51 n) x x1 x2 x3 x4 x5 1)) ∧ ((¬ v12 = x4) → (w_X_hushedFor_93  post k51 (w_X_hushedFor_61  post k51 n) x x1 x2 x3 x4 x5 0))))) ∧ ((¬ (x5 &&& (x3 ^^^ (-1))) = 0) → (w_X_hushedFor_93  post k51 (w_X_hushedFor_61  post k51 n) x x1 x2 x3 x4 x5 0))))
set_option maxRecDepth 20000 in
theorem j_X_hushedFor_61 {X : GX} (C : GC X b_X_hushedFor R_X 7 (rmd 6)) {Qp : Option Value → va_W → Prop} (q : RC X ((some .int)) Qp 0 0) (a : Nat → Nat)   (post : Int32 → XSt → Prop) (hq : ∀ v c1, post v c1 → Qp (some (.int v)) (woX (xt X) a c1)) {k51 : XSt → Int32 → Int32 → Int32 → Int32 → Prop} (hk51 : ∀ (x : XSt) (x1 : Int32) (x2 : Int32) (x3 : Int32) (x4 : Int32), k51 x x1 x2 x3 x4 → G X 0 0 (woX (xt X) a x) [(0, .ref (a 0)), (1, .int x1), (2, .int x2), (3, .int x3), (4, .int x4)] [] 51) : ∀ (n : Nat) (x : XSt) (x1 : Int32) (x2 : Int32) (x3 : Int32) (x4 : Int32) (x5 : Int32), w_X_hushedFor_61  post k51 n x x1 x2 x3 x4 x5 → G X 0 0 (woX (xt X) a x) [(0, .ref (a 0)), (1, .int x1), (2, .int x2), (3, .int x3), (4, .int x4), (5, .int x5)] [] 61 := by
  intro n
  induction n with
  | zero => intro x x1 x2 x3 x4 x5 hw; exact hw.elim
  | succ n ih =>
    intro x x1 x2 x3 x4 x5 hw
    rw [w_X_hushedFor_61] at hw
    refine g_iload (pc := 61) C d_X_hushedFor_61 5 rfl ?_
    refine g_sipush (pc := 63) C (v := 1023) d_X_hushedFor_63 (by decide) ?_
    refine g_icmp_gt (pc := 66) (tgt := 121) C d_X_hushedFor_66 (by decide) (fun h15 => ?_) (fun h15 => ?_)
    · replace hw := hw.1 h15
      obtain ⟨y5, ey5⟩ : ∃ w, w = x4 + 1 := ⟨_, rfl⟩
      replace hw := hw y5 ey5
      refine g_iinc (pc := 121) C d_X_hushedFor_121 4 rfl (v := y5) (by rw [ey5]; rfl) (Nat.le_of_ble_eq_true rfl) (lv' := [(0, .ref (a 0)), (1, .int x1), (2, .int x2), (3, .int x3), (4, .int y5), (5, .int x5)]) rfl ?_
      refine g_goto (pc := 124) (tgt := 51) C d_X_hushedFor_124 (by decide) ?_
      refine g_sub [0, 1, 2, 3, 4] (lv' := [(0, .ref (a 0)), (1, .int x1), (2, .int x2), (3, .int x3), (4, .int y5)]) rfl ?_
      exact hk51 x x1 x2 x3 y5 hw
    · replace hw := hw.2 h15
      refine g_iload (pc := 69) C d_X_hushedFor_69 5 rfl ?_
      refine g_iload_n (pc := 71) C d_X_hushedFor_71 3 rfl rfl ?_
      refine g_iconst (pc := 72) C (v := (-1)) d_X_hushedFor_72 (by decide) ?_
      refine g_ixor (pc := 73) C d_X_hushedFor_73 ?_
      refine g_iand (pc := 74) C d_X_hushedFor_74 ?_
      refine g_if_ne (pc := 75) (tgt := 92) C d_X_hushedFor_75 (by decide) (fun h14 => ?_) (fun h14 => ?_)
      · replace hw := hw.2 h14
        refine g_iconst (pc := 92) C (v := 0) d_X_hushedFor_92 (by decide) ?_
        exact j_X_hushedFor_93 C q a post hq hk51 ih x x1 x2 x3 x4 x5 0 hw
      · replace hw := hw.1 h14
        refine g_iload (pc := 78) C d_X_hushedFor_78 5 rfl ?_
        refine k_I0 (pc := 80) (co_S C (c_JI_bitCount (xl X) (xD X) (xt X) (xv X) x5 _ hw) mw_JI_bitCount lk_X_193 d_X_hushedFor_80 [] rfl (by decide)  rfl rfl ⟨Nat.le_of_ble_eq_true rfl, Nat.le_of_ble_eq_true rfl⟩ ⟨Nat.le_of_ble_eq_true rfl, Nat.le_of_ble_eq_true rfl⟩ (rest := []) rfl rfl (Nat.le_of_ble_eq_true rfl)) (fun v12 hw => ?_)
        refine g_iload (pc := 83) C d_X_hushedFor_83 4 rfl ?_
        refine g_icmp_ne (pc := 85) (tgt := 92) C d_X_hushedFor_85 (by decide) (fun h13 => ?_) (fun h13 => ?_)
        · replace hw := hw.2 h13
          refine g_iconst (pc := 92) C (v := 0) d_X_hushedFor_92 (by decide) ?_
          exact j_X_hushedFor_93 C q a post hq hk51 ih x x1 x2 x3 x4 x5 0 hw
        · replace hw := hw.1 h13
          refine g_iconst (pc := 88) C (v := 1) d_X_hushedFor_88 (by decide) ?_
          refine g_goto (pc := 89) (tgt := 93) C d_X_hushedFor_89 (by decide) ?_
          exact j_X_hushedFor_93 C q a post hq hk51 ih x x1 x2 x3 x4 x5 1 hw
def w_X_hushedFor_51  (post : Int32 → XSt → Prop)  : Nat → XSt → Int32 → Int32 → Int32 → Int32 → Prop
  | 0, _, _, _, _, _ => False
  | n + 1, x, x1, x2, x3, x4 =>
    ((10 < x4) → (post (-3) x)) ∧ ((¬ 10 < x4) → (w_X_hushedFor_61  post (w_X_hushedFor_51  post  n) 2000 x x1 x2 x3 x4 0))
set_option maxRecDepth 20000 in
theorem j_X_hushedFor_51 {X : GX} (C : GC X b_X_hushedFor R_X 7 (rmd 6)) {Qp : Option Value → va_W → Prop} (q : RC X ((some .int)) Qp 0 0) (a : Nat → Nat)   (post : Int32 → XSt → Prop) (hq : ∀ v c1, post v c1 → Qp (some (.int v)) (woX (xt X) a c1)) : ∀ (n : Nat) (x : XSt) (x1 : Int32) (x2 : Int32) (x3 : Int32) (x4 : Int32), w_X_hushedFor_51  post  n x x1 x2 x3 x4 → G X 0 0 (woX (xt X) a x) [(0, .ref (a 0)), (1, .int x1), (2, .int x2), (3, .int x3), (4, .int x4)] [] 51 := by
  intro n
  induction n with
  | zero => intro x x1 x2 x3 x4 hw; exact hw.elim
  | succ n ih =>
    intro x x1 x2 x3 x4 hw
    rw [w_X_hushedFor_51] at hw
    refine g_iload (pc := 51) C d_X_hushedFor_51 4 rfl ?_
    refine g_bipush (pc := 53) C (v := 10) d_X_hushedFor_53 (by decide) ?_
    refine g_icmp_gt (pc := 55) (tgt := 127) C d_X_hushedFor_55 (by decide) (fun h16 => ?_) (fun h16 => ?_)
    · replace hw := hw.1 h16
      refine g_bipush (pc := 127) C (v := (-3)) d_X_hushedFor_127 (by decide) ?_
      exact g_iret (pc := 129) C q d_X_hushedFor_129 (hq _ _ hw)
    · replace hw := hw.2 h16
      refine g_iconst (pc := 58) C (v := 0) d_X_hushedFor_58 (by decide) ?_
      refine g_istore (pc := 59) C d_X_hushedFor_59 (Nat.le_of_ble_eq_true rfl) (lv' := [(0, .ref (a 0)), (1, .int x1), (2, .int x2), (3, .int x3), (4, .int x4), (5, .int 0)]) rfl ?_
      exact j_X_hushedFor_61 C q a post hq ih 2000 x x1 x2 x3 x4 0 hw
def wp_X_hushedFor (x : XSt) (x1 : Int32) (x2 : Int32) (post : Int32 → XSt → Prop) : Prop :=
  ((x1 < 1) → (post (-1) x)) ∧ ((¬ x1 < 1) → (((20 < x1) → (post (-1) x)) ∧ ((¬ 20 < x1) → (((x2 < 0) → (post (-1) x)) ∧ ((¬ x2 < 0) → (((x2 ≤ 999) → (wp_X_triedCargo x x1 1023 (-1) (fun v1 x_2 => ((x2 ≤ v1) → (wp_C_loudOnTheWay (X_now x_2) (fun v3 c_4 => w_X_hushedFor_51  post  2000 (X_now_ x_2 c_4) x1 x2 v3 0))) ∧ ((¬ x2 ≤ v1) → (post (-3) x_2))))) ∧ ((¬ x2 ≤ 999) → (post (-1) x))))))))
set_option maxRecDepth 20000 in
theorem g_X_hushedFor {X : GX} (C : GC X b_X_hushedFor R_X 7 (rmd 6)) {Qp : Option Value → va_W → Prop} (q : RC X ((some .int)) Qp 0 0) (a : Nat → Nat) (x : XSt) (x1 : Int32) (x2 : Int32) (post : Int32 → XSt → Prop) (hq : ∀ v c1, post v c1 → Qp (some (.int v)) (woX (xt X) a c1)) (hw : wp_X_hushedFor x x1 x2 post) : G X 0 0 (woX (xt X) a x) [(0, .ref (a 0)), (1, .int x1), (2, .int x2)] [] 0 := by
  unfold wp_X_hushedFor at hw
  refine g_iload_n (pc := 0) C d_X_hushedFor_0 1 rfl rfl ?_
  refine g_iconst (pc := 1) C (v := 1) d_X_hushedFor_1 (by decide) ?_
  refine g_icmp_lt (pc := 2) (tgt := 22) C d_X_hushedFor_2 (by decide) (fun h21 => ?_) (fun h21 => ?_)
  · replace hw := hw.1 h21
    refine g_iconst (pc := 22) C (v := (-1)) d_X_hushedFor_22 (by decide) ?_
    exact g_iret (pc := 23) C q d_X_hushedFor_23 (hq _ _ hw)
  · replace hw := hw.2 h21
    refine g_iload_n (pc := 5) C d_X_hushedFor_5 1 rfl rfl ?_
    refine g_bipush (pc := 6) C (v := 20) d_X_hushedFor_6 (by decide) ?_
    refine g_icmp_gt (pc := 8) (tgt := 22) C d_X_hushedFor_8 (by decide) (fun h20 => ?_) (fun h20 => ?_)
    · replace hw := hw.1 h20
      refine g_iconst (pc := 22) C (v := (-1)) d_X_hushedFor_22 (by decide) ?_
      exact g_iret (pc := 23) C q d_X_hushedFor_23 (hq _ _ hw)
    · replace hw := hw.2 h20
      refine g_iload_n (pc := 11) C d_X_hushedFor_11 2 rfl rfl ?_
      refine g_if_lt (pc := 12) (tgt := 22) C d_X_hushedFor_12 (by decide) (fun h19 => ?_) (fun h19 => ?_)
      · replace hw := hw.1 h19
        refine g_iconst (pc := 22) C (v := (-1)) d_X_hushedFor_22 (by decide) ?_
        exact g_iret (pc := 23) C q d_X_hushedFor_23 (hq _ _ hw)
      · replace hw := hw.2 h19
        refine g_iload_n (pc := 15) C d_X_hushedFor_15 2 rfl rfl ?_
        refine g_sipush (pc := 16) C (v := 999) d_X_hushedFor_16 (by decide) ?_
        refine g_icmp_le (pc := 19) (tgt := 24) C d_X_hushedFor_19 (by decide) (fun h18 => ?_) (fun h18 => ?_)
        · replace hw := hw.1 h18
          refine g_aload_n (pc := 24) C d_X_hushedFor_24 0 rfl rfl ?_
          refine g_iload_n (pc := 25) C d_X_hushedFor_25 1 rfl rfl ?_
          refine g_sipush (pc := 26) C (v := 1023) d_X_hushedFor_26 (by decide) ?_
          refine g_iconst (pc := 29) C (v := (-1)) d_X_hushedFor_29 (by decide) ?_
          refine k_Ia (pc := 30) (co_V C (c_X_triedCargo (xl X) (xD X) (xt X) (xv X) a x x1 1023 (-1) _ hw) mw_X_triedCargo lk_X_161 d_X_hushedFor_30 (List.range _) (all_C _) (all_nd _) (rec_w C 0 5 rfl rfl) rfl rfl ⟨Nat.le_of_ble_eq_true rfl, Nat.le_of_ble_eq_true rfl⟩ ⟨Nat.le_of_ble_eq_true rfl, Nat.le_of_ble_eq_true rfl⟩ (rest := []) rfl rfl (Nat.le_of_ble_eq_true rfl)) (fun v1 x_2 hw => ?_)
          refine g_iload_n (pc := 33) C d_X_hushedFor_33 2 rfl rfl ?_
          refine g_icmp_ge (pc := 34) (tgt := 40) C d_X_hushedFor_34 (by decide) (fun h17 => ?_) (fun h17 => ?_)
          · replace hw := hw.1 h17
            refine g_aload_n (pc := 40) C d_X_hushedFor_40 0 rfl rfl ?_
            refine fX_now (pc := 41) C lk_X_10 d_X_hushedFor_41 ?_
            refine k_I (pc := 44) (co_V C (c_C_loudOnTheWay (xl X) (xD X) (xt X) (xv X) (fun i => a (1 + i)) (X_now x_2) _ hw) mw_C_loudOnTheWay lk_X_190 d_X_hushedFor_44 [1, 2, 3, 4, 5, 6, 7, 8, 9] (cC_X_now (xt X) a a x_2) (by decide) (rec_w C 1 1 rfl rfl) rfl rfl ⟨Nat.le_of_ble_eq_true rfl, Nat.le_of_ble_eq_true rfl⟩ ⟨Nat.le_of_ble_eq_true rfl, Nat.le_of_ble_eq_true rfl⟩ (rest := []) rfl rfl (Nat.le_of_ble_eq_true rfl)) (fun c_4 => woX (xt X) a (X_now_ x_2 c_4)) (cS_X_now (xt X) a a x_2) (fun v3 c_4 hw => ?_)
            refine g_istore_n (pc := 47) C d_X_hushedFor_47 rfl (Nat.le_of_ble_eq_true rfl) (lv' := [(0, .ref (a 0)), (1, .int x1), (2, .int x2), (3, .int v3)]) rfl ?_
            refine g_iconst (pc := 48) C (v := 0) d_X_hushedFor_48 (by decide) ?_
            refine g_istore (pc := 49) C d_X_hushedFor_49 (Nat.le_of_ble_eq_true rfl) (lv' := [(0, .ref (a 0)), (1, .int x1), (2, .int x2), (3, .int v3), (4, .int 0)]) rfl ?_
            exact j_X_hushedFor_51 C q a post hq  2000 (X_now_ x_2 c_4) x1 x2 v3 0 hw
          · replace hw := hw.2 h17
            refine g_bipush (pc := 37) C (v := (-3)) d_X_hushedFor_37 (by decide) ?_
            exact g_iret (pc := 39) C q d_X_hushedFor_39 (hq _ _ hw)
        · replace hw := hw.2 h18
          refine g_iconst (pc := 22) C (v := (-1)) d_X_hushedFor_22 (by decide) ?_
          exact g_iret (pc := 23) C q d_X_hushedFor_23 (hq _ _ hw)
set_option maxRecDepth 20000 in
theorem c_X_hushedFor (l : Launch) (D : va_G) (t : Nat → ClassId) (ev : Nat → Nat) (a : Nat → Nat) (x : XSt) (x1 : Int32) (x2 : Int32) (post : Int32 → XSt → Prop) (hw : wp_X_hushedFor x x1 x2 post) : Con l D t ev y_X_hushedFor b_X_hushedFor 7 ((some .int)) 6 (woX t a x) [.ref (a 0), .int x1, .int x2] (qI (woX t a)  post) :=
  ConR.of (by decide +kernel) (Nat.le_of_ble_eq_true rfl) (fun X el eD et ee C q _ => by subst el; subst eD; subst et; subst ee; exact g_X_hushedFor C q a x x1 x2 post (fun v c1 h => ⟨⟨v, c1, rfl, rfl, h⟩, rfl⟩) hw)
def w_X_holdFor_27  (post : Int32 → XSt → Prop)  : Nat → XSt → Int32 → Int32 → Int32 → Int32 → Prop
  | 0, _, _, _, _, _ => False
  | n + 1, x, x1, x2, x3, x4 =>
    (((C_count (X_now x)) ≤ x4) → (post x3 x)) ∧ ((¬ (C_count (X_now x)) ≤ x4) → (wp_X_triedCargo x x1 0 x4 (fun v3 x_4 => ((v3 ≤ x2) → (∀ y5 : Int32, y5 = x4 + 1 → (w_X_holdFor_27  post  n x_4 x1 x2 x3 y5))) ∧ ((¬ v3 ≤ x2) → (∀ y6 : Int32, y6 = x4 + 1 → (w_X_holdFor_27  post  n x_4 x1 v3 x4 y6))))))
set_option maxRecDepth 20000 in
theorem j_X_holdFor_27 {X : GX} (C : GC X b_X_holdFor R_X 6 (rmd 6)) {Qp : Option Value → va_W → Prop} (q : RC X ((some .int)) Qp 0 0) (a : Nat → Nat)   (post : Int32 → XSt → Prop) (hq : ∀ v c1, post v c1 → Qp (some (.int v)) (woX (xt X) a c1)) : ∀ (n : Nat) (x : XSt) (x1 : Int32) (x2 : Int32) (x3 : Int32) (x4 : Int32), w_X_holdFor_27  post  n x x1 x2 x3 x4 → G X 0 0 (woX (xt X) a x) [(0, .ref (a 0)), (1, .int x1), (2, .int x2), (3, .int x3), (4, .int x4)] [] 27 := by
  intro n
  induction n with
  | zero => intro x x1 x2 x3 x4 hw; exact hw.elim
  | succ n ih =>
    intro x x1 x2 x3 x4 hw
    rw [w_X_holdFor_27] at hw
    refine g_iload (pc := 27) C d_X_holdFor_27 4 rfl ?_
    refine g_aload_n (pc := 29) C d_X_holdFor_29 0 rfl rfl ?_
    refine fX_now (pc := 30) C lk_X_10 d_X_holdFor_30 ?_
    refine fX_now_count (pc := 33) C lk_X_80 d_X_holdFor_33 (v := C_count (X_now x)) rfl ?_
    refine g_icmp_ge (pc := 36) (tgt := 67) C d_X_holdFor_36 (by decide) (fun h8 => ?_) (fun h8 => ?_)
    · replace hw := hw.1 h8
      refine g_iload_n (pc := 67) C d_X_holdFor_67 3 rfl rfl ?_
      exact g_iret (pc := 68) C q d_X_holdFor_68 (hq _ _ hw)
    · replace hw := hw.2 h8
      refine g_aload_n (pc := 39) C d_X_holdFor_39 0 rfl rfl ?_
      refine g_iload_n (pc := 40) C d_X_holdFor_40 1 rfl rfl ?_
      refine g_iconst (pc := 41) C (v := 0) d_X_holdFor_41 (by decide) ?_
      refine g_iload (pc := 42) C d_X_holdFor_42 4 rfl ?_
      refine k_Ia (pc := 44) (co_V C (c_X_triedCargo (xl X) (xD X) (xt X) (xv X) a x x1 0 x4 _ hw) mw_X_triedCargo lk_X_161 d_X_holdFor_44 (List.range _) (all_C _) (all_nd _) (rec_w C 0 5 rfl rfl) rfl rfl ⟨Nat.le_of_ble_eq_true rfl, Nat.le_of_ble_eq_true rfl⟩ ⟨Nat.le_of_ble_eq_true rfl, Nat.le_of_ble_eq_true rfl⟩ (rest := []) rfl rfl (Nat.le_of_ble_eq_true rfl)) (fun v3 x_4 hw => ?_)
      refine g_istore (pc := 47) C d_X_holdFor_47 (Nat.le_of_ble_eq_true rfl) (lv' := [(0, .ref (a 0)), (1, .int x1), (2, .int x2), (3, .int x3), (4, .int x4), (5, .int v3)]) rfl ?_
      refine g_iload (pc := 49) C d_X_holdFor_49 5 rfl ?_
      refine g_iload_n (pc := 51) C d_X_holdFor_51 2 rfl rfl ?_
      refine g_icmp_le (pc := 52) (tgt := 61) C d_X_holdFor_52 (by decide) (fun h7 => ?_) (fun h7 => ?_)
      · replace hw := hw.1 h7
        obtain ⟨y5, ey5⟩ : ∃ w, w = x4 + 1 := ⟨_, rfl⟩
        replace hw := hw y5 ey5
        refine g_iinc (pc := 61) C d_X_holdFor_61 4 rfl (v := y5) (by rw [ey5]; rfl) (Nat.le_of_ble_eq_true rfl) (lv' := [(0, .ref (a 0)), (1, .int x1), (2, .int x2), (3, .int x3), (4, .int y5), (5, .int v3)]) rfl ?_
        refine g_goto (pc := 64) (tgt := 27) C d_X_holdFor_64 (by decide) ?_
        refine g_sub [0, 1, 2, 3, 4] (lv' := [(0, .ref (a 0)), (1, .int x1), (2, .int x2), (3, .int x3), (4, .int y5)]) rfl ?_
        exact ih x_4 x1 x2 x3 y5 hw
      · replace hw := hw.2 h7
        refine g_iload (pc := 55) C d_X_holdFor_55 5 rfl ?_
        refine g_istore_n (pc := 57) C d_X_holdFor_57 rfl (Nat.le_of_ble_eq_true rfl) (lv' := [(0, .ref (a 0)), (1, .int x1), (2, .int v3), (3, .int x3), (4, .int x4), (5, .int v3)]) rfl ?_
        refine g_iload (pc := 58) C d_X_holdFor_58 4 rfl ?_
        refine g_istore_n (pc := 60) C d_X_holdFor_60 rfl (Nat.le_of_ble_eq_true rfl) (lv' := [(0, .ref (a 0)), (1, .int x1), (2, .int v3), (3, .int x4), (4, .int x4), (5, .int v3)]) rfl ?_
        obtain ⟨y6, ey6⟩ : ∃ w, w = x4 + 1 := ⟨_, rfl⟩
        replace hw := hw y6 ey6
        refine g_iinc (pc := 61) C d_X_holdFor_61 4 rfl (v := y6) (by rw [ey6]; rfl) (Nat.le_of_ble_eq_true rfl) (lv' := [(0, .ref (a 0)), (1, .int x1), (2, .int v3), (3, .int x4), (4, .int y6), (5, .int v3)]) rfl ?_
        refine g_goto (pc := 64) (tgt := 27) C d_X_holdFor_64 (by decide) ?_
        refine g_sub [0, 1, 2, 3, 4] (lv' := [(0, .ref (a 0)), (1, .int x1), (2, .int v3), (3, .int x4), (4, .int y6)]) rfl ?_
        exact ih x_4 x1 v3 x4 y6 hw
def wp_X_holdFor (x : XSt) (x1 : Int32) (post : Int32 → XSt → Prop) : Prop :=
  ((x1 < 1) → (post (-1) x)) ∧ ((¬ x1 < 1) → (((x1 ≤ 30) → (wp_X_triedCargo x x1 0 (-1) (fun v1 x_2 => w_X_holdFor_27  post  2000 x_2 x1 v1 (-3) 0))) ∧ ((¬ x1 ≤ 30) → (post (-1) x))))
set_option maxRecDepth 20000 in
theorem g_X_holdFor {X : GX} (C : GC X b_X_holdFor R_X 6 (rmd 6)) {Qp : Option Value → va_W → Prop} (q : RC X ((some .int)) Qp 0 0) (a : Nat → Nat) (x : XSt) (x1 : Int32) (post : Int32 → XSt → Prop) (hq : ∀ v c1, post v c1 → Qp (some (.int v)) (woX (xt X) a c1)) (hw : wp_X_holdFor x x1 post) : G X 0 0 (woX (xt X) a x) [(0, .ref (a 0)), (1, .int x1)] [] 0 := by
  unfold wp_X_holdFor at hw
  refine g_iload_n (pc := 0) C d_X_holdFor_0 1 rfl rfl ?_
  refine g_iconst (pc := 1) C (v := 1) d_X_holdFor_1 (by decide) ?_
  refine g_icmp_lt (pc := 2) (tgt := 11) C d_X_holdFor_2 (by decide) (fun h10 => ?_) (fun h10 => ?_)
  · replace hw := hw.1 h10
    refine g_iconst (pc := 11) C (v := (-1)) d_X_holdFor_11 (by decide) ?_
    exact g_iret (pc := 12) C q d_X_holdFor_12 (hq _ _ hw)
  · replace hw := hw.2 h10
    refine g_iload_n (pc := 5) C d_X_holdFor_5 1 rfl rfl ?_
    refine g_bipush (pc := 6) C (v := 30) d_X_holdFor_6 (by decide) ?_
    refine g_icmp_le (pc := 8) (tgt := 13) C d_X_holdFor_8 (by decide) (fun h9 => ?_) (fun h9 => ?_)
    · replace hw := hw.1 h9
      refine g_aload_n (pc := 13) C d_X_holdFor_13 0 rfl rfl ?_
      refine g_iload_n (pc := 14) C d_X_holdFor_14 1 rfl rfl ?_
      refine g_iconst (pc := 15) C (v := 0) d_X_holdFor_15 (by decide) ?_
      refine g_iconst (pc := 16) C (v := (-1)) d_X_holdFor_16 (by decide) ?_
      refine k_Ia (pc := 17) (co_V C (c_X_triedCargo (xl X) (xD X) (xt X) (xv X) a x x1 0 (-1) _ hw) mw_X_triedCargo lk_X_161 d_X_holdFor_17 (List.range _) (all_C _) (all_nd _) (rec_w C 0 5 rfl rfl) rfl rfl ⟨Nat.le_of_ble_eq_true rfl, Nat.le_of_ble_eq_true rfl⟩ ⟨Nat.le_of_ble_eq_true rfl, Nat.le_of_ble_eq_true rfl⟩ (rest := []) rfl rfl (Nat.le_of_ble_eq_true rfl)) (fun v1 x_2 hw => ?_)
      refine g_istore_n (pc := 20) C d_X_holdFor_20 rfl (Nat.le_of_ble_eq_true rfl) (lv' := [(0, .ref (a 0)), (1, .int x1), (2, .int v1)]) rfl ?_
      refine g_bipush (pc := 21) C (v := (-3)) d_X_holdFor_21 (by decide) ?_
      refine g_istore_n (pc := 23) C d_X_holdFor_23 rfl (Nat.le_of_ble_eq_true rfl) (lv' := [(0, .ref (a 0)), (1, .int x1), (2, .int v1), (3, .int (-3))]) rfl ?_
      refine g_iconst (pc := 24) C (v := 0) d_X_holdFor_24 (by decide) ?_
      refine g_istore (pc := 25) C d_X_holdFor_25 (Nat.le_of_ble_eq_true rfl) (lv' := [(0, .ref (a 0)), (1, .int x1), (2, .int v1), (3, .int (-3)), (4, .int 0)]) rfl ?_
      exact j_X_holdFor_27 C q a post hq  2000 x_2 x1 v1 (-3) 0 hw
    · replace hw := hw.2 h9
      refine g_iconst (pc := 11) C (v := (-1)) d_X_holdFor_11 (by decide) ?_
      exact g_iret (pc := 12) C q d_X_holdFor_12 (hq _ _ hw)
set_option maxRecDepth 20000 in
theorem c_X_holdFor (l : Launch) (D : va_G) (t : Nat → ClassId) (ev : Nat → Nat) (a : Nat → Nat) (x : XSt) (x1 : Int32) (post : Int32 → XSt → Prop) (hw : wp_X_holdFor x x1 post) : Con l D t ev y_X_holdFor b_X_holdFor 6 ((some .int)) 6 (woX t a x) [.ref (a 0), .int x1] (qI (woX t a)  post) :=
  ConR.of (by decide +kernel) (Nat.le_of_ble_eq_true rfl) (fun X el eD et ee C q _ => by subst el; subst eD; subst et; subst ee; exact g_X_holdFor C q a x x1 post (fun v c1 h => ⟨⟨v, c1, rfl, rfl, h⟩, rfl⟩) hw)
