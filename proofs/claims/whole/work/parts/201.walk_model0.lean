def w_M_first_2  (post : MSt → Prop)  : Nat → MSt → Int32 → Prop
  | 0, _, _ => False
  | n + 1, m, x1 =>
    ((67 ≤ x1) → (post (M_d_ (M_d_ (M_d_ (M_d_ m (upd (M_d m) 0 3)) (upd (upd (M_d m) 0 3) 1 2)) (upd (upd (upd (M_d m) 0 3) 1 2) 2 1)) (upd (upd (upd (upd (M_d m) 0 3) 1 2) 2 1) 3 20)))) ∧ ((¬ 67 ≤ x1) → (((x1 = 6) → (vp_in x1 67 ∧ (∀ y10 : Int32, y10 = x1 + 1 → (w_M_first_2  post  n (M_d_ m (upd (M_d m) x1.toNatClampNeg ((M_d m) 6))) y10)))) ∧ ((¬ x1 = 6) → (((x1 < 7) → (vp_in x1 67 ∧ (∀ y2 : Int32, y2 = x1 + 1 → (w_M_first_2  post  n (M_d_ m (upd (M_d m) x1.toNatClampNeg 0)) y2)))) ∧ ((¬ x1 < 7) → (((17 ≤ x1) → (vp_in x1 67 ∧ (∀ y4 : Int32, y4 = x1 + 1 → (w_M_first_2  post  n (M_d_ m (upd (M_d m) x1.toNatClampNeg 0)) y4)))) ∧ ((¬ 17 ≤ x1) → (vp_in x1 67 ∧ (∀ y6 : Int32, y6 = x1 + 1 → (w_M_first_2  post  n (M_d_ m (upd (M_d m) x1.toNatClampNeg 2)) y6))))))))))
set_option maxRecDepth 20000 in
theorem j_M_first_2 {X : GX} (C : GC X b_M_first R_M 2 (rmd 0)) {Qp : Option Value → va_W → Prop} (q : RC X (none) Qp 0 0) (a : Nat → Nat)   (post : MSt → Prop) (hq : ∀ c1, post c1 → Qp none (woM (xt X) a c1)) : ∀ (n : Nat) (m : MSt) (x1 : Int32), w_M_first_2  post  n m x1 → G X 0 0 (woM (xt X) a m) [(0, .ref (a 0)), (1, .int x1)] [] 2 := by
  intro n
  induction n with
  | zero => intro m x1 hw; exact hw.elim
  | succ n ih =>
    intro m x1 hw
    rw [w_M_first_2] at hw
    refine g_iload_n (pc := 2) C d_M_first_2 1 rfl rfl ?_
    refine g_bipush (pc := 3) C (v := 67) d_M_first_3 (by decide) ?_
    refine g_icmp_ge (pc := 5) (tgt := 53) C d_M_first_5 (by decide) (fun h12 => ?_) (fun h12 => ?_)
    · replace hw := hw.1 h12
      refine g_aload_n (pc := 53) C d_M_first_53 0 rfl rfl ?_
      refine fM_d (pc := 54) C lk_M_7 d_M_first_54 ?_
      refine g_iconst (pc := 57) C (v := 0) d_M_first_57 (by decide) ?_
      refine g_iconst (pc := 58) C (v := 3) d_M_first_58 (by decide) ?_
      refine sM_d (pc := 59) C d_M_first_59 (f := M_d m) rfl (N0 := 0) (by decide) (by unfold vp_in; decide) ?_
      refine g_aload_n (pc := 60) C d_M_first_60 0 rfl rfl ?_
      refine fM_d (pc := 61) C lk_M_7 d_M_first_61 ?_
      refine g_iconst (pc := 64) C (v := 1) d_M_first_64 (by decide) ?_
      refine g_iconst (pc := 65) C (v := 2) d_M_first_65 (by decide) ?_
      refine sM_d (pc := 66) C d_M_first_66 (f := upd (M_d m) 0 3) rfl (N0 := 1) (by decide) (by unfold vp_in; decide) ?_
      refine g_aload_n (pc := 67) C d_M_first_67 0 rfl rfl ?_
      refine fM_d (pc := 68) C lk_M_7 d_M_first_68 ?_
      refine g_iconst (pc := 71) C (v := 2) d_M_first_71 (by decide) ?_
      refine g_iconst (pc := 72) C (v := 1) d_M_first_72 (by decide) ?_
      refine sM_d (pc := 73) C d_M_first_73 (f := upd (upd (M_d m) 0 3) 1 2) rfl (N0 := 2) (by decide) (by unfold vp_in; decide) ?_
      refine g_aload_n (pc := 74) C d_M_first_74 0 rfl rfl ?_
      refine fM_d (pc := 75) C lk_M_7 d_M_first_75 ?_
      refine g_iconst (pc := 78) C (v := 3) d_M_first_78 (by decide) ?_
      refine g_bipush (pc := 79) C (v := 20) d_M_first_79 (by decide) ?_
      refine sM_d (pc := 81) C d_M_first_81 (f := upd (upd (upd (M_d m) 0 3) 1 2) 2 1) rfl (N0 := 3) (by decide) (by unfold vp_in; decide) ?_
      exact g_vret (pc := 82) C q d_M_first_82 (hq (M_d_ (M_d_ (M_d_ (M_d_ m (upd (M_d m) 0 3)) (upd (upd (M_d m) 0 3) 1 2)) (upd (upd (upd (M_d m) 0 3) 1 2) 2 1)) (upd (upd (upd (upd (M_d m) 0 3) 1 2) 2 1) 3 20)) hw)
    · replace hw := hw.2 h12
      refine g_aload_n (pc := 8) C d_M_first_8 0 rfl rfl ?_
      refine fM_d (pc := 9) C lk_M_7 d_M_first_9 ?_
      refine g_iload_n (pc := 12) C d_M_first_12 1 rfl rfl ?_
      refine g_iload_n (pc := 13) C d_M_first_13 1 rfl rfl ?_
      refine g_bipush (pc := 14) C (v := 6) d_M_first_14 (by decide) ?_
      refine g_icmp_ne (pc := 16) (tgt := 29) C d_M_first_16 (by decide) (fun h11 => ?_) (fun h11 => ?_)
      · replace hw := hw.2 h11
        refine g_iload_n (pc := 29) C d_M_first_29 1 rfl rfl ?_
        refine g_bipush (pc := 30) C (v := 7) d_M_first_30 (by decide) ?_
        refine g_icmp_lt (pc := 32) (tgt := 45) C d_M_first_32 (by decide) (fun h8 => ?_) (fun h8 => ?_)
        · replace hw := hw.1 h8
          refine g_iconst (pc := 45) C (v := 0) d_M_first_45 (by decide) ?_
          obtain ⟨h1, hw⟩ := hw
          refine sM_d (pc := 46) C d_M_first_46 (f := M_d m) rfl (N0 := x1.toNatClampNeg) rfl h1 ?_
          obtain ⟨y2, ey2⟩ : ∃ w, w = x1 + 1 := ⟨_, rfl⟩
          replace hw := hw y2 ey2
          refine g_iinc (pc := 47) C d_M_first_47 1 rfl (v := y2) (by rw [ey2]; rfl) (Nat.le_of_ble_eq_true rfl) (lv' := [(0, .ref (a 0)), (1, .int y2)]) rfl ?_
          refine g_goto (pc := 50) (tgt := 2) C d_M_first_50 (by decide) ?_
          exact ih (M_d_ m (upd (M_d m) x1.toNatClampNeg 0)) y2 hw
        · replace hw := hw.2 h8
          refine g_iload_n (pc := 35) C d_M_first_35 1 rfl rfl ?_
          refine g_bipush (pc := 36) C (v := 17) d_M_first_36 (by decide) ?_
          refine g_icmp_ge (pc := 38) (tgt := 45) C d_M_first_38 (by decide) (fun h7 => ?_) (fun h7 => ?_)
          · replace hw := hw.1 h7
            refine g_iconst (pc := 45) C (v := 0) d_M_first_45 (by decide) ?_
            obtain ⟨h3, hw⟩ := hw
            refine sM_d (pc := 46) C d_M_first_46 (f := M_d m) rfl (N0 := x1.toNatClampNeg) rfl h3 ?_
            obtain ⟨y4, ey4⟩ : ∃ w, w = x1 + 1 := ⟨_, rfl⟩
            replace hw := hw y4 ey4
            refine g_iinc (pc := 47) C d_M_first_47 1 rfl (v := y4) (by rw [ey4]; rfl) (Nat.le_of_ble_eq_true rfl) (lv' := [(0, .ref (a 0)), (1, .int y4)]) rfl ?_
            refine g_goto (pc := 50) (tgt := 2) C d_M_first_50 (by decide) ?_
            exact ih (M_d_ m (upd (M_d m) x1.toNatClampNeg 0)) y4 hw
          · replace hw := hw.2 h7
            refine g_iconst (pc := 41) C (v := 2) d_M_first_41 (by decide) ?_
            refine g_goto (pc := 42) (tgt := 46) C d_M_first_42 (by decide) ?_
            obtain ⟨h5, hw⟩ := hw
            refine sM_d (pc := 46) C d_M_first_46 (f := M_d m) rfl (N0 := x1.toNatClampNeg) rfl h5 ?_
            obtain ⟨y6, ey6⟩ : ∃ w, w = x1 + 1 := ⟨_, rfl⟩
            replace hw := hw y6 ey6
            refine g_iinc (pc := 47) C d_M_first_47 1 rfl (v := y6) (by rw [ey6]; rfl) (Nat.le_of_ble_eq_true rfl) (lv' := [(0, .ref (a 0)), (1, .int y6)]) rfl ?_
            refine g_goto (pc := 50) (tgt := 2) C d_M_first_50 (by decide) ?_
            exact ih (M_d_ m (upd (M_d m) x1.toNatClampNeg 2)) y6 hw
      · replace hw := hw.1 h11
        refine g_aload_n (pc := 19) C d_M_first_19 0 rfl rfl ?_
        refine fM_d (pc := 20) C lk_M_7 d_M_first_20 ?_
        refine g_bipush (pc := 23) C (v := 6) d_M_first_23 (by decide) ?_
        refine lM_d (pc := 25) C d_M_first_25 (f := M_d m) rfl (N0 := 6) (by decide) (by unfold vp_in; decide) ?_
        refine g_goto (pc := 26) (tgt := 46) C d_M_first_26 (by decide) ?_
        obtain ⟨h9, hw⟩ := hw
        refine sM_d (pc := 46) C d_M_first_46 (f := M_d m) rfl (N0 := x1.toNatClampNeg) rfl h9 ?_
        obtain ⟨y10, ey10⟩ : ∃ w, w = x1 + 1 := ⟨_, rfl⟩
        replace hw := hw y10 ey10
        refine g_iinc (pc := 47) C d_M_first_47 1 rfl (v := y10) (by rw [ey10]; rfl) (Nat.le_of_ble_eq_true rfl) (lv' := [(0, .ref (a 0)), (1, .int y10)]) rfl ?_
        refine g_goto (pc := 50) (tgt := 2) C d_M_first_50 (by decide) ?_
        exact ih (M_d_ m (upd (M_d m) x1.toNatClampNeg ((M_d m) 6))) y10 hw
def wp_M_first (m : MSt) (post : MSt → Prop) : Prop :=
  w_M_first_2  post  2000 m 0
set_option maxRecDepth 20000 in
theorem g_M_first {X : GX} (C : GC X b_M_first R_M 2 (rmd 0)) {Qp : Option Value → va_W → Prop} (q : RC X (none) Qp 0 0) (a : Nat → Nat) (m : MSt) (post : MSt → Prop) (hq : ∀ c1, post c1 → Qp none (woM (xt X) a c1)) (hw : wp_M_first m post) : G X 0 0 (woM (xt X) a m) [(0, .ref (a 0))] [] 0 := by
  unfold wp_M_first at hw
  refine g_iconst (pc := 0) C (v := 0) d_M_first_0 (by decide) ?_
  refine g_istore_n (pc := 1) C d_M_first_1 rfl (Nat.le_of_ble_eq_true rfl) (lv' := [(0, .ref (a 0)), (1, .int 0)]) rfl ?_
  exact j_M_first_2 C q a post hq  2000 m 0 hw
set_option maxRecDepth 20000 in
theorem c_M_first (l : Launch) (D : va_G) (t : Nat → ClassId) (ev : Nat → Nat) (a : Nat → Nat) (m : MSt) (post : MSt → Prop) (hw : wp_M_first m post) : Con l D t ev y_M_first b_M_first 2 (none) 0 (woM t a m) [.ref (a 0)] (qV (woM t a)  post) :=
  ConR.of (by decide +kernel) (Nat.le_of_ble_eq_true rfl) (fun X el eD et ee C q _ => by subst el; subst eD; subst et; subst ee; exact g_M_first C q a m post (fun c1 h => ⟨⟨c1, rfl, rfl, h⟩, rfl⟩) hw)
def wp_M_in (x0 : Int64) (x2 : Int64) (x4 : Int64) (post : Int32 → Prop) : Prop :=
  (((lg_cmp x0 x2) < 0) → (post 0 )) ∧ ((¬ (lg_cmp x0 x2) < 0) → (((0 < (lg_cmp x0 x4)) → (post 0 )) ∧ ((¬ 0 < (lg_cmp x0 x4)) → (post 1 ))))
set_option maxRecDepth 20000 in
theorem g_M_in {X : GX} (C : GC X b_M_in R_M 6 (rmd 0)) {Qp : Option Value → va_W → Prop} (q : RC X ((some .boolean)) Qp 0 0) (x0 : Int64) (x2 : Int64) (x4 : Int64) (post : Int32 → Prop) (hq : ∀ v, post v → Qp (some (.int v)) []) (hw : wp_M_in x0 x2 x4 post) : G X 0 0 ([]) [(0, .long x0), (2, .long x2), (4, .long x4)] [] 0 := by
  unfold wp_M_in at hw
  refine g_lload_n (pc := 0) C d_M_in_0 0 rfl rfl ?_
  refine g_lload_n (pc := 1) C d_M_in_1 1 rfl rfl ?_
  refine g_lcmp (pc := 2) C d_M_in_2 ?_
  refine g_if_lt (pc := 3) (tgt := 17) C d_M_in_3 (by decide) (fun h2 => ?_) (fun h2 => ?_)
  · replace hw := hw.1 h2
    refine g_iconst (pc := 17) C (v := 0) d_M_in_17 (by decide) ?_
    exact g_zret (pc := 18) C q d_M_in_18 (by decide) (hq _ hw)
  · replace hw := hw.2 h2
    refine g_lload_n (pc := 6) C d_M_in_6 0 rfl rfl ?_
    refine g_lload (pc := 7) C d_M_in_7 2 rfl ?_
    refine g_lcmp (pc := 9) C d_M_in_9 ?_
    refine g_if_gt (pc := 10) (tgt := 17) C d_M_in_10 (by decide) (fun h1 => ?_) (fun h1 => ?_)
    · replace hw := hw.1 h1
      refine g_iconst (pc := 17) C (v := 0) d_M_in_17 (by decide) ?_
      exact g_zret (pc := 18) C q d_M_in_18 (by decide) (hq _ hw)
    · replace hw := hw.2 h1
      refine g_iconst (pc := 13) C (v := 1) d_M_in_13 (by decide) ?_
      refine g_goto (pc := 14) (tgt := 18) C d_M_in_14 (by decide) ?_
      exact g_zret (pc := 18) C q d_M_in_18 (by decide) (hq _ hw)
set_option maxRecDepth 20000 in
theorem c_M_in (l : Launch) (D : va_G) (t : Nat → ClassId) (ev : Nat → Nat) (x0 : Int64) (x2 : Int64) (x4 : Int64) (post : Int32 → Prop) (hw : wp_M_in x0 x2 x4 post) : Con l D t ev y_M_in b_M_in 6 ((some .boolean)) 0 ([]) [.long x0, .long x2, .long x4] (qI (fun _ : Unit => [])  (fun v _ => post v)) :=
  ConR.of (by decide +kernel) (Nat.le_of_ble_eq_true rfl) (fun X el eD et ee C q _ => by subst el; subst eD; subst et; subst ee; exact g_M_in C q x0 x2 x4 post (fun v h => ⟨⟨v, (), rfl, rfl, h⟩, rfl⟩) hw)
def wp_M_held (x0 : Int32) (x1 : Int32) (x2 : Int32) (post : Int32 → Prop) : Prop :=
  ((x1 ≤ x0) → (((x0 ≤ x2) → (post x0 )) ∧ ((¬ x0 ≤ x2) → (post x2 )))) ∧ ((¬ x1 ≤ x0) → (post x1 ))
set_option maxRecDepth 20000 in
theorem g_M_held {X : GX} (C : GC X b_M_held R_M 3 (rmd 0)) {Qp : Option Value → va_W → Prop} (q : RC X ((some .int)) Qp 0 0) (x0 : Int32) (x1 : Int32) (x2 : Int32) (post : Int32 → Prop) (hq : ∀ v, post v → Qp (some (.int v)) []) (hw : wp_M_held x0 x1 x2 post) : G X 0 0 ([]) [(0, .int x0), (1, .int x1), (2, .int x2)] [] 0 := by
  unfold wp_M_held at hw
  refine g_iload_n (pc := 0) C d_M_held_0 0 rfl rfl ?_
  refine g_iload_n (pc := 1) C d_M_held_1 1 rfl rfl ?_
  refine g_icmp_ge (pc := 2) (tgt := 9) C d_M_held_2 (by decide) (fun h2 => ?_) (fun h2 => ?_)
  · replace hw := hw.1 h2
    refine g_iload_n (pc := 9) C d_M_held_9 0 rfl rfl ?_
    refine g_iload_n (pc := 10) C d_M_held_10 2 rfl rfl ?_
    refine g_icmp_le (pc := 11) (tgt := 18) C d_M_held_11 (by decide) (fun h1 => ?_) (fun h1 => ?_)
    · replace hw := hw.1 h1
      refine g_iload_n (pc := 18) C d_M_held_18 0 rfl rfl ?_
      exact g_iret (pc := 19) C q d_M_held_19 (hq _ hw)
    · replace hw := hw.2 h1
      refine g_iload_n (pc := 14) C d_M_held_14 2 rfl rfl ?_
      refine g_goto (pc := 15) (tgt := 19) C d_M_held_15 (by decide) ?_
      exact g_iret (pc := 19) C q d_M_held_19 (hq _ hw)
  · replace hw := hw.2 h2
    refine g_iload_n (pc := 5) C d_M_held_5 1 rfl rfl ?_
    refine g_goto (pc := 6) (tgt := 19) C d_M_held_6 (by decide) ?_
    exact g_iret (pc := 19) C q d_M_held_19 (hq _ hw)
set_option maxRecDepth 20000 in
theorem c_M_held (l : Launch) (D : va_G) (t : Nat → ClassId) (ev : Nat → Nat) (x0 : Int32) (x1 : Int32) (x2 : Int32) (post : Int32 → Prop) (hw : wp_M_held x0 x1 x2 post) : Con l D t ev y_M_held b_M_held 3 ((some .int)) 0 ([]) [.int x0, .int x1, .int x2] (qI (fun _ : Unit => [])  (fun v _ => post v)) :=
  ConR.of (by decide +kernel) (Nat.le_of_ble_eq_true rfl) (fun X el eD et ee C q _ => by subst el; subst eD; subst et; subst ee; exact g_M_held C q x0 x1 x2 post (fun v h => ⟨⟨v, (), rfl, rfl, h⟩, rfl⟩) hw)
def wp_M_isBarge (m : MSt) (x1 : Int32) (post : Int32 → MSt → Prop) : Prop :=
  ∀ y1 : Int64, y1 = x1.toInt64 → (∀ y2 : Int64, y2 = (((M_d m) 4) - 1).toInt64 → (wp_M_in y1 0 y2 (fun v3 => narrow .boolean (.int v3) = .int v3 ∧ post v3 m)))
set_option maxRecDepth 20000 in
theorem g_M_isBarge {X : GX} (C : GC X b_M_isBarge R_M 2 (rmd 1)) {Qp : Option Value → va_W → Prop} (q : RC X ((some .boolean)) Qp 0 0) (a : Nat → Nat) (m : MSt) (x1 : Int32) (post : Int32 → MSt → Prop) (hq : ∀ v c1, post v c1 → Qp (some (.int v)) (woM (xt X) a c1)) (hw : wp_M_isBarge m x1 post) : G X 0 0 (woM (xt X) a m) [(0, .ref (a 0)), (1, .int x1)] [] 0 := by
  unfold wp_M_isBarge at hw
  refine g_iload_n (pc := 0) C d_M_isBarge_0 1 rfl rfl ?_
  refine g_i2l (pc := 1) C d_M_isBarge_1 ?_
  refine g_topl (fun y1 ey1 => ?_)
  replace hw := hw y1 ey1
  refine g_lconst (pc := 2) C (v := 0) d_M_isBarge_2 (by decide) ?_
  refine g_aload_n (pc := 3) C d_M_isBarge_3 0 rfl rfl ?_
  refine fM_d (pc := 4) C lk_M_7 d_M_isBarge_4 ?_
  refine g_iconst (pc := 7) C (v := 4) d_M_isBarge_7 (by decide) ?_
  refine lM_d (pc := 8) C d_M_isBarge_8 (f := M_d m) rfl (N0 := 4) (by decide) (by unfold vp_in; decide) ?_
  refine g_iconst (pc := 9) C (v := 1) d_M_isBarge_9 (by decide) ?_
  refine g_isub (pc := 10) C d_M_isBarge_10 ?_
  refine g_i2l (pc := 11) C d_M_isBarge_11 ?_
  refine g_topl (fun y2 ey2 => ?_)
  replace hw := hw y2 ey2
  refine k_I0 (pc := 12) (co_S C (c_M_in (xl X) (xD X) (xt X) (xv X) y1 0 y2 _ hw) mw_M_in lk_M_58 d_M_isBarge_12 [] rfl (by decide)  rfl rfl ⟨Nat.le_of_ble_eq_true rfl, Nat.le_of_ble_eq_true rfl⟩ ⟨Nat.le_of_ble_eq_true rfl, Nat.le_of_ble_eq_true rfl⟩ (rest := []) rfl rfl (Nat.le_of_ble_eq_true rfl)) (fun v3 hw => ?_)
  obtain ⟨h4, hw⟩ := hw
  exact g_zret (pc := 15) C q d_M_isBarge_15 h4 (hq _ _ hw)
set_option maxRecDepth 20000 in
theorem c_M_isBarge (l : Launch) (D : va_G) (t : Nat → ClassId) (ev : Nat → Nat) (a : Nat → Nat) (m : MSt) (x1 : Int32) (post : Int32 → MSt → Prop) (hw : wp_M_isBarge m x1 post) : Con l D t ev y_M_isBarge b_M_isBarge 2 ((some .boolean)) 1 (woM t a m) [.ref (a 0), .int x1] (qI (woM t a)  post) :=
  ConR.of (by decide +kernel) (Nat.le_of_ble_eq_true rfl) (fun X el eD et ee C q _ => by subst el; subst eD; subst et; subst ee; exact g_M_isBarge C q a m x1 post (fun v c1 h => ⟨⟨v, c1, rfl, rfl, h⟩, rfl⟩) hw)
def wp_M_isLock (x0 : Int32) (post : Int32 → Prop) : Prop :=
  ∀ y1 : Int64, y1 = x0.toInt64 → (wp_M_in y1 0 9 (fun v2 => narrow .boolean (.int v2) = .int v2 ∧ post v2 ))
set_option maxRecDepth 20000 in
theorem g_M_isLock {X : GX} (C : GC X b_M_isLock R_M 1 (rmd 1)) {Qp : Option Value → va_W → Prop} (q : RC X ((some .boolean)) Qp 0 0) (x0 : Int32) (post : Int32 → Prop) (hq : ∀ v, post v → Qp (some (.int v)) []) (hw : wp_M_isLock x0 post) : G X 0 0 ([]) [(0, .int x0)] [] 0 := by
  unfold wp_M_isLock at hw
  refine g_iload_n (pc := 0) C d_M_isLock_0 0 rfl rfl ?_
  refine g_i2l (pc := 1) C d_M_isLock_1 ?_
  refine g_topl (fun y1 ey1 => ?_)
  replace hw := hw y1 ey1
  refine g_lconst (pc := 2) C (v := 0) d_M_isLock_2 (by decide) ?_
  refine g_ldc2_w (pc := 3) C (v := 9) d_M_isLock_3 lk_M_62 ?_
  refine k_I0 (pc := 6) (co_S C (c_M_in (xl X) (xD X) (xt X) (xv X) y1 0 9 _ hw) mw_M_in lk_M_58 d_M_isLock_6 [] rfl (by decide)  rfl rfl ⟨Nat.le_of_ble_eq_true rfl, Nat.le_of_ble_eq_true rfl⟩ ⟨Nat.le_of_ble_eq_true rfl, Nat.le_of_ble_eq_true rfl⟩ (rest := []) rfl rfl (Nat.le_of_ble_eq_true rfl)) (fun v2 hw => ?_)
  obtain ⟨h3, hw⟩ := hw
  exact g_zret (pc := 9) C q d_M_isLock_9 h3 (hq _ hw)
set_option maxRecDepth 20000 in
theorem c_M_isLock (l : Launch) (D : va_G) (t : Nat → ClassId) (ev : Nat → Nat) (x0 : Int32) (post : Int32 → Prop) (hw : wp_M_isLock x0 post) : Con l D t ev y_M_isLock b_M_isLock 1 ((some .boolean)) 1 ([]) [.int x0] (qI (fun _ : Unit => [])  (fun v _ => post v)) :=
  ConR.of (by decide +kernel) (Nat.le_of_ble_eq_true rfl) (fun X el eD et ee C q _ => by subst el; subst eD; subst et; subst ee; exact g_M_isLock C q x0 post (fun v h => ⟨⟨v, (), rfl, rfl, h⟩, rfl⟩) hw)
def wp_M_get (m : MSt) (x1 : Int32) (x2 : Int32) (post : Int32 → MSt → Prop) : Prop :=
  ∀ y1 : Int32, y1 = 27 + (8 * x2) → (∀ y2 : Int32, y2 = y1 + x1 → (vp_in y2 67 ∧ (post ((M_d m) y2.toNatClampNeg) m)))
set_option maxRecDepth 20000 in
theorem g_M_get {X : GX} (C : GC X b_M_get R_M 3 (rmd 0)) {Qp : Option Value → va_W → Prop} (q : RC X ((some .int)) Qp 0 0) (a : Nat → Nat) (m : MSt) (x1 : Int32) (x2 : Int32) (post : Int32 → MSt → Prop) (hq : ∀ v c1, post v c1 → Qp (some (.int v)) (woM (xt X) a c1)) (hw : wp_M_get m x1 x2 post) : G X 0 0 (woM (xt X) a m) [(0, .ref (a 0)), (1, .int x1), (2, .int x2)] [] 0 := by
  unfold wp_M_get at hw
  refine g_aload_n (pc := 0) C d_M_get_0 0 rfl rfl ?_
  refine fM_d (pc := 1) C lk_M_7 d_M_get_1 ?_
  refine g_bipush (pc := 4) C (v := 27) d_M_get_4 (by decide) ?_
  refine g_bipush (pc := 6) C (v := 8) d_M_get_6 (by decide) ?_
  refine g_iload_n (pc := 8) C d_M_get_8 2 rfl rfl ?_
  refine g_imul (pc := 9) C d_M_get_9 ?_
  refine g_iadd (pc := 10) C d_M_get_10 ?_
  refine g_topi (fun y1 ey1 => ?_)
  replace hw := hw y1 ey1
  refine g_iload_n (pc := 11) C d_M_get_11 1 rfl rfl ?_
  refine g_iadd (pc := 12) C d_M_get_12 ?_
  refine g_topi (fun y2 ey2 => ?_)
  replace hw := hw y2 ey2
  obtain ⟨h3, hw⟩ := hw
  refine lM_d (pc := 13) C d_M_get_13 (f := M_d m) rfl (N0 := y2.toNatClampNeg) rfl h3 ?_
  exact g_iret (pc := 14) C q d_M_get_14 (hq _ _ hw)
set_option maxRecDepth 20000 in
theorem c_M_get (l : Launch) (D : va_G) (t : Nat → ClassId) (ev : Nat → Nat) (a : Nat → Nat) (m : MSt) (x1 : Int32) (x2 : Int32) (post : Int32 → MSt → Prop) (hw : wp_M_get m x1 x2 post) : Con l D t ev y_M_get b_M_get 3 ((some .int)) 0 (woM t a m) [.ref (a 0), .int x1, .int x2] (qI (woM t a)  post) :=
  ConR.of (by decide +kernel) (Nat.le_of_ble_eq_true rfl) (fun X el eD et ee C q _ => by subst el; subst eD; subst et; subst ee; exact g_M_get C q a m x1 x2 post (fun v c1 h => ⟨⟨v, c1, rfl, rfl, h⟩, rfl⟩) hw)
def wp_M_puts (m : MSt) (x1 : Int32) (x2 : Int32) (x3 : Int32) (post : MSt → Prop) : Prop :=
  ∀ y1 : Int32, y1 = 27 + (8 * x2) → (∀ y2 : Int32, y2 = y1 + x1 → (vp_in y2 67 ∧ (post (M_d_ m (upd (M_d m) y2.toNatClampNeg x3)))))
set_option maxRecDepth 20000 in
theorem g_M_puts {X : GX} (C : GC X b_M_puts R_M 4 (rmd 0)) {Qp : Option Value → va_W → Prop} (q : RC X (none) Qp 0 0) (a : Nat → Nat) (m : MSt) (x1 : Int32) (x2 : Int32) (x3 : Int32) (post : MSt → Prop) (hq : ∀ c1, post c1 → Qp none (woM (xt X) a c1)) (hw : wp_M_puts m x1 x2 x3 post) : G X 0 0 (woM (xt X) a m) [(0, .ref (a 0)), (1, .int x1), (2, .int x2), (3, .int x3)] [] 0 := by
  unfold wp_M_puts at hw
  refine g_aload_n (pc := 0) C d_M_puts_0 0 rfl rfl ?_
  refine fM_d (pc := 1) C lk_M_7 d_M_puts_1 ?_
  refine g_bipush (pc := 4) C (v := 27) d_M_puts_4 (by decide) ?_
  refine g_bipush (pc := 6) C (v := 8) d_M_puts_6 (by decide) ?_
  refine g_iload_n (pc := 8) C d_M_puts_8 2 rfl rfl ?_
  refine g_imul (pc := 9) C d_M_puts_9 ?_
  refine g_iadd (pc := 10) C d_M_puts_10 ?_
  refine g_topi (fun y1 ey1 => ?_)
  replace hw := hw y1 ey1
  refine g_iload_n (pc := 11) C d_M_puts_11 1 rfl rfl ?_
  refine g_iadd (pc := 12) C d_M_puts_12 ?_
  refine g_topi (fun y2 ey2 => ?_)
  replace hw := hw y2 ey2
  refine g_iload_n (pc := 13) C d_M_puts_13 3 rfl rfl ?_
  obtain ⟨h3, hw⟩ := hw
  refine sM_d (pc := 14) C d_M_puts_14 (f := M_d m) rfl (N0 := y2.toNatClampNeg) rfl h3 ?_
  exact g_vret (pc := 15) C q d_M_puts_15 (hq (M_d_ m (upd (M_d m) y2.toNatClampNeg x3)) hw)
set_option maxRecDepth 20000 in
theorem c_M_puts (l : Launch) (D : va_G) (t : Nat → ClassId) (ev : Nat → Nat) (a : Nat → Nat) (m : MSt) (x1 : Int32) (x2 : Int32) (x3 : Int32) (post : MSt → Prop) (hw : wp_M_puts m x1 x2 x3 post) : Con l D t ev y_M_puts b_M_puts 4 (none) 0 (woM t a m) [.ref (a 0), .int x1, .int x2, .int x3] (qV (woM t a)  post) :=
  ConR.of (by decide +kernel) (Nat.le_of_ble_eq_true rfl) (fun X el eD et ee C q _ => by subst el; subst eD; subst et; subst ee; exact g_M_puts C q a m x1 x2 x3 post (fun c1 h => ⟨⟨c1, rfl, rfl, h⟩, rfl⟩) hw)
def wp_M_becomes (m : MSt) (x1 : Int32) (x2 : Int32) (post : Int32 → MSt → Prop) : Prop :=
  vp_in x1 67 ∧ (vp_in x1 67 ∧ (post ((M_d m) x1.toNatClampNeg) (M_d_ m (upd (M_d m) x1.toNatClampNeg x2))))
set_option maxRecDepth 20000 in
theorem g_M_becomes {X : GX} (C : GC X b_M_becomes R_M 4 (rmd 0)) {Qp : Option Value → va_W → Prop} (q : RC X ((some .int)) Qp 0 0) (a : Nat → Nat) (m : MSt) (x1 : Int32) (x2 : Int32) (post : Int32 → MSt → Prop) (hq : ∀ v c1, post v c1 → Qp (some (.int v)) (woM (xt X) a c1)) (hw : wp_M_becomes m x1 x2 post) : G X 0 0 (woM (xt X) a m) [(0, .ref (a 0)), (1, .int x1), (2, .int x2)] [] 0 := by
  unfold wp_M_becomes at hw
  refine g_aload_n (pc := 0) C d_M_becomes_0 0 rfl rfl ?_
  refine fM_d (pc := 1) C lk_M_7 d_M_becomes_1 ?_
  refine g_iload_n (pc := 4) C d_M_becomes_4 1 rfl rfl ?_
  obtain ⟨h1, hw⟩ := hw
  refine lM_d (pc := 5) C d_M_becomes_5 (f := M_d m) rfl (N0 := x1.toNatClampNeg) rfl h1 ?_
  refine g_istore_n (pc := 6) C d_M_becomes_6 rfl (Nat.le_of_ble_eq_true rfl) (lv' := [(0, .ref (a 0)), (1, .int x1), (2, .int x2), (3, .int ((M_d m) x1.toNatClampNeg))]) rfl ?_
  refine g_aload_n (pc := 7) C d_M_becomes_7 0 rfl rfl ?_
  refine fM_d (pc := 8) C lk_M_7 d_M_becomes_8 ?_
  refine g_iload_n (pc := 11) C d_M_becomes_11 1 rfl rfl ?_
  refine g_iload_n (pc := 12) C d_M_becomes_12 2 rfl rfl ?_
  obtain ⟨h2, hw⟩ := hw
  refine sM_d (pc := 13) C d_M_becomes_13 (f := M_d m) rfl (N0 := x1.toNatClampNeg) rfl h2 ?_
  refine g_iload_n (pc := 14) C d_M_becomes_14 3 rfl rfl ?_
  exact g_iret (pc := 15) C q d_M_becomes_15 (hq _ _ hw)
set_option maxRecDepth 20000 in
theorem c_M_becomes (l : Launch) (D : va_G) (t : Nat → ClassId) (ev : Nat → Nat) (a : Nat → Nat) (m : MSt) (x1 : Int32) (x2 : Int32) (post : Int32 → MSt → Prop) (hw : wp_M_becomes m x1 x2 post) : Con l D t ev y_M_becomes b_M_becomes 4 ((some .int)) 0 (woM t a m) [.ref (a 0), .int x1, .int x2] (qI (woM t a)  post) :=
  ConR.of (by decide +kernel) (Nat.le_of_ble_eq_true rfl) (fun X el eD et ee C q _ => by subst el; subst eD; subst et; subst ee; exact g_M_becomes C q a m x1 x2 post (fun v c1 h => ⟨⟨v, c1, rfl, rfl, h⟩, rfl⟩) hw)
def w_M_keepAside_2  (post : MSt → Prop)  : Nat → MSt → Int32 → Prop
  | 0, _, _ => False
  | n + 1, m, x1 =>
    ((67 ≤ x1) → (post m)) ∧ ((¬ 67 ≤ x1) → (vp_in x1 67 ∧ (vp_in x1 67 ∧ (∀ y3 : Int32, y3 = x1 + 1 → (w_M_keepAside_2  post  n (M_aside_ m (upd (M_aside m) x1.toNatClampNeg ((M_d m) x1.toNatClampNeg))) y3)))))
set_option maxRecDepth 20000 in
theorem j_M_keepAside_2 {X : GX} (C : GC X b_M_keepAside R_M 2 (rmd 0)) {Qp : Option Value → va_W → Prop} (q : RC X (none) Qp 0 0) (a : Nat → Nat)   (post : MSt → Prop) (hq : ∀ c1, post c1 → Qp none (woM (xt X) a c1)) : ∀ (n : Nat) (m : MSt) (x1 : Int32), w_M_keepAside_2  post  n m x1 → G X 0 0 (woM (xt X) a m) [(0, .ref (a 0)), (1, .int x1)] [] 2 := by
  intro n
  induction n with
  | zero => intro m x1 hw; exact hw.elim
  | succ n ih =>
    intro m x1 hw
    rw [w_M_keepAside_2] at hw
    refine g_iload_n (pc := 2) C d_M_keepAside_2 1 rfl rfl ?_
    refine g_bipush (pc := 3) C (v := 67) d_M_keepAside_3 (by decide) ?_
    refine g_icmp_ge (pc := 5) (tgt := 26) C d_M_keepAside_5 (by decide) (fun h4 => ?_) (fun h4 => ?_)
    · replace hw := hw.1 h4
      exact g_vret (pc := 26) C q d_M_keepAside_26 (hq m hw)
    · replace hw := hw.2 h4
      refine g_aload_n (pc := 8) C d_M_keepAside_8 0 rfl rfl ?_
      refine fM_aside (pc := 9) C lk_M_13 d_M_keepAside_9 ?_
      refine g_iload_n (pc := 12) C d_M_keepAside_12 1 rfl rfl ?_
      refine g_aload_n (pc := 13) C d_M_keepAside_13 0 rfl rfl ?_
      refine fM_d (pc := 14) C lk_M_7 d_M_keepAside_14 ?_
      refine g_iload_n (pc := 17) C d_M_keepAside_17 1 rfl rfl ?_
      obtain ⟨h1, hw⟩ := hw
      refine lM_d (pc := 18) C d_M_keepAside_18 (f := M_d m) rfl (N0 := x1.toNatClampNeg) rfl h1 ?_
      obtain ⟨h2, hw⟩ := hw
      refine sM_aside (pc := 19) C d_M_keepAside_19 (f := M_aside m) rfl (N0 := x1.toNatClampNeg) rfl h2 ?_
      obtain ⟨y3, ey3⟩ : ∃ w, w = x1 + 1 := ⟨_, rfl⟩
      replace hw := hw y3 ey3
      refine g_iinc (pc := 20) C d_M_keepAside_20 1 rfl (v := y3) (by rw [ey3]; rfl) (Nat.le_of_ble_eq_true rfl) (lv' := [(0, .ref (a 0)), (1, .int y3)]) rfl ?_
      refine g_goto (pc := 23) (tgt := 2) C d_M_keepAside_23 (by decide) ?_
      exact ih (M_aside_ m (upd (M_aside m) x1.toNatClampNeg ((M_d m) x1.toNatClampNeg))) y3 hw
def wp_M_keepAside (m : MSt) (post : MSt → Prop) : Prop :=
  w_M_keepAside_2  post  2000 m 0
set_option maxRecDepth 20000 in
theorem g_M_keepAside {X : GX} (C : GC X b_M_keepAside R_M 2 (rmd 0)) {Qp : Option Value → va_W → Prop} (q : RC X (none) Qp 0 0) (a : Nat → Nat) (m : MSt) (post : MSt → Prop) (hq : ∀ c1, post c1 → Qp none (woM (xt X) a c1)) (hw : wp_M_keepAside m post) : G X 0 0 (woM (xt X) a m) [(0, .ref (a 0))] [] 0 := by
  unfold wp_M_keepAside at hw
  refine g_iconst (pc := 0) C (v := 0) d_M_keepAside_0 (by decide) ?_
  refine g_istore_n (pc := 1) C d_M_keepAside_1 rfl (Nat.le_of_ble_eq_true rfl) (lv' := [(0, .ref (a 0)), (1, .int 0)]) rfl ?_
  exact j_M_keepAside_2 C q a post hq  2000 m 0 hw
set_option maxRecDepth 20000 in
theorem c_M_keepAside (l : Launch) (D : va_G) (t : Nat → ClassId) (ev : Nat → Nat) (a : Nat → Nat) (m : MSt) (post : MSt → Prop) (hw : wp_M_keepAside m post) : Con l D t ev y_M_keepAside b_M_keepAside 2 (none) 0 (woM t a m) [.ref (a 0)] (qV (woM t a)  post) :=
  ConR.of (by decide +kernel) (Nat.le_of_ble_eq_true rfl) (fun X el eD et ee C q _ => by subst el; subst eD; subst et; subst ee; exact g_M_keepAside C q a m post (fun c1 h => ⟨⟨c1, rfl, rfl, h⟩, rfl⟩) hw)
def w_M_putBack_2  (post : MSt → Prop)  : Nat → MSt → Int32 → Prop
  | 0, _, _ => False
  | n + 1, m, x1 =>
    ((67 ≤ x1) → (post m)) ∧ ((¬ 67 ≤ x1) → (vp_in x1 67 ∧ (vp_in x1 67 ∧ (∀ y3 : Int32, y3 = x1 + 1 → (w_M_putBack_2  post  n (M_d_ m (upd (M_d m) x1.toNatClampNeg ((M_aside m) x1.toNatClampNeg))) y3)))))
set_option maxRecDepth 20000 in
theorem j_M_putBack_2 {X : GX} (C : GC X b_M_putBack R_M 2 (rmd 0)) {Qp : Option Value → va_W → Prop} (q : RC X (none) Qp 0 0) (a : Nat → Nat)   (post : MSt → Prop) (hq : ∀ c1, post c1 → Qp none (woM (xt X) a c1)) : ∀ (n : Nat) (m : MSt) (x1 : Int32), w_M_putBack_2  post  n m x1 → G X 0 0 (woM (xt X) a m) [(0, .ref (a 0)), (1, .int x1)] [] 2 := by
  intro n
  induction n with
  | zero => intro m x1 hw; exact hw.elim
  | succ n ih =>
    intro m x1 hw
    rw [w_M_putBack_2] at hw
    refine g_iload_n (pc := 2) C d_M_putBack_2 1 rfl rfl ?_
    refine g_bipush (pc := 3) C (v := 67) d_M_putBack_3 (by decide) ?_
    refine g_icmp_ge (pc := 5) (tgt := 26) C d_M_putBack_5 (by decide) (fun h4 => ?_) (fun h4 => ?_)
    · replace hw := hw.1 h4
      exact g_vret (pc := 26) C q d_M_putBack_26 (hq m hw)
    · replace hw := hw.2 h4
      refine g_aload_n (pc := 8) C d_M_putBack_8 0 rfl rfl ?_
      refine fM_d (pc := 9) C lk_M_7 d_M_putBack_9 ?_
      refine g_iload_n (pc := 12) C d_M_putBack_12 1 rfl rfl ?_
      refine g_aload_n (pc := 13) C d_M_putBack_13 0 rfl rfl ?_
      refine fM_aside (pc := 14) C lk_M_13 d_M_putBack_14 ?_
      refine g_iload_n (pc := 17) C d_M_putBack_17 1 rfl rfl ?_
      obtain ⟨h1, hw⟩ := hw
      refine lM_aside (pc := 18) C d_M_putBack_18 (f := M_aside m) rfl (N0 := x1.toNatClampNeg) rfl h1 ?_
      obtain ⟨h2, hw⟩ := hw
      refine sM_d (pc := 19) C d_M_putBack_19 (f := M_d m) rfl (N0 := x1.toNatClampNeg) rfl h2 ?_
      obtain ⟨y3, ey3⟩ : ∃ w, w = x1 + 1 := ⟨_, rfl⟩
      replace hw := hw y3 ey3
      refine g_iinc (pc := 20) C d_M_putBack_20 1 rfl (v := y3) (by rw [ey3]; rfl) (Nat.le_of_ble_eq_true rfl) (lv' := [(0, .ref (a 0)), (1, .int y3)]) rfl ?_
      refine g_goto (pc := 23) (tgt := 2) C d_M_putBack_23 (by decide) ?_
      exact ih (M_d_ m (upd (M_d m) x1.toNatClampNeg ((M_aside m) x1.toNatClampNeg))) y3 hw
def wp_M_putBack (m : MSt) (post : MSt → Prop) : Prop :=
  w_M_putBack_2  post  2000 m 0
set_option maxRecDepth 20000 in
theorem g_M_putBack {X : GX} (C : GC X b_M_putBack R_M 2 (rmd 0)) {Qp : Option Value → va_W → Prop} (q : RC X (none) Qp 0 0) (a : Nat → Nat) (m : MSt) (post : MSt → Prop) (hq : ∀ c1, post c1 → Qp none (woM (xt X) a c1)) (hw : wp_M_putBack m post) : G X 0 0 (woM (xt X) a m) [(0, .ref (a 0))] [] 0 := by
  unfold wp_M_putBack at hw
  refine g_iconst (pc := 0) C (v := 0) d_M_putBack_0 (by decide) ?_
  refine g_istore_n (pc := 1) C d_M_putBack_1 rfl (Nat.le_of_ble_eq_true rfl) (lv' := [(0, .ref (a 0)), (1, .int 0)]) rfl ?_
  exact j_M_putBack_2 C q a post hq  2000 m 0 hw
set_option maxRecDepth 20000 in
theorem c_M_putBack (l : Launch) (D : va_G) (t : Nat → ClassId) (ev : Nat → Nat) (a : Nat → Nat) (m : MSt) (post : MSt → Prop) (hw : wp_M_putBack m post) : Con l D t ev y_M_putBack b_M_putBack 2 (none) 0 (woM t a m) [.ref (a 0)] (qV (woM t a)  post) :=
  ConR.of (by decide +kernel) (Nat.le_of_ble_eq_true rfl) (fun X el eD et ee C q _ => by subst el; subst eD; subst et; subst ee; exact g_M_putBack C q a m post (fun c1 h => ⟨⟨c1, rfl, rfl, h⟩, rfl⟩) hw)
def w_M_bits_4  (post : Int32 → Prop)  : Nat → Int32 → Int32 → Int32 → Prop
  | 0, _, _, _ => False
  | n + 1, x0, x1, x2 =>
    ((10 ≤ x2) → (post x1 )) ∧ ((¬ 10 ≤ x2) → (∀ y1 : Int32, y1 = x0 >>> (x2 &&& 31) → (∀ y2 : Int32, y2 = x1 + (y1 &&& 1) → (∀ y3 : Int32, y3 = x2 + 1 → (w_M_bits_4  post  n x0 y2 y3)))))
set_option maxRecDepth 20000 in
theorem j_M_bits_4 {X : GX} (C : GC X b_M_bits R_M 3 (rmd 0)) {Qp : Option Value → va_W → Prop} (q : RC X ((some .int)) Qp 0 0)    (post : Int32 → Prop) (hq : ∀ v, post v → Qp (some (.int v)) []) : ∀ (n : Nat) (x0 : Int32) (x1 : Int32) (x2 : Int32), w_M_bits_4  post  n x0 x1 x2 → G X 0 0 ([]) [(0, .int x0), (1, .int x1), (2, .int x2)] [] 4 := by
  intro n
  induction n with
  | zero => intro x0 x1 x2 hw; exact hw.elim
  | succ n ih =>
    intro x0 x1 x2 hw
    rw [w_M_bits_4] at hw
    refine g_iload_n (pc := 4) C d_M_bits_4 2 rfl rfl ?_
    refine g_bipush (pc := 5) C (v := 10) d_M_bits_5 (by decide) ?_
    refine g_icmp_ge (pc := 7) (tgt := 24) C d_M_bits_7 (by decide) (fun h4 => ?_) (fun h4 => ?_)
    · replace hw := hw.1 h4
      refine g_iload_n (pc := 24) C d_M_bits_24 1 rfl rfl ?_
      exact g_iret (pc := 25) C q d_M_bits_25 (hq _ hw)
    · replace hw := hw.2 h4
      refine g_iload_n (pc := 10) C d_M_bits_10 1 rfl rfl ?_
      refine g_iload_n (pc := 11) C d_M_bits_11 0 rfl rfl ?_
      refine g_iload_n (pc := 12) C d_M_bits_12 2 rfl rfl ?_
      refine g_ishr (pc := 13) C d_M_bits_13 ?_
      refine g_topi (fun y1 ey1 => ?_)
      replace hw := hw y1 ey1
      refine g_iconst (pc := 14) C (v := 1) d_M_bits_14 (by decide) ?_
      refine g_iand (pc := 15) C d_M_bits_15 ?_
      refine g_iadd (pc := 16) C d_M_bits_16 ?_
      refine g_topi (fun y2 ey2 => ?_)
      replace hw := hw y2 ey2
      refine g_istore_n (pc := 17) C d_M_bits_17 rfl (Nat.le_of_ble_eq_true rfl) (lv' := [(0, .int x0), (1, .int y2), (2, .int x2)]) rfl ?_
      obtain ⟨y3, ey3⟩ : ∃ w, w = x2 + 1 := ⟨_, rfl⟩
      replace hw := hw y3 ey3
      refine g_iinc (pc := 18) C d_M_bits_18 2 rfl (v := y3) (by rw [ey3]; rfl) (Nat.le_of_ble_eq_true rfl) (lv' := [(0, .int x0), (1, .int y2), (2, .int y3)]) rfl ?_
      refine g_goto (pc := 21) (tgt := 4) C d_M_bits_21 (by decide) ?_
      exact ih x0 y2 y3 hw
def wp_M_bits (x0 : Int32) (post : Int32 → Prop) : Prop :=
  w_M_bits_4  post  2000 x0 0 0
set_option maxRecDepth 20000 in
theorem g_M_bits {X : GX} (C : GC X b_M_bits R_M 3 (rmd 0)) {Qp : Option Value → va_W → Prop} (q : RC X ((some .int)) Qp 0 0) (x0 : Int32) (post : Int32 → Prop) (hq : ∀ v, post v → Qp (some (.int v)) []) (hw : wp_M_bits x0 post) : G X 0 0 ([]) [(0, .int x0)] [] 0 := by
  unfold wp_M_bits at hw
  refine g_iconst (pc := 0) C (v := 0) d_M_bits_0 (by decide) ?_
  refine g_istore_n (pc := 1) C d_M_bits_1 rfl (Nat.le_of_ble_eq_true rfl) (lv' := [(0, .int x0), (1, .int 0)]) rfl ?_
  refine g_iconst (pc := 2) C (v := 0) d_M_bits_2 (by decide) ?_
  refine g_istore_n (pc := 3) C d_M_bits_3 rfl (Nat.le_of_ble_eq_true rfl) (lv' := [(0, .int x0), (1, .int 0), (2, .int 0)]) rfl ?_
  exact j_M_bits_4 C q  post hq  2000 x0 0 0 hw
set_option maxRecDepth 20000 in
theorem c_M_bits (l : Launch) (D : va_G) (t : Nat → ClassId) (ev : Nat → Nat) (x0 : Int32) (post : Int32 → Prop) (hw : wp_M_bits x0 post) : Con l D t ev y_M_bits b_M_bits 3 ((some .int)) 0 ([]) [.int x0] (qI (fun _ : Unit => [])  (fun v _ => post v)) :=
  ConR.of (by decide +kernel) (Nat.le_of_ble_eq_true rfl) (fun X el eD et ee C q _ => by subst el; subst eD; subst et; subst ee; exact g_M_bits C q x0 post (fun v h => ⟨⟨v, (), rfl, rfl, h⟩, rfl⟩) hw)
def wp_M_pace (m : MSt) (x1 : Int32) (post : Int32 → MSt → Prop) : Prop :=
  wp_M_get m x1 0 (fun v1 m_2 => ((v1 = 2) → (post 2 m_2)) ∧ ((¬ v1 = 2) → (((v1 = 3) → (post 2 m_2)) ∧ ((¬ v1 = 3) → (((v1 = 4) → (∀ y3 : Int32, y3 = ((M_d m_2) 5) - ((M_d m_2) 5) / 2 * 2 → (((y3 = 1) → (post 1 m_2)) ∧ ((¬ y3 = 1) → (post 2 m_2))))) ∧ ((¬ v1 = 4) → (((v1 = 5) → (post (1 + ((M_d m_2) 2)) m_2)) ∧ ((¬ v1 = 5) → (post 1 m_2)))))))))
set_option maxRecDepth 20000 in
theorem g_M_pace {X : GX} (C : GC X b_M_pace R_M 2 (rmd 1)) {Qp : Option Value → va_W → Prop} (q : RC X ((some .int)) Qp 0 0) (a : Nat → Nat) (m : MSt) (x1 : Int32) (post : Int32 → MSt → Prop) (hq : ∀ v c1, post v c1 → Qp (some (.int v)) (woM (xt X) a c1)) (hw : wp_M_pace m x1 post) : G X 0 0 (woM (xt X) a m) [(0, .ref (a 0)), (1, .int x1)] [] 0 := by
  unfold wp_M_pace at hw
  refine g_aload_n (pc := 0) C d_M_pace_0 0 rfl rfl ?_
  refine g_iload_n (pc := 1) C d_M_pace_1 1 rfl rfl ?_
  refine g_iconst (pc := 2) C (v := 0) d_M_pace_2 (by decide) ?_
  refine k_Ia (pc := 3) (co_V C (c_M_get (xl X) (xD X) (xt X) (xv X) a m x1 0 _ hw) mw_M_get lk_M_64 d_M_pace_3 (List.range _) (all_C _) (all_nd _) (rec_w C 0 6 rfl rfl) rfl rfl ⟨Nat.le_of_ble_eq_true rfl, Nat.le_of_ble_eq_true rfl⟩ ⟨Nat.le_of_ble_eq_true rfl, Nat.le_of_ble_eq_true rfl⟩ (rest := []) rfl rfl (Nat.le_of_ble_eq_true rfl)) (fun v1 m_2 hw => ?_)
  by_cases h5 : v1 = 2
  · replace hw := hw.1 h5
    refine g_tabIn (pc := 6) (tgt := 36) C d_M_pace_6 (by rw [h5]; decide) (by rw [h5]; decide) (off := 30) (by rw [h5]; rfl) (by decide) ?_
    refine g_iconst (pc := 36) C (v := 2) d_M_pace_36 (by decide) ?_
    exact g_iret (pc := 37) C q d_M_pace_37 (hq _ _ hw)
  · replace hw := hw.2 h5
    by_cases h6 : v1 = 3
    · replace hw := hw.1 h6
      refine g_tabIn (pc := 6) (tgt := 36) C d_M_pace_6 (by rw [h6]; decide) (by rw [h6]; decide) (off := 30) (by rw [h6]; rfl) (by decide) ?_
      refine g_iconst (pc := 36) C (v := 2) d_M_pace_36 (by decide) ?_
      exact g_iret (pc := 37) C q d_M_pace_37 (hq _ _ hw)
    · replace hw := hw.2 h6
      by_cases h7 : v1 = 4
      · replace hw := hw.1 h7
        refine g_tabIn (pc := 6) (tgt := 38) C d_M_pace_6 (by rw [h7]; decide) (by rw [h7]; decide) (off := 32) (by rw [h7]; rfl) (by decide) ?_
        refine g_aload_n (pc := 38) C d_M_pace_38 0 rfl rfl ?_
        refine fM_d (pc := 39) C lk_M_7 d_M_pace_39 ?_
        refine g_iconst (pc := 42) C (v := 5) d_M_pace_42 (by decide) ?_
        refine lM_d (pc := 43) C d_M_pace_43 (f := M_d m_2) rfl (N0 := 5) (by decide) (by unfold vp_in; decide) ?_
        refine g_iconst (pc := 44) C (v := 2) d_M_pace_44 (by decide) ?_
        refine g_irem (pc := 45) C d_M_pace_45 (by decide) ?_
        refine g_topi (fun y3 ey3 => ?_)
        replace hw := hw y3 ey3
        refine g_iconst (pc := 46) C (v := 1) d_M_pace_46 (by decide) ?_
        refine g_icmp_ne (pc := 47) (tgt := 54) C d_M_pace_47 (by decide) (fun h4 => ?_) (fun h4 => ?_)
        · replace hw := hw.2 h4
          refine g_iconst (pc := 54) C (v := 2) d_M_pace_54 (by decide) ?_
          exact g_iret (pc := 55) C q d_M_pace_55 (hq _ _ hw)
        · replace hw := hw.1 h4
          refine g_iconst (pc := 50) C (v := 1) d_M_pace_50 (by decide) ?_
          refine g_goto (pc := 51) (tgt := 55) C d_M_pace_51 (by decide) ?_
          exact g_iret (pc := 55) C q d_M_pace_55 (hq _ _ hw)
      · replace hw := hw.2 h7
        by_cases h8 : v1 = 5
        · replace hw := hw.1 h8
          refine g_tabIn (pc := 6) (tgt := 56) C d_M_pace_6 (by rw [h8]; decide) (by rw [h8]; decide) (off := 50) (by rw [h8]; rfl) (by decide) ?_
          refine g_iconst (pc := 56) C (v := 1) d_M_pace_56 (by decide) ?_
          refine g_aload_n (pc := 57) C d_M_pace_57 0 rfl rfl ?_
          refine fM_d (pc := 58) C lk_M_7 d_M_pace_58 ?_
          refine g_iconst (pc := 61) C (v := 2) d_M_pace_61 (by decide) ?_
          refine lM_d (pc := 62) C d_M_pace_62 (f := M_d m_2) rfl (N0 := 2) (by decide) (by unfold vp_in; decide) ?_
          refine g_iadd (pc := 63) C d_M_pace_63 ?_
          exact g_iret (pc := 64) C q d_M_pace_64 (hq _ _ hw)
        · replace hw := hw.2 h8
          have h5_ := sw_ne (v := 2) h5 (by decide)
          have h6_ := sw_ne (v := 3) h6 (by decide)
          have h7_ := sw_ne (v := 4) h7 (by decide)
          have h8_ := sw_ne (v := 5) h8 (by decide)
          refine g_tabOut (pc := 6) (tgt := 65) C d_M_pace_6 (by omega) (by decide) ?_
          refine g_iconst (pc := 65) C (v := 1) d_M_pace_65 (by decide) ?_
          exact g_iret (pc := 66) C q d_M_pace_66 (hq _ _ hw)
set_option maxRecDepth 20000 in
theorem c_M_pace (l : Launch) (D : va_G) (t : Nat → ClassId) (ev : Nat → Nat) (a : Nat → Nat) (m : MSt) (x1 : Int32) (post : Int32 → MSt → Prop) (hw : wp_M_pace m x1 post) : Con l D t ev y_M_pace b_M_pace 2 ((some .int)) 1 (woM t a m) [.ref (a 0), .int x1] (qI (woM t a)  post) :=
  ConR.of (by decide +kernel) (Nat.le_of_ble_eq_true rfl) (fun X el eD et ee C q _ => by subst el; subst eD; subst et; subst ee; exact g_M_pace C q a m x1 post (fun v c1 h => ⟨⟨v, c1, rfl, rfl, h⟩, rfl⟩) hw)
def wp_M_spills (m : MSt) (x1 : Int32) (post : Int32 → MSt → Prop) : Prop :=
  wp_M_get m x1 3 (fun v1 m_2 => ∀ y3 : Int32, y3 = 7 + v1 → (vp_in y3 67 ∧ (wp_M_get m_2 x1 0 (fun v5 m_6 => ((v5 = 1) → (post (((M_d m_2) y3.toNatClampNeg) / 2) m_6)) ∧ ((¬ v5 = 1) → (((v5 = 2) → (post (((M_d m_2) y3.toNatClampNeg) - 1) m_6)) ∧ ((¬ v5 = 2) → (((v5 = 3) → (∀ y7 : Int32, y7 = ((M_d m_2) y3.toNatClampNeg) / 2 → (post (y7 - ((M_d m_6) 1)) m_6))) ∧ ((¬ v5 = 3) → (((v5 = 4) → (∀ y8 : Int32, y8 = ((M_d m_2) y3.toNatClampNeg) - 1 → (wp_M_get m_6 x1 1 (fun v9 m_10 => post (y8 + (v9 / 10)) m_10)))) ∧ ((¬ v5 = 4) → (((v5 = 5) → ((((((M_d m_6) 5) - ((M_d m_6) 5) / 3 * 3) = 0) → (∀ y11 : Int32, y11 = 2 * ((M_d m_2) y3.toNatClampNeg) → (post y11 m_6))) ∧ ((¬ (((M_d m_6) 5) - ((M_d m_6) 5) / 3 * 3) = 0) → (post 0 m_6)))) ∧ ((¬ v5 = 5) → (post ((M_d m_2) y3.toNatClampNeg) m_6))))))))))))))
set_option maxRecDepth 20000 in
theorem g_M_spills {X : GX} (C : GC X b_M_spills R_M 3 (rmd 1)) {Qp : Option Value → va_W → Prop} (q : RC X ((some .int)) Qp 0 0) (a : Nat → Nat) (m : MSt) (x1 : Int32) (post : Int32 → MSt → Prop) (hq : ∀ v c1, post v c1 → Qp (some (.int v)) (woM (xt X) a c1)) (hw : wp_M_spills m x1 post) : G X 0 0 (woM (xt X) a m) [(0, .ref (a 0)), (1, .int x1)] [] 0 := by
  unfold wp_M_spills at hw
  refine g_aload_n (pc := 0) C d_M_spills_0 0 rfl rfl ?_
  refine fM_d (pc := 1) C lk_M_7 d_M_spills_1 ?_
  refine g_bipush (pc := 4) C (v := 7) d_M_spills_4 (by decide) ?_
  refine g_aload_n (pc := 6) C d_M_spills_6 0 rfl rfl ?_
  refine g_iload_n (pc := 7) C d_M_spills_7 1 rfl rfl ?_
  refine g_iconst (pc := 8) C (v := 3) d_M_spills_8 (by decide) ?_
  refine k_Ia (pc := 9) (co_V C (c_M_get (xl X) (xD X) (xt X) (xv X) a m x1 3 _ hw) mw_M_get lk_M_64 d_M_spills_9 (List.range _) (all_C _) (all_nd _) (rec_w C 0 6 rfl rfl) rfl rfl ⟨Nat.le_of_ble_eq_true rfl, Nat.le_of_ble_eq_true rfl⟩ ⟨Nat.le_of_ble_eq_true rfl, Nat.le_of_ble_eq_true rfl⟩ (rest := [.int 7, .ref (a 1)]) rfl rfl (Nat.le_of_ble_eq_true rfl)) (fun v1 m_2 hw => ?_)
  refine g_iadd (pc := 12) C d_M_spills_12 ?_
  refine g_topi (fun y3 ey3 => ?_)
  replace hw := hw y3 ey3
  obtain ⟨h4, hw⟩ := hw
  refine lM_d (pc := 13) C d_M_spills_13 (f := M_d m_2) rfl (N0 := y3.toNatClampNeg) rfl h4 ?_
  refine g_istore_n (pc := 14) C d_M_spills_14 rfl (Nat.le_of_ble_eq_true rfl) (lv' := [(0, .ref (a 0)), (1, .int x1), (2, .int ((M_d m_2) y3.toNatClampNeg))]) rfl ?_
  refine g_aload_n (pc := 15) C d_M_spills_15 0 rfl rfl ?_
  refine g_iload_n (pc := 16) C d_M_spills_16 1 rfl rfl ?_
  refine g_iconst (pc := 17) C (v := 0) d_M_spills_17 (by decide) ?_
  refine k_Ia (pc := 18) (co_V C (c_M_get (xl X) (xD X) (xt X) (xv X) a m_2 x1 0 _ hw) mw_M_get lk_M_64 d_M_spills_18 (List.range _) (all_C _) (all_nd _) (rec_w C 0 6 rfl rfl) rfl rfl ⟨Nat.le_of_ble_eq_true rfl, Nat.le_of_ble_eq_true rfl⟩ ⟨Nat.le_of_ble_eq_true rfl, Nat.le_of_ble_eq_true rfl⟩ (rest := []) rfl rfl (Nat.le_of_ble_eq_true rfl)) (fun v5 m_6 hw => ?_)
  by_cases h13 : v5 = 1
  · replace hw := hw.1 h13
    refine g_tabIn (pc := 21) (tgt := 56) C d_M_spills_21 (by rw [h13]; decide) (by rw [h13]; decide) (off := 35) (by rw [h13]; rfl) (by decide) ?_
    refine g_iload_n (pc := 56) C d_M_spills_56 2 rfl rfl ?_
    refine g_iconst (pc := 57) C (v := 2) d_M_spills_57 (by decide) ?_
    refine g_idiv (pc := 58) C d_M_spills_58 (by decide) ?_
    exact g_iret (pc := 59) C q d_M_spills_59 (hq _ _ hw)
  · replace hw := hw.2 h13
    by_cases h14 : v5 = 2
    · replace hw := hw.1 h14
      refine g_tabIn (pc := 21) (tgt := 71) C d_M_spills_21 (by rw [h14]; decide) (by rw [h14]; decide) (off := 50) (by rw [h14]; rfl) (by decide) ?_
      refine g_iload_n (pc := 71) C d_M_spills_71 2 rfl rfl ?_
      refine g_iconst (pc := 72) C (v := 1) d_M_spills_72 (by decide) ?_
      refine g_isub (pc := 73) C d_M_spills_73 ?_
      exact g_iret (pc := 74) C q d_M_spills_74 (hq _ _ hw)
    · replace hw := hw.2 h14
      by_cases h15 : v5 = 3
      · replace hw := hw.1 h15
        refine g_tabIn (pc := 21) (tgt := 60) C d_M_spills_21 (by rw [h15]; decide) (by rw [h15]; decide) (off := 39) (by rw [h15]; rfl) (by decide) ?_
        refine g_iload_n (pc := 60) C d_M_spills_60 2 rfl rfl ?_
        refine g_iconst (pc := 61) C (v := 2) d_M_spills_61 (by decide) ?_
        refine g_idiv (pc := 62) C d_M_spills_62 (by decide) ?_
        refine g_topi (fun y7 ey7 => ?_)
        replace hw := hw y7 ey7
        refine g_aload_n (pc := 63) C d_M_spills_63 0 rfl rfl ?_
        refine fM_d (pc := 64) C lk_M_7 d_M_spills_64 ?_
        refine g_iconst (pc := 67) C (v := 1) d_M_spills_67 (by decide) ?_
        refine lM_d (pc := 68) C d_M_spills_68 (f := M_d m_6) rfl (N0 := 1) (by decide) (by unfold vp_in; decide) ?_
        refine g_isub (pc := 69) C d_M_spills_69 ?_
        exact g_iret (pc := 70) C q d_M_spills_70 (hq _ _ hw)
      · replace hw := hw.2 h15
        by_cases h16 : v5 = 4
        · replace hw := hw.1 h16
          refine g_tabIn (pc := 21) (tgt := 75) C d_M_spills_21 (by rw [h16]; decide) (by rw [h16]; decide) (off := 54) (by rw [h16]; rfl) (by decide) ?_
          refine g_iload_n (pc := 75) C d_M_spills_75 2 rfl rfl ?_
          refine g_iconst (pc := 76) C (v := 1) d_M_spills_76 (by decide) ?_
          refine g_isub (pc := 77) C d_M_spills_77 ?_
          refine g_topi (fun y8 ey8 => ?_)
          replace hw := hw y8 ey8
          refine g_aload_n (pc := 78) C d_M_spills_78 0 rfl rfl ?_
          refine g_iload_n (pc := 79) C d_M_spills_79 1 rfl rfl ?_
          refine g_iconst (pc := 80) C (v := 1) d_M_spills_80 (by decide) ?_
          refine k_Ia (pc := 81) (co_V C (c_M_get (xl X) (xD X) (xt X) (xv X) a m_6 x1 1 _ hw) mw_M_get lk_M_64 d_M_spills_81 (List.range _) (all_C _) (all_nd _) (rec_w C 0 6 rfl rfl) rfl rfl ⟨Nat.le_of_ble_eq_true rfl, Nat.le_of_ble_eq_true rfl⟩ ⟨Nat.le_of_ble_eq_true rfl, Nat.le_of_ble_eq_true rfl⟩ (rest := [.int y8]) rfl rfl (Nat.le_of_ble_eq_true rfl)) (fun v9 m_10 hw => ?_)
          refine g_bipush (pc := 84) C (v := 10) d_M_spills_84 (by decide) ?_
          refine g_idiv (pc := 86) C d_M_spills_86 (by decide) ?_
          refine g_iadd (pc := 87) C d_M_spills_87 ?_
          exact g_iret (pc := 88) C q d_M_spills_88 (hq _ _ hw)
        · replace hw := hw.2 h16
          by_cases h17 : v5 = 5
          · replace hw := hw.1 h17
            refine g_tabIn (pc := 21) (tgt := 89) C d_M_spills_21 (by rw [h17]; decide) (by rw [h17]; decide) (off := 68) (by rw [h17]; rfl) (by decide) ?_
            refine g_aload_n (pc := 89) C d_M_spills_89 0 rfl rfl ?_
            refine fM_d (pc := 90) C lk_M_7 d_M_spills_90 ?_
            refine g_iconst (pc := 93) C (v := 5) d_M_spills_93 (by decide) ?_
            refine lM_d (pc := 94) C d_M_spills_94 (f := M_d m_6) rfl (N0 := 5) (by decide) (by unfold vp_in; decide) ?_
            refine g_iconst (pc := 95) C (v := 3) d_M_spills_95 (by decide) ?_
            refine g_irem (pc := 96) C d_M_spills_96 (by decide) ?_
            refine g_if_ne (pc := 97) (tgt := 106) C d_M_spills_97 (by decide) (fun h12 => ?_) (fun h12 => ?_)
            · replace hw := hw.2 h12
              refine g_iconst (pc := 106) C (v := 0) d_M_spills_106 (by decide) ?_
              exact g_iret (pc := 107) C q d_M_spills_107 (hq _ _ hw)
            · replace hw := hw.1 h12
              refine g_iconst (pc := 100) C (v := 2) d_M_spills_100 (by decide) ?_
              refine g_iload_n (pc := 101) C d_M_spills_101 2 rfl rfl ?_
              refine g_imul (pc := 102) C d_M_spills_102 ?_
              refine g_topi (fun y11 ey11 => ?_)
              replace hw := hw y11 ey11
              refine g_goto (pc := 103) (tgt := 107) C d_M_spills_103 (by decide) ?_
              exact g_iret (pc := 107) C q d_M_spills_107 (hq _ _ hw)
          · replace hw := hw.2 h17
            have h13_ := sw_ne (v := 1) h13 (by decide)
            have h14_ := sw_ne (v := 2) h14 (by decide)
            have h15_ := sw_ne (v := 3) h15 (by decide)
            have h16_ := sw_ne (v := 4) h16 (by decide)
            have h17_ := sw_ne (v := 5) h17 (by decide)
            refine g_tabOut (pc := 21) (tgt := 108) C d_M_spills_21 (by omega) (by decide) ?_
            refine g_iload_n (pc := 108) C d_M_spills_108 2 rfl rfl ?_
            exact g_iret (pc := 109) C q d_M_spills_109 (hq _ _ hw)
set_option maxRecDepth 20000 in
theorem c_M_spills (l : Launch) (D : va_G) (t : Nat → ClassId) (ev : Nat → Nat) (a : Nat → Nat) (m : MSt) (x1 : Int32) (post : Int32 → MSt → Prop) (hw : wp_M_spills m x1 post) : Con l D t ev y_M_spills b_M_spills 3 ((some .int)) 1 (woM t a m) [.ref (a 0), .int x1] (qI (woM t a)  post) :=
  ConR.of (by decide +kernel) (Nat.le_of_ble_eq_true rfl) (fun X el eD et ee C q _ => by subst el; subst eD; subst et; subst ee; exact g_M_spills C q a m x1 post (fun v c1 h => ⟨⟨v, c1, rfl, rfl, h⟩, rfl⟩) hw)
def wp_M_hasLanded (m : MSt) (x1 : Int32) (post : Int32 → MSt → Prop) : Prop :=
  wp_M_get m x1 3 (fun v1 m_2 => wp_M_get m_2 x1 4 (fun v3 m_4 => ((v1 = v3) → (post 1 m_4)) ∧ ((¬ v1 = v3) → (post 0 m_4))))
set_option maxRecDepth 20000 in
theorem g_M_hasLanded {X : GX} (C : GC X b_M_hasLanded R_M 2 (rmd 1)) {Qp : Option Value → va_W → Prop} (q : RC X ((some .boolean)) Qp 0 0) (a : Nat → Nat) (m : MSt) (x1 : Int32) (post : Int32 → MSt → Prop) (hq : ∀ v c1, post v c1 → Qp (some (.int v)) (woM (xt X) a c1)) (hw : wp_M_hasLanded m x1 post) : G X 0 0 (woM (xt X) a m) [(0, .ref (a 0)), (1, .int x1)] [] 0 := by
  unfold wp_M_hasLanded at hw
  refine g_aload_n (pc := 0) C d_M_hasLanded_0 0 rfl rfl ?_
  refine g_iload_n (pc := 1) C d_M_hasLanded_1 1 rfl rfl ?_
  refine g_iconst (pc := 2) C (v := 3) d_M_hasLanded_2 (by decide) ?_
  refine k_Ia (pc := 3) (co_V C (c_M_get (xl X) (xD X) (xt X) (xv X) a m x1 3 _ hw) mw_M_get lk_M_64 d_M_hasLanded_3 (List.range _) (all_C _) (all_nd _) (rec_w C 0 6 rfl rfl) rfl rfl ⟨Nat.le_of_ble_eq_true rfl, Nat.le_of_ble_eq_true rfl⟩ ⟨Nat.le_of_ble_eq_true rfl, Nat.le_of_ble_eq_true rfl⟩ (rest := []) rfl rfl (Nat.le_of_ble_eq_true rfl)) (fun v1 m_2 hw => ?_)
  refine g_aload_n (pc := 6) C d_M_hasLanded_6 0 rfl rfl ?_
  refine g_iload_n (pc := 7) C d_M_hasLanded_7 1 rfl rfl ?_
  refine g_iconst (pc := 8) C (v := 4) d_M_hasLanded_8 (by decide) ?_
  refine k_Ia (pc := 9) (co_V C (c_M_get (xl X) (xD X) (xt X) (xv X) a m_2 x1 4 _ hw) mw_M_get lk_M_64 d_M_hasLanded_9 (List.range _) (all_C _) (all_nd _) (rec_w C 0 6 rfl rfl) rfl rfl ⟨Nat.le_of_ble_eq_true rfl, Nat.le_of_ble_eq_true rfl⟩ ⟨Nat.le_of_ble_eq_true rfl, Nat.le_of_ble_eq_true rfl⟩ (rest := [.int v1]) rfl rfl (Nat.le_of_ble_eq_true rfl)) (fun v3 m_4 hw => ?_)
  refine g_icmp_ne (pc := 12) (tgt := 19) C d_M_hasLanded_12 (by decide) (fun h5 => ?_) (fun h5 => ?_)
  · replace hw := hw.2 h5
    refine g_iconst (pc := 19) C (v := 0) d_M_hasLanded_19 (by decide) ?_
    exact g_zret (pc := 20) C q d_M_hasLanded_20 (by decide) (hq _ _ hw)
  · replace hw := hw.1 h5
    refine g_iconst (pc := 15) C (v := 1) d_M_hasLanded_15 (by decide) ?_
    refine g_goto (pc := 16) (tgt := 20) C d_M_hasLanded_16 (by decide) ?_
    exact g_zret (pc := 20) C q d_M_hasLanded_20 (by decide) (hq _ _ hw)
set_option maxRecDepth 20000 in
theorem c_M_hasLanded (l : Launch) (D : va_G) (t : Nat → ClassId) (ev : Nat → Nat) (a : Nat → Nat) (m : MSt) (x1 : Int32) (post : Int32 → MSt → Prop) (hw : wp_M_hasLanded m x1 post) : Con l D t ev y_M_hasLanded b_M_hasLanded 2 ((some .boolean)) 1 (woM t a m) [.ref (a 0), .int x1] (qI (woM t a)  post) :=
  ConR.of (by decide +kernel) (Nat.le_of_ble_eq_true rfl) (fun X el eD et ee C q _ => by subst el; subst eD; subst et; subst ee; exact g_M_hasLanded C q a m x1 post (fun v c1 h => ⟨⟨v, c1, rfl, rfl, h⟩, rfl⟩) hw)
def wp_M_spilt (m : MSt) (x1 : Int32) (x2 : Int32) (post : MSt → Prop) : Prop :=
  wp_M_get m x1 1 (fun v1 m_2 => ∀ y3 : Int32, y3 = v1 - x2 → (wp_M_held y3 0 99 (fun v4 => wp_M_puts m_2 x1 1 v4 (fun m_5 => wp_M_get m_5 x1 1 (fun v6 m_7 => ∀ y8 : Int32, y8 = v1 - v6 → (wp_M_get m_7 x1 3 (fun v9 m_10 => ∀ y11 : Int32, y11 = 17 + v9 → (vp_in y11 67 ∧ (((y8 ≤ 0) → (∀ y13 : Int32, y13 = ((M_d m_10) y11.toNatClampNeg) + 0 → (wp_M_held y13 0 9999 (fun v14 => vp_in y11 67 ∧ (post (M_d_ m_10 (upd (M_d m_10) y11.toNatClampNeg v14))))))) ∧ ((¬ y8 ≤ 0) → (∀ y16 : Int32, y16 = ((M_d m_10) y11.toNatClampNeg) + y8 → (wp_M_held y16 0 9999 (fun v17 => vp_in y11 67 ∧ (post (M_d_ m_10 (upd (M_d m_10) y11.toNatClampNeg v17))))))))))))))))
set_option maxRecDepth 20000 in
theorem g_M_spilt {X : GX} (C : GC X b_M_spilt R_M 6 (rmd 1)) {Qp : Option Value → va_W → Prop} (q : RC X (none) Qp 0 0) (a : Nat → Nat) (m : MSt) (x1 : Int32) (x2 : Int32) (post : MSt → Prop) (hq : ∀ c1, post c1 → Qp none (woM (xt X) a c1)) (hw : wp_M_spilt m x1 x2 post) : G X 0 0 (woM (xt X) a m) [(0, .ref (a 0)), (1, .int x1), (2, .int x2)] [] 0 := by
  unfold wp_M_spilt at hw
  refine g_aload_n (pc := 0) C d_M_spilt_0 0 rfl rfl ?_
  refine g_iload_n (pc := 1) C d_M_spilt_1 1 rfl rfl ?_
  refine g_iconst (pc := 2) C (v := 1) d_M_spilt_2 (by decide) ?_
  refine k_Ia (pc := 3) (co_V C (c_M_get (xl X) (xD X) (xt X) (xv X) a m x1 1 _ hw) mw_M_get lk_M_64 d_M_spilt_3 (List.range _) (all_C _) (all_nd _) (rec_w C 0 6 rfl rfl) rfl rfl ⟨Nat.le_of_ble_eq_true rfl, Nat.le_of_ble_eq_true rfl⟩ ⟨Nat.le_of_ble_eq_true rfl, Nat.le_of_ble_eq_true rfl⟩ (rest := []) rfl rfl (Nat.le_of_ble_eq_true rfl)) (fun v1 m_2 hw => ?_)
  refine g_istore_n (pc := 6) C d_M_spilt_6 rfl (Nat.le_of_ble_eq_true rfl) (lv' := [(0, .ref (a 0)), (1, .int x1), (2, .int x2), (3, .int v1)]) rfl ?_
  refine g_aload_n (pc := 7) C d_M_spilt_7 0 rfl rfl ?_
  refine g_iload_n (pc := 8) C d_M_spilt_8 1 rfl rfl ?_
  refine g_iconst (pc := 9) C (v := 1) d_M_spilt_9 (by decide) ?_
  refine g_iload_n (pc := 10) C d_M_spilt_10 3 rfl rfl ?_
  refine g_iload_n (pc := 11) C d_M_spilt_11 2 rfl rfl ?_
  refine g_isub (pc := 12) C d_M_spilt_12 ?_
  refine g_topi (fun y3 ey3 => ?_)
  replace hw := hw y3 ey3
  refine g_iconst (pc := 13) C (v := 0) d_M_spilt_13 (by decide) ?_
  refine g_bipush (pc := 14) C (v := 99) d_M_spilt_14 (by decide) ?_
  refine k_I0 (pc := 16) (co_S C (c_M_held (xl X) (xD X) (xt X) (xv X) y3 0 99 _ hw) mw_M_held lk_M_68 d_M_spilt_16 [] rfl (by decide)  rfl rfl ⟨Nat.le_of_ble_eq_true rfl, Nat.le_of_ble_eq_true rfl⟩ ⟨Nat.le_of_ble_eq_true rfl, Nat.le_of_ble_eq_true rfl⟩ (rest := [.int 1, .int x1, .ref (a 0)]) rfl rfl (Nat.le_of_ble_eq_true rfl)) (fun v4 hw => ?_)
  refine k_Va (pc := 19) (co_V C (c_M_puts (xl X) (xD X) (xt X) (xv X) a m_2 x1 1 v4 _ hw) mw_M_puts lk_M_72 d_M_spilt_19 (List.range _) (all_C _) (all_nd _) (rec_w C 0 6 rfl rfl) rfl rfl ⟨Nat.le_of_ble_eq_true rfl, Nat.le_of_ble_eq_true rfl⟩ ⟨Nat.le_of_ble_eq_true rfl, Nat.le_of_ble_eq_true rfl⟩ (rest := []) rfl rfl (Nat.le_of_ble_eq_true rfl)) (fun m_5 hw => ?_)
  refine g_iload_n (pc := 22) C d_M_spilt_22 3 rfl rfl ?_
  refine g_aload_n (pc := 23) C d_M_spilt_23 0 rfl rfl ?_
  refine g_iload_n (pc := 24) C d_M_spilt_24 1 rfl rfl ?_
  refine g_iconst (pc := 25) C (v := 1) d_M_spilt_25 (by decide) ?_
  refine k_Ia (pc := 26) (co_V C (c_M_get (xl X) (xD X) (xt X) (xv X) a m_5 x1 1 _ hw) mw_M_get lk_M_64 d_M_spilt_26 (List.range _) (all_C _) (all_nd _) (rec_w C 0 6 rfl rfl) rfl rfl ⟨Nat.le_of_ble_eq_true rfl, Nat.le_of_ble_eq_true rfl⟩ ⟨Nat.le_of_ble_eq_true rfl, Nat.le_of_ble_eq_true rfl⟩ (rest := [.int v1]) rfl rfl (Nat.le_of_ble_eq_true rfl)) (fun v6 m_7 hw => ?_)
  refine g_isub (pc := 29) C d_M_spilt_29 ?_
  refine g_topi (fun y8 ey8 => ?_)
  replace hw := hw y8 ey8
  refine g_istore (pc := 30) C d_M_spilt_30 (Nat.le_of_ble_eq_true rfl) (lv' := [(0, .ref (a 0)), (1, .int x1), (2, .int x2), (3, .int v1), (4, .int y8)]) rfl ?_
  refine g_bipush (pc := 32) C (v := 17) d_M_spilt_32 (by decide) ?_
  refine g_aload_n (pc := 34) C d_M_spilt_34 0 rfl rfl ?_
  refine g_iload_n (pc := 35) C d_M_spilt_35 1 rfl rfl ?_
  refine g_iconst (pc := 36) C (v := 3) d_M_spilt_36 (by decide) ?_
  refine k_Ia (pc := 37) (co_V C (c_M_get (xl X) (xD X) (xt X) (xv X) a m_7 x1 3 _ hw) mw_M_get lk_M_64 d_M_spilt_37 (List.range _) (all_C _) (all_nd _) (rec_w C 0 6 rfl rfl) rfl rfl ⟨Nat.le_of_ble_eq_true rfl, Nat.le_of_ble_eq_true rfl⟩ ⟨Nat.le_of_ble_eq_true rfl, Nat.le_of_ble_eq_true rfl⟩ (rest := [.int 17]) rfl rfl (Nat.le_of_ble_eq_true rfl)) (fun v9 m_10 hw => ?_)
  refine g_iadd (pc := 40) C d_M_spilt_40 ?_
  refine g_topi (fun y11 ey11 => ?_)
  replace hw := hw y11 ey11
  refine g_istore (pc := 41) C d_M_spilt_41 (Nat.le_of_ble_eq_true rfl) (lv' := [(0, .ref (a 0)), (1, .int x1), (2, .int x2), (3, .int v1), (4, .int y8), (5, .int y11)]) rfl ?_
  refine g_aload_n (pc := 43) C d_M_spilt_43 0 rfl rfl ?_
  refine fM_d (pc := 44) C lk_M_7 d_M_spilt_44 ?_
  refine g_iload (pc := 47) C d_M_spilt_47 5 rfl ?_
  refine g_aload_n (pc := 49) C d_M_spilt_49 0 rfl rfl ?_
  refine fM_d (pc := 50) C lk_M_7 d_M_spilt_50 ?_
  refine g_iload (pc := 53) C d_M_spilt_53 5 rfl ?_
  obtain ⟨h12, hw⟩ := hw
  refine lM_d (pc := 55) C d_M_spilt_55 (f := M_d m_10) rfl (N0 := y11.toNatClampNeg) rfl h12 ?_
  refine g_iload (pc := 56) C d_M_spilt_56 4 rfl ?_
  refine g_if_le (pc := 58) (tgt := 66) C d_M_spilt_58 (by decide) (fun h19 => ?_) (fun h19 => ?_)
  · replace hw := hw.1 h19
    refine g_iconst (pc := 66) C (v := 0) d_M_spilt_66 (by decide) ?_
    refine g_iadd (pc := 67) C d_M_spilt_67 ?_
    refine g_topi (fun y13 ey13 => ?_)
    replace hw := hw y13 ey13
    refine g_iconst (pc := 68) C (v := 0) d_M_spilt_68 (by decide) ?_
    refine g_sipush (pc := 69) C (v := 9999) d_M_spilt_69 (by decide) ?_
    refine k_I0 (pc := 72) (co_S C (c_M_held (xl X) (xD X) (xt X) (xv X) y13 0 9999 _ hw) mw_M_held lk_M_68 d_M_spilt_72 [] rfl (by decide)  rfl rfl ⟨Nat.le_of_ble_eq_true rfl, Nat.le_of_ble_eq_true rfl⟩ ⟨Nat.le_of_ble_eq_true rfl, Nat.le_of_ble_eq_true rfl⟩ (rest := [.int y11, .ref (a 1)]) rfl rfl (Nat.le_of_ble_eq_true rfl)) (fun v14 hw => ?_)
    obtain ⟨h15, hw⟩ := hw
    refine sM_d (pc := 75) C d_M_spilt_75 (f := M_d m_10) rfl (N0 := y11.toNatClampNeg) rfl h15 ?_
    exact g_vret (pc := 76) C q d_M_spilt_76 (hq (M_d_ m_10 (upd (M_d m_10) y11.toNatClampNeg v14)) hw)
  · replace hw := hw.2 h19
    refine g_iload (pc := 61) C d_M_spilt_61 4 rfl ?_
    refine g_goto (pc := 63) (tgt := 67) C d_M_spilt_63 (by decide) ?_
    refine g_iadd (pc := 67) C d_M_spilt_67 ?_
    refine g_topi (fun y16 ey16 => ?_)
    replace hw := hw y16 ey16
    refine g_iconst (pc := 68) C (v := 0) d_M_spilt_68 (by decide) ?_
    refine g_sipush (pc := 69) C (v := 9999) d_M_spilt_69 (by decide) ?_
    refine k_I0 (pc := 72) (co_S C (c_M_held (xl X) (xD X) (xt X) (xv X) y16 0 9999 _ hw) mw_M_held lk_M_68 d_M_spilt_72 [] rfl (by decide)  rfl rfl ⟨Nat.le_of_ble_eq_true rfl, Nat.le_of_ble_eq_true rfl⟩ ⟨Nat.le_of_ble_eq_true rfl, Nat.le_of_ble_eq_true rfl⟩ (rest := [.int y11, .ref (a 1)]) rfl rfl (Nat.le_of_ble_eq_true rfl)) (fun v17 hw => ?_)
    obtain ⟨h18, hw⟩ := hw
    refine sM_d (pc := 75) C d_M_spilt_75 (f := M_d m_10) rfl (N0 := y11.toNatClampNeg) rfl h18 ?_
    exact g_vret (pc := 76) C q d_M_spilt_76 (hq (M_d_ m_10 (upd (M_d m_10) y11.toNatClampNeg v17)) hw)
set_option maxRecDepth 20000 in
theorem c_M_spilt (l : Launch) (D : va_G) (t : Nat → ClassId) (ev : Nat → Nat) (a : Nat → Nat) (m : MSt) (x1 : Int32) (x2 : Int32) (post : MSt → Prop) (hw : wp_M_spilt m x1 x2 post) : Con l D t ev y_M_spilt b_M_spilt 6 (none) 1 (woM t a m) [.ref (a 0), .int x1, .int x2] (qV (woM t a)  post) :=
  ConR.of (by decide +kernel) (Nat.le_of_ble_eq_true rfl) (fun X el eD et ee C q _ => by subst el; subst eD; subst et; subst ee; exact g_M_spilt C q a m x1 x2 post (fun c1 h => ⟨⟨c1, rfl, rfl, h⟩, rfl⟩) hw)
def w_M_goes_69  (post : MSt → Prop)  : Nat → MSt → Int32 → Int32 → Prop
  | 0, _, _, _ => False
  | n + 1, m, x1, x2 =>
    ((((M_d m) 4) ≤ x2) → (post m)) ∧ ((¬ ((M_d m) 4) ≤ x2) → (((x2 = x1) → (∀ y3 : Int32, y3 = x2 + 1 → (w_M_goes_69  post  n m x1 y3))) ∧ ((¬ x2 = x1) → (wp_M_get m x2 3 (fun v4 m_5 => wp_M_get m_5 x1 3 (fun v6 m_7 => ((v4 = v6) → (wp_M_get m_7 x2 2 (fun v9 m_10 => wp_M_get m_10 x1 2 (fun v11 m_12 => ((v9 = v11) → (∀ y13 : Int32, y13 = x2 + 1 → (w_M_goes_69  post  n m_12 x1 y13))) ∧ ((¬ v9 = v11) → (wp_M_hasLanded m_12 x2 (fun v14 m_15 => ((v14 = 0) → (wp_M_spilt m_15 x1 ((M_d m_15) 0) (fun m_17 => wp_M_spilt m_17 x2 ((M_d m_17) 0) (fun m_18 => ∀ y19 : Int32, y19 = x2 + 1 → (w_M_goes_69  post  n m_18 x1 y19))))) ∧ ((¬ v14 = 0) → (∀ y16 : Int32, y16 = x2 + 1 → (w_M_goes_69  post  n m_15 x1 y16)))))))))) ∧ ((¬ v4 = v6) → (∀ y8 : Int32, y8 = x2 + 1 → (w_M_goes_69  post  n m_7 x1 y8)))))))))
set_option maxRecDepth 20000 in
theorem j_M_goes_69 {X : GX} (C : GC X b_M_goes R_M 3 (rmd 2)) {Qp : Option Value → va_W → Prop} (q : RC X (none) Qp 0 0) (a : Nat → Nat)   (post : MSt → Prop) (hq : ∀ c1, post c1 → Qp none (woM (xt X) a c1)) : ∀ (n : Nat) (m : MSt) (x1 : Int32) (x2 : Int32), w_M_goes_69  post  n m x1 x2 → G X 0 0 (woM (xt X) a m) [(0, .ref (a 0)), (1, .int x1), (2, .int x2)] [] 69 := by
  intro n
  induction n with
  | zero => intro m x1 x2 hw; exact hw.elim
  | succ n ih =>
    intro m x1 x2 hw
    rw [w_M_goes_69] at hw
    refine g_iload_n (pc := 69) C d_M_goes_69 2 rfl rfl ?_
    refine g_aload_n (pc := 70) C d_M_goes_70 0 rfl rfl ?_
    refine fM_d (pc := 71) C lk_M_7 d_M_goes_71 ?_
    refine g_iconst (pc := 74) C (v := 4) d_M_goes_74 (by decide) ?_
    refine lM_d (pc := 75) C d_M_goes_75 (f := M_d m) rfl (N0 := 4) (by decide) (by unfold vp_in; decide) ?_
    refine g_icmp_ge (pc := 76) (tgt := 150) C d_M_goes_76 (by decide) (fun h24 => ?_) (fun h24 => ?_)
    · replace hw := hw.1 h24
      exact g_vret (pc := 150) C q d_M_goes_150 (hq m hw)
    · replace hw := hw.2 h24
      refine g_iload_n (pc := 79) C d_M_goes_79 2 rfl rfl ?_
      refine g_iload_n (pc := 80) C d_M_goes_80 1 rfl rfl ?_
      refine g_icmp_eq (pc := 81) (tgt := 144) C d_M_goes_81 (by decide) (fun h23 => ?_) (fun h23 => ?_)
      · replace hw := hw.1 h23
        obtain ⟨y3, ey3⟩ : ∃ w, w = x2 + 1 := ⟨_, rfl⟩
        replace hw := hw y3 ey3
        refine g_iinc (pc := 144) C d_M_goes_144 2 rfl (v := y3) (by rw [ey3]; rfl) (Nat.le_of_ble_eq_true rfl) (lv' := [(0, .ref (a 0)), (1, .int x1), (2, .int y3)]) rfl ?_
        refine g_goto (pc := 147) (tgt := 69) C d_M_goes_147 (by decide) ?_
        exact ih m x1 y3 hw
      · replace hw := hw.2 h23
        refine g_aload_n (pc := 84) C d_M_goes_84 0 rfl rfl ?_
        refine g_iload_n (pc := 85) C d_M_goes_85 2 rfl rfl ?_
        refine g_iconst (pc := 86) C (v := 3) d_M_goes_86 (by decide) ?_
        refine k_Ia (pc := 87) (co_V C (c_M_get (xl X) (xD X) (xt X) (xv X) a m x2 3 _ hw) mw_M_get lk_M_64 d_M_goes_87 (List.range _) (all_C _) (all_nd _) (rec_w C 0 6 rfl rfl) rfl rfl ⟨Nat.le_of_ble_eq_true rfl, Nat.le_of_ble_eq_true rfl⟩ ⟨Nat.le_of_ble_eq_true rfl, Nat.le_of_ble_eq_true rfl⟩ (rest := []) rfl rfl (Nat.le_of_ble_eq_true rfl)) (fun v4 m_5 hw => ?_)
        refine g_aload_n (pc := 90) C d_M_goes_90 0 rfl rfl ?_
        refine g_iload_n (pc := 91) C d_M_goes_91 1 rfl rfl ?_
        refine g_iconst (pc := 92) C (v := 3) d_M_goes_92 (by decide) ?_
        refine k_Ia (pc := 93) (co_V C (c_M_get (xl X) (xD X) (xt X) (xv X) a m_5 x1 3 _ hw) mw_M_get lk_M_64 d_M_goes_93 (List.range _) (all_C _) (all_nd _) (rec_w C 0 6 rfl rfl) rfl rfl ⟨Nat.le_of_ble_eq_true rfl, Nat.le_of_ble_eq_true rfl⟩ ⟨Nat.le_of_ble_eq_true rfl, Nat.le_of_ble_eq_true rfl⟩ (rest := [.int v4]) rfl rfl (Nat.le_of_ble_eq_true rfl)) (fun v6 m_7 hw => ?_)
        refine g_icmp_ne (pc := 96) (tgt := 144) C d_M_goes_96 (by decide) (fun h22 => ?_) (fun h22 => ?_)
        · replace hw := hw.2 h22
          obtain ⟨y8, ey8⟩ : ∃ w, w = x2 + 1 := ⟨_, rfl⟩
          replace hw := hw y8 ey8
          refine g_iinc (pc := 144) C d_M_goes_144 2 rfl (v := y8) (by rw [ey8]; rfl) (Nat.le_of_ble_eq_true rfl) (lv' := [(0, .ref (a 0)), (1, .int x1), (2, .int y8)]) rfl ?_
          refine g_goto (pc := 147) (tgt := 69) C d_M_goes_147 (by decide) ?_
          exact ih m_7 x1 y8 hw
        · replace hw := hw.1 h22
          refine g_aload_n (pc := 99) C d_M_goes_99 0 rfl rfl ?_
          refine g_iload_n (pc := 100) C d_M_goes_100 2 rfl rfl ?_
          refine g_iconst (pc := 101) C (v := 2) d_M_goes_101 (by decide) ?_
          refine k_Ia (pc := 102) (co_V C (c_M_get (xl X) (xD X) (xt X) (xv X) a m_7 x2 2 _ hw) mw_M_get lk_M_64 d_M_goes_102 (List.range _) (all_C _) (all_nd _) (rec_w C 0 6 rfl rfl) rfl rfl ⟨Nat.le_of_ble_eq_true rfl, Nat.le_of_ble_eq_true rfl⟩ ⟨Nat.le_of_ble_eq_true rfl, Nat.le_of_ble_eq_true rfl⟩ (rest := []) rfl rfl (Nat.le_of_ble_eq_true rfl)) (fun v9 m_10 hw => ?_)
          refine g_aload_n (pc := 105) C d_M_goes_105 0 rfl rfl ?_
          refine g_iload_n (pc := 106) C d_M_goes_106 1 rfl rfl ?_
          refine g_iconst (pc := 107) C (v := 2) d_M_goes_107 (by decide) ?_
          refine k_Ia (pc := 108) (co_V C (c_M_get (xl X) (xD X) (xt X) (xv X) a m_10 x1 2 _ hw) mw_M_get lk_M_64 d_M_goes_108 (List.range _) (all_C _) (all_nd _) (rec_w C 0 6 rfl rfl) rfl rfl ⟨Nat.le_of_ble_eq_true rfl, Nat.le_of_ble_eq_true rfl⟩ ⟨Nat.le_of_ble_eq_true rfl, Nat.le_of_ble_eq_true rfl⟩ (rest := [.int v9]) rfl rfl (Nat.le_of_ble_eq_true rfl)) (fun v11 m_12 hw => ?_)
          refine g_icmp_eq (pc := 111) (tgt := 144) C d_M_goes_111 (by decide) (fun h21 => ?_) (fun h21 => ?_)
          · replace hw := hw.1 h21
            obtain ⟨y13, ey13⟩ : ∃ w, w = x2 + 1 := ⟨_, rfl⟩
            replace hw := hw y13 ey13
            refine g_iinc (pc := 144) C d_M_goes_144 2 rfl (v := y13) (by rw [ey13]; rfl) (Nat.le_of_ble_eq_true rfl) (lv' := [(0, .ref (a 0)), (1, .int x1), (2, .int y13)]) rfl ?_
            refine g_goto (pc := 147) (tgt := 69) C d_M_goes_147 (by decide) ?_
            exact ih m_12 x1 y13 hw
          · replace hw := hw.2 h21
            refine g_aload_n (pc := 114) C d_M_goes_114 0 rfl rfl ?_
            refine g_iload_n (pc := 115) C d_M_goes_115 2 rfl rfl ?_
            refine k_Ia (pc := 116) (co_V C (c_M_hasLanded (xl X) (xD X) (xt X) (xv X) a m_12 x2 _ hw) mw_M_hasLanded lk_M_80 d_M_goes_116 (List.range _) (all_C _) (all_nd _) (rec_w C 0 6 rfl rfl) rfl rfl ⟨Nat.le_of_ble_eq_true rfl, Nat.le_of_ble_eq_true rfl⟩ ⟨Nat.le_of_ble_eq_true rfl, Nat.le_of_ble_eq_true rfl⟩ (rest := []) rfl rfl (Nat.le_of_ble_eq_true rfl)) (fun v14 m_15 hw => ?_)
            refine g_if_ne (pc := 119) (tgt := 144) C d_M_goes_119 (by decide) (fun h20 => ?_) (fun h20 => ?_)
            · replace hw := hw.2 h20
              obtain ⟨y16, ey16⟩ : ∃ w, w = x2 + 1 := ⟨_, rfl⟩
              replace hw := hw y16 ey16
              refine g_iinc (pc := 144) C d_M_goes_144 2 rfl (v := y16) (by rw [ey16]; rfl) (Nat.le_of_ble_eq_true rfl) (lv' := [(0, .ref (a 0)), (1, .int x1), (2, .int y16)]) rfl ?_
              refine g_goto (pc := 147) (tgt := 69) C d_M_goes_147 (by decide) ?_
              exact ih m_15 x1 y16 hw
            · replace hw := hw.1 h20
              refine g_aload_n (pc := 122) C d_M_goes_122 0 rfl rfl ?_
              refine g_iload_n (pc := 123) C d_M_goes_123 1 rfl rfl ?_
              refine g_aload_n (pc := 124) C d_M_goes_124 0 rfl rfl ?_
              refine fM_d (pc := 125) C lk_M_7 d_M_goes_125 ?_
              refine g_iconst (pc := 128) C (v := 0) d_M_goes_128 (by decide) ?_
              refine lM_d (pc := 129) C d_M_goes_129 (f := M_d m_15) rfl (N0 := 0) (by decide) (by unfold vp_in; decide) ?_
              refine k_Va (pc := 130) (co_V C (c_M_spilt (xl X) (xD X) (xt X) (xv X) a m_15 x1 ((M_d m_15) 0) _ hw) mw_M_spilt lk_M_87 d_M_goes_130 (List.range _) (all_C _) (all_nd _) (rec_w C 0 6 rfl rfl) rfl rfl ⟨Nat.le_of_ble_eq_true rfl, Nat.le_of_ble_eq_true rfl⟩ ⟨Nat.le_of_ble_eq_true rfl, Nat.le_of_ble_eq_true rfl⟩ (rest := []) rfl rfl (Nat.le_of_ble_eq_true rfl)) (fun m_17 hw => ?_)
              refine g_aload_n (pc := 133) C d_M_goes_133 0 rfl rfl ?_
              refine g_iload_n (pc := 134) C d_M_goes_134 2 rfl rfl ?_
              refine g_aload_n (pc := 135) C d_M_goes_135 0 rfl rfl ?_
              refine fM_d (pc := 136) C lk_M_7 d_M_goes_136 ?_
              refine g_iconst (pc := 139) C (v := 0) d_M_goes_139 (by decide) ?_
              refine lM_d (pc := 140) C d_M_goes_140 (f := M_d m_17) rfl (N0 := 0) (by decide) (by unfold vp_in; decide) ?_
              refine k_Va (pc := 141) (co_V C (c_M_spilt (xl X) (xD X) (xt X) (xv X) a m_17 x2 ((M_d m_17) 0) _ hw) mw_M_spilt lk_M_87 d_M_goes_141 (List.range _) (all_C _) (all_nd _) (rec_w C 0 6 rfl rfl) rfl rfl ⟨Nat.le_of_ble_eq_true rfl, Nat.le_of_ble_eq_true rfl⟩ ⟨Nat.le_of_ble_eq_true rfl, Nat.le_of_ble_eq_true rfl⟩ (rest := []) rfl rfl (Nat.le_of_ble_eq_true rfl)) (fun m_18 hw => ?_)
              obtain ⟨y19, ey19⟩ : ∃ w, w = x2 + 1 := ⟨_, rfl⟩
              replace hw := hw y19 ey19
              refine g_iinc (pc := 144) C d_M_goes_144 2 rfl (v := y19) (by rw [ey19]; rfl) (Nat.le_of_ble_eq_true rfl) (lv' := [(0, .ref (a 0)), (1, .int x1), (2, .int y19)]) rfl ?_
              refine g_goto (pc := 147) (tgt := 69) C d_M_goes_147 (by decide) ?_
              exact ih m_18 x1 y19 hw
def w_M_goes_47  (post : MSt → Prop) (k6 : MSt → Int32 → Int32 → Prop) (m : MSt) (x1 : Int32) (x2 : Int32) (s1 : Int32) (s2 : Int32) (s3 : Int32) (s4 : Int32) : Prop :=
  ∀ y33 : Int32, y33 = s3 + s4 → (wp_M_puts m s1 s2 y33 (fun m_34 => wp_M_spills m_34 x1 (fun v35 m_36 => wp_M_spilt m_36 x1 v35 (fun m_37 => ∀ y38 : Int32, y38 = x2 + (-1) → (k6 m_37 x1 y38)))))
set_option maxRecDepth 20000 in
theorem j_M_goes_47 {X : GX} (C : GC X b_M_goes R_M 3 (rmd 2)) {Qp : Option Value → va_W → Prop} (q : RC X (none) Qp 0 0) (a : Nat → Nat)   (post : MSt → Prop) (hq : ∀ c1, post c1 → Qp none (woM (xt X) a c1)) {k6 : MSt → Int32 → Int32 → Prop} (hk6 : ∀ (m : MSt) (x1 : Int32) (x2 : Int32), k6 m x1 x2 → G X 0 0 (woM (xt X) a m) [(0, .ref (a 0)), (1, .int x1), (2, .int x2)] [] 6) : ∀ (m : MSt) (x1 : Int32) (x2 : Int32) (s1 : Int32) (s2 : Int32) (s3 : Int32) (s4 : Int32), w_M_goes_47  post k6 m x1 x2 s1 s2 s3 s4 → G X 0 0 (woM (xt X) a m) [(0, .ref (a 0)), (1, .int x1), (2, .int x2)] [.int s4, .int s3, .int s2, .int s1, .ref (a 0)] 47 := by
  intro m x1 x2 s1 s2 s3 s4 hw
  unfold w_M_goes_47 at hw
  refine g_iadd (pc := 47) C d_M_goes_47 ?_
  refine g_topi (fun y33 ey33 => ?_)
  replace hw := hw y33 ey33
  refine k_Va (pc := 48) (co_V C (c_M_puts (xl X) (xD X) (xt X) (xv X) a m s1 s2 y33 _ hw) mw_M_puts lk_M_72 d_M_goes_48 (List.range _) (all_C _) (all_nd _) (rec_w C 0 6 rfl rfl) rfl rfl ⟨Nat.le_of_ble_eq_true rfl, Nat.le_of_ble_eq_true rfl⟩ ⟨Nat.le_of_ble_eq_true rfl, Nat.le_of_ble_eq_true rfl⟩ (rest := []) rfl rfl (Nat.le_of_ble_eq_true rfl)) (fun m_34 hw => ?_)
  refine g_aload_n (pc := 51) C d_M_goes_51 0 rfl rfl ?_
  refine g_iload_n (pc := 52) C d_M_goes_52 1 rfl rfl ?_
  refine g_aload_n (pc := 53) C d_M_goes_53 0 rfl rfl ?_
  refine g_iload_n (pc := 54) C d_M_goes_54 1 rfl rfl ?_
  refine k_Ia (pc := 55) (co_V C (c_M_spills (xl X) (xD X) (xt X) (xv X) a m_34 x1 _ hw) mw_M_spills lk_M_84 d_M_goes_55 (List.range _) (all_C _) (all_nd _) (rec_w C 0 6 rfl rfl) rfl rfl ⟨Nat.le_of_ble_eq_true rfl, Nat.le_of_ble_eq_true rfl⟩ ⟨Nat.le_of_ble_eq_true rfl, Nat.le_of_ble_eq_true rfl⟩ (rest := [.int x1, .ref (a 0)]) rfl rfl (Nat.le_of_ble_eq_true rfl)) (fun v35 m_36 hw => ?_)
  refine k_Va (pc := 58) (co_V C (c_M_spilt (xl X) (xD X) (xt X) (xv X) a m_36 x1 v35 _ hw) mw_M_spilt lk_M_87 d_M_goes_58 (List.range _) (all_C _) (all_nd _) (rec_w C 0 6 rfl rfl) rfl rfl ⟨Nat.le_of_ble_eq_true rfl, Nat.le_of_ble_eq_true rfl⟩ ⟨Nat.le_of_ble_eq_true rfl, Nat.le_of_ble_eq_true rfl⟩ (rest := []) rfl rfl (Nat.le_of_ble_eq_true rfl)) (fun m_37 hw => ?_)
  obtain ⟨y38, ey38⟩ : ∃ w, w = x2 + (-1) := ⟨_, rfl⟩
  replace hw := hw y38 ey38
  refine g_iinc (pc := 61) C d_M_goes_61 2 rfl (v := y38) (by rw [ey38]; rfl) (Nat.le_of_ble_eq_true rfl) (lv' := [(0, .ref (a 0)), (1, .int x1), (2, .int y38)]) rfl ?_
  refine g_goto (pc := 64) (tgt := 6) C d_M_goes_64 (by decide) ?_
  exact hk6 m_37 x1 y38 hw
def w_M_goes_6  (post : MSt → Prop)  : Nat → MSt → Int32 → Int32 → Prop
  | 0, _, _, _ => False
  | n + 1, m, x1, x2 =>
    ((x2 ≤ 0) → (w_M_goes_69  post  2000 m x1 0)) ∧ ((¬ x2 ≤ 0) → (wp_M_hasLanded m x1 (fun v25 m_26 => ((v25 = 0) → (wp_M_get m_26 x1 3 (fun v27 m_28 => wp_M_get m_28 x1 4 (fun v29 m_30 => wp_M_get m_30 x1 3 (fun v31 m_32 => ((v29 ≤ v31) → (w_M_goes_47  post (w_M_goes_6  post  n) m_32 x1 x2 x1 3 v27 (-1))) ∧ ((¬ v29 ≤ v31) → (w_M_goes_47  post (w_M_goes_6  post  n) m_32 x1 x2 x1 3 v27 1))))))) ∧ ((¬ v25 = 0) → (w_M_goes_69  post  2000 m_26 x1 0)))))
set_option maxRecDepth 20000 in
theorem j_M_goes_6 {X : GX} (C : GC X b_M_goes R_M 3 (rmd 2)) {Qp : Option Value → va_W → Prop} (q : RC X (none) Qp 0 0) (a : Nat → Nat)   (post : MSt → Prop) (hq : ∀ c1, post c1 → Qp none (woM (xt X) a c1)) : ∀ (n : Nat) (m : MSt) (x1 : Int32) (x2 : Int32), w_M_goes_6  post  n m x1 x2 → G X 0 0 (woM (xt X) a m) [(0, .ref (a 0)), (1, .int x1), (2, .int x2)] [] 6 := by
  intro n
  induction n with
  | zero => intro m x1 x2 hw; exact hw.elim
  | succ n ih =>
    intro m x1 x2 hw
    rw [w_M_goes_6] at hw
    refine g_iload_n (pc := 6) C d_M_goes_6 2 rfl rfl ?_
    refine g_if_le (pc := 7) (tgt := 67) C d_M_goes_7 (by decide) (fun h41 => ?_) (fun h41 => ?_)
    · replace hw := hw.1 h41
      refine g_iconst (pc := 67) C (v := 0) d_M_goes_67 (by decide) ?_
      refine g_istore_n (pc := 68) C d_M_goes_68 rfl (Nat.le_of_ble_eq_true rfl) (lv' := [(0, .ref (a 0)), (1, .int x1), (2, .int 0)]) rfl ?_
      exact j_M_goes_69 C q a post hq  2000 m x1 0 hw
    · replace hw := hw.2 h41
      refine g_aload_n (pc := 10) C d_M_goes_10 0 rfl rfl ?_
      refine g_iload_n (pc := 11) C d_M_goes_11 1 rfl rfl ?_
      refine k_Ia (pc := 12) (co_V C (c_M_hasLanded (xl X) (xD X) (xt X) (xv X) a m x1 _ hw) mw_M_hasLanded lk_M_80 d_M_goes_12 (List.range _) (all_C _) (all_nd _) (rec_w C 0 6 rfl rfl) rfl rfl ⟨Nat.le_of_ble_eq_true rfl, Nat.le_of_ble_eq_true rfl⟩ ⟨Nat.le_of_ble_eq_true rfl, Nat.le_of_ble_eq_true rfl⟩ (rest := []) rfl rfl (Nat.le_of_ble_eq_true rfl)) (fun v25 m_26 hw => ?_)
      refine g_if_ne (pc := 15) (tgt := 67) C d_M_goes_15 (by decide) (fun h40 => ?_) (fun h40 => ?_)
      · replace hw := hw.2 h40
        refine g_iconst (pc := 67) C (v := 0) d_M_goes_67 (by decide) ?_
        refine g_istore_n (pc := 68) C d_M_goes_68 rfl (Nat.le_of_ble_eq_true rfl) (lv' := [(0, .ref (a 0)), (1, .int x1), (2, .int 0)]) rfl ?_
        exact j_M_goes_69 C q a post hq  2000 m_26 x1 0 hw
      · replace hw := hw.1 h40
        refine g_aload_n (pc := 18) C d_M_goes_18 0 rfl rfl ?_
        refine g_iload_n (pc := 19) C d_M_goes_19 1 rfl rfl ?_
        refine g_iconst (pc := 20) C (v := 3) d_M_goes_20 (by decide) ?_
        refine g_aload_n (pc := 21) C d_M_goes_21 0 rfl rfl ?_
        refine g_iload_n (pc := 22) C d_M_goes_22 1 rfl rfl ?_
        refine g_iconst (pc := 23) C (v := 3) d_M_goes_23 (by decide) ?_
        refine k_Ia (pc := 24) (co_V C (c_M_get (xl X) (xD X) (xt X) (xv X) a m_26 x1 3 _ hw) mw_M_get lk_M_64 d_M_goes_24 (List.range _) (all_C _) (all_nd _) (rec_w C 0 6 rfl rfl) rfl rfl ⟨Nat.le_of_ble_eq_true rfl, Nat.le_of_ble_eq_true rfl⟩ ⟨Nat.le_of_ble_eq_true rfl, Nat.le_of_ble_eq_true rfl⟩ (rest := [.int 3, .int x1, .ref (a 0)]) rfl rfl (Nat.le_of_ble_eq_true rfl)) (fun v27 m_28 hw => ?_)
        refine g_aload_n (pc := 27) C d_M_goes_27 0 rfl rfl ?_
        refine g_iload_n (pc := 28) C d_M_goes_28 1 rfl rfl ?_
        refine g_iconst (pc := 29) C (v := 4) d_M_goes_29 (by decide) ?_
        refine k_Ia (pc := 30) (co_V C (c_M_get (xl X) (xD X) (xt X) (xv X) a m_28 x1 4 _ hw) mw_M_get lk_M_64 d_M_goes_30 (List.range _) (all_C _) (all_nd _) (rec_w C 0 6 rfl rfl) rfl rfl ⟨Nat.le_of_ble_eq_true rfl, Nat.le_of_ble_eq_true rfl⟩ ⟨Nat.le_of_ble_eq_true rfl, Nat.le_of_ble_eq_true rfl⟩ (rest := [.int v27, .int 3, .int x1, .ref (a 0)]) rfl rfl (Nat.le_of_ble_eq_true rfl)) (fun v29 m_30 hw => ?_)
        refine g_aload_n (pc := 33) C d_M_goes_33 0 rfl rfl ?_
        refine g_iload_n (pc := 34) C d_M_goes_34 1 rfl rfl ?_
        refine g_iconst (pc := 35) C (v := 3) d_M_goes_35 (by decide) ?_
        refine k_Ia (pc := 36) (co_V C (c_M_get (xl X) (xD X) (xt X) (xv X) a m_30 x1 3 _ hw) mw_M_get lk_M_64 d_M_goes_36 (List.range _) (all_C _) (all_nd _) (rec_w C 0 6 rfl rfl) rfl rfl ⟨Nat.le_of_ble_eq_true rfl, Nat.le_of_ble_eq_true rfl⟩ ⟨Nat.le_of_ble_eq_true rfl, Nat.le_of_ble_eq_true rfl⟩ (rest := [.int v29, .int v27, .int 3, .int x1, .ref (a 0)]) rfl rfl (Nat.le_of_ble_eq_true rfl)) (fun v31 m_32 hw => ?_)
        refine g_icmp_le (pc := 39) (tgt := 46) C d_M_goes_39 (by decide) (fun h39 => ?_) (fun h39 => ?_)
        · replace hw := hw.1 h39
          refine g_iconst (pc := 46) C (v := (-1)) d_M_goes_46 (by decide) ?_
          exact j_M_goes_47 C q a post hq ih m_32 x1 x2 x1 3 v27 (-1) hw
        · replace hw := hw.2 h39
          refine g_iconst (pc := 42) C (v := 1) d_M_goes_42 (by decide) ?_
          refine g_goto (pc := 43) (tgt := 47) C d_M_goes_43 (by decide) ?_
          exact j_M_goes_47 C q a post hq ih m_32 x1 x2 x1 3 v27 1 hw
def wp_M_goes (m : MSt) (x1 : Int32) (post : MSt → Prop) : Prop :=
  wp_M_pace m x1 (fun v1 m_2 => w_M_goes_6  post  2000 m_2 x1 v1)
set_option maxRecDepth 20000 in
theorem g_M_goes {X : GX} (C : GC X b_M_goes R_M 3 (rmd 2)) {Qp : Option Value → va_W → Prop} (q : RC X (none) Qp 0 0) (a : Nat → Nat) (m : MSt) (x1 : Int32) (post : MSt → Prop) (hq : ∀ c1, post c1 → Qp none (woM (xt X) a c1)) (hw : wp_M_goes m x1 post) : G X 0 0 (woM (xt X) a m) [(0, .ref (a 0)), (1, .int x1)] [] 0 := by
  unfold wp_M_goes at hw
  refine g_aload_n (pc := 0) C d_M_goes_0 0 rfl rfl ?_
  refine g_iload_n (pc := 1) C d_M_goes_1 1 rfl rfl ?_
  refine k_Ia (pc := 2) (co_V C (c_M_pace (xl X) (xD X) (xt X) (xv X) a m x1 _ hw) mw_M_pace lk_M_76 d_M_goes_2 (List.range _) (all_C _) (all_nd _) (rec_w C 0 6 rfl rfl) rfl rfl ⟨Nat.le_of_ble_eq_true rfl, Nat.le_of_ble_eq_true rfl⟩ ⟨Nat.le_of_ble_eq_true rfl, Nat.le_of_ble_eq_true rfl⟩ (rest := []) rfl rfl (Nat.le_of_ble_eq_true rfl)) (fun v1 m_2 hw => ?_)
  refine g_istore_n (pc := 5) C d_M_goes_5 rfl (Nat.le_of_ble_eq_true rfl) (lv' := [(0, .ref (a 0)), (1, .int x1), (2, .int v1)]) rfl ?_
  exact j_M_goes_6 C q a post hq  2000 m_2 x1 v1 hw
set_option maxRecDepth 20000 in
theorem c_M_goes (l : Launch) (D : va_G) (t : Nat → ClassId) (ev : Nat → Nat) (a : Nat → Nat) (m : MSt) (x1 : Int32) (post : MSt → Prop) (hw : wp_M_goes m x1 post) : Con l D t ev y_M_goes b_M_goes 3 (none) 2 (woM t a m) [.ref (a 0), .int x1] (qV (woM t a)  post) :=
  ConR.of (by decide +kernel) (Nat.le_of_ble_eq_true rfl) (fun X el eD et ee C q _ => by subst el; subst eD; subst et; subst ee; exact g_M_goes C q a m x1 post (fun c1 h => ⟨⟨c1, rfl, rfl, h⟩, rfl⟩) hw)
def w_M_hourGoes_2  (post : MSt → Prop)  : Nat → MSt → Int32 → Prop
  | 0, _, _ => False
  | n + 1, m, x1 =>
    ((((M_d m) 4) ≤ x1) → (∀ y1 : Int32, y1 = ((M_d m) 5) + 1 → (post (M_d_ m (upd (M_d m) 5 y1))))) ∧ ((¬ ((M_d m) 4) ≤ x1) → (wp_M_hasLanded m x1 (fun v2 m_3 => ((v2 = 0) → (((x1 = (M_still m_3)) → (∀ y5 : Int32, y5 = x1 + 1 → (w_M_hourGoes_2  post  n m_3 y5))) ∧ ((¬ x1 = (M_still m_3)) → (wp_M_goes m_3 x1 (fun m_6 => ∀ y7 : Int32, y7 = x1 + 1 → (w_M_hourGoes_2  post  n m_6 y7)))))) ∧ ((¬ v2 = 0) → (∀ y4 : Int32, y4 = x1 + 1 → (w_M_hourGoes_2  post  n m_3 y4))))))
set_option maxRecDepth 20000 in
theorem j_M_hourGoes_2 {X : GX} (C : GC X b_M_hourGoes R_M 2 (rmd 3)) {Qp : Option Value → va_W → Prop} (q : RC X (none) Qp 0 0) (a : Nat → Nat)   (post : MSt → Prop) (hq : ∀ c1, post c1 → Qp none (woM (xt X) a c1)) : ∀ (n : Nat) (m : MSt) (x1 : Int32), w_M_hourGoes_2  post  n m x1 → G X 0 0 (woM (xt X) a m) [(0, .ref (a 0)), (1, .int x1)] [] 2 := by
  intro n
  induction n with
  | zero => intro m x1 hw; exact hw.elim
  | succ n ih =>
    intro m x1 hw
    rw [w_M_hourGoes_2] at hw
    refine g_iload_n (pc := 2) C d_M_hourGoes_2 1 rfl rfl ?_
    refine g_aload_n (pc := 3) C d_M_hourGoes_3 0 rfl rfl ?_
    refine fM_d (pc := 4) C lk_M_7 d_M_hourGoes_4 ?_
    refine g_iconst (pc := 7) C (v := 4) d_M_hourGoes_7 (by decide) ?_
    refine lM_d (pc := 8) C d_M_hourGoes_8 (f := M_d m) rfl (N0 := 4) (by decide) (by unfold vp_in; decide) ?_
    refine g_icmp_ge (pc := 9) (tgt := 39) C d_M_hourGoes_9 (by decide) (fun h10 => ?_) (fun h10 => ?_)
    · replace hw := hw.1 h10
      refine g_aload_n (pc := 39) C d_M_hourGoes_39 0 rfl rfl ?_
      refine fM_d (pc := 40) C lk_M_7 d_M_hourGoes_40 ?_
      refine g_iconst (pc := 43) C (v := 5) d_M_hourGoes_43 (by decide) ?_
      refine g_dup2 (pc := 44) C d_M_hourGoes_44 rfl rfl ?_
      refine lM_d (pc := 45) C d_M_hourGoes_45 (f := M_d m) rfl (N0 := 5) (by decide) (by unfold vp_in; decide) ?_
      refine g_iconst (pc := 46) C (v := 1) d_M_hourGoes_46 (by decide) ?_
      refine g_iadd (pc := 47) C d_M_hourGoes_47 ?_
      refine g_topi (fun y1 ey1 => ?_)
      replace hw := hw y1 ey1
      refine sM_d (pc := 48) C d_M_hourGoes_48 (f := M_d m) rfl (N0 := 5) (by decide) (by unfold vp_in; decide) ?_
      exact g_vret (pc := 49) C q d_M_hourGoes_49 (hq (M_d_ m (upd (M_d m) 5 y1)) hw)
    · replace hw := hw.2 h10
      refine g_aload_n (pc := 12) C d_M_hourGoes_12 0 rfl rfl ?_
      refine g_iload_n (pc := 13) C d_M_hourGoes_13 1 rfl rfl ?_
      refine k_Ia (pc := 14) (co_V C (c_M_hasLanded (xl X) (xD X) (xt X) (xv X) a m x1 _ hw) mw_M_hasLanded lk_M_80 d_M_hourGoes_14 (List.range _) (all_C _) (all_nd _) (rec_w C 0 6 rfl rfl) rfl rfl ⟨Nat.le_of_ble_eq_true rfl, Nat.le_of_ble_eq_true rfl⟩ ⟨Nat.le_of_ble_eq_true rfl, Nat.le_of_ble_eq_true rfl⟩ (rest := []) rfl rfl (Nat.le_of_ble_eq_true rfl)) (fun v2 m_3 hw => ?_)
      refine g_if_ne (pc := 17) (tgt := 33) C d_M_hourGoes_17 (by decide) (fun h9 => ?_) (fun h9 => ?_)
      · replace hw := hw.2 h9
        obtain ⟨y4, ey4⟩ : ∃ w, w = x1 + 1 := ⟨_, rfl⟩
        replace hw := hw y4 ey4
        refine g_iinc (pc := 33) C d_M_hourGoes_33 1 rfl (v := y4) (by rw [ey4]; rfl) (Nat.le_of_ble_eq_true rfl) (lv' := [(0, .ref (a 0)), (1, .int y4)]) rfl ?_
        refine g_goto (pc := 36) (tgt := 2) C d_M_hourGoes_36 (by decide) ?_
        exact ih m_3 y4 hw
      · replace hw := hw.1 h9
        refine g_iload_n (pc := 20) C d_M_hourGoes_20 1 rfl rfl ?_
        refine g_aload_n (pc := 21) C d_M_hourGoes_21 0 rfl rfl ?_
        refine fM_still (pc := 22) C lk_M_19 d_M_hourGoes_22 (v := M_still m_3) rfl ?_
        refine g_icmp_eq (pc := 25) (tgt := 33) C d_M_hourGoes_25 (by decide) (fun h8 => ?_) (fun h8 => ?_)
        · replace hw := hw.1 h8
          obtain ⟨y5, ey5⟩ : ∃ w, w = x1 + 1 := ⟨_, rfl⟩
          replace hw := hw y5 ey5
          refine g_iinc (pc := 33) C d_M_hourGoes_33 1 rfl (v := y5) (by rw [ey5]; rfl) (Nat.le_of_ble_eq_true rfl) (lv' := [(0, .ref (a 0)), (1, .int y5)]) rfl ?_
          refine g_goto (pc := 36) (tgt := 2) C d_M_hourGoes_36 (by decide) ?_
          exact ih m_3 y5 hw
        · replace hw := hw.2 h8
          refine g_aload_n (pc := 28) C d_M_hourGoes_28 0 rfl rfl ?_
          refine g_iload_n (pc := 29) C d_M_hourGoes_29 1 rfl rfl ?_
          refine k_Va (pc := 30) (co_V C (c_M_goes (xl X) (xD X) (xt X) (xv X) a m_3 x1 _ hw) mw_M_goes lk_M_91 d_M_hourGoes_30 (List.range _) (all_C _) (all_nd _) (rec_w C 0 6 rfl rfl) rfl rfl ⟨Nat.le_of_ble_eq_true rfl, Nat.le_of_ble_eq_true rfl⟩ ⟨Nat.le_of_ble_eq_true rfl, Nat.le_of_ble_eq_true rfl⟩ (rest := []) rfl rfl (Nat.le_of_ble_eq_true rfl)) (fun m_6 hw => ?_)
          obtain ⟨y7, ey7⟩ : ∃ w, w = x1 + 1 := ⟨_, rfl⟩
          replace hw := hw y7 ey7
          refine g_iinc (pc := 33) C d_M_hourGoes_33 1 rfl (v := y7) (by rw [ey7]; rfl) (Nat.le_of_ble_eq_true rfl) (lv' := [(0, .ref (a 0)), (1, .int y7)]) rfl ?_
          refine g_goto (pc := 36) (tgt := 2) C d_M_hourGoes_36 (by decide) ?_
          exact ih m_6 y7 hw
def wp_M_hourGoes (m : MSt) (post : MSt → Prop) : Prop :=
  w_M_hourGoes_2  post  2000 m 0
set_option maxRecDepth 20000 in
theorem g_M_hourGoes {X : GX} (C : GC X b_M_hourGoes R_M 2 (rmd 3)) {Qp : Option Value → va_W → Prop} (q : RC X (none) Qp 0 0) (a : Nat → Nat) (m : MSt) (post : MSt → Prop) (hq : ∀ c1, post c1 → Qp none (woM (xt X) a c1)) (hw : wp_M_hourGoes m post) : G X 0 0 (woM (xt X) a m) [(0, .ref (a 0))] [] 0 := by
  unfold wp_M_hourGoes at hw
  refine g_iconst (pc := 0) C (v := 0) d_M_hourGoes_0 (by decide) ?_
  refine g_istore_n (pc := 1) C d_M_hourGoes_1 rfl (Nat.le_of_ble_eq_true rfl) (lv' := [(0, .ref (a 0)), (1, .int 0)]) rfl ?_
  exact j_M_hourGoes_2 C q a post hq  2000 m 0 hw
set_option maxRecDepth 20000 in
theorem c_M_hourGoes (l : Launch) (D : va_G) (t : Nat → ClassId) (ev : Nat → Nat) (a : Nat → Nat) (m : MSt) (post : MSt → Prop) (hw : wp_M_hourGoes m post) : Con l D t ev y_M_hourGoes b_M_hourGoes 2 (none) 3 (woM t a m) [.ref (a 0)] (qV (woM t a)  post) :=
  ConR.of (by decide +kernel) (Nat.le_of_ble_eq_true rfl) (fun X el eD et ee C q _ => by subst el; subst eD; subst et; subst ee; exact g_M_hourGoes C q a m post (fun c1 h => ⟨⟨c1, rfl, rfl, h⟩, rfl⟩) hw)
def w_M_hoursGo_2  (post : MSt → Prop)  : Nat → MSt → Int32 → Int32 → Prop
  | 0, _, _, _ => False
  | n + 1, m, x1, x2 =>
    ((x1 ≤ x2) → (post m)) ∧ ((¬ x1 ≤ x2) → (wp_M_hourGoes m (fun m_1 => ∀ y2 : Int32, y2 = x2 + 1 → (w_M_hoursGo_2  post  n m_1 x1 y2))))
set_option maxRecDepth 20000 in
theorem j_M_hoursGo_2 {X : GX} (C : GC X b_M_hoursGo R_M 3 (rmd 4)) {Qp : Option Value → va_W → Prop} (q : RC X (none) Qp 0 0) (a : Nat → Nat)   (post : MSt → Prop) (hq : ∀ c1, post c1 → Qp none (woM (xt X) a c1)) : ∀ (n : Nat) (m : MSt) (x1 : Int32) (x2 : Int32), w_M_hoursGo_2  post  n m x1 x2 → G X 0 0 (woM (xt X) a m) [(0, .ref (a 0)), (1, .int x1), (2, .int x2)] [] 2 := by
  intro n
  induction n with
  | zero => intro m x1 x2 hw; exact hw.elim
  | succ n ih =>
    intro m x1 x2 hw
    rw [w_M_hoursGo_2] at hw
    refine g_iload_n (pc := 2) C d_M_hoursGo_2 2 rfl rfl ?_
    refine g_iload_n (pc := 3) C d_M_hoursGo_3 1 rfl rfl ?_
    refine g_icmp_ge (pc := 4) (tgt := 17) C d_M_hoursGo_4 (by decide) (fun h3 => ?_) (fun h3 => ?_)
    · replace hw := hw.1 h3
      exact g_vret (pc := 17) C q d_M_hoursGo_17 (hq m hw)
    · replace hw := hw.2 h3
      refine g_aload_n (pc := 7) C d_M_hoursGo_7 0 rfl rfl ?_
      refine k_Va (pc := 8) (co_V C (c_M_hourGoes (xl X) (xD X) (xt X) (xv X) a m _ hw) mw_M_hourGoes lk_M_95 d_M_hoursGo_8 (List.range _) (all_C _) (all_nd _) (rec_w C 0 6 rfl rfl) rfl rfl ⟨Nat.le_of_ble_eq_true rfl, Nat.le_of_ble_eq_true rfl⟩ ⟨Nat.le_of_ble_eq_true rfl, Nat.le_of_ble_eq_true rfl⟩ (rest := []) rfl rfl (Nat.le_of_ble_eq_true rfl)) (fun m_1 hw => ?_)
      obtain ⟨y2, ey2⟩ : ∃ w, w = x2 + 1 := ⟨_, rfl⟩
      replace hw := hw y2 ey2
      refine g_iinc (pc := 11) C d_M_hoursGo_11 2 rfl (v := y2) (by rw [ey2]; rfl) (Nat.le_of_ble_eq_true rfl) (lv' := [(0, .ref (a 0)), (1, .int x1), (2, .int y2)]) rfl ?_
      refine g_goto (pc := 14) (tgt := 2) C d_M_hoursGo_14 (by decide) ?_
      exact ih m_1 x1 y2 hw
def wp_M_hoursGo (m : MSt) (x1 : Int32) (post : MSt → Prop) : Prop :=
  w_M_hoursGo_2  post  2000 m x1 0
set_option maxRecDepth 20000 in
theorem g_M_hoursGo {X : GX} (C : GC X b_M_hoursGo R_M 3 (rmd 4)) {Qp : Option Value → va_W → Prop} (q : RC X (none) Qp 0 0) (a : Nat → Nat) (m : MSt) (x1 : Int32) (post : MSt → Prop) (hq : ∀ c1, post c1 → Qp none (woM (xt X) a c1)) (hw : wp_M_hoursGo m x1 post) : G X 0 0 (woM (xt X) a m) [(0, .ref (a 0)), (1, .int x1)] [] 0 := by
  unfold wp_M_hoursGo at hw
  refine g_iconst (pc := 0) C (v := 0) d_M_hoursGo_0 (by decide) ?_
  refine g_istore_n (pc := 1) C d_M_hoursGo_1 rfl (Nat.le_of_ble_eq_true rfl) (lv' := [(0, .ref (a 0)), (1, .int x1), (2, .int 0)]) rfl ?_
  exact j_M_hoursGo_2 C q a post hq  2000 m x1 0 hw
set_option maxRecDepth 20000 in
theorem c_M_hoursGo (l : Launch) (D : va_G) (t : Nat → ClassId) (ev : Nat → Nat) (a : Nat → Nat) (m : MSt) (x1 : Int32) (post : MSt → Prop) (hw : wp_M_hoursGo m x1 post) : Con l D t ev y_M_hoursGo b_M_hoursGo 3 (none) 4 (woM t a m) [.ref (a 0), .int x1] (qV (woM t a)  post) :=
  ConR.of (by decide +kernel) (Nat.le_of_ble_eq_true rfl) (fun X el eD et ee C q _ => by subst el; subst eD; subst et; subst ee; exact g_M_hoursGo C q a m x1 post (fun c1 h => ⟨⟨c1, rfl, rfl, h⟩, rfl⟩) hw)
def w_M_loads_4  (post : Int32 → MSt → Prop)  : Nat → MSt → Int32 → Int32 → Prop
  | 0, _, _, _ => False
  | n + 1, m, x1, x2 =>
    ((((M_d m) 4) ≤ x2) → (post x1 m)) ∧ ((¬ ((M_d m) 4) ≤ x2) → (wp_M_get m x2 1 (fun v1 m_2 => ∀ y3 : Int32, y3 = x1 + v1 → (∀ y4 : Int32, y4 = x2 + 1 → (w_M_loads_4  post  n m_2 y3 y4)))))
set_option maxRecDepth 20000 in
theorem j_M_loads_4 {X : GX} (C : GC X b_M_loads R_M 3 (rmd 1)) {Qp : Option Value → va_W → Prop} (q : RC X ((some .int)) Qp 0 0) (a : Nat → Nat)   (post : Int32 → MSt → Prop) (hq : ∀ v c1, post v c1 → Qp (some (.int v)) (woM (xt X) a c1)) : ∀ (n : Nat) (m : MSt) (x1 : Int32) (x2 : Int32), w_M_loads_4  post  n m x1 x2 → G X 0 0 (woM (xt X) a m) [(0, .ref (a 0)), (1, .int x1), (2, .int x2)] [] 4 := by
  intro n
  induction n with
  | zero => intro m x1 x2 hw; exact hw.elim
  | succ n ih =>
    intro m x1 x2 hw
    rw [w_M_loads_4] at hw
    refine g_iload_n (pc := 4) C d_M_loads_4 2 rfl rfl ?_
    refine g_aload_n (pc := 5) C d_M_loads_5 0 rfl rfl ?_
    refine fM_d (pc := 6) C lk_M_7 d_M_loads_6 ?_
    refine g_iconst (pc := 9) C (v := 4) d_M_loads_9 (by decide) ?_
    refine lM_d (pc := 10) C d_M_loads_10 (f := M_d m) rfl (N0 := 4) (by decide) (by unfold vp_in; decide) ?_
    refine g_icmp_ge (pc := 11) (tgt := 29) C d_M_loads_11 (by decide) (fun h5 => ?_) (fun h5 => ?_)
    · replace hw := hw.1 h5
      refine g_iload_n (pc := 29) C d_M_loads_29 1 rfl rfl ?_
      exact g_iret (pc := 30) C q d_M_loads_30 (hq _ _ hw)
    · replace hw := hw.2 h5
      refine g_iload_n (pc := 14) C d_M_loads_14 1 rfl rfl ?_
      refine g_aload_n (pc := 15) C d_M_loads_15 0 rfl rfl ?_
      refine g_iload_n (pc := 16) C d_M_loads_16 2 rfl rfl ?_
      refine g_iconst (pc := 17) C (v := 1) d_M_loads_17 (by decide) ?_
      refine k_Ia (pc := 18) (co_V C (c_M_get (xl X) (xD X) (xt X) (xv X) a m x2 1 _ hw) mw_M_get lk_M_64 d_M_loads_18 (List.range _) (all_C _) (all_nd _) (rec_w C 0 6 rfl rfl) rfl rfl ⟨Nat.le_of_ble_eq_true rfl, Nat.le_of_ble_eq_true rfl⟩ ⟨Nat.le_of_ble_eq_true rfl, Nat.le_of_ble_eq_true rfl⟩ (rest := [.int x1]) rfl rfl (Nat.le_of_ble_eq_true rfl)) (fun v1 m_2 hw => ?_)
      refine g_iadd (pc := 21) C d_M_loads_21 ?_
      refine g_topi (fun y3 ey3 => ?_)
      replace hw := hw y3 ey3
      refine g_istore_n (pc := 22) C d_M_loads_22 rfl (Nat.le_of_ble_eq_true rfl) (lv' := [(0, .ref (a 0)), (1, .int y3), (2, .int x2)]) rfl ?_
      obtain ⟨y4, ey4⟩ : ∃ w, w = x2 + 1 := ⟨_, rfl⟩
      replace hw := hw y4 ey4
      refine g_iinc (pc := 23) C d_M_loads_23 2 rfl (v := y4) (by rw [ey4]; rfl) (Nat.le_of_ble_eq_true rfl) (lv' := [(0, .ref (a 0)), (1, .int y3), (2, .int y4)]) rfl ?_
      refine g_goto (pc := 26) (tgt := 4) C d_M_loads_26 (by decide) ?_
      exact ih m_2 y3 y4 hw
def wp_M_loads (m : MSt) (post : Int32 → MSt → Prop) : Prop :=
  w_M_loads_4  post  2000 m 0 0
set_option maxRecDepth 20000 in
theorem g_M_loads {X : GX} (C : GC X b_M_loads R_M 3 (rmd 1)) {Qp : Option Value → va_W → Prop} (q : RC X ((some .int)) Qp 0 0) (a : Nat → Nat) (m : MSt) (post : Int32 → MSt → Prop) (hq : ∀ v c1, post v c1 → Qp (some (.int v)) (woM (xt X) a c1)) (hw : wp_M_loads m post) : G X 0 0 (woM (xt X) a m) [(0, .ref (a 0))] [] 0 := by
  unfold wp_M_loads at hw
  refine g_iconst (pc := 0) C (v := 0) d_M_loads_0 (by decide) ?_
  refine g_istore_n (pc := 1) C d_M_loads_1 rfl (Nat.le_of_ble_eq_true rfl) (lv' := [(0, .ref (a 0)), (1, .int 0)]) rfl ?_
  refine g_iconst (pc := 2) C (v := 0) d_M_loads_2 (by decide) ?_
  refine g_istore_n (pc := 3) C d_M_loads_3 rfl (Nat.le_of_ble_eq_true rfl) (lv' := [(0, .ref (a 0)), (1, .int 0), (2, .int 0)]) rfl ?_
  exact j_M_loads_4 C q a post hq  2000 m 0 0 hw
set_option maxRecDepth 20000 in
theorem c_M_loads (l : Launch) (D : va_G) (t : Nat → ClassId) (ev : Nat → Nat) (a : Nat → Nat) (m : MSt) (post : Int32 → MSt → Prop) (hw : wp_M_loads m post) : Con l D t ev y_M_loads b_M_loads 3 ((some .int)) 1 (woM t a m) [.ref (a 0)] (qI (woM t a)  post) :=
  ConR.of (by decide +kernel) (Nat.le_of_ble_eq_true rfl) (fun X el eD et ee C q _ => by subst el; subst eD; subst et; subst ee; exact g_M_loads C q a m post (fun v c1 h => ⟨⟨v, c1, rfl, rfl, h⟩, rfl⟩) hw)
def w_M_lostAll_4  (post : Int32 → MSt → Prop)  : Nat → MSt → Int32 → Int32 → Prop
  | 0, _, _, _ => False
  | n + 1, m, x1, x2 =>
    ((10 ≤ x2) → (post x1 m)) ∧ ((¬ 10 ≤ x2) → (∀ y1 : Int32, y1 = 17 + x2 → (vp_in y1 67 ∧ (∀ y3 : Int32, y3 = x1 + ((M_d m) y1.toNatClampNeg) → (∀ y4 : Int32, y4 = x2 + 1 → (w_M_lostAll_4  post  n m y3 y4))))))
set_option maxRecDepth 20000 in
theorem j_M_lostAll_4 {X : GX} (C : GC X b_M_lostAll R_M 3 (rmd 0)) {Qp : Option Value → va_W → Prop} (q : RC X ((some .int)) Qp 0 0) (a : Nat → Nat)   (post : Int32 → MSt → Prop) (hq : ∀ v c1, post v c1 → Qp (some (.int v)) (woM (xt X) a c1)) : ∀ (n : Nat) (m : MSt) (x1 : Int32) (x2 : Int32), w_M_lostAll_4  post  n m x1 x2 → G X 0 0 (woM (xt X) a m) [(0, .ref (a 0)), (1, .int x1), (2, .int x2)] [] 4 := by
  intro n
  induction n with
  | zero => intro m x1 x2 hw; exact hw.elim
  | succ n ih =>
    intro m x1 x2 hw
    rw [w_M_lostAll_4] at hw
    refine g_iload_n (pc := 4) C d_M_lostAll_4 2 rfl rfl ?_
    refine g_bipush (pc := 5) C (v := 10) d_M_lostAll_5 (by decide) ?_
    refine g_icmp_ge (pc := 7) (tgt := 28) C d_M_lostAll_7 (by decide) (fun h5 => ?_) (fun h5 => ?_)
    · replace hw := hw.1 h5
      refine g_iload_n (pc := 28) C d_M_lostAll_28 1 rfl rfl ?_
      exact g_iret (pc := 29) C q d_M_lostAll_29 (hq _ _ hw)
    · replace hw := hw.2 h5
      refine g_iload_n (pc := 10) C d_M_lostAll_10 1 rfl rfl ?_
      refine g_aload_n (pc := 11) C d_M_lostAll_11 0 rfl rfl ?_
      refine fM_d (pc := 12) C lk_M_7 d_M_lostAll_12 ?_
      refine g_bipush (pc := 15) C (v := 17) d_M_lostAll_15 (by decide) ?_
      refine g_iload_n (pc := 17) C d_M_lostAll_17 2 rfl rfl ?_
      refine g_iadd (pc := 18) C d_M_lostAll_18 ?_
      refine g_topi (fun y1 ey1 => ?_)
      replace hw := hw y1 ey1
      obtain ⟨h2, hw⟩ := hw
      refine lM_d (pc := 19) C d_M_lostAll_19 (f := M_d m) rfl (N0 := y1.toNatClampNeg) rfl h2 ?_
      refine g_iadd (pc := 20) C d_M_lostAll_20 ?_
      refine g_topi (fun y3 ey3 => ?_)
      replace hw := hw y3 ey3
      refine g_istore_n (pc := 21) C d_M_lostAll_21 rfl (Nat.le_of_ble_eq_true rfl) (lv' := [(0, .ref (a 0)), (1, .int y3), (2, .int x2)]) rfl ?_
      obtain ⟨y4, ey4⟩ : ∃ w, w = x2 + 1 := ⟨_, rfl⟩
      replace hw := hw y4 ey4
      refine g_iinc (pc := 22) C d_M_lostAll_22 2 rfl (v := y4) (by rw [ey4]; rfl) (Nat.le_of_ble_eq_true rfl) (lv' := [(0, .ref (a 0)), (1, .int y3), (2, .int y4)]) rfl ?_
      refine g_goto (pc := 25) (tgt := 4) C d_M_lostAll_25 (by decide) ?_
      exact ih m y3 y4 hw
def wp_M_lostAll (m : MSt) (post : Int32 → MSt → Prop) : Prop :=
  w_M_lostAll_4  post  2000 m 0 0
set_option maxRecDepth 20000 in
theorem g_M_lostAll {X : GX} (C : GC X b_M_lostAll R_M 3 (rmd 0)) {Qp : Option Value → va_W → Prop} (q : RC X ((some .int)) Qp 0 0) (a : Nat → Nat) (m : MSt) (post : Int32 → MSt → Prop) (hq : ∀ v c1, post v c1 → Qp (some (.int v)) (woM (xt X) a c1)) (hw : wp_M_lostAll m post) : G X 0 0 (woM (xt X) a m) [(0, .ref (a 0))] [] 0 := by
  unfold wp_M_lostAll at hw
  refine g_iconst (pc := 0) C (v := 0) d_M_lostAll_0 (by decide) ?_
  refine g_istore_n (pc := 1) C d_M_lostAll_1 rfl (Nat.le_of_ble_eq_true rfl) (lv' := [(0, .ref (a 0)), (1, .int 0)]) rfl ?_
  refine g_iconst (pc := 2) C (v := 0) d_M_lostAll_2 (by decide) ?_
  refine g_istore_n (pc := 3) C d_M_lostAll_3 rfl (Nat.le_of_ble_eq_true rfl) (lv' := [(0, .ref (a 0)), (1, .int 0), (2, .int 0)]) rfl ?_
  exact j_M_lostAll_4 C q a post hq  2000 m 0 0 hw
set_option maxRecDepth 20000 in
theorem c_M_lostAll (l : Launch) (D : va_G) (t : Nat → ClassId) (ev : Nat → Nat) (a : Nat → Nat) (m : MSt) (post : Int32 → MSt → Prop) (hw : wp_M_lostAll m post) : Con l D t ev y_M_lostAll b_M_lostAll 3 ((some .int)) 0 (woM t a m) [.ref (a 0)] (qI (woM t a)  post) :=
  ConR.of (by decide +kernel) (Nat.le_of_ble_eq_true rfl) (fun X el eD et ee C q _ => by subst el; subst eD; subst et; subst ee; exact g_M_lostAll C q a m post (fun v c1 h => ⟨⟨v, c1, rfl, rfl, h⟩, rfl⟩) hw)
def w_M_landed_4  (post : Int32 → MSt → Prop)  : Nat → MSt → Int32 → Int32 → Prop
  | 0, _, _, _ => False
  | n + 1, m, x1, x2 =>
    ((((M_d m) 4) ≤ x2) → (post x1 m)) ∧ ((¬ ((M_d m) 4) ≤ x2) → (wp_M_hasLanded m x2 (fun v1 m_2 => ((v1 = 0) → (∀ y3 : Int32, y3 = x1 ||| 0 → (∀ y4 : Int32, y4 = x2 + 1 → (w_M_landed_4  post  n m_2 y3 y4)))) ∧ ((¬ v1 = 0) → (∀ y5 : Int32, y5 = 1 <<< (x2 &&& 31) → (∀ y6 : Int32, y6 = x1 ||| y5 → (∀ y7 : Int32, y7 = x2 + 1 → (w_M_landed_4  post  n m_2 y6 y7))))))))
set_option maxRecDepth 20000 in
theorem j_M_landed_4 {X : GX} (C : GC X b_M_landed R_M 3 (rmd 2)) {Qp : Option Value → va_W → Prop} (q : RC X ((some .int)) Qp 0 0) (a : Nat → Nat)   (post : Int32 → MSt → Prop) (hq : ∀ v c1, post v c1 → Qp (some (.int v)) (woM (xt X) a c1)) : ∀ (n : Nat) (m : MSt) (x1 : Int32) (x2 : Int32), w_M_landed_4  post  n m x1 x2 → G X 0 0 (woM (xt X) a m) [(0, .ref (a 0)), (1, .int x1), (2, .int x2)] [] 4 := by
  intro n
  induction n with
  | zero => intro m x1 x2 hw; exact hw.elim
  | succ n ih =>
    intro m x1 x2 hw
    rw [w_M_landed_4] at hw
    refine g_iload_n (pc := 4) C d_M_landed_4 2 rfl rfl ?_
    refine g_aload_n (pc := 5) C d_M_landed_5 0 rfl rfl ?_
    refine fM_d (pc := 6) C lk_M_7 d_M_landed_6 ?_
    refine g_iconst (pc := 9) C (v := 4) d_M_landed_9 (by decide) ?_
    refine lM_d (pc := 10) C d_M_landed_10 (f := M_d m) rfl (N0 := 4) (by decide) (by unfold vp_in; decide) ?_
    refine g_icmp_ge (pc := 11) (tgt := 38) C d_M_landed_11 (by decide) (fun h9 => ?_) (fun h9 => ?_)
    · replace hw := hw.1 h9
      refine g_iload_n (pc := 38) C d_M_landed_38 1 rfl rfl ?_
      exact g_iret (pc := 39) C q d_M_landed_39 (hq _ _ hw)
    · replace hw := hw.2 h9
      refine g_iload_n (pc := 14) C d_M_landed_14 1 rfl rfl ?_
      refine g_aload_n (pc := 15) C d_M_landed_15 0 rfl rfl ?_
      refine g_iload_n (pc := 16) C d_M_landed_16 2 rfl rfl ?_
      refine k_Ia (pc := 17) (co_V C (c_M_hasLanded (xl X) (xD X) (xt X) (xv X) a m x2 _ hw) mw_M_hasLanded lk_M_80 d_M_landed_17 (List.range _) (all_C _) (all_nd _) (rec_w C 0 6 rfl rfl) rfl rfl ⟨Nat.le_of_ble_eq_true rfl, Nat.le_of_ble_eq_true rfl⟩ ⟨Nat.le_of_ble_eq_true rfl, Nat.le_of_ble_eq_true rfl⟩ (rest := [.int x1]) rfl rfl (Nat.le_of_ble_eq_true rfl)) (fun v1 m_2 hw => ?_)
      refine g_if_eq (pc := 20) (tgt := 29) C d_M_landed_20 (by decide) (fun h8 => ?_) (fun h8 => ?_)
      · replace hw := hw.1 h8
        refine g_iconst (pc := 29) C (v := 0) d_M_landed_29 (by decide) ?_
        refine g_ior (pc := 30) C d_M_landed_30 ?_
        refine g_topi (fun y3 ey3 => ?_)
        replace hw := hw y3 ey3
        refine g_istore_n (pc := 31) C d_M_landed_31 rfl (Nat.le_of_ble_eq_true rfl) (lv' := [(0, .ref (a 0)), (1, .int y3), (2, .int x2)]) rfl ?_
        obtain ⟨y4, ey4⟩ : ∃ w, w = x2 + 1 := ⟨_, rfl⟩
        replace hw := hw y4 ey4
        refine g_iinc (pc := 32) C d_M_landed_32 2 rfl (v := y4) (by rw [ey4]; rfl) (Nat.le_of_ble_eq_true rfl) (lv' := [(0, .ref (a 0)), (1, .int y3), (2, .int y4)]) rfl ?_
        refine g_goto (pc := 35) (tgt := 4) C d_M_landed_35 (by decide) ?_
        exact ih m_2 y3 y4 hw
      · replace hw := hw.2 h8
        refine g_iconst (pc := 23) C (v := 1) d_M_landed_23 (by decide) ?_
        refine g_iload_n (pc := 24) C d_M_landed_24 2 rfl rfl ?_
        refine g_ishl (pc := 25) C d_M_landed_25 ?_
        refine g_topi (fun y5 ey5 => ?_)
        replace hw := hw y5 ey5
        refine g_goto (pc := 26) (tgt := 30) C d_M_landed_26 (by decide) ?_
        refine g_ior (pc := 30) C d_M_landed_30 ?_
        refine g_topi (fun y6 ey6 => ?_)
        replace hw := hw y6 ey6
        refine g_istore_n (pc := 31) C d_M_landed_31 rfl (Nat.le_of_ble_eq_true rfl) (lv' := [(0, .ref (a 0)), (1, .int y6), (2, .int x2)]) rfl ?_
        obtain ⟨y7, ey7⟩ : ∃ w, w = x2 + 1 := ⟨_, rfl⟩
        replace hw := hw y7 ey7
        refine g_iinc (pc := 32) C d_M_landed_32 2 rfl (v := y7) (by rw [ey7]; rfl) (Nat.le_of_ble_eq_true rfl) (lv' := [(0, .ref (a 0)), (1, .int y6), (2, .int y7)]) rfl ?_
        refine g_goto (pc := 35) (tgt := 4) C d_M_landed_35 (by decide) ?_
        exact ih m_2 y6 y7 hw
def wp_M_landed (m : MSt) (post : Int32 → MSt → Prop) : Prop :=
  w_M_landed_4  post  2000 m 0 0
set_option maxRecDepth 20000 in
theorem g_M_landed {X : GX} (C : GC X b_M_landed R_M 3 (rmd 2)) {Qp : Option Value → va_W → Prop} (q : RC X ((some .int)) Qp 0 0) (a : Nat → Nat) (m : MSt) (post : Int32 → MSt → Prop) (hq : ∀ v c1, post v c1 → Qp (some (.int v)) (woM (xt X) a c1)) (hw : wp_M_landed m post) : G X 0 0 (woM (xt X) a m) [(0, .ref (a 0))] [] 0 := by
  unfold wp_M_landed at hw
  refine g_iconst (pc := 0) C (v := 0) d_M_landed_0 (by decide) ?_
  refine g_istore_n (pc := 1) C d_M_landed_1 rfl (Nat.le_of_ble_eq_true rfl) (lv' := [(0, .ref (a 0)), (1, .int 0)]) rfl ?_
  refine g_iconst (pc := 2) C (v := 0) d_M_landed_2 (by decide) ?_
  refine g_istore_n (pc := 3) C d_M_landed_3 rfl (Nat.le_of_ble_eq_true rfl) (lv' := [(0, .ref (a 0)), (1, .int 0), (2, .int 0)]) rfl ?_
  exact j_M_landed_4 C q a post hq  2000 m 0 0 hw
set_option maxRecDepth 20000 in
theorem c_M_landed (l : Launch) (D : va_G) (t : Nat → ClassId) (ev : Nat → Nat) (a : Nat → Nat) (m : MSt) (post : Int32 → MSt → Prop) (hw : wp_M_landed m post) : Con l D t ev y_M_landed b_M_landed 3 ((some .int)) 2 (woM t a m) [.ref (a 0)] (qI (woM t a)  post) :=
  ConR.of (by decide +kernel) (Nat.le_of_ble_eq_true rfl) (fun X el eD et ee C q _ => by subst el; subst eD; subst et; subst ee; exact g_M_landed C q a m post (fun v c1 h => ⟨⟨v, c1, rfl, rfl, h⟩, rfl⟩) hw)
def w_M_places_4  (post : Int32 → MSt → Prop)  : Nat → MSt → Int32 → Int32 → Prop
  | 0, _, _, _ => False
  | n + 1, m, x1, x2 =>
    ((((M_d m) 4) ≤ x2) → (post x1 m)) ∧ ((¬ ((M_d m) 4) ≤ x2) → (wp_M_get m x2 3 (fun v1 m_2 => ∀ y3 : Int32, y3 = x1 ||| (1 <<< (v1 &&& 31)) → (∀ y4 : Int32, y4 = x2 + 1 → (w_M_places_4  post  n m_2 y3 y4)))))
set_option maxRecDepth 20000 in
theorem j_M_places_4 {X : GX} (C : GC X b_M_places R_M 3 (rmd 1)) {Qp : Option Value → va_W → Prop} (q : RC X ((some .int)) Qp 0 0) (a : Nat → Nat)   (post : Int32 → MSt → Prop) (hq : ∀ v c1, post v c1 → Qp (some (.int v)) (woM (xt X) a c1)) : ∀ (n : Nat) (m : MSt) (x1 : Int32) (x2 : Int32), w_M_places_4  post  n m x1 x2 → G X 0 0 (woM (xt X) a m) [(0, .ref (a 0)), (1, .int x1), (2, .int x2)] [] 4 := by
  intro n
  induction n with
  | zero => intro m x1 x2 hw; exact hw.elim
  | succ n ih =>
    intro m x1 x2 hw
    rw [w_M_places_4] at hw
    refine g_iload_n (pc := 4) C d_M_places_4 2 rfl rfl ?_
    refine g_aload_n (pc := 5) C d_M_places_5 0 rfl rfl ?_
    refine fM_d (pc := 6) C lk_M_7 d_M_places_6 ?_
    refine g_iconst (pc := 9) C (v := 4) d_M_places_9 (by decide) ?_
    refine lM_d (pc := 10) C d_M_places_10 (f := M_d m) rfl (N0 := 4) (by decide) (by unfold vp_in; decide) ?_
    refine g_icmp_ge (pc := 11) (tgt := 31) C d_M_places_11 (by decide) (fun h5 => ?_) (fun h5 => ?_)
    · replace hw := hw.1 h5
      refine g_iload_n (pc := 31) C d_M_places_31 1 rfl rfl ?_
      exact g_iret (pc := 32) C q d_M_places_32 (hq _ _ hw)
    · replace hw := hw.2 h5
      refine g_iload_n (pc := 14) C d_M_places_14 1 rfl rfl ?_
      refine g_iconst (pc := 15) C (v := 1) d_M_places_15 (by decide) ?_
      refine g_aload_n (pc := 16) C d_M_places_16 0 rfl rfl ?_
      refine g_iload_n (pc := 17) C d_M_places_17 2 rfl rfl ?_
      refine g_iconst (pc := 18) C (v := 3) d_M_places_18 (by decide) ?_
      refine k_Ia (pc := 19) (co_V C (c_M_get (xl X) (xD X) (xt X) (xv X) a m x2 3 _ hw) mw_M_get lk_M_64 d_M_places_19 (List.range _) (all_C _) (all_nd _) (rec_w C 0 6 rfl rfl) rfl rfl ⟨Nat.le_of_ble_eq_true rfl, Nat.le_of_ble_eq_true rfl⟩ ⟨Nat.le_of_ble_eq_true rfl, Nat.le_of_ble_eq_true rfl⟩ (rest := [.int 1, .int x1]) rfl rfl (Nat.le_of_ble_eq_true rfl)) (fun v1 m_2 hw => ?_)
      refine g_ishl (pc := 22) C d_M_places_22 ?_
      refine g_ior (pc := 23) C d_M_places_23 ?_
      refine g_topi (fun y3 ey3 => ?_)
      replace hw := hw y3 ey3
      refine g_istore_n (pc := 24) C d_M_places_24 rfl (Nat.le_of_ble_eq_true rfl) (lv' := [(0, .ref (a 0)), (1, .int y3), (2, .int x2)]) rfl ?_
      obtain ⟨y4, ey4⟩ : ∃ w, w = x2 + 1 := ⟨_, rfl⟩
      replace hw := hw y4 ey4
      refine g_iinc (pc := 25) C d_M_places_25 2 rfl (v := y4) (by rw [ey4]; rfl) (Nat.le_of_ble_eq_true rfl) (lv' := [(0, .ref (a 0)), (1, .int y3), (2, .int y4)]) rfl ?_
      refine g_goto (pc := 28) (tgt := 4) C d_M_places_28 (by decide) ?_
      exact ih m_2 y3 y4 hw
def wp_M_places (m : MSt) (post : Int32 → MSt → Prop) : Prop :=
  w_M_places_4  post  2000 m 0 0
set_option maxRecDepth 20000 in
theorem g_M_places {X : GX} (C : GC X b_M_places R_M 3 (rmd 1)) {Qp : Option Value → va_W → Prop} (q : RC X ((some .int)) Qp 0 0) (a : Nat → Nat) (m : MSt) (post : Int32 → MSt → Prop) (hq : ∀ v c1, post v c1 → Qp (some (.int v)) (woM (xt X) a c1)) (hw : wp_M_places m post) : G X 0 0 (woM (xt X) a m) [(0, .ref (a 0))] [] 0 := by
  unfold wp_M_places at hw
  refine g_iconst (pc := 0) C (v := 0) d_M_places_0 (by decide) ?_
  refine g_istore_n (pc := 1) C d_M_places_1 rfl (Nat.le_of_ble_eq_true rfl) (lv' := [(0, .ref (a 0)), (1, .int 0)]) rfl ?_
  refine g_iconst (pc := 2) C (v := 0) d_M_places_2 (by decide) ?_
  refine g_istore_n (pc := 3) C d_M_places_3 rfl (Nat.le_of_ble_eq_true rfl) (lv' := [(0, .ref (a 0)), (1, .int 0), (2, .int 0)]) rfl ?_
  exact j_M_places_4 C q a post hq  2000 m 0 0 hw
set_option maxRecDepth 20000 in
theorem c_M_places (l : Launch) (D : va_G) (t : Nat → ClassId) (ev : Nat → Nat) (a : Nat → Nat) (m : MSt) (post : Int32 → MSt → Prop) (hw : wp_M_places m post) : Con l D t ev y_M_places b_M_places 3 ((some .int)) 1 (woM t a m) [.ref (a 0)] (qI (woM t a)  post) :=
  ConR.of (by decide +kernel) (Nat.le_of_ble_eq_true rfl) (fun X el eD et ee C q _ => by subst el; subst eD; subst et; subst ee; exact g_M_places C q a m post (fun v c1 h => ⟨⟨v, c1, rfl, rfl, h⟩, rfl⟩) hw)
def w_M_isLaw_29  (post : Int32 → Prop)  (s0 : Int64) (s1 : Int64) (s2 : Int64) : Prop :=
  wp_M_in s0 s1 s2 (fun v4 => ((v4 = 0) → (post 0 )) ∧ ((¬ v4 = 0) → (post 1 )))
set_option maxRecDepth 20000 in
theorem j_M_isLaw_29 {X : GX} (C : GC X b_M_isLaw R_M 2 (rmd 1)) {Qp : Option Value → va_W → Prop} (q : RC X ((some .boolean)) Qp 0 0)    (post : Int32 → Prop) (hq : ∀ v, post v → Qp (some (.int v)) []) : ∀ (s0 : Int64) (s1 : Int64) (s2 : Int64), w_M_isLaw_29  post  s0 s1 s2 → G X 0 0 ([]) [] [.long s2, .long s1, .long s0] 29 := by
  intro s0 s1 s2 hw
  unfold w_M_isLaw_29 at hw
  refine k_I0 (pc := 29) (co_S C (c_M_in (xl X) (xD X) (xt X) (xv X) s0 s1 s2 _ hw) mw_M_in lk_M_58 d_M_isLaw_29 [] rfl (by decide)  rfl rfl ⟨Nat.le_of_ble_eq_true rfl, Nat.le_of_ble_eq_true rfl⟩ ⟨Nat.le_of_ble_eq_true rfl, Nat.le_of_ble_eq_true rfl⟩ (rest := []) rfl rfl (Nat.le_of_ble_eq_true rfl)) (fun v4 hw => ?_)
  refine g_if_eq (pc := 32) (tgt := 39) C d_M_isLaw_32 (by decide) (fun h5 => ?_) (fun h5 => ?_)
  · replace hw := hw.1 h5
    refine g_iconst (pc := 39) C (v := 0) d_M_isLaw_39 (by decide) ?_
    exact g_zret (pc := 40) C q d_M_isLaw_40 (by decide) (hq _ hw)
  · replace hw := hw.2 h5
    refine g_iconst (pc := 35) C (v := 1) d_M_isLaw_35 (by decide) ?_
    refine g_goto (pc := 36) (tgt := 40) C d_M_isLaw_36 (by decide) ?_
    exact g_zret (pc := 40) C q d_M_isLaw_40 (by decide) (hq _ hw)
def wp_M_isLaw (x0 : Int32) (x1 : Int32) (post : Int32 → Prop) : Prop :=
  ∀ y1 : Int64, y1 = x0.toInt64 → (wp_M_in y1 0 3 (fun v2 => ((v2 = 0) → (post 0 )) ∧ ((¬ v2 = 0) → (∀ y3 : Int64, y3 = x1.toInt64 → (((x0 = 3) → (w_M_isLaw_29  post  y3 0 99)) ∧ ((¬ x0 = 3) → (w_M_isLaw_29  post  y3 0 9)))))))
set_option maxRecDepth 20000 in
theorem g_M_isLaw {X : GX} (C : GC X b_M_isLaw R_M 2 (rmd 1)) {Qp : Option Value → va_W → Prop} (q : RC X ((some .boolean)) Qp 0 0) (x0 : Int32) (x1 : Int32) (post : Int32 → Prop) (hq : ∀ v, post v → Qp (some (.int v)) []) (hw : wp_M_isLaw x0 x1 post) : G X 0 0 ([]) [(0, .int x0), (1, .int x1)] [] 0 := by
  unfold wp_M_isLaw at hw
  refine g_iload_n (pc := 0) C d_M_isLaw_0 0 rfl rfl ?_
  refine g_i2l (pc := 1) C d_M_isLaw_1 ?_
  refine g_topl (fun y1 ey1 => ?_)
  replace hw := hw y1 ey1
  refine g_lconst (pc := 2) C (v := 0) d_M_isLaw_2 (by decide) ?_
  refine g_ldc2_w (pc := 3) C (v := 3) d_M_isLaw_3 lk_M_98 ?_
  refine k_I0 (pc := 6) (co_S C (c_M_in (xl X) (xD X) (xt X) (xv X) y1 0 3 _ hw) mw_M_in lk_M_58 d_M_isLaw_6 [] rfl (by decide)  rfl rfl ⟨Nat.le_of_ble_eq_true rfl, Nat.le_of_ble_eq_true rfl⟩ ⟨Nat.le_of_ble_eq_true rfl, Nat.le_of_ble_eq_true rfl⟩ (rest := []) rfl rfl (Nat.le_of_ble_eq_true rfl)) (fun v2 hw => ?_)
  refine g_if_eq (pc := 9) (tgt := 39) C d_M_isLaw_9 (by decide) (fun h7 => ?_) (fun h7 => ?_)
  · replace hw := hw.1 h7
    refine g_iconst (pc := 39) C (v := 0) d_M_isLaw_39 (by decide) ?_
    exact g_zret (pc := 40) C q d_M_isLaw_40 (by decide) (hq _ hw)
  · replace hw := hw.2 h7
    refine g_iload_n (pc := 12) C d_M_isLaw_12 1 rfl rfl ?_
    refine g_i2l (pc := 13) C d_M_isLaw_13 ?_
    refine g_topl (fun y3 ey3 => ?_)
    replace hw := hw y3 ey3
    refine g_lconst (pc := 14) C (v := 0) d_M_isLaw_14 (by decide) ?_
    refine g_iload_n (pc := 15) C d_M_isLaw_15 0 rfl rfl ?_
    refine g_iconst (pc := 16) C (v := 3) d_M_isLaw_16 (by decide) ?_
    refine g_icmp_ne (pc := 17) (tgt := 26) C d_M_isLaw_17 (by decide) (fun h6 => ?_) (fun h6 => ?_)
    · replace hw := hw.2 h6
      refine g_ldc2_w (pc := 26) C (v := 9) d_M_isLaw_26 lk_M_62 ?_
      refine g_sub [] (lv' := []) rfl ?_
      exact j_M_isLaw_29 C q  post hq  y3 0 9 hw
    · replace hw := hw.1 h6
      refine g_ldc2_w (pc := 20) C (v := 99) d_M_isLaw_20 lk_M_100 ?_
      refine g_goto (pc := 23) (tgt := 29) C d_M_isLaw_23 (by decide) ?_
      refine g_sub [] (lv' := []) rfl ?_
      exact j_M_isLaw_29 C q  post hq  y3 0 99 hw
set_option maxRecDepth 20000 in
theorem c_M_isLaw (l : Launch) (D : va_G) (t : Nat → ClassId) (ev : Nat → Nat) (x0 : Int32) (x1 : Int32) (post : Int32 → Prop) (hw : wp_M_isLaw x0 x1 post) : Con l D t ev y_M_isLaw b_M_isLaw 2 ((some .boolean)) 1 ([]) [.int x0, .int x1] (qI (fun _ : Unit => [])  (fun v _ => post v)) :=
  ConR.of (by decide +kernel) (Nat.le_of_ble_eq_true rfl) (fun X el eD et ee C q _ => by subst el; subst eD; subst et; subst ee; exact g_M_isLaw C q x0 x1 post (fun v h => ⟨⟨v, (), rfl, rfl, h⟩, rfl⟩) hw)
def wp_M_set (m : MSt) (x1 : Int32) (x2 : Int32) (post : Int32 → MSt → Prop) : Prop :=
  wp_M_isLaw x1 x2 (fun v1 => ((v1 = 0) → (post (-1) m)) ∧ ((¬ v1 = 0) → (wp_M_becomes m x1 x2 (fun v2 m_3 => post v2 m_3))))
set_option maxRecDepth 20000 in
theorem g_M_set {X : GX} (C : GC X b_M_set R_M 3 (rmd 2)) {Qp : Option Value → va_W → Prop} (q : RC X ((some .int)) Qp 0 0) (a : Nat → Nat) (m : MSt) (x1 : Int32) (x2 : Int32) (post : Int32 → MSt → Prop) (hq : ∀ v c1, post v c1 → Qp (some (.int v)) (woM (xt X) a c1)) (hw : wp_M_set m x1 x2 post) : G X 0 0 (woM (xt X) a m) [(0, .ref (a 0)), (1, .int x1), (2, .int x2)] [] 0 := by
  unfold wp_M_set at hw
  refine g_iload_n (pc := 0) C d_M_set_0 1 rfl rfl ?_
  refine g_iload_n (pc := 1) C d_M_set_1 2 rfl rfl ?_
  refine k_I0 (pc := 2) (co_S C (c_M_isLaw (xl X) (xD X) (xt X) (xv X) x1 x2 _ hw) mw_M_isLaw lk_M_102 d_M_set_2 [] rfl (by decide)  rfl rfl ⟨Nat.le_of_ble_eq_true rfl, Nat.le_of_ble_eq_true rfl⟩ ⟨Nat.le_of_ble_eq_true rfl, Nat.le_of_ble_eq_true rfl⟩ (rest := []) rfl rfl (Nat.le_of_ble_eq_true rfl)) (fun v1 hw => ?_)
  refine g_if_eq (pc := 5) (tgt := 17) C d_M_set_5 (by decide) (fun h4 => ?_) (fun h4 => ?_)
  · replace hw := hw.1 h4
    refine g_iconst (pc := 17) C (v := (-1)) d_M_set_17 (by decide) ?_
    exact g_iret (pc := 18) C q d_M_set_18 (hq _ _ hw)
  · replace hw := hw.2 h4
    refine g_aload_n (pc := 8) C d_M_set_8 0 rfl rfl ?_
    refine g_iload_n (pc := 9) C d_M_set_9 1 rfl rfl ?_
    refine g_iload_n (pc := 10) C d_M_set_10 2 rfl rfl ?_
    refine k_Ia (pc := 11) (co_V C (c_M_becomes (xl X) (xD X) (xt X) (xv X) a m x1 x2 _ hw) mw_M_becomes lk_M_106 d_M_set_11 (List.range _) (all_C _) (all_nd _) (rec_w C 0 6 rfl rfl) rfl rfl ⟨Nat.le_of_ble_eq_true rfl, Nat.le_of_ble_eq_true rfl⟩ ⟨Nat.le_of_ble_eq_true rfl, Nat.le_of_ble_eq_true rfl⟩ (rest := []) rfl rfl (Nat.le_of_ble_eq_true rfl)) (fun v2 m_3 hw => ?_)
    refine g_goto (pc := 14) (tgt := 18) C d_M_set_14 (by decide) ?_
    exact g_iret (pc := 18) C q d_M_set_18 (hq _ _ hw)
set_option maxRecDepth 20000 in
theorem c_M_set (l : Launch) (D : va_G) (t : Nat → ClassId) (ev : Nat → Nat) (a : Nat → Nat) (m : MSt) (x1 : Int32) (x2 : Int32) (post : Int32 → MSt → Prop) (hw : wp_M_set m x1 x2 post) : Con l D t ev y_M_set b_M_set 3 ((some .int)) 2 (woM t a m) [.ref (a 0), .int x1, .int x2] (qI (woM t a)  post) :=
  ConR.of (by decide +kernel) (Nat.le_of_ble_eq_true rfl) (fun X el eD et ee C q _ => by subst el; subst eD; subst et; subst ee; exact g_M_set C q a m x1 x2 post (fun v c1 h => ⟨⟨v, c1, rfl, rfl, h⟩, rfl⟩) hw)
def wp_M_lawOf (m : MSt) (x1 : Int32) (post : Int32 → MSt → Prop) : Prop :=
  ∀ y1 : Int64, y1 = x1.toInt64 → (wp_M_in y1 0 3 (fun v2 => ((v2 = 0) → (post (-1) m)) ∧ ((¬ v2 = 0) → (vp_in x1 67 ∧ (post ((M_d m) x1.toNatClampNeg) m)))))
set_option maxRecDepth 20000 in
theorem g_M_lawOf {X : GX} (C : GC X b_M_lawOf R_M 2 (rmd 1)) {Qp : Option Value → va_W → Prop} (q : RC X ((some .int)) Qp 0 0) (a : Nat → Nat) (m : MSt) (x1 : Int32) (post : Int32 → MSt → Prop) (hq : ∀ v c1, post v c1 → Qp (some (.int v)) (woM (xt X) a c1)) (hw : wp_M_lawOf m x1 post) : G X 0 0 (woM (xt X) a m) [(0, .ref (a 0)), (1, .int x1)] [] 0 := by
  unfold wp_M_lawOf at hw
  refine g_iload_n (pc := 0) C d_M_lawOf_0 1 rfl rfl ?_
  refine g_i2l (pc := 1) C d_M_lawOf_1 ?_
  refine g_topl (fun y1 ey1 => ?_)
  replace hw := hw y1 ey1
  refine g_lconst (pc := 2) C (v := 0) d_M_lawOf_2 (by decide) ?_
  refine g_ldc2_w (pc := 3) C (v := 3) d_M_lawOf_3 lk_M_98 ?_
  refine k_I0 (pc := 6) (co_S C (c_M_in (xl X) (xD X) (xt X) (xv X) y1 0 3 _ hw) mw_M_in lk_M_58 d_M_lawOf_6 [] rfl (by decide)  rfl rfl ⟨Nat.le_of_ble_eq_true rfl, Nat.le_of_ble_eq_true rfl⟩ ⟨Nat.le_of_ble_eq_true rfl, Nat.le_of_ble_eq_true rfl⟩ (rest := []) rfl rfl (Nat.le_of_ble_eq_true rfl)) (fun v2 hw => ?_)
  refine g_if_eq (pc := 9) (tgt := 21) C d_M_lawOf_9 (by decide) (fun h4 => ?_) (fun h4 => ?_)
  · replace hw := hw.1 h4
    refine g_iconst (pc := 21) C (v := (-1)) d_M_lawOf_21 (by decide) ?_
    exact g_iret (pc := 22) C q d_M_lawOf_22 (hq _ _ hw)
  · replace hw := hw.2 h4
    refine g_aload_n (pc := 12) C d_M_lawOf_12 0 rfl rfl ?_
    refine fM_d (pc := 13) C lk_M_7 d_M_lawOf_13 ?_
    refine g_iload_n (pc := 16) C d_M_lawOf_16 1 rfl rfl ?_
    obtain ⟨h3, hw⟩ := hw
    refine lM_d (pc := 17) C d_M_lawOf_17 (f := M_d m) rfl (N0 := x1.toNatClampNeg) rfl h3 ?_
    refine g_goto (pc := 18) (tgt := 22) C d_M_lawOf_18 (by decide) ?_
    exact g_iret (pc := 22) C q d_M_lawOf_22 (hq _ _ hw)
set_option maxRecDepth 20000 in
theorem c_M_lawOf (l : Launch) (D : va_G) (t : Nat → ClassId) (ev : Nat → Nat) (a : Nat → Nat) (m : MSt) (x1 : Int32) (post : Int32 → MSt → Prop) (hw : wp_M_lawOf m x1 post) : Con l D t ev y_M_lawOf b_M_lawOf 2 ((some .int)) 1 (woM t a m) [.ref (a 0), .int x1] (qI (woM t a)  post) :=
  ConR.of (by decide +kernel) (Nat.le_of_ble_eq_true rfl) (fun X el eD et ee C q _ => by subst el; subst eD; subst et; subst ee; exact g_M_lawOf C q a m x1 post (fun v c1 h => ⟨⟨v, c1, rfl, rfl, h⟩, rfl⟩) hw)
def wp_M_comes (m : MSt) (x1 : Int32) (x2 : Int32) (x3 : Int32) (x4 : Int32) (x5 : Int32) (post : Int32 → MSt → Prop) : Prop :=
  wp_M_puts m ((M_d m) 4) 0 x1 (fun m_1 => wp_M_puts m_1 ((M_d m) 4) 1 x2 (fun m_2 => wp_M_puts m_2 ((M_d m) 4) 2 x3 (fun m_3 => wp_M_puts m_3 ((M_d m) 4) 3 x4 (fun m_4 => wp_M_puts m_4 ((M_d m) 4) 4 x5 (fun m_5 => ∀ y6 : Int32, y6 = ((M_d m_5) 4) + 1 → (post ((M_d m) 4) (M_d_ m_5 (upd (M_d m_5) 4 y6))))))))
set_option maxRecDepth 20000 in
theorem g_M_comes {X : GX} (C : GC X b_M_comes R_M 7 (rmd 1)) {Qp : Option Value → va_W → Prop} (q : RC X ((some .int)) Qp 0 0) (a : Nat → Nat) (m : MSt) (x1 : Int32) (x2 : Int32) (x3 : Int32) (x4 : Int32) (x5 : Int32) (post : Int32 → MSt → Prop) (hq : ∀ v c1, post v c1 → Qp (some (.int v)) (woM (xt X) a c1)) (hw : wp_M_comes m x1 x2 x3 x4 x5 post) : G X 0 0 (woM (xt X) a m) [(0, .ref (a 0)), (1, .int x1), (2, .int x2), (3, .int x3), (4, .int x4), (5, .int x5)] [] 0 := by
  unfold wp_M_comes at hw
  refine g_aload_n (pc := 0) C d_M_comes_0 0 rfl rfl ?_
  refine fM_d (pc := 1) C lk_M_7 d_M_comes_1 ?_
  refine g_iconst (pc := 4) C (v := 4) d_M_comes_4 (by decide) ?_
  refine lM_d (pc := 5) C d_M_comes_5 (f := M_d m) rfl (N0 := 4) (by decide) (by unfold vp_in; decide) ?_
  refine g_istore (pc := 6) C d_M_comes_6 (Nat.le_of_ble_eq_true rfl) (lv' := [(0, .ref (a 0)), (1, .int x1), (2, .int x2), (3, .int x3), (4, .int x4), (5, .int x5), (6, .int ((M_d m) 4))]) rfl ?_
  refine g_aload_n (pc := 8) C d_M_comes_8 0 rfl rfl ?_
  refine g_iload (pc := 9) C d_M_comes_9 6 rfl ?_
  refine g_iconst (pc := 11) C (v := 0) d_M_comes_11 (by decide) ?_
  refine g_iload_n (pc := 12) C d_M_comes_12 1 rfl rfl ?_
  refine k_Va (pc := 13) (co_V C (c_M_puts (xl X) (xD X) (xt X) (xv X) a m ((M_d m) 4) 0 x1 _ hw) mw_M_puts lk_M_72 d_M_comes_13 (List.range _) (all_C _) (all_nd _) (rec_w C 0 6 rfl rfl) rfl rfl ⟨Nat.le_of_ble_eq_true rfl, Nat.le_of_ble_eq_true rfl⟩ ⟨Nat.le_of_ble_eq_true rfl, Nat.le_of_ble_eq_true rfl⟩ (rest := []) rfl rfl (Nat.le_of_ble_eq_true rfl)) (fun m_1 hw => ?_)
  refine g_aload_n (pc := 16) C d_M_comes_16 0 rfl rfl ?_
  refine g_iload (pc := 17) C d_M_comes_17 6 rfl ?_
  refine g_iconst (pc := 19) C (v := 1) d_M_comes_19 (by decide) ?_
  refine g_iload_n (pc := 20) C d_M_comes_20 2 rfl rfl ?_
  refine k_Va (pc := 21) (co_V C (c_M_puts (xl X) (xD X) (xt X) (xv X) a m_1 ((M_d m) 4) 1 x2 _ hw) mw_M_puts lk_M_72 d_M_comes_21 (List.range _) (all_C _) (all_nd _) (rec_w C 0 6 rfl rfl) rfl rfl ⟨Nat.le_of_ble_eq_true rfl, Nat.le_of_ble_eq_true rfl⟩ ⟨Nat.le_of_ble_eq_true rfl, Nat.le_of_ble_eq_true rfl⟩ (rest := []) rfl rfl (Nat.le_of_ble_eq_true rfl)) (fun m_2 hw => ?_)
  refine g_aload_n (pc := 24) C d_M_comes_24 0 rfl rfl ?_
  refine g_iload (pc := 25) C d_M_comes_25 6 rfl ?_
  refine g_iconst (pc := 27) C (v := 2) d_M_comes_27 (by decide) ?_
  refine g_iload_n (pc := 28) C d_M_comes_28 3 rfl rfl ?_
  refine k_Va (pc := 29) (co_V C (c_M_puts (xl X) (xD X) (xt X) (xv X) a m_2 ((M_d m) 4) 2 x3 _ hw) mw_M_puts lk_M_72 d_M_comes_29 (List.range _) (all_C _) (all_nd _) (rec_w C 0 6 rfl rfl) rfl rfl ⟨Nat.le_of_ble_eq_true rfl, Nat.le_of_ble_eq_true rfl⟩ ⟨Nat.le_of_ble_eq_true rfl, Nat.le_of_ble_eq_true rfl⟩ (rest := []) rfl rfl (Nat.le_of_ble_eq_true rfl)) (fun m_3 hw => ?_)
  refine g_aload_n (pc := 32) C d_M_comes_32 0 rfl rfl ?_
  refine g_iload (pc := 33) C d_M_comes_33 6 rfl ?_
  refine g_iconst (pc := 35) C (v := 3) d_M_comes_35 (by decide) ?_
  refine g_iload (pc := 36) C d_M_comes_36 4 rfl ?_
  refine k_Va (pc := 38) (co_V C (c_M_puts (xl X) (xD X) (xt X) (xv X) a m_3 ((M_d m) 4) 3 x4 _ hw) mw_M_puts lk_M_72 d_M_comes_38 (List.range _) (all_C _) (all_nd _) (rec_w C 0 6 rfl rfl) rfl rfl ⟨Nat.le_of_ble_eq_true rfl, Nat.le_of_ble_eq_true rfl⟩ ⟨Nat.le_of_ble_eq_true rfl, Nat.le_of_ble_eq_true rfl⟩ (rest := []) rfl rfl (Nat.le_of_ble_eq_true rfl)) (fun m_4 hw => ?_)
  refine g_aload_n (pc := 41) C d_M_comes_41 0 rfl rfl ?_
  refine g_iload (pc := 42) C d_M_comes_42 6 rfl ?_
  refine g_iconst (pc := 44) C (v := 4) d_M_comes_44 (by decide) ?_
  refine g_iload (pc := 45) C d_M_comes_45 5 rfl ?_
  refine k_Va (pc := 47) (co_V C (c_M_puts (xl X) (xD X) (xt X) (xv X) a m_4 ((M_d m) 4) 4 x5 _ hw) mw_M_puts lk_M_72 d_M_comes_47 (List.range _) (all_C _) (all_nd _) (rec_w C 0 6 rfl rfl) rfl rfl ⟨Nat.le_of_ble_eq_true rfl, Nat.le_of_ble_eq_true rfl⟩ ⟨Nat.le_of_ble_eq_true rfl, Nat.le_of_ble_eq_true rfl⟩ (rest := []) rfl rfl (Nat.le_of_ble_eq_true rfl)) (fun m_5 hw => ?_)
  refine g_aload_n (pc := 50) C d_M_comes_50 0 rfl rfl ?_
  refine fM_d (pc := 51) C lk_M_7 d_M_comes_51 ?_
  refine g_iconst (pc := 54) C (v := 4) d_M_comes_54 (by decide) ?_
  refine g_dup2 (pc := 55) C d_M_comes_55 rfl rfl ?_
  refine lM_d (pc := 56) C d_M_comes_56 (f := M_d m_5) rfl (N0 := 4) (by decide) (by unfold vp_in; decide) ?_
  refine g_iconst (pc := 57) C (v := 1) d_M_comes_57 (by decide) ?_
  refine g_iadd (pc := 58) C d_M_comes_58 ?_
  refine g_topi (fun y6 ey6 => ?_)
  replace hw := hw y6 ey6
  refine sM_d (pc := 59) C d_M_comes_59 (f := M_d m_5) rfl (N0 := 4) (by decide) (by unfold vp_in; decide) ?_
  refine g_iload (pc := 60) C d_M_comes_60 6 rfl ?_
  exact g_iret (pc := 62) C q d_M_comes_62 (hq _ _ hw)
set_option maxRecDepth 20000 in
theorem c_M_comes (l : Launch) (D : va_G) (t : Nat → ClassId) (ev : Nat → Nat) (a : Nat → Nat) (m : MSt) (x1 : Int32) (x2 : Int32) (x3 : Int32) (x4 : Int32) (x5 : Int32) (post : Int32 → MSt → Prop) (hw : wp_M_comes m x1 x2 x3 x4 x5 post) : Con l D t ev y_M_comes b_M_comes 7 ((some .int)) 1 (woM t a m) [.ref (a 0), .int x1, .int x2, .int x3, .int x4, .int x5] (qI (woM t a)  post) :=
  ConR.of (by decide +kernel) (Nat.le_of_ble_eq_true rfl) (fun X el eD et ee C q _ => by subst el; subst eD; subst et; subst ee; exact g_M_comes C q a m x1 x2 x3 x4 x5 post (fun v c1 h => ⟨⟨v, c1, rfl, rfl, h⟩, rfl⟩) hw)
def wp_M_barge (m : MSt) (x1 : Int32) (x2 : Int32) (x3 : Int32) (x4 : Int32) (post : Int32 → MSt → Prop) : Prop :=
  ∀ y1 : Int64, y1 = x1.toInt64 → (wp_M_in y1 0 5 (fun v2 => ((v2 = 0) → (post (-1) m)) ∧ ((¬ v2 = 0) → (∀ y3 : Int64, y3 = x2.toInt64 → (wp_M_in y3 0 99 (fun v4 => ((v4 = 0) → (post (-1) m)) ∧ ((¬ v4 = 0) → (wp_M_isLock x3 (fun v5 => ((v5 = 0) → (post (-1) m)) ∧ ((¬ v5 = 0) → (wp_M_isLock x4 (fun v6 => ((v6 = 0) → (post (-1) m)) ∧ ((¬ v6 = 0) → (((((M_d m) 4) = 8) → (post (-2) m)) ∧ ((¬ ((M_d m) 4) = 8) → (wp_M_comes m x1 x2 0 x3 x4 (fun v7 m_8 => post v7 m_8)))))))))))))))))
set_option maxRecDepth 20000 in
theorem g_M_barge {X : GX} (C : GC X b_M_barge R_M 5 (rmd 2)) {Qp : Option Value → va_W → Prop} (q : RC X ((some .int)) Qp 0 0) (a : Nat → Nat) (m : MSt) (x1 : Int32) (x2 : Int32) (x3 : Int32) (x4 : Int32) (post : Int32 → MSt → Prop) (hq : ∀ v c1, post v c1 → Qp (some (.int v)) (woM (xt X) a c1)) (hw : wp_M_barge m x1 x2 x3 x4 post) : G X 0 0 (woM (xt X) a m) [(0, .ref (a 0)), (1, .int x1), (2, .int x2), (3, .int x3), (4, .int x4)] [] 0 := by
  unfold wp_M_barge at hw
  refine g_iload_n (pc := 0) C d_M_barge_0 1 rfl rfl ?_
  refine g_i2l (pc := 1) C d_M_barge_1 ?_
  refine g_topl (fun y1 ey1 => ?_)
  replace hw := hw y1 ey1
  refine g_lconst (pc := 2) C (v := 0) d_M_barge_2 (by decide) ?_
  refine g_ldc2_w (pc := 3) C (v := 5) d_M_barge_3 lk_M_109 ?_
  refine k_I0 (pc := 6) (co_S C (c_M_in (xl X) (xD X) (xt X) (xv X) y1 0 5 _ hw) mw_M_in lk_M_58 d_M_barge_6 [] rfl (by decide)  rfl rfl ⟨Nat.le_of_ble_eq_true rfl, Nat.le_of_ble_eq_true rfl⟩ ⟨Nat.le_of_ble_eq_true rfl, Nat.le_of_ble_eq_true rfl⟩ (rest := []) rfl rfl (Nat.le_of_ble_eq_true rfl)) (fun v2 hw => ?_)
  refine g_if_eq (pc := 9) (tgt := 39) C d_M_barge_9 (by decide) (fun h13 => ?_) (fun h13 => ?_)
  · replace hw := hw.1 h13
    refine g_iconst (pc := 39) C (v := (-1)) d_M_barge_39 (by decide) ?_
    exact g_iret (pc := 40) C q d_M_barge_40 (hq _ _ hw)
  · replace hw := hw.2 h13
    refine g_iload_n (pc := 12) C d_M_barge_12 2 rfl rfl ?_
    refine g_i2l (pc := 13) C d_M_barge_13 ?_
    refine g_topl (fun y3 ey3 => ?_)
    replace hw := hw y3 ey3
    refine g_lconst (pc := 14) C (v := 0) d_M_barge_14 (by decide) ?_
    refine g_ldc2_w (pc := 15) C (v := 99) d_M_barge_15 lk_M_100 ?_
    refine k_I0 (pc := 18) (co_S C (c_M_in (xl X) (xD X) (xt X) (xv X) y3 0 99 _ hw) mw_M_in lk_M_58 d_M_barge_18 [] rfl (by decide)  rfl rfl ⟨Nat.le_of_ble_eq_true rfl, Nat.le_of_ble_eq_true rfl⟩ ⟨Nat.le_of_ble_eq_true rfl, Nat.le_of_ble_eq_true rfl⟩ (rest := []) rfl rfl (Nat.le_of_ble_eq_true rfl)) (fun v4 hw => ?_)
    refine g_if_eq (pc := 21) (tgt := 39) C d_M_barge_21 (by decide) (fun h12 => ?_) (fun h12 => ?_)
    · replace hw := hw.1 h12
      refine g_iconst (pc := 39) C (v := (-1)) d_M_barge_39 (by decide) ?_
      exact g_iret (pc := 40) C q d_M_barge_40 (hq _ _ hw)
    · replace hw := hw.2 h12
      refine g_iload_n (pc := 24) C d_M_barge_24 3 rfl rfl ?_
      refine k_I0 (pc := 25) (co_S C (c_M_isLock (xl X) (xD X) (xt X) (xv X) x3 _ hw) mw_M_isLock lk_M_111 d_M_barge_25 [] rfl (by decide)  rfl rfl ⟨Nat.le_of_ble_eq_true rfl, Nat.le_of_ble_eq_true rfl⟩ ⟨Nat.le_of_ble_eq_true rfl, Nat.le_of_ble_eq_true rfl⟩ (rest := []) rfl rfl (Nat.le_of_ble_eq_true rfl)) (fun v5 hw => ?_)
      refine g_if_eq (pc := 28) (tgt := 39) C d_M_barge_28 (by decide) (fun h11 => ?_) (fun h11 => ?_)
      · replace hw := hw.1 h11
        refine g_iconst (pc := 39) C (v := (-1)) d_M_barge_39 (by decide) ?_
        exact g_iret (pc := 40) C q d_M_barge_40 (hq _ _ hw)
      · replace hw := hw.2 h11
        refine g_iload (pc := 31) C d_M_barge_31 4 rfl ?_
        refine k_I0 (pc := 33) (co_S C (c_M_isLock (xl X) (xD X) (xt X) (xv X) x4 _ hw) mw_M_isLock lk_M_111 d_M_barge_33 [] rfl (by decide)  rfl rfl ⟨Nat.le_of_ble_eq_true rfl, Nat.le_of_ble_eq_true rfl⟩ ⟨Nat.le_of_ble_eq_true rfl, Nat.le_of_ble_eq_true rfl⟩ (rest := []) rfl rfl (Nat.le_of_ble_eq_true rfl)) (fun v6 hw => ?_)
        refine g_if_ne (pc := 36) (tgt := 41) C d_M_barge_36 (by decide) (fun h10 => ?_) (fun h10 => ?_)
        · replace hw := hw.2 h10
          refine g_aload_n (pc := 41) C d_M_barge_41 0 rfl rfl ?_
          refine fM_d (pc := 42) C lk_M_7 d_M_barge_42 ?_
          refine g_iconst (pc := 45) C (v := 4) d_M_barge_45 (by decide) ?_
          refine lM_d (pc := 46) C d_M_barge_46 (f := M_d m) rfl (N0 := 4) (by decide) (by unfold vp_in; decide) ?_
          refine g_bipush (pc := 47) C (v := 8) d_M_barge_47 (by decide) ?_
          refine g_icmp_ne (pc := 49) (tgt := 57) C d_M_barge_49 (by decide) (fun h9 => ?_) (fun h9 => ?_)
          · replace hw := hw.2 h9
            refine g_aload_n (pc := 57) C d_M_barge_57 0 rfl rfl ?_
            refine g_iload_n (pc := 58) C d_M_barge_58 1 rfl rfl ?_
            refine g_iload_n (pc := 59) C d_M_barge_59 2 rfl rfl ?_
            refine g_iconst (pc := 60) C (v := 0) d_M_barge_60 (by decide) ?_
            refine g_iload_n (pc := 61) C d_M_barge_61 3 rfl rfl ?_
            refine g_iload (pc := 62) C d_M_barge_62 4 rfl ?_
            refine k_Ia (pc := 64) (co_V C (c_M_comes (xl X) (xD X) (xt X) (xv X) a m x1 x2 0 x3 x4 _ hw) mw_M_comes lk_M_114 d_M_barge_64 (List.range _) (all_C _) (all_nd _) (rec_w C 0 6 rfl rfl) rfl rfl ⟨Nat.le_of_ble_eq_true rfl, Nat.le_of_ble_eq_true rfl⟩ ⟨Nat.le_of_ble_eq_true rfl, Nat.le_of_ble_eq_true rfl⟩ (rest := []) rfl rfl (Nat.le_of_ble_eq_true rfl)) (fun v7 m_8 hw => ?_)
            exact g_iret (pc := 67) C q d_M_barge_67 (hq _ _ hw)
          · replace hw := hw.1 h9
            refine g_bipush (pc := 52) C (v := (-2)) d_M_barge_52 (by decide) ?_
            refine g_goto (pc := 54) (tgt := 67) C d_M_barge_54 (by decide) ?_
            exact g_iret (pc := 67) C q d_M_barge_67 (hq _ _ hw)
        · replace hw := hw.1 h10
          refine g_iconst (pc := 39) C (v := (-1)) d_M_barge_39 (by decide) ?_
          exact g_iret (pc := 40) C q d_M_barge_40 (hq _ _ hw)
set_option maxRecDepth 20000 in
theorem c_M_barge (l : Launch) (D : va_G) (t : Nat → ClassId) (ev : Nat → Nat) (a : Nat → Nat) (m : MSt) (x1 : Int32) (x2 : Int32) (x3 : Int32) (x4 : Int32) (post : Int32 → MSt → Prop) (hw : wp_M_barge m x1 x2 x3 x4 post) : Con l D t ev y_M_barge b_M_barge 5 ((some .int)) 2 (woM t a m) [.ref (a 0), .int x1, .int x2, .int x3, .int x4] (qI (woM t a)  post) :=
  ConR.of (by decide +kernel) (Nat.le_of_ble_eq_true rfl) (fun X el eD et ee C q _ => by subst el; subst eD; subst et; subst ee; exact g_M_barge C q a m x1 x2 x3 x4 post (fun v c1 h => ⟨⟨v, c1, rfl, rfl, h⟩, rfl⟩) hw)
def wp_M_of (m : MSt) (x1 : Int32) (x2 : Int32) (post : Int32 → MSt → Prop) : Prop :=
  wp_M_isBarge m x1 (fun v1 m_2 => ((v1 = 0) → (post (-1) m_2)) ∧ ((¬ v1 = 0) → (∀ y3 : Int64, y3 = x2.toInt64 → (wp_M_in y3 0 5 (fun v4 => ((v4 = 0) → (post (-1) m_2)) ∧ ((¬ v4 = 0) → (((x2 = 5) → (wp_M_hasLanded m_2 x1 (fun v7 m_8 => ((v7 = 0) → (post 0 m_8)) ∧ ((¬ v7 = 0) → (post 1 m_8))))) ∧ ((¬ x2 = 5) → (wp_M_get m_2 x1 x2 (fun v5 m_6 => post v5 m_6))))))))))
set_option maxRecDepth 20000 in
theorem g_M_of {X : GX} (C : GC X b_M_of R_M 3 (rmd 2)) {Qp : Option Value → va_W → Prop} (q : RC X ((some .int)) Qp 0 0) (a : Nat → Nat) (m : MSt) (x1 : Int32) (x2 : Int32) (post : Int32 → MSt → Prop) (hq : ∀ v c1, post v c1 → Qp (some (.int v)) (woM (xt X) a c1)) (hw : wp_M_of m x1 x2 post) : G X 0 0 (woM (xt X) a m) [(0, .ref (a 0)), (1, .int x1), (2, .int x2)] [] 0 := by
  unfold wp_M_of at hw
  refine g_aload_n (pc := 0) C d_M_of_0 0 rfl rfl ?_
  refine g_iload_n (pc := 1) C d_M_of_1 1 rfl rfl ?_
  refine k_Ia (pc := 2) (co_V C (c_M_isBarge (xl X) (xD X) (xt X) (xv X) a m x1 _ hw) mw_M_isBarge lk_M_118 d_M_of_2 (List.range _) (all_C _) (all_nd _) (rec_w C 0 6 rfl rfl) rfl rfl ⟨Nat.le_of_ble_eq_true rfl, Nat.le_of_ble_eq_true rfl⟩ ⟨Nat.le_of_ble_eq_true rfl, Nat.le_of_ble_eq_true rfl⟩ (rest := []) rfl rfl (Nat.le_of_ble_eq_true rfl)) (fun v1 m_2 hw => ?_)
  refine g_if_eq (pc := 5) (tgt := 20) C d_M_of_5 (by decide) (fun h12 => ?_) (fun h12 => ?_)
  · replace hw := hw.1 h12
    refine g_iconst (pc := 20) C (v := (-1)) d_M_of_20 (by decide) ?_
    exact g_iret (pc := 21) C q d_M_of_21 (hq _ _ hw)
  · replace hw := hw.2 h12
    refine g_iload_n (pc := 8) C d_M_of_8 2 rfl rfl ?_
    refine g_i2l (pc := 9) C d_M_of_9 ?_
    refine g_topl (fun y3 ey3 => ?_)
    replace hw := hw y3 ey3
    refine g_lconst (pc := 10) C (v := 0) d_M_of_10 (by decide) ?_
    refine g_ldc2_w (pc := 11) C (v := 5) d_M_of_11 lk_M_109 ?_
    refine k_I0 (pc := 14) (co_S C (c_M_in (xl X) (xD X) (xt X) (xv X) y3 0 5 _ hw) mw_M_in lk_M_58 d_M_of_14 [] rfl (by decide)  rfl rfl ⟨Nat.le_of_ble_eq_true rfl, Nat.le_of_ble_eq_true rfl⟩ ⟨Nat.le_of_ble_eq_true rfl, Nat.le_of_ble_eq_true rfl⟩ (rest := []) rfl rfl (Nat.le_of_ble_eq_true rfl)) (fun v4 hw => ?_)
    refine g_if_ne (pc := 17) (tgt := 22) C d_M_of_17 (by decide) (fun h11 => ?_) (fun h11 => ?_)
    · replace hw := hw.2 h11
      refine g_iload_n (pc := 22) C d_M_of_22 2 rfl rfl ?_
      refine g_iconst (pc := 23) C (v := 5) d_M_of_23 (by decide) ?_
      refine g_icmp_ne (pc := 24) (tgt := 43) C d_M_of_24 (by decide) (fun h10 => ?_) (fun h10 => ?_)
      · replace hw := hw.2 h10
        refine g_aload_n (pc := 43) C d_M_of_43 0 rfl rfl ?_
        refine g_iload_n (pc := 44) C d_M_of_44 1 rfl rfl ?_
        refine g_iload_n (pc := 45) C d_M_of_45 2 rfl rfl ?_
        refine k_Ia (pc := 46) (co_V C (c_M_get (xl X) (xD X) (xt X) (xv X) a m_2 x1 x2 _ hw) mw_M_get lk_M_64 d_M_of_46 (List.range _) (all_C _) (all_nd _) (rec_w C 0 6 rfl rfl) rfl rfl ⟨Nat.le_of_ble_eq_true rfl, Nat.le_of_ble_eq_true rfl⟩ ⟨Nat.le_of_ble_eq_true rfl, Nat.le_of_ble_eq_true rfl⟩ (rest := []) rfl rfl (Nat.le_of_ble_eq_true rfl)) (fun v5 m_6 hw => ?_)
        exact g_iret (pc := 49) C q d_M_of_49 (hq _ _ hw)
      · replace hw := hw.1 h10
        refine g_aload_n (pc := 27) C d_M_of_27 0 rfl rfl ?_
        refine g_iload_n (pc := 28) C d_M_of_28 1 rfl rfl ?_
        refine k_Ia (pc := 29) (co_V C (c_M_hasLanded (xl X) (xD X) (xt X) (xv X) a m_2 x1 _ hw) mw_M_hasLanded lk_M_80 d_M_of_29 (List.range _) (all_C _) (all_nd _) (rec_w C 0 6 rfl rfl) rfl rfl ⟨Nat.le_of_ble_eq_true rfl, Nat.le_of_ble_eq_true rfl⟩ ⟨Nat.le_of_ble_eq_true rfl, Nat.le_of_ble_eq_true rfl⟩ (rest := []) rfl rfl (Nat.le_of_ble_eq_true rfl)) (fun v7 m_8 hw => ?_)
        refine g_if_eq (pc := 32) (tgt := 39) C d_M_of_32 (by decide) (fun h9 => ?_) (fun h9 => ?_)
        · replace hw := hw.1 h9
          refine g_iconst (pc := 39) C (v := 0) d_M_of_39 (by decide) ?_
          refine g_goto (pc := 40) (tgt := 49) C d_M_of_40 (by decide) ?_
          exact g_iret (pc := 49) C q d_M_of_49 (hq _ _ hw)
        · replace hw := hw.2 h9
          refine g_iconst (pc := 35) C (v := 1) d_M_of_35 (by decide) ?_
          refine g_goto (pc := 36) (tgt := 49) C d_M_of_36 (by decide) ?_
          exact g_iret (pc := 49) C q d_M_of_49 (hq _ _ hw)
    · replace hw := hw.1 h11
      refine g_iconst (pc := 20) C (v := (-1)) d_M_of_20 (by decide) ?_
      exact g_iret (pc := 21) C q d_M_of_21 (hq _ _ hw)
set_option maxRecDepth 20000 in
theorem c_M_of (l : Launch) (D : va_G) (t : Nat → ClassId) (ev : Nat → Nat) (a : Nat → Nat) (m : MSt) (x1 : Int32) (x2 : Int32) (post : Int32 → MSt → Prop) (hw : wp_M_of m x1 x2 post) : Con l D t ev y_M_of b_M_of 3 ((some .int)) 2 (woM t a m) [.ref (a 0), .int x1, .int x2] (qI (woM t a)  post) :=
  ConR.of (by decide +kernel) (Nat.le_of_ble_eq_true rfl) (fun X el eD et ee C q _ => by subst el; subst eD; subst et; subst ee; exact g_M_of C q a m x1 x2 post (fun v c1 h => ⟨⟨v, c1, rfl, rfl, h⟩, rfl⟩) hw)
