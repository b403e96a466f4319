def wp_X_isLaw (x0 : Int32) (post : Int32 → Prop) : Prop :=
  ((x0 < 0) → (post 0 )) ∧ ((¬ x0 < 0) → (((4 ≤ x0) → (post 0 )) ∧ ((¬ 4 ≤ x0) → (post 1 ))))
set_option maxRecDepth 20000 in
theorem g_X_isLaw {X : GX} (C : GC X b_X_isLaw R_X 1 (rmd 0)) {Qp : Option Value → va_W → Prop} (q : RC X ((some .boolean)) Qp 0 0) (x0 : Int32) (post : Int32 → Prop) (hq : ∀ v, post v → Qp (some (.int v)) []) (hw : wp_X_isLaw x0 post) : G X 0 0 ([]) [(0, .int x0)] [] 0 := by
  unfold wp_X_isLaw at hw
  refine g_iload_n (pc := 0) C d_X_isLaw_0 0 rfl rfl ?_
  refine g_if_lt (pc := 1) (tgt := 13) C d_X_isLaw_1 (by decide) (fun h2 => ?_) (fun h2 => ?_)
  · replace hw := hw.1 h2
    refine g_iconst (pc := 13) C (v := 0) d_X_isLaw_13 (by decide) ?_
    exact g_zret (pc := 14) C q d_X_isLaw_14 (by decide) (hq _ hw)
  · replace hw := hw.2 h2
    refine g_iload_n (pc := 4) C d_X_isLaw_4 0 rfl rfl ?_
    refine g_iconst (pc := 5) C (v := 4) d_X_isLaw_5 (by decide) ?_
    refine g_icmp_ge (pc := 6) (tgt := 13) C d_X_isLaw_6 (by decide) (fun h1 => ?_) (fun h1 => ?_)
    · replace hw := hw.1 h1
      refine g_iconst (pc := 13) C (v := 0) d_X_isLaw_13 (by decide) ?_
      exact g_zret (pc := 14) C q d_X_isLaw_14 (by decide) (hq _ hw)
    · replace hw := hw.2 h1
      refine g_iconst (pc := 9) C (v := 1) d_X_isLaw_9 (by decide) ?_
      refine g_goto (pc := 10) (tgt := 14) C d_X_isLaw_10 (by decide) ?_
      exact g_zret (pc := 14) C q d_X_isLaw_14 (by decide) (hq _ hw)
set_option maxRecDepth 20000 in
theorem c_X_isLaw (l : Launch) (D : va_G) (t : Nat → ClassId) (ev : Nat → Nat) (x0 : Int32) (post : Int32 → Prop) (hw : wp_X_isLaw x0 post) : Con l D t ev y_X_isLaw b_X_isLaw 1 ((some .boolean)) 0 ([]) [.int x0] (qI (fun _ : Unit => [])  (fun v _ => post v)) :=
  ConR.of (by decide +kernel) (Nat.le_of_ble_eq_true rfl) (fun X el eD et ee C q _ => by subst el; subst eD; subst et; subst ee; exact g_X_isLaw C q x0 post (fun v h => ⟨⟨v, (), rfl, rfl, h⟩, rfl⟩) hw)
def wp_T_append (c : TSt) (x1 : Int32) (post : TSt → Prop) : Prop :=
  (((T_size c) < 0) → (post c)) ∧ ((¬ (T_size c) < 0) → (((200 ≤ (T_size c)) → (post c)) ∧ ((¬ 200 ≤ (T_size c)) → (vp_in (T_size c) 200 ∧ (∀ y2 : Int32, y2 = (T_size c) + 1 → (post (T_size_ (T_bytes_ c (upd (T_bytes c) (T_size c).toNatClampNeg (vp_nar .byte x1))) y2)))))))
set_option maxRecDepth 20000 in
theorem g_T_append {X : GX} (C : GC X b_T_append R_T 2 (rmd 0)) {Qp : Option Value → va_W → Prop} (q : RC X (none) Qp 0 0) (a : Nat → Nat) (c : TSt) (x1 : Int32) (post : TSt → Prop) (hq : ∀ c1, post c1 → Qp none (woT (xt X) a c1)) (hw : wp_T_append c x1 post) : G X 0 0 (woT (xt X) a c) [(0, .ref (a 0)), (1, .int x1)] [] 0 := by
  unfold wp_T_append at hw
  refine g_aload_n (pc := 0) C d_T_append_0 0 rfl rfl ?_
  refine fT_size (pc := 1) C lk_T_15 d_T_append_1 (v := T_size c) rfl ?_
  refine g_if_lt (pc := 4) (tgt := 37) C d_T_append_4 (by decide) (fun h4 => ?_) (fun h4 => ?_)
  · replace hw := hw.1 h4
    exact g_vret (pc := 37) C q d_T_append_37 (hq c hw)
  · replace hw := hw.2 h4
    refine g_aload_n (pc := 7) C d_T_append_7 0 rfl rfl ?_
    refine fT_size (pc := 8) C lk_T_15 d_T_append_8 (v := T_size c) rfl ?_
    refine g_sipush (pc := 11) C (v := 200) d_T_append_11 (by decide) ?_
    refine g_icmp_ge (pc := 14) (tgt := 37) C d_T_append_14 (by decide) (fun h3 => ?_) (fun h3 => ?_)
    · replace hw := hw.1 h3
      exact g_vret (pc := 37) C q d_T_append_37 (hq c hw)
    · replace hw := hw.2 h3
      refine g_aload_n (pc := 17) C d_T_append_17 0 rfl rfl ?_
      refine fT_bytes (pc := 18) C lk_T_9 d_T_append_18 ?_
      refine g_aload_n (pc := 21) C d_T_append_21 0 rfl rfl ?_
      refine fT_size (pc := 22) C lk_T_15 d_T_append_22 (v := T_size c) rfl ?_
      refine g_iload_n (pc := 25) C d_T_append_25 1 rfl rfl ?_
      obtain ⟨h1, hw⟩ := hw
      refine sT_bytes (pc := 26) C d_T_append_26 (f := T_bytes c) rfl (N0 := (T_size c).toNatClampNeg) rfl h1 ?_
      refine g_aload_n (pc := 27) C d_T_append_27 0 rfl rfl ?_
      refine g_dup (pc := 28) C d_T_append_28 rfl ?_
      refine fT_size (pc := 29) C lk_T_15 d_T_append_29 (v := T_size c) rfl ?_
      refine g_iconst (pc := 32) C (v := 1) d_T_append_32 (by decide) ?_
      refine g_iadd (pc := 33) C d_T_append_33 ?_
      refine g_topi (fun y2 ey2 => ?_)
      replace hw := hw y2 ey2
      refine pT_size (pc := 34) C lk_T_15 d_T_append_34   ?_
      exact g_vret (pc := 37) C q d_T_append_37 (hq (T_size_ (T_bytes_ c (upd (T_bytes c) (T_size c).toNatClampNeg (vp_nar .byte x1))) y2) hw)
set_option maxRecDepth 20000 in
theorem c_T_append (l : Launch) (D : va_G) (t : Nat → ClassId) (ev : Nat → Nat) (a : Nat → Nat) (c : TSt) (x1 : Int32) (post : TSt → Prop) (hw : wp_T_append c x1 post) : Con l D t ev y_T_append b_T_append 2 (none) 0 (woT t a c) [.ref (a 0), .int x1] (qV (woT t a)  post) :=
  ConR.of (by decide +kernel) (Nat.le_of_ble_eq_true rfl) (fun X el eD et ee C q _ => by subst el; subst eD; subst et; subst ee; exact g_T_append C q a c x1 post (fun c1 h => ⟨⟨c1, rfl, rfl, h⟩, rfl⟩) hw)
def wp_T_byteAt (c : TSt) (x1 : Int32) (post : Int32 → TSt → Prop) : Prop :=
  ((x1 < 0) → (post (-1) c)) ∧ ((¬ x1 < 0) → ((((T_size c) ≤ x1) → (post (-1) c)) ∧ ((¬ (T_size c) ≤ x1) → (((200 ≤ x1) → (post (-1) c)) ∧ ((¬ 200 ≤ x1) → (vp_in x1 200 ∧ (post ((T_bytes c) x1.toNatClampNeg) c)))))))
set_option maxRecDepth 20000 in
theorem g_T_byteAt {X : GX} (C : GC X b_T_byteAt R_T 2 (rmd 0)) {Qp : Option Value → va_W → Prop} (q : RC X ((some .int)) Qp 0 0) (a : Nat → Nat) (c : TSt) (x1 : Int32) (post : Int32 → TSt → Prop) (hq : ∀ v c1, post v c1 → Qp (some (.int v)) (woT (xt X) a c1)) (hw : wp_T_byteAt c x1 post) : G X 0 0 (woT (xt X) a c) [(0, .ref (a 0)), (1, .int x1)] [] 0 := by
  unfold wp_T_byteAt at hw
  refine g_iload_n (pc := 0) C d_T_byteAt_0 1 rfl rfl ?_
  refine g_if_lt (pc := 1) (tgt := 28) C d_T_byteAt_1 (by decide) (fun h4 => ?_) (fun h4 => ?_)
  · replace hw := hw.1 h4
    refine g_iconst (pc := 28) C (v := (-1)) d_T_byteAt_28 (by decide) ?_
    exact g_iret (pc := 29) C q d_T_byteAt_29 (hq _ _ hw)
  · replace hw := hw.2 h4
    refine g_iload_n (pc := 4) C d_T_byteAt_4 1 rfl rfl ?_
    refine g_aload_n (pc := 5) C d_T_byteAt_5 0 rfl rfl ?_
    refine fT_size (pc := 6) C lk_T_15 d_T_byteAt_6 (v := T_size c) rfl ?_
    refine g_icmp_ge (pc := 9) (tgt := 28) C d_T_byteAt_9 (by decide) (fun h3 => ?_) (fun h3 => ?_)
    · replace hw := hw.1 h3
      refine g_iconst (pc := 28) C (v := (-1)) d_T_byteAt_28 (by decide) ?_
      exact g_iret (pc := 29) C q d_T_byteAt_29 (hq _ _ hw)
    · replace hw := hw.2 h3
      refine g_iload_n (pc := 12) C d_T_byteAt_12 1 rfl rfl ?_
      refine g_sipush (pc := 13) C (v := 200) d_T_byteAt_13 (by decide) ?_
      refine g_icmp_ge (pc := 16) (tgt := 28) C d_T_byteAt_16 (by decide) (fun h2 => ?_) (fun h2 => ?_)
      · replace hw := hw.1 h2
        refine g_iconst (pc := 28) C (v := (-1)) d_T_byteAt_28 (by decide) ?_
        exact g_iret (pc := 29) C q d_T_byteAt_29 (hq _ _ hw)
      · replace hw := hw.2 h2
        refine g_aload_n (pc := 19) C d_T_byteAt_19 0 rfl rfl ?_
        refine fT_bytes (pc := 20) C lk_T_9 d_T_byteAt_20 ?_
        refine g_iload_n (pc := 23) C d_T_byteAt_23 1 rfl rfl ?_
        obtain ⟨h1, hw⟩ := hw
        refine lT_bytes (pc := 24) C d_T_byteAt_24 (f := T_bytes c) rfl (N0 := x1.toNatClampNeg) rfl h1 ?_
        refine g_goto (pc := 25) (tgt := 29) C d_T_byteAt_25 (by decide) ?_
        exact g_iret (pc := 29) C q d_T_byteAt_29 (hq _ _ hw)
set_option maxRecDepth 20000 in
theorem c_T_byteAt (l : Launch) (D : va_G) (t : Nat → ClassId) (ev : Nat → Nat) (a : Nat → Nat) (c : TSt) (x1 : Int32) (post : Int32 → TSt → Prop) (hw : wp_T_byteAt c x1 post) : Con l D t ev y_T_byteAt b_T_byteAt 2 ((some .int)) 0 (woT t a c) [.ref (a 0), .int x1] (qI (woT t a)  post) :=
  ConR.of (by decide +kernel) (Nat.le_of_ble_eq_true rfl) (fun X el eD et ee C q _ => by subst el; subst eD; subst et; subst ee; exact g_T_byteAt C q a c x1 post (fun v c1 h => ⟨⟨v, c1, rfl, rfl, h⟩, rfl⟩) hw)
def wp_T_isLetter (x0 : Int32) (post : Int32 → Prop) : Prop :=
  ((x0 < 97) → (post 0 )) ∧ ((¬ x0 < 97) → (((122 < x0) → (post 0 )) ∧ ((¬ 122 < x0) → (post 1 ))))
set_option maxRecDepth 20000 in
theorem g_T_isLetter {X : GX} (C : GC X b_T_isLetter R_T 1 (rmd 0)) {Qp : Option Value → va_W → Prop} (q : RC X ((some .boolean)) Qp 0 0) (x0 : Int32) (post : Int32 → Prop) (hq : ∀ v, post v → Qp (some (.int v)) []) (hw : wp_T_isLetter x0 post) : G X 0 0 ([]) [(0, .int x0)] [] 0 := by
  unfold wp_T_isLetter at hw
  refine g_iload_n (pc := 0) C d_T_isLetter_0 0 rfl rfl ?_
  refine g_bipush (pc := 1) C (v := 97) d_T_isLetter_1 (by decide) ?_
  refine g_icmp_lt (pc := 3) (tgt := 16) C d_T_isLetter_3 (by decide) (fun h2 => ?_) (fun h2 => ?_)
  · replace hw := hw.1 h2
    refine g_iconst (pc := 16) C (v := 0) d_T_isLetter_16 (by decide) ?_
    exact g_zret (pc := 17) C q d_T_isLetter_17 (by decide) (hq _ hw)
  · replace hw := hw.2 h2
    refine g_iload_n (pc := 6) C d_T_isLetter_6 0 rfl rfl ?_
    refine g_bipush (pc := 7) C (v := 122) d_T_isLetter_7 (by decide) ?_
    refine g_icmp_gt (pc := 9) (tgt := 16) C d_T_isLetter_9 (by decide) (fun h1 => ?_) (fun h1 => ?_)
    · replace hw := hw.1 h1
      refine g_iconst (pc := 16) C (v := 0) d_T_isLetter_16 (by decide) ?_
      exact g_zret (pc := 17) C q d_T_isLetter_17 (by decide) (hq _ hw)
    · replace hw := hw.2 h1
      refine g_iconst (pc := 12) C (v := 1) d_T_isLetter_12 (by decide) ?_
      refine g_goto (pc := 13) (tgt := 17) C d_T_isLetter_13 (by decide) ?_
      exact g_zret (pc := 17) C q d_T_isLetter_17 (by decide) (hq _ hw)
set_option maxRecDepth 20000 in
theorem c_T_isLetter (l : Launch) (D : va_G) (t : Nat → ClassId) (ev : Nat → Nat) (x0 : Int32) (post : Int32 → Prop) (hw : wp_T_isLetter x0 post) : Con l D t ev y_T_isLetter b_T_isLetter 1 ((some .boolean)) 0 ([]) [.int x0] (qI (fun _ : Unit => [])  (fun v _ => post v)) :=
  ConR.of (by decide +kernel) (Nat.le_of_ble_eq_true rfl) (fun X el eD et ee C q _ => by subst el; subst eD; subst et; subst ee; exact g_T_isLetter C q x0 post (fun v h => ⟨⟨v, (), rfl, rfl, h⟩, rfl⟩) hw)
def wp_T_isDigit (x0 : Int32) (post : Int32 → Prop) : Prop :=
  ((x0 < 48) → (post 0 )) ∧ ((¬ x0 < 48) → (((57 < x0) → (post 0 )) ∧ ((¬ 57 < x0) → (post 1 ))))
set_option maxRecDepth 20000 in
theorem g_T_isDigit {X : GX} (C : GC X b_T_isDigit R_T 1 (rmd 0)) {Qp : Option Value → va_W → Prop} (q : RC X ((some .boolean)) Qp 0 0) (x0 : Int32) (post : Int32 → Prop) (hq : ∀ v, post v → Qp (some (.int v)) []) (hw : wp_T_isDigit x0 post) : G X 0 0 ([]) [(0, .int x0)] [] 0 := by
  unfold wp_T_isDigit at hw
  refine g_iload_n (pc := 0) C d_T_isDigit_0 0 rfl rfl ?_
  refine g_bipush (pc := 1) C (v := 48) d_T_isDigit_1 (by decide) ?_
  refine g_icmp_lt (pc := 3) (tgt := 16) C d_T_isDigit_3 (by decide) (fun h2 => ?_) (fun h2 => ?_)
  · replace hw := hw.1 h2
    refine g_iconst (pc := 16) C (v := 0) d_T_isDigit_16 (by decide) ?_
    exact g_zret (pc := 17) C q d_T_isDigit_17 (by decide) (hq _ hw)
  · replace hw := hw.2 h2
    refine g_iload_n (pc := 6) C d_T_isDigit_6 0 rfl rfl ?_
    refine g_bipush (pc := 7) C (v := 57) d_T_isDigit_7 (by decide) ?_
    refine g_icmp_gt (pc := 9) (tgt := 16) C d_T_isDigit_9 (by decide) (fun h1 => ?_) (fun h1 => ?_)
    · replace hw := hw.1 h1
      refine g_iconst (pc := 16) C (v := 0) d_T_isDigit_16 (by decide) ?_
      exact g_zret (pc := 17) C q d_T_isDigit_17 (by decide) (hq _ hw)
    · replace hw := hw.2 h1
      refine g_iconst (pc := 12) C (v := 1) d_T_isDigit_12 (by decide) ?_
      refine g_goto (pc := 13) (tgt := 17) C d_T_isDigit_13 (by decide) ?_
      exact g_zret (pc := 17) C q d_T_isDigit_17 (by decide) (hq _ hw)
set_option maxRecDepth 20000 in
theorem c_T_isDigit (l : Launch) (D : va_G) (t : Nat → ClassId) (ev : Nat → Nat) (x0 : Int32) (post : Int32 → Prop) (hw : wp_T_isDigit x0 post) : Con l D t ev y_T_isDigit b_T_isDigit 1 ((some .boolean)) 0 ([]) [.int x0] (qI (fun _ : Unit => [])  (fun v _ => post v)) :=
  ConR.of (by decide +kernel) (Nat.le_of_ble_eq_true rfl) (fun X el eD et ee C q _ => by subst el; subst eD; subst et; subst ee; exact g_T_isDigit C q x0 post (fun v h => ⟨⟨v, (), rfl, rfl, h⟩, rfl⟩) hw)
def w_T_step_129  (post : TSt → Prop)  : Nat → TSt → Prop
  | 0, _ => False
  | n + 1, c =>
    (((T_size c) ≤ (T_end c)) → (post c)) ∧ ((¬ (T_size c) ≤ (T_end c)) → (wp_T_byteAt c (T_end c) (fun v9 c_10 => wp_T_isDigit v9 (fun v11 => ((v11 = 0) → (post c_10)) ∧ ((¬ v11 = 0) → (∀ y12 : Int32, y12 = (T_end c_10) + 1 → (w_T_step_129  post  n (T_end_ c_10 y12))))))))
set_option maxRecDepth 20000 in
theorem j_T_step_129 {X : GX} (C : GC X b_T_step R_T 1 (rmd 1)) {Qp : Option Value → va_W → Prop} (q : RC X (none) Qp 0 0) (a : Nat → Nat)   (post : TSt → Prop) (hq : ∀ c1, post c1 → Qp none (woT (xt X) a c1)) : ∀ (n : Nat) (c : TSt), w_T_step_129  post  n c → G X 0 0 (woT (xt X) a c) [(0, .ref (a 0))] [] 129 := by
  intro n
  induction n with
  | zero => intro c hw; exact hw.elim
  | succ n ih =>
    intro c hw
    rw [w_T_step_129] at hw
    refine g_aload_n (pc := 129) C d_T_step_129 0 rfl rfl ?_
    refine fT_end (pc := 130) C lk_T_25 d_T_step_130 (v := T_end c) rfl ?_
    refine g_aload_n (pc := 133) C d_T_step_133 0 rfl rfl ?_
    refine fT_size (pc := 134) C lk_T_15 d_T_step_134 (v := T_size c) rfl ?_
    refine g_icmp_ge (pc := 137) (tgt := 201) C d_T_step_137 (by decide) (fun h14 => ?_) (fun h14 => ?_)
    · replace hw := hw.1 h14
      exact g_vret (pc := 201) C q d_T_step_201 (hq c hw)
    · replace hw := hw.2 h14
      refine g_aload_n (pc := 140) C d_T_step_140 0 rfl rfl ?_
      refine g_aload_n (pc := 141) C d_T_step_141 0 rfl rfl ?_
      refine fT_end (pc := 142) C lk_T_25 d_T_step_142 (v := T_end c) rfl ?_
      refine k_Ia (pc := 145) (co_V C (c_T_byteAt (xl X) (xD X) (xt X) (xv X) a c (T_end c) _ hw) mw_T_byteAt lk_T_130 d_T_step_145 (List.range _) (all_C _) (all_nd _) (rec_w C 0 4 rfl rfl) rfl rfl ⟨Nat.le_of_ble_eq_true rfl, Nat.le_of_ble_eq_true rfl⟩ ⟨Nat.le_of_ble_eq_true rfl, Nat.le_of_ble_eq_true rfl⟩ (rest := []) rfl rfl (Nat.le_of_ble_eq_true rfl)) (fun v9 c_10 hw => ?_)
      refine k_I0 (pc := 148) (co_S C (c_T_isDigit (xl X) (xD X) (xt X) (xv X) v9 _ hw) mw_T_isDigit lk_T_140 d_T_step_148 [] rfl (by decide)  rfl rfl ⟨Nat.le_of_ble_eq_true rfl, Nat.le_of_ble_eq_true rfl⟩ ⟨Nat.le_of_ble_eq_true rfl, Nat.le_of_ble_eq_true rfl⟩ (rest := []) rfl rfl (Nat.le_of_ble_eq_true rfl)) (fun v11 hw => ?_)
      refine g_if_eq (pc := 151) (tgt := 201) C d_T_step_151 (by decide) (fun h13 => ?_) (fun h13 => ?_)
      · replace hw := hw.1 h13
        exact g_vret (pc := 201) C q d_T_step_201 (hq c_10 hw)
      · replace hw := hw.2 h13
        refine g_aload_n (pc := 154) C d_T_step_154 0 rfl rfl ?_
        refine g_dup (pc := 155) C d_T_step_155 rfl ?_
        refine fT_end (pc := 156) C lk_T_25 d_T_step_156 (v := T_end c_10) rfl ?_
        refine g_iconst (pc := 159) C (v := 1) d_T_step_159 (by decide) ?_
        refine g_iadd (pc := 160) C d_T_step_160 ?_
        refine g_topi (fun y12 ey12 => ?_)
        replace hw := hw y12 ey12
        refine pT_end (pc := 161) C lk_T_25 d_T_step_161   ?_
        refine g_goto (pc := 164) (tgt := 129) C d_T_step_164 (by decide) ?_
        exact ih (T_end_ c_10 y12) hw
def w_T_step_72  (post : TSt → Prop)  : Nat → TSt → Prop
  | 0, _ => False
  | n + 1, c =>
    (((T_size c) ≤ (T_end c)) → (post c)) ∧ ((¬ (T_size c) ≤ (T_end c)) → (wp_T_byteAt c (T_end c) (fun v16 c_17 => wp_T_isLetter v16 (fun v18 => ((v18 = 0) → (post c_17)) ∧ ((¬ v18 = 0) → (∀ y19 : Int32, y19 = (T_end c_17) + 1 → (w_T_step_72  post  n (T_end_ c_17 y19))))))))
set_option maxRecDepth 20000 in
theorem j_T_step_72 {X : GX} (C : GC X b_T_step R_T 1 (rmd 1)) {Qp : Option Value → va_W → Prop} (q : RC X (none) Qp 0 0) (a : Nat → Nat)   (post : TSt → Prop) (hq : ∀ c1, post c1 → Qp none (woT (xt X) a c1)) : ∀ (n : Nat) (c : TSt), w_T_step_72  post  n c → G X 0 0 (woT (xt X) a c) [(0, .ref (a 0))] [] 72 := by
  intro n
  induction n with
  | zero => intro c hw; exact hw.elim
  | succ n ih =>
    intro c hw
    rw [w_T_step_72] at hw
    refine g_aload_n (pc := 72) C d_T_step_72 0 rfl rfl ?_
    refine fT_end (pc := 73) C lk_T_25 d_T_step_73 (v := T_end c) rfl ?_
    refine g_aload_n (pc := 76) C d_T_step_76 0 rfl rfl ?_
    refine fT_size (pc := 77) C lk_T_15 d_T_step_77 (v := T_size c) rfl ?_
    refine g_icmp_ge (pc := 80) (tgt := 201) C d_T_step_80 (by decide) (fun h21 => ?_) (fun h21 => ?_)
    · replace hw := hw.1 h21
      exact g_vret (pc := 201) C q d_T_step_201 (hq c hw)
    · replace hw := hw.2 h21
      refine g_aload_n (pc := 83) C d_T_step_83 0 rfl rfl ?_
      refine g_aload_n (pc := 84) C d_T_step_84 0 rfl rfl ?_
      refine fT_end (pc := 85) C lk_T_25 d_T_step_85 (v := T_end c) rfl ?_
      refine k_Ia (pc := 88) (co_V C (c_T_byteAt (xl X) (xD X) (xt X) (xv X) a c (T_end c) _ hw) mw_T_byteAt lk_T_130 d_T_step_88 (List.range _) (all_C _) (all_nd _) (rec_w C 0 4 rfl rfl) rfl rfl ⟨Nat.le_of_ble_eq_true rfl, Nat.le_of_ble_eq_true rfl⟩ ⟨Nat.le_of_ble_eq_true rfl, Nat.le_of_ble_eq_true rfl⟩ (rest := []) rfl rfl (Nat.le_of_ble_eq_true rfl)) (fun v16 c_17 hw => ?_)
      refine k_I0 (pc := 91) (co_S C (c_T_isLetter (xl X) (xD X) (xt X) (xv X) v16 _ hw) mw_T_isLetter lk_T_137 d_T_step_91 [] rfl (by decide)  rfl rfl ⟨Nat.le_of_ble_eq_true rfl, Nat.le_of_ble_eq_true rfl⟩ ⟨Nat.le_of_ble_eq_true rfl, Nat.le_of_ble_eq_true rfl⟩ (rest := []) rfl rfl (Nat.le_of_ble_eq_true rfl)) (fun v18 hw => ?_)
      refine g_if_eq (pc := 94) (tgt := 201) C d_T_step_94 (by decide) (fun h20 => ?_) (fun h20 => ?_)
      · replace hw := hw.1 h20
        exact g_vret (pc := 201) C q d_T_step_201 (hq c_17 hw)
      · replace hw := hw.2 h20
        refine g_aload_n (pc := 97) C d_T_step_97 0 rfl rfl ?_
        refine g_dup (pc := 98) C d_T_step_98 rfl ?_
        refine fT_end (pc := 99) C lk_T_25 d_T_step_99 (v := T_end c_17) rfl ?_
        refine g_iconst (pc := 102) C (v := 1) d_T_step_102 (by decide) ?_
        refine g_iadd (pc := 103) C d_T_step_103 ?_
        refine g_topi (fun y19 ey19 => ?_)
        replace hw := hw y19 ey19
        refine pT_end (pc := 104) C lk_T_25 d_T_step_104   ?_
        refine g_goto (pc := 107) (tgt := 72) C d_T_step_107 (by decide) ?_
        exact ih (T_end_ c_17 y19) hw
def w_T_step_45  (post : TSt → Prop)  (c : TSt) : Prop :=
  wp_T_byteAt (T_end_ c (T_start c)) (T_start c) (fun v1 c_2 => wp_T_isLetter v1 (fun v3 => ((v3 = 0) → (wp_T_byteAt c_2 (T_start c_2) (fun v4 c_5 => wp_T_isDigit v4 (fun v6 => ((v6 = 0) → ((((T_size c_5) ≤ (T_start c_5)) → (post (T_sort_ c_5 0))) ∧ ((¬ (T_size c_5) ≤ (T_start c_5)) → (∀ y7 : Int32, y7 = (T_end c_5) + 1 → (post (T_end_ (T_sort_ c_5 3) y7)))))) ∧ ((¬ v6 = 0) → (w_T_step_129  post  2000 (T_sort_ c_5 2))))))) ∧ ((¬ v3 = 0) → (w_T_step_72  post  2000 (T_sort_ c_2 1)))))
set_option maxRecDepth 20000 in
theorem j_T_step_45 {X : GX} (C : GC X b_T_step R_T 1 (rmd 1)) {Qp : Option Value → va_W → Prop} (q : RC X (none) Qp 0 0) (a : Nat → Nat)   (post : TSt → Prop) (hq : ∀ c1, post c1 → Qp none (woT (xt X) a c1)) : ∀ (c : TSt), w_T_step_45  post  c → G X 0 0 (woT (xt X) a c) [(0, .ref (a 0))] [] 45 := by
  intro c hw
  unfold w_T_step_45 at hw
  refine g_aload_n (pc := 45) C d_T_step_45 0 rfl rfl ?_
  refine g_aload_n (pc := 46) C d_T_step_46 0 rfl rfl ?_
  refine fT_start (pc := 47) C lk_T_22 d_T_step_47 (v := T_start c) rfl ?_
  refine pT_end (pc := 50) C lk_T_25 d_T_step_50   ?_
  refine g_aload_n (pc := 53) C d_T_step_53 0 rfl rfl ?_
  refine g_aload_n (pc := 54) C d_T_step_54 0 rfl rfl ?_
  refine fT_start (pc := 55) C lk_T_22 d_T_step_55 (v := T_start c) rfl ?_
  refine k_Ia (pc := 58) (co_V C (c_T_byteAt (xl X) (xD X) (xt X) (xv X) a (T_end_ c (T_start c)) (T_start c) _ hw) mw_T_byteAt lk_T_130 d_T_step_58 (List.range _) (all_C _) (all_nd _) (rec_w C 0 4 rfl rfl) rfl rfl ⟨Nat.le_of_ble_eq_true rfl, Nat.le_of_ble_eq_true rfl⟩ ⟨Nat.le_of_ble_eq_true rfl, Nat.le_of_ble_eq_true rfl⟩ (rest := []) rfl rfl (Nat.le_of_ble_eq_true rfl)) (fun v1 c_2 hw => ?_)
  refine k_I0 (pc := 61) (co_S C (c_T_isLetter (xl X) (xD X) (xt X) (xv X) v1 _ hw) mw_T_isLetter lk_T_137 d_T_step_61 [] rfl (by decide)  rfl rfl ⟨Nat.le_of_ble_eq_true rfl, Nat.le_of_ble_eq_true rfl⟩ ⟨Nat.le_of_ble_eq_true rfl, Nat.le_of_ble_eq_true rfl⟩ (rest := []) rfl rfl (Nat.le_of_ble_eq_true rfl)) (fun v3 hw => ?_)
  refine g_if_eq (pc := 64) (tgt := 110) C d_T_step_64 (by decide) (fun h22 => ?_) (fun h22 => ?_)
  · replace hw := hw.1 h22
    refine g_aload_n (pc := 110) C d_T_step_110 0 rfl rfl ?_
    refine g_aload_n (pc := 111) C d_T_step_111 0 rfl rfl ?_
    refine fT_start (pc := 112) C lk_T_22 d_T_step_112 (v := T_start c_2) rfl ?_
    refine k_Ia (pc := 115) (co_V C (c_T_byteAt (xl X) (xD X) (xt X) (xv X) a c_2 (T_start c_2) _ hw) mw_T_byteAt lk_T_130 d_T_step_115 (List.range _) (all_C _) (all_nd _) (rec_w C 0 4 rfl rfl) rfl rfl ⟨Nat.le_of_ble_eq_true rfl, Nat.le_of_ble_eq_true rfl⟩ ⟨Nat.le_of_ble_eq_true rfl, Nat.le_of_ble_eq_true rfl⟩ (rest := []) rfl rfl (Nat.le_of_ble_eq_true rfl)) (fun v4 c_5 hw => ?_)
    refine k_I0 (pc := 118) (co_S C (c_T_isDigit (xl X) (xD X) (xt X) (xv X) v4 _ hw) mw_T_isDigit lk_T_140 d_T_step_118 [] rfl (by decide)  rfl rfl ⟨Nat.le_of_ble_eq_true rfl, Nat.le_of_ble_eq_true rfl⟩ ⟨Nat.le_of_ble_eq_true rfl, Nat.le_of_ble_eq_true rfl⟩ (rest := []) rfl rfl (Nat.le_of_ble_eq_true rfl)) (fun v6 hw => ?_)
    refine g_if_eq (pc := 121) (tgt := 167) C d_T_step_121 (by decide) (fun h15 => ?_) (fun h15 => ?_)
    · replace hw := hw.1 h15
      refine g_aload_n (pc := 167) C d_T_step_167 0 rfl rfl ?_
      refine fT_start (pc := 168) C lk_T_22 d_T_step_168 (v := T_start c_5) rfl ?_
      refine g_aload_n (pc := 171) C d_T_step_171 0 rfl rfl ?_
      refine fT_size (pc := 172) C lk_T_15 d_T_step_172 (v := T_size c_5) rfl ?_
      refine g_icmp_ge (pc := 175) (tgt := 196) C d_T_step_175 (by decide) (fun h8 => ?_) (fun h8 => ?_)
      · replace hw := hw.1 h8
        refine g_aload_n (pc := 196) C d_T_step_196 0 rfl rfl ?_
        refine g_iconst (pc := 197) C (v := 0) d_T_step_197 (by decide) ?_
        refine pT_sort (pc := 198) C lk_T_19 d_T_step_198   ?_
        exact g_vret (pc := 201) C q d_T_step_201 (hq (T_sort_ c_5 0) hw)
      · replace hw := hw.2 h8
        refine g_aload_n (pc := 178) C d_T_step_178 0 rfl rfl ?_
        refine g_iconst (pc := 179) C (v := 3) d_T_step_179 (by decide) ?_
        refine pT_sort (pc := 180) C lk_T_19 d_T_step_180   ?_
        refine g_aload_n (pc := 183) C d_T_step_183 0 rfl rfl ?_
        refine g_dup (pc := 184) C d_T_step_184 rfl ?_
        refine fT_end (pc := 185) C lk_T_25 d_T_step_185 (v := T_end c_5) rfl ?_
        refine g_iconst (pc := 188) C (v := 1) d_T_step_188 (by decide) ?_
        refine g_iadd (pc := 189) C d_T_step_189 ?_
        refine g_topi (fun y7 ey7 => ?_)
        replace hw := hw y7 ey7
        refine pT_end (pc := 190) C lk_T_25 d_T_step_190   ?_
        refine g_goto (pc := 193) (tgt := 201) C d_T_step_193 (by decide) ?_
        exact g_vret (pc := 201) C q d_T_step_201 (hq (T_end_ (T_sort_ c_5 3) y7) hw)
    · replace hw := hw.2 h15
      refine g_aload_n (pc := 124) C d_T_step_124 0 rfl rfl ?_
      refine g_iconst (pc := 125) C (v := 2) d_T_step_125 (by decide) ?_
      refine pT_sort (pc := 126) C lk_T_19 d_T_step_126   ?_
      exact j_T_step_129 C q a post hq  2000 (T_sort_ c_5 2) hw
  · replace hw := hw.2 h22
    refine g_aload_n (pc := 67) C d_T_step_67 0 rfl rfl ?_
    refine g_iconst (pc := 68) C (v := 1) d_T_step_68 (by decide) ?_
    refine pT_sort (pc := 69) C lk_T_19 d_T_step_69   ?_
    exact j_T_step_72 C q a post hq  2000 (T_sort_ c_2 1) hw
def w_T_step_8  (post : TSt → Prop)  : Nat → TSt → Prop
  | 0, _ => False
  | n + 1, c =>
    (((T_size c) ≤ (T_start c)) → (w_T_step_45  post  c)) ∧ ((¬ (T_size c) ≤ (T_start c)) → (wp_T_byteAt c (T_start c) (fun v23 c_24 => ((v23 = 32) → (∀ y25 : Int32, y25 = (T_start c_24) + 1 → (w_T_step_8  post  n (T_start_ c_24 y25)))) ∧ ((¬ v23 = 32) → (w_T_step_45  post  c_24)))))
set_option maxRecDepth 20000 in
theorem j_T_step_8 {X : GX} (C : GC X b_T_step R_T 1 (rmd 1)) {Qp : Option Value → va_W → Prop} (q : RC X (none) Qp 0 0) (a : Nat → Nat)   (post : TSt → Prop) (hq : ∀ c1, post c1 → Qp none (woT (xt X) a c1)) : ∀ (n : Nat) (c : TSt), w_T_step_8  post  n c → G X 0 0 (woT (xt X) a c) [(0, .ref (a 0))] [] 8 := by
  intro n
  induction n with
  | zero => intro c hw; exact hw.elim
  | succ n ih =>
    intro c hw
    rw [w_T_step_8] at hw
    refine g_aload_n (pc := 8) C d_T_step_8 0 rfl rfl ?_
    refine fT_start (pc := 9) C lk_T_22 d_T_step_9 (v := T_start c) rfl ?_
    refine g_aload_n (pc := 12) C d_T_step_12 0 rfl rfl ?_
    refine fT_size (pc := 13) C lk_T_15 d_T_step_13 (v := T_size c) rfl ?_
    refine g_icmp_ge (pc := 16) (tgt := 45) C d_T_step_16 (by decide) (fun h27 => ?_) (fun h27 => ?_)
    · replace hw := hw.1 h27
      exact j_T_step_45 C q a post hq  c hw
    · replace hw := hw.2 h27
      refine g_aload_n (pc := 19) C d_T_step_19 0 rfl rfl ?_
      refine g_aload_n (pc := 20) C d_T_step_20 0 rfl rfl ?_
      refine fT_start (pc := 21) C lk_T_22 d_T_step_21 (v := T_start c) rfl ?_
      refine k_Ia (pc := 24) (co_V C (c_T_byteAt (xl X) (xD X) (xt X) (xv X) a c (T_start c) _ hw) mw_T_byteAt lk_T_130 d_T_step_24 (List.range _) (all_C _) (all_nd _) (rec_w C 0 4 rfl rfl) rfl rfl ⟨Nat.le_of_ble_eq_true rfl, Nat.le_of_ble_eq_true rfl⟩ ⟨Nat.le_of_ble_eq_true rfl, Nat.le_of_ble_eq_true rfl⟩ (rest := []) rfl rfl (Nat.le_of_ble_eq_true rfl)) (fun v23 c_24 hw => ?_)
      refine g_bipush (pc := 27) C (v := 32) d_T_step_27 (by decide) ?_
      refine g_icmp_ne (pc := 29) (tgt := 45) C d_T_step_29 (by decide) (fun h26 => ?_) (fun h26 => ?_)
      · replace hw := hw.2 h26
        exact j_T_step_45 C q a post hq  c_24 hw
      · replace hw := hw.1 h26
        refine g_aload_n (pc := 32) C d_T_step_32 0 rfl rfl ?_
        refine g_dup (pc := 33) C d_T_step_33 rfl ?_
        refine fT_start (pc := 34) C lk_T_22 d_T_step_34 (v := T_start c_24) rfl ?_
        refine g_iconst (pc := 37) C (v := 1) d_T_step_37 (by decide) ?_
        refine g_iadd (pc := 38) C d_T_step_38 ?_
        refine g_topi (fun y25 ey25 => ?_)
        replace hw := hw y25 ey25
        refine pT_start (pc := 39) C lk_T_22 d_T_step_39   ?_
        refine g_goto (pc := 42) (tgt := 8) C d_T_step_42 (by decide) ?_
        exact ih (T_start_ c_24 y25) hw
def wp_T_step (c : TSt) (post : TSt → Prop) : Prop :=
  w_T_step_8  post  2000 (T_start_ c (T_end c))
set_option maxRecDepth 20000 in
theorem g_T_step {X : GX} (C : GC X b_T_step R_T 1 (rmd 1)) {Qp : Option Value → va_W → Prop} (q : RC X (none) Qp 0 0) (a : Nat → Nat) (c : TSt) (post : TSt → Prop) (hq : ∀ c1, post c1 → Qp none (woT (xt X) a c1)) (hw : wp_T_step c post) : G X 0 0 (woT (xt X) a c) [(0, .ref (a 0))] [] 0 := by
  unfold wp_T_step at hw
  refine g_aload_n (pc := 0) C d_T_step_0 0 rfl rfl ?_
  refine g_aload_n (pc := 1) C d_T_step_1 0 rfl rfl ?_
  refine fT_end (pc := 2) C lk_T_25 d_T_step_2 (v := T_end c) rfl ?_
  refine pT_start (pc := 5) C lk_T_22 d_T_step_5   ?_
  exact j_T_step_8 C q a post hq  2000 (T_start_ c (T_end c)) hw
set_option maxRecDepth 20000 in
theorem c_T_step (l : Launch) (D : va_G) (t : Nat → ClassId) (ev : Nat → Nat) (a : Nat → Nat) (c : TSt) (post : TSt → Prop) (hw : wp_T_step c post) : Con l D t ev y_T_step b_T_step 1 (none) 1 (woT t a c) [.ref (a 0)] (qV (woT t a)  post) :=
  ConR.of (by decide +kernel) (Nat.le_of_ble_eq_true rfl) (fun X el eD et ee C q _ => by subst el; subst eD; subst et; subst ee; exact g_T_step C q a c post (fun c1 h => ⟨⟨c1, rfl, rfl, h⟩, rfl⟩) hw)
def wp_T_kindName (x0 : Int32) (post : Nat → Prop) : Prop :=
  ((x0 = 1) → (post 1 )) ∧ ((¬ x0 = 1) → (((x0 = 2) → (post 2 )) ∧ ((¬ x0 = 2) → (((x0 = 3) → (post 3 )) ∧ ((¬ x0 = 3) → (((x0 = 4) → (post 4 )) ∧ ((¬ x0 = 4) → (((x0 = 5) → (post 5 )) ∧ ((¬ x0 = 5) → (post 0 ))))))))))
set_option maxRecDepth 20000 in
theorem g_T_kindName {X : GX} (C : GC X b_T_kindName R_T 1 (rmd 0)) {Qp : Option Value → va_W → Prop} (q : RC X ((some (.object "java/lang/String"))) Qp 0 0) (x0 : Int32) (post : Nat → Prop) (hq : ∀ v, post v → Qp (some (rfK (xv X) v)) []) (hw : wp_T_kindName x0 post) : G X 0 0 ([]) [(0, .int x0)] [] 0 := by
  unfold wp_T_kindName at hw
  refine g_iload_n (pc := 0) C d_T_kindName_0 0 rfl rfl ?_
  by_cases h1 : x0 = 1
  · replace hw := hw.1 h1
    refine g_tabIn (pc := 1) (tgt := 36) C d_T_kindName_1 (by rw [h1]; decide) (by rw [h1]; decide) (off := 35) (by rw [h1]; rfl) (by decide) ?_
    refine g_ldcS (pc := 36) C d_T_kindName_36 1 rfl rfl ?_
    exact g_aret (pc := 38) C q (v := rfK (xv X) 1) d_T_kindName_38 (Or.inr ⟨_, rfl⟩) (hq _ hw)
  · replace hw := hw.2 h1
    by_cases h2 : x0 = 2
    · replace hw := hw.1 h2
      refine g_tabIn (pc := 1) (tgt := 39) C d_T_kindName_1 (by rw [h2]; decide) (by rw [h2]; decide) (off := 38) (by rw [h2]; rfl) (by decide) ?_
      refine g_ldcS (pc := 39) C d_T_kindName_39 2 rfl rfl ?_
      exact g_aret (pc := 41) C q (v := rfK (xv X) 2) d_T_kindName_41 (Or.inr ⟨_, rfl⟩) (hq _ hw)
    · replace hw := hw.2 h2
      by_cases h3 : x0 = 3
      · replace hw := hw.1 h3
        refine g_tabIn (pc := 1) (tgt := 42) C d_T_kindName_1 (by rw [h3]; decide) (by rw [h3]; decide) (off := 41) (by rw [h3]; rfl) (by decide) ?_
        refine g_ldcS (pc := 42) C d_T_kindName_42 3 rfl rfl ?_
        exact g_aret (pc := 44) C q (v := rfK (xv X) 3) d_T_kindName_44 (Or.inr ⟨_, rfl⟩) (hq _ hw)
      · replace hw := hw.2 h3
        by_cases h4 : x0 = 4
        · replace hw := hw.1 h4
          refine g_tabIn (pc := 1) (tgt := 45) C d_T_kindName_1 (by rw [h4]; decide) (by rw [h4]; decide) (off := 44) (by rw [h4]; rfl) (by decide) ?_
          refine g_ldcS (pc := 45) C d_T_kindName_45 4 rfl rfl ?_
          exact g_aret (pc := 47) C q (v := rfK (xv X) 4) d_T_kindName_47 (Or.inr ⟨_, rfl⟩) (hq _ hw)
        · replace hw := hw.2 h4
          by_cases h5 : x0 = 5
          · replace hw := hw.1 h5
            refine g_tabIn (pc := 1) (tgt := 48) C d_T_kindName_1 (by rw [h5]; decide) (by rw [h5]; decide) (off := 47) (by rw [h5]; rfl) (by decide) ?_
            refine g_ldcS (pc := 48) C d_T_kindName_48 5 rfl rfl ?_
            exact g_aret (pc := 50) C q (v := rfK (xv X) 5) d_T_kindName_50 (Or.inr ⟨_, rfl⟩) (hq _ hw)
          · replace hw := hw.2 h5
            have h1_ := sw_ne (v := 1) h1 (by decide)
            have h2_ := sw_ne (v := 2) h2 (by decide)
            have h3_ := sw_ne (v := 3) h3 (by decide)
            have h4_ := sw_ne (v := 4) h4 (by decide)
            have h5_ := sw_ne (v := 5) h5 (by decide)
            refine g_tabOut (pc := 1) (tgt := 51) C d_T_kindName_1 (by omega) (by decide) ?_
            refine g_ldcS (pc := 51) C d_T_kindName_51 0 rfl rfl ?_
            exact g_aret (pc := 53) C q (v := rfK (xv X) 0) d_T_kindName_53 (Or.inr ⟨_, rfl⟩) (hq _ hw)
set_option maxRecDepth 20000 in
theorem c_T_kindName (l : Launch) (D : va_G) (t : Nat → ClassId) (ev : Nat → Nat) (x0 : Int32) (post : Nat → Prop) (hw : wp_T_kindName x0 post) : Con l D t ev y_T_kindName b_T_kindName 1 ((some (.object "java/lang/String"))) 0 ([]) [.int x0] (qR (fun _ : Unit => []) (rfK ev) (fun v _ => post v)) :=
  ConR.of (by decide +kernel) (Nat.le_of_ble_eq_true rfl) (fun X el eD et ee C q _ => by subst el; subst eD; subst et; subst ee; exact g_T_kindName C q x0 post (fun v h => ⟨⟨v, (), rfl, rfl, h⟩, rfl⟩) hw)
def wp_T_lawName (x0 : Int32) (post : Nat → Prop) : Prop :=
  ((x0 = 0) → (post 12 )) ∧ ((¬ x0 = 0) → (((x0 = 1) → (post 13 )) ∧ ((¬ x0 = 1) → (((x0 = 2) → (post 14 )) ∧ ((¬ x0 = 2) → (post 15 ))))))
set_option maxRecDepth 20000 in
theorem g_T_lawName {X : GX} (C : GC X b_T_lawName R_T 1 (rmd 0)) {Qp : Option Value → va_W → Prop} (q : RC X ((some (.object "java/lang/String"))) Qp 0 0) (x0 : Int32) (post : Nat → Prop) (hq : ∀ v, post v → Qp (some (rfK (xv X) v)) []) (hw : wp_T_lawName x0 post) : G X 0 0 ([]) [(0, .int x0)] [] 0 := by
  unfold wp_T_lawName at hw
  refine g_iload_n (pc := 0) C d_T_lawName_0 0 rfl rfl ?_
  by_cases h1 : x0 = 0
  · replace hw := hw.1 h1
    refine g_tabIn (pc := 1) (tgt := 28) C d_T_lawName_1 (by rw [h1]; decide) (by rw [h1]; decide) (off := 27) (by rw [h1]; rfl) (by decide) ?_
    refine g_ldcS (pc := 28) C d_T_lawName_28 12 rfl rfl ?_
    exact g_aret (pc := 30) C q (v := rfK (xv X) 12) d_T_lawName_30 (Or.inr ⟨_, rfl⟩) (hq _ hw)
  · replace hw := hw.2 h1
    by_cases h2 : x0 = 1
    · replace hw := hw.1 h2
      refine g_tabIn (pc := 1) (tgt := 31) C d_T_lawName_1 (by rw [h2]; decide) (by rw [h2]; decide) (off := 30) (by rw [h2]; rfl) (by decide) ?_
      refine g_ldcS (pc := 31) C d_T_lawName_31 13 rfl rfl ?_
      exact g_aret (pc := 33) C q (v := rfK (xv X) 13) d_T_lawName_33 (Or.inr ⟨_, rfl⟩) (hq _ hw)
    · replace hw := hw.2 h2
      by_cases h3 : x0 = 2
      · replace hw := hw.1 h3
        refine g_tabIn (pc := 1) (tgt := 34) C d_T_lawName_1 (by rw [h3]; decide) (by rw [h3]; decide) (off := 33) (by rw [h3]; rfl) (by decide) ?_
        refine g_ldcS (pc := 34) C d_T_lawName_34 14 rfl rfl ?_
        exact g_aret (pc := 36) C q (v := rfK (xv X) 14) d_T_lawName_36 (Or.inr ⟨_, rfl⟩) (hq _ hw)
      · replace hw := hw.2 h3
        have h1_ := sw_ne (v := 0) h1 (by decide)
        have h2_ := sw_ne (v := 1) h2 (by decide)
        have h3_ := sw_ne (v := 2) h3 (by decide)
        refine g_tabOut (pc := 1) (tgt := 37) C d_T_lawName_1 (by omega) (by decide) ?_
        refine g_ldcS (pc := 37) C d_T_lawName_37 15 rfl rfl ?_
        exact g_aret (pc := 39) C q (v := rfK (xv X) 15) d_T_lawName_39 (Or.inr ⟨_, rfl⟩) (hq _ hw)
set_option maxRecDepth 20000 in
theorem c_T_lawName (l : Launch) (D : va_G) (t : Nat → ClassId) (ev : Nat → Nat) (x0 : Int32) (post : Nat → Prop) (hw : wp_T_lawName x0 post) : Con l D t ev y_T_lawName b_T_lawName 1 ((some (.object "java/lang/String"))) 0 ([]) [.int x0] (qR (fun _ : Unit => []) (rfK ev) (fun v _ => post v)) :=
  ConR.of (by decide +kernel) (Nat.le_of_ble_eq_true rfl) (fun X el eD et ee C q _ => by subst el; subst eD; subst et; subst ee; exact g_T_lawName C q x0 post (fun v h => ⟨⟨v, (), rfl, rfl, h⟩, rfl⟩) hw)
def w_T_isName_28  (post : Int32 → TSt → Prop)  : Nat → TSt → Nat → Int32 → Prop
  | 0, _, _, _ => False
  | n + 1, c, x1, x2 =>
    x1 < 16 ∧ (wp_JS_length x1 (fun v5 => ((v5 ≤ x2) → (post 1 c)) ∧ ((¬ v5 ≤ x2) → (∀ y6 : Int32, y6 = (T_start c) + x2 → (wp_T_byteAt c y6 (fun v7 c_8 => x1 < 16 ∧ (wp_JS_charAt x1 x2 (fun v10 => ((v7 = v10) → (∀ y11 : Int32, y11 = x2 + 1 → (w_T_isName_28  post  n c_8 x1 y11))) ∧ ((¬ v7 = v10) → (post 0 c_8))))))))))
set_option maxRecDepth 20000 in
theorem j_T_isName_28 {X : GX} (C : GC X b_T_isName R_T 3 (rmd 4)) {Qp : Option Value → va_W → Prop} (q : RC X ((some .boolean)) Qp 0 0) (a : Nat → Nat)   (post : Int32 → TSt → Prop) (hq : ∀ v c1, post v c1 → Qp (some (.int v)) (woT (xt X) a c1)) : ∀ (n : Nat) (c : TSt) (x1 : Nat) (x2 : Int32), w_T_isName_28  post  n c x1 x2 → G X 0 0 (woT (xt X) a c) [(0, .ref (a 0)), (1, .ref (vaK (xv X) x1)), (2, .int x2)] [] 28 := by
  intro n
  induction n with
  | zero => intro c x1 x2 hw; exact hw.elim
  | succ n ih =>
    intro c x1 x2 hw
    rw [w_T_isName_28] at hw
    refine g_iload_n (pc := 28) C d_T_isName_28 2 rfl rfl ?_
    refine g_aload_n (pc := 29) C d_T_isName_29 1 rfl rfl ?_
    obtain ⟨h4, hw⟩ := hw
    refine k_I0 (pc := 30) (co_V C (c_JS_length (xl X) (xD X) (xt X) (xv X) x1 _ hw) mw_JS_length lk_T_124 d_T_isName_30 [] rfl (by decide) (rec_s C h4) rfl rfl ⟨Nat.le_of_ble_eq_true rfl, Nat.le_of_ble_eq_true rfl⟩ ⟨Nat.le_of_ble_eq_true rfl, Nat.le_of_ble_eq_true rfl⟩ (rest := [.int x2]) rfl rfl (Nat.le_of_ble_eq_true rfl)) (fun v5 hw => ?_)
    refine g_icmp_ge (pc := 33) (tgt := 62) C d_T_isName_33 (by decide) (fun h13 => ?_) (fun h13 => ?_)
    · replace hw := hw.1 h13
      refine g_iconst (pc := 62) C (v := 1) d_T_isName_62 (by decide) ?_
      exact g_zret (pc := 63) C q d_T_isName_63 (by decide) (hq _ _ hw)
    · replace hw := hw.2 h13
      refine g_aload_n (pc := 36) C d_T_isName_36 0 rfl rfl ?_
      refine g_aload_n (pc := 37) C d_T_isName_37 0 rfl rfl ?_
      refine fT_start (pc := 38) C lk_T_22 d_T_isName_38 (v := T_start c) rfl ?_
      refine g_iload_n (pc := 41) C d_T_isName_41 2 rfl rfl ?_
      refine g_iadd (pc := 42) C d_T_isName_42 ?_
      refine g_topi (fun y6 ey6 => ?_)
      replace hw := hw y6 ey6
      refine k_Ia (pc := 43) (co_V C (c_T_byteAt (xl X) (xD X) (xt X) (xv X) a c y6 _ hw) mw_T_byteAt lk_T_130 d_T_isName_43 (List.range _) (all_C _) (all_nd _) (rec_w C 0 4 rfl rfl) rfl rfl ⟨Nat.le_of_ble_eq_true rfl, Nat.le_of_ble_eq_true rfl⟩ ⟨Nat.le_of_ble_eq_true rfl, Nat.le_of_ble_eq_true rfl⟩ (rest := []) rfl rfl (Nat.le_of_ble_eq_true rfl)) (fun v7 c_8 hw => ?_)
      refine g_aload_n (pc := 46) C d_T_isName_46 1 rfl rfl ?_
      refine g_iload_n (pc := 47) C d_T_isName_47 2 rfl rfl ?_
      obtain ⟨h9, hw⟩ := hw
      refine k_I0 (pc := 48) (co_V C (c_JS_charAt (xl X) (xD X) (xt X) (xv X) x1 x2 _ hw) mw_JS_charAt lk_T_133 d_T_isName_48 [] rfl (by decide) (rec_s C h9) rfl rfl ⟨Nat.le_of_ble_eq_true rfl, Nat.le_of_ble_eq_true rfl⟩ ⟨Nat.le_of_ble_eq_true rfl, Nat.le_of_ble_eq_true rfl⟩ (rest := [.int v7]) rfl rfl (Nat.le_of_ble_eq_true rfl)) (fun v10 hw => ?_)
      refine g_icmp_eq (pc := 51) (tgt := 56) C d_T_isName_51 (by decide) (fun h12 => ?_) (fun h12 => ?_)
      · replace hw := hw.1 h12
        obtain ⟨y11, ey11⟩ : ∃ w, w = x2 + 1 := ⟨_, rfl⟩
        replace hw := hw y11 ey11
        refine g_iinc (pc := 56) C d_T_isName_56 2 rfl (v := y11) (by rw [ey11]; rfl) (Nat.le_of_ble_eq_true rfl) (lv' := [(0, .ref (a 0)), (1, .ref (vaK (xv X) x1)), (2, .int y11)]) rfl ?_
        refine g_goto (pc := 59) (tgt := 28) C d_T_isName_59 (by decide) ?_
        exact ih c_8 x1 y11 hw
      · replace hw := hw.2 h12
        refine g_iconst (pc := 54) C (v := 0) d_T_isName_54 (by decide) ?_
        exact g_zret (pc := 55) C q d_T_isName_55 (by decide) (hq _ _ hw)
def wp_T_isName (c : TSt) (x1 : Nat) (post : Int32 → TSt → Prop) : Prop :=
  (((T_sort c) = 1) → (∀ y1 : Int32, y1 = (T_end c) - (T_start c) → (x1 < 16 ∧ (wp_JS_length x1 (fun v3 => ((y1 = v3) → (w_T_isName_28  post  2000 c x1 0)) ∧ ((¬ y1 = v3) → (post 0 c))))))) ∧ ((¬ (T_sort c) = 1) → (post 0 c))
set_option maxRecDepth 20000 in
theorem g_T_isName {X : GX} (C : GC X b_T_isName R_T 3 (rmd 4)) {Qp : Option Value → va_W → Prop} (q : RC X ((some .boolean)) Qp 0 0) (a : Nat → Nat) (c : TSt) (x1 : Nat) (post : Int32 → TSt → Prop) (hq : ∀ v c1, post v c1 → Qp (some (.int v)) (woT (xt X) a c1)) (hw : wp_T_isName c x1 post) : G X 0 0 (woT (xt X) a c) [(0, .ref (a 0)), (1, .ref (vaK (xv X) x1))] [] 0 := by
  unfold wp_T_isName at hw
  refine g_aload_n (pc := 0) C d_T_isName_0 0 rfl rfl ?_
  refine fT_sort (pc := 1) C lk_T_19 d_T_isName_1 (v := T_sort c) rfl ?_
  refine g_iconst (pc := 4) C (v := 1) d_T_isName_4 (by decide) ?_
  refine g_icmp_ne (pc := 5) (tgt := 24) C d_T_isName_5 (by decide) (fun h15 => ?_) (fun h15 => ?_)
  · replace hw := hw.2 h15
    refine g_iconst (pc := 24) C (v := 0) d_T_isName_24 (by decide) ?_
    exact g_zret (pc := 25) C q d_T_isName_25 (by decide) (hq _ _ hw)
  · replace hw := hw.1 h15
    refine g_aload_n (pc := 8) C d_T_isName_8 0 rfl rfl ?_
    refine fT_end (pc := 9) C lk_T_25 d_T_isName_9 (v := T_end c) rfl ?_
    refine g_aload_n (pc := 12) C d_T_isName_12 0 rfl rfl ?_
    refine fT_start (pc := 13) C lk_T_22 d_T_isName_13 (v := T_start c) rfl ?_
    refine g_isub (pc := 16) C d_T_isName_16 ?_
    refine g_topi (fun y1 ey1 => ?_)
    replace hw := hw y1 ey1
    refine g_aload_n (pc := 17) C d_T_isName_17 1 rfl rfl ?_
    obtain ⟨h2, hw⟩ := hw
    refine k_I0 (pc := 18) (co_V C (c_JS_length (xl X) (xD X) (xt X) (xv X) x1 _ hw) mw_JS_length lk_T_124 d_T_isName_18 [] rfl (by decide) (rec_s C h2) rfl rfl ⟨Nat.le_of_ble_eq_true rfl, Nat.le_of_ble_eq_true rfl⟩ ⟨Nat.le_of_ble_eq_true rfl, Nat.le_of_ble_eq_true rfl⟩ (rest := [.int y1]) rfl rfl (Nat.le_of_ble_eq_true rfl)) (fun v3 hw => ?_)
    refine g_icmp_eq (pc := 21) (tgt := 26) C d_T_isName_21 (by decide) (fun h14 => ?_) (fun h14 => ?_)
    · replace hw := hw.1 h14
      refine g_iconst (pc := 26) C (v := 0) d_T_isName_26 (by decide) ?_
      refine g_istore_n (pc := 27) C d_T_isName_27 rfl (Nat.le_of_ble_eq_true rfl) (lv' := [(0, .ref (a 0)), (1, .ref (vaK (xv X) x1)), (2, .int 0)]) rfl ?_
      exact j_T_isName_28 C q a post hq  2000 c x1 0 hw
    · replace hw := hw.2 h14
      refine g_iconst (pc := 24) C (v := 0) d_T_isName_24 (by decide) ?_
      exact g_zret (pc := 25) C q d_T_isName_25 (by decide) (hq _ _ hw)
set_option maxRecDepth 20000 in
theorem c_T_isName (l : Launch) (D : va_G) (t : Nat → ClassId) (ev : Nat → Nat) (a : Nat → Nat) (c : TSt) (x1 : Nat) (post : Int32 → TSt → Prop) (hw : wp_T_isName c x1 post) : Con l D t ev y_T_isName b_T_isName 3 ((some .boolean)) 4 (woT t a c) [.ref (a 0), .ref (vaK ev x1)] (qI (woT t a)  post) :=
  ConR.of (by decide +kernel) (Nat.le_of_ble_eq_true rfl) (fun X el eD et ee C q _ => by subst el; subst eD; subst et; subst ee; exact g_T_isName C q a c x1 post (fun v c1 h => ⟨⟨v, c1, rfl, rfl, h⟩, rfl⟩) hw)
def wp_T_takeName (c : TSt) (x1 : Nat) (post : Int32 → TSt → Prop) : Prop :=
  wp_T_isName c x1 (fun v1 c_2 => ((v1 = 0) → (post 0 c_2)) ∧ ((¬ v1 = 0) → (wp_T_step c_2 (fun c_3 => post 1 c_3))))
set_option maxRecDepth 20000 in
theorem g_T_takeName {X : GX} (C : GC X b_T_takeName R_T 2 (rmd 5)) {Qp : Option Value → va_W → Prop} (q : RC X ((some .boolean)) Qp 0 0) (a : Nat → Nat) (c : TSt) (x1 : Nat) (post : Int32 → TSt → Prop) (hq : ∀ v c1, post v c1 → Qp (some (.int v)) (woT (xt X) a c1)) (hw : wp_T_takeName c x1 post) : G X 0 0 (woT (xt X) a c) [(0, .ref (a 0)), (1, .ref (vaK (xv X) x1))] [] 0 := by
  unfold wp_T_takeName at hw
  refine g_aload_n (pc := 0) C d_T_takeName_0 0 rfl rfl ?_
  refine g_aload_n (pc := 1) C d_T_takeName_1 1 rfl rfl ?_
  refine k_Ia (pc := 2) (co_V C (c_T_isName (xl X) (xD X) (xt X) (xv X) a c x1 _ hw) mw_T_isName lk_T_39 d_T_takeName_2 (List.range _) (all_C _) (all_nd _) (rec_w C 0 4 rfl rfl) rfl rfl ⟨Nat.le_of_ble_eq_true rfl, Nat.le_of_ble_eq_true rfl⟩ ⟨Nat.le_of_ble_eq_true rfl, Nat.le_of_ble_eq_true rfl⟩ (rest := []) rfl rfl (Nat.le_of_ble_eq_true rfl)) (fun v1 c_2 hw => ?_)
  refine g_if_ne (pc := 5) (tgt := 10) C d_T_takeName_5 (by decide) (fun h4 => ?_) (fun h4 => ?_)
  · replace hw := hw.2 h4
    refine g_aload_n (pc := 10) C d_T_takeName_10 0 rfl rfl ?_
    refine k_Va (pc := 11) (co_V C (c_T_step (xl X) (xD X) (xt X) (xv X) a c_2 _ hw) mw_T_step lk_T_28 d_T_takeName_11 (List.range _) (all_C _) (all_nd _) (rec_w C 0 4 rfl rfl) rfl rfl ⟨Nat.le_of_ble_eq_true rfl, Nat.le_of_ble_eq_true rfl⟩ ⟨Nat.le_of_ble_eq_true rfl, Nat.le_of_ble_eq_true rfl⟩ (rest := []) rfl rfl (Nat.le_of_ble_eq_true rfl)) (fun c_3 hw => ?_)
    refine g_iconst (pc := 14) C (v := 1) d_T_takeName_14 (by decide) ?_
    exact g_zret (pc := 15) C q d_T_takeName_15 (by decide) (hq _ _ hw)
  · replace hw := hw.1 h4
    refine g_iconst (pc := 8) C (v := 0) d_T_takeName_8 (by decide) ?_
    exact g_zret (pc := 9) C q d_T_takeName_9 (by decide) (hq _ _ hw)
set_option maxRecDepth 20000 in
theorem c_T_takeName (l : Launch) (D : va_G) (t : Nat → ClassId) (ev : Nat → Nat) (a : Nat → Nat) (c : TSt) (x1 : Nat) (post : Int32 → TSt → Prop) (hw : wp_T_takeName c x1 post) : Con l D t ev y_T_takeName b_T_takeName 2 ((some .boolean)) 5 (woT t a c) [.ref (a 0), .ref (vaK ev x1)] (qI (woT t a)  post) :=
  ConR.of (by decide +kernel) (Nat.le_of_ble_eq_true rfl) (fun X el eD et ee C q _ => by subst el; subst eD; subst et; subst ee; exact g_T_takeName C q a c x1 post (fun v c1 h => ⟨⟨v, c1, rfl, rfl, h⟩, rfl⟩) hw)
def w_T_takeNumber_30  (post : Int32 → TSt → Prop)  : Nat → TSt → Int32 → Int32 → Int32 → Prop
  | 0, _, _, _, _ => False
  | n + 1, c, x1, x2, x3 =>
    (((T_end c) ≤ x3) → (((x2 ≤ x1) → (wp_T_step c (fun c_2 => post x2 c_2))) ∧ ((¬ x2 ≤ x1) → (post (-1) c)))) ∧ ((¬ (T_end c) ≤ x3) → (∀ y4 : Int32, y4 = x2 * 10 → (wp_T_byteAt c x3 (fun v5 c_6 => ∀ y7 : Int32, y7 = y4 + v5 → (∀ y8 : Int32, y8 = y7 - 48 → (∀ y9 : Int32, y9 = x3 + 1 → (w_T_takeNumber_30  post  n c_6 x1 y8 y9)))))))
set_option maxRecDepth 20000 in
theorem j_T_takeNumber_30 {X : GX} (C : GC X b_T_takeNumber R_T 4 (rmd 2)) {Qp : Option Value → va_W → Prop} (q : RC X ((some .int)) Qp 0 0) (a : Nat → Nat)   (post : Int32 → TSt → Prop) (hq : ∀ v c1, post v c1 → Qp (some (.int v)) (woT (xt X) a c1)) : ∀ (n : Nat) (c : TSt) (x1 : Int32) (x2 : Int32) (x3 : Int32), w_T_takeNumber_30  post  n c x1 x2 x3 → G X 0 0 (woT (xt X) a c) [(0, .ref (a 0)), (1, .int x1), (2, .int x2), (3, .int x3)] [] 30 := by
  intro n
  induction n with
  | zero => intro c x1 x2 x3 hw; exact hw.elim
  | succ n ih =>
    intro c x1 x2 x3 hw
    rw [w_T_takeNumber_30] at hw
    refine g_iload_n (pc := 30) C d_T_takeNumber_30 3 rfl rfl ?_
    refine g_aload_n (pc := 31) C d_T_takeNumber_31 0 rfl rfl ?_
    refine fT_end (pc := 32) C lk_T_25 d_T_takeNumber_32 (v := T_end c) rfl ?_
    refine g_icmp_ge (pc := 35) (tgt := 58) C d_T_takeNumber_35 (by decide) (fun h10 => ?_) (fun h10 => ?_)
    · replace hw := hw.1 h10
      refine g_iload_n (pc := 58) C d_T_takeNumber_58 2 rfl rfl ?_
      refine g_iload_n (pc := 59) C d_T_takeNumber_59 1 rfl rfl ?_
      refine g_icmp_le (pc := 60) (tgt := 65) C d_T_takeNumber_60 (by decide) (fun h3 => ?_) (fun h3 => ?_)
      · replace hw := hw.1 h3
        refine g_aload_n (pc := 65) C d_T_takeNumber_65 0 rfl rfl ?_
        refine k_Va (pc := 66) (co_V C (c_T_step (xl X) (xD X) (xt X) (xv X) a c _ hw) mw_T_step lk_T_28 d_T_takeNumber_66 (List.range _) (all_C _) (all_nd _) (rec_w C 0 4 rfl rfl) rfl rfl ⟨Nat.le_of_ble_eq_true rfl, Nat.le_of_ble_eq_true rfl⟩ ⟨Nat.le_of_ble_eq_true rfl, Nat.le_of_ble_eq_true rfl⟩ (rest := []) rfl rfl (Nat.le_of_ble_eq_true rfl)) (fun c_2 hw => ?_)
        refine g_iload_n (pc := 69) C d_T_takeNumber_69 2 rfl rfl ?_
        exact g_iret (pc := 70) C q d_T_takeNumber_70 (hq _ _ hw)
      · replace hw := hw.2 h3
        refine g_iconst (pc := 63) C (v := (-1)) d_T_takeNumber_63 (by decide) ?_
        exact g_iret (pc := 64) C q d_T_takeNumber_64 (hq _ _ hw)
    · replace hw := hw.2 h10
      refine g_iload_n (pc := 38) C d_T_takeNumber_38 2 rfl rfl ?_
      refine g_bipush (pc := 39) C (v := 10) d_T_takeNumber_39 (by decide) ?_
      refine g_imul (pc := 41) C d_T_takeNumber_41 ?_
      refine g_topi (fun y4 ey4 => ?_)
      replace hw := hw y4 ey4
      refine g_aload_n (pc := 42) C d_T_takeNumber_42 0 rfl rfl ?_
      refine g_iload_n (pc := 43) C d_T_takeNumber_43 3 rfl rfl ?_
      refine k_Ia (pc := 44) (co_V C (c_T_byteAt (xl X) (xD X) (xt X) (xv X) a c x3 _ hw) mw_T_byteAt lk_T_130 d_T_takeNumber_44 (List.range _) (all_C _) (all_nd _) (rec_w C 0 4 rfl rfl) rfl rfl ⟨Nat.le_of_ble_eq_true rfl, Nat.le_of_ble_eq_true rfl⟩ ⟨Nat.le_of_ble_eq_true rfl, Nat.le_of_ble_eq_true rfl⟩ (rest := [.int y4]) rfl rfl (Nat.le_of_ble_eq_true rfl)) (fun v5 c_6 hw => ?_)
      refine g_iadd (pc := 47) C d_T_takeNumber_47 ?_
      refine g_topi (fun y7 ey7 => ?_)
      replace hw := hw y7 ey7
      refine g_bipush (pc := 48) C (v := 48) d_T_takeNumber_48 (by decide) ?_
      refine g_isub (pc := 50) C d_T_takeNumber_50 ?_
      refine g_topi (fun y8 ey8 => ?_)
      replace hw := hw y8 ey8
      refine g_istore_n (pc := 51) C d_T_takeNumber_51 rfl (Nat.le_of_ble_eq_true rfl) (lv' := [(0, .ref (a 0)), (1, .int x1), (2, .int y8), (3, .int x3)]) rfl ?_
      obtain ⟨y9, ey9⟩ : ∃ w, w = x3 + 1 := ⟨_, rfl⟩
      replace hw := hw y9 ey9
      refine g_iinc (pc := 52) C d_T_takeNumber_52 3 rfl (v := y9) (by rw [ey9]; rfl) (Nat.le_of_ble_eq_true rfl) (lv' := [(0, .ref (a 0)), (1, .int x1), (2, .int y8), (3, .int y9)]) rfl ?_
      refine g_goto (pc := 55) (tgt := 30) C d_T_takeNumber_55 (by decide) ?_
      exact ih c_6 x1 y8 y9 hw
def wp_T_takeNumber (c : TSt) (x1 : Int32) (post : Int32 → TSt → Prop) : Prop :=
  (((T_sort c) = 2) → (∀ y1 : Int32, y1 = (T_end c) - (T_start c) → (((y1 ≤ 3) → (w_T_takeNumber_30  post  2000 c x1 0 (T_start c))) ∧ ((¬ y1 ≤ 3) → (post (-1) c))))) ∧ ((¬ (T_sort c) = 2) → (post (-1) c))
set_option maxRecDepth 20000 in
theorem g_T_takeNumber {X : GX} (C : GC X b_T_takeNumber R_T 4 (rmd 2)) {Qp : Option Value → va_W → Prop} (q : RC X ((some .int)) Qp 0 0) (a : Nat → Nat) (c : TSt) (x1 : Int32) (post : Int32 → TSt → Prop) (hq : ∀ v c1, post v c1 → Qp (some (.int v)) (woT (xt X) a c1)) (hw : wp_T_takeNumber c x1 post) : G X 0 0 (woT (xt X) a c) [(0, .ref (a 0)), (1, .int x1)] [] 0 := by
  unfold wp_T_takeNumber at hw
  refine g_aload_n (pc := 0) C d_T_takeNumber_0 0 rfl rfl ?_
  refine fT_sort (pc := 1) C lk_T_19 d_T_takeNumber_1 (v := T_sort c) rfl ?_
  refine g_iconst (pc := 4) C (v := 2) d_T_takeNumber_4 (by decide) ?_
  refine g_icmp_ne (pc := 5) (tgt := 21) C d_T_takeNumber_5 (by decide) (fun h12 => ?_) (fun h12 => ?_)
  · replace hw := hw.2 h12
    refine g_iconst (pc := 21) C (v := (-1)) d_T_takeNumber_21 (by decide) ?_
    exact g_iret (pc := 22) C q d_T_takeNumber_22 (hq _ _ hw)
  · replace hw := hw.1 h12
    refine g_aload_n (pc := 8) C d_T_takeNumber_8 0 rfl rfl ?_
    refine fT_end (pc := 9) C lk_T_25 d_T_takeNumber_9 (v := T_end c) rfl ?_
    refine g_aload_n (pc := 12) C d_T_takeNumber_12 0 rfl rfl ?_
    refine fT_start (pc := 13) C lk_T_22 d_T_takeNumber_13 (v := T_start c) rfl ?_
    refine g_isub (pc := 16) C d_T_takeNumber_16 ?_
    refine g_topi (fun y1 ey1 => ?_)
    replace hw := hw y1 ey1
    refine g_iconst (pc := 17) C (v := 3) d_T_takeNumber_17 (by decide) ?_
    refine g_icmp_le (pc := 18) (tgt := 23) C d_T_takeNumber_18 (by decide) (fun h11 => ?_) (fun h11 => ?_)
    · replace hw := hw.1 h11
      refine g_iconst (pc := 23) C (v := 0) d_T_takeNumber_23 (by decide) ?_
      refine g_istore_n (pc := 24) C d_T_takeNumber_24 rfl (Nat.le_of_ble_eq_true rfl) (lv' := [(0, .ref (a 0)), (1, .int x1), (2, .int 0)]) rfl ?_
      refine g_aload_n (pc := 25) C d_T_takeNumber_25 0 rfl rfl ?_
      refine fT_start (pc := 26) C lk_T_22 d_T_takeNumber_26 (v := T_start c) rfl ?_
      refine g_istore_n (pc := 29) C d_T_takeNumber_29 rfl (Nat.le_of_ble_eq_true rfl) (lv' := [(0, .ref (a 0)), (1, .int x1), (2, .int 0), (3, .int (T_start c))]) rfl ?_
      exact j_T_takeNumber_30 C q a post hq  2000 c x1 0 (T_start c) hw
    · replace hw := hw.2 h11
      refine g_iconst (pc := 21) C (v := (-1)) d_T_takeNumber_21 (by decide) ?_
      exact g_iret (pc := 22) C q d_T_takeNumber_22 (hq _ _ hw)
set_option maxRecDepth 20000 in
theorem c_T_takeNumber (l : Launch) (D : va_G) (t : Nat → ClassId) (ev : Nat → Nat) (a : Nat → Nat) (c : TSt) (x1 : Int32) (post : Int32 → TSt → Prop) (hw : wp_T_takeNumber c x1 post) : Con l D t ev y_T_takeNumber b_T_takeNumber 4 ((some .int)) 2 (woT t a c) [.ref (a 0), .int x1] (qI (woT t a)  post) :=
  ConR.of (by decide +kernel) (Nat.le_of_ble_eq_true rfl) (fun X el eD et ee C q _ => by subst el; subst eD; subst et; subst ee; exact g_T_takeNumber C q a c x1 post (fun v c1 h => ⟨⟨v, c1, rfl, rfl, h⟩, rfl⟩) hw)
def wp_T_takeEndOfLine (c : TSt) (post : Int32 → TSt → Prop) : Prop :=
  (((T_sort c) = 3) → (wp_T_byteAt c (T_start c) (fun v1 c_2 => ((v1 = 59) → (wp_T_step c_2 (fun c_3 => post 1 c_3))) ∧ ((¬ v1 = 59) → (post 0 c_2))))) ∧ ((¬ (T_sort c) = 3) → (post 0 c))
set_option maxRecDepth 20000 in
theorem g_T_takeEndOfLine {X : GX} (C : GC X b_T_takeEndOfLine R_T 1 (rmd 2)) {Qp : Option Value → va_W → Prop} (q : RC X ((some .boolean)) Qp 0 0) (a : Nat → Nat) (c : TSt) (post : Int32 → TSt → Prop) (hq : ∀ v c1, post v c1 → Qp (some (.int v)) (woT (xt X) a c1)) (hw : wp_T_takeEndOfLine c post) : G X 0 0 (woT (xt X) a c) [(0, .ref (a 0))] [] 0 := by
  unfold wp_T_takeEndOfLine at hw
  refine g_aload_n (pc := 0) C d_T_takeEndOfLine_0 0 rfl rfl ?_
  refine fT_sort (pc := 1) C lk_T_19 d_T_takeEndOfLine_1 (v := T_sort c) rfl ?_
  refine g_iconst (pc := 4) C (v := 3) d_T_takeEndOfLine_4 (by decide) ?_
  refine g_icmp_ne (pc := 5) (tgt := 21) C d_T_takeEndOfLine_5 (by decide) (fun h5 => ?_) (fun h5 => ?_)
  · replace hw := hw.2 h5
    refine g_iconst (pc := 21) C (v := 0) d_T_takeEndOfLine_21 (by decide) ?_
    exact g_zret (pc := 22) C q d_T_takeEndOfLine_22 (by decide) (hq _ _ hw)
  · replace hw := hw.1 h5
    refine g_aload_n (pc := 8) C d_T_takeEndOfLine_8 0 rfl rfl ?_
    refine g_aload_n (pc := 9) C d_T_takeEndOfLine_9 0 rfl rfl ?_
    refine fT_start (pc := 10) C lk_T_22 d_T_takeEndOfLine_10 (v := T_start c) rfl ?_
    refine k_Ia (pc := 13) (co_V C (c_T_byteAt (xl X) (xD X) (xt X) (xv X) a c (T_start c) _ hw) mw_T_byteAt lk_T_130 d_T_takeEndOfLine_13 (List.range _) (all_C _) (all_nd _) (rec_w C 0 4 rfl rfl) rfl rfl ⟨Nat.le_of_ble_eq_true rfl, Nat.le_of_ble_eq_true rfl⟩ ⟨Nat.le_of_ble_eq_true rfl, Nat.le_of_ble_eq_true rfl⟩ (rest := []) rfl rfl (Nat.le_of_ble_eq_true rfl)) (fun v1 c_2 hw => ?_)
    refine g_bipush (pc := 16) C (v := 59) d_T_takeEndOfLine_16 (by decide) ?_
    refine g_icmp_eq (pc := 18) (tgt := 23) C d_T_takeEndOfLine_18 (by decide) (fun h4 => ?_) (fun h4 => ?_)
    · replace hw := hw.1 h4
      refine g_aload_n (pc := 23) C d_T_takeEndOfLine_23 0 rfl rfl ?_
      refine k_Va (pc := 24) (co_V C (c_T_step (xl X) (xD X) (xt X) (xv X) a c_2 _ hw) mw_T_step lk_T_28 d_T_takeEndOfLine_24 (List.range _) (all_C _) (all_nd _) (rec_w C 0 4 rfl rfl) rfl rfl ⟨Nat.le_of_ble_eq_true rfl, Nat.le_of_ble_eq_true rfl⟩ ⟨Nat.le_of_ble_eq_true rfl, Nat.le_of_ble_eq_true rfl⟩ (rest := []) rfl rfl (Nat.le_of_ble_eq_true rfl)) (fun c_3 hw => ?_)
      refine g_iconst (pc := 27) C (v := 1) d_T_takeEndOfLine_27 (by decide) ?_
      exact g_zret (pc := 28) C q d_T_takeEndOfLine_28 (by decide) (hq _ _ hw)
    · replace hw := hw.2 h4
      refine g_iconst (pc := 21) C (v := 0) d_T_takeEndOfLine_21 (by decide) ?_
      exact g_zret (pc := 22) C q d_T_takeEndOfLine_22 (by decide) (hq _ _ hw)
set_option maxRecDepth 20000 in
theorem c_T_takeEndOfLine (l : Launch) (D : va_G) (t : Nat → ClassId) (ev : Nat → Nat) (a : Nat → Nat) (c : TSt) (post : Int32 → TSt → Prop) (hw : wp_T_takeEndOfLine c post) : Con l D t ev y_T_takeEndOfLine b_T_takeEndOfLine 1 ((some .boolean)) 2 (woT t a c) [.ref (a 0)] (qI (woT t a)  post) :=
  ConR.of (by decide +kernel) (Nat.le_of_ble_eq_true rfl) (fun X el eD et ee C q _ => by subst el; subst eD; subst et; subst ee; exact g_T_takeEndOfLine C q a c post (fun v c1 h => ⟨⟨v, c1, rfl, rfl, h⟩, rfl⟩) hw)
def w_T_readBarge_110  (post : Int32 → (TSt × CSt) → Prop)  (p : (TSt × CSt)) (x2 : Int32) (x3 : Int32) (x4 : Int32) (x5 : Int32) (s0 : Int32) : Prop :=
  wp_T_takeEndOfLine p.1 (fun v8 c_9 => ((v8 = 0) → (post 0 (c_9, p.2))) ∧ ((¬ v8 = 0) → (wp_C_add p.2 x2 x5 s0 x3 x4 (fun c_10 => post 1 (c_9, c_10)))))
set_option maxRecDepth 20000 in
theorem j_T_readBarge_110 {X : GX} (C : GC X b_T_readBarge R_T 7 (rmd 6)) {Qp : Option Value → va_W → Prop} (q : RC X ((some .boolean)) Qp 0 0) (a b : Nat → Nat)   (post : Int32 → (TSt × CSt) → Prop) (hq : ∀ v c1, post v c1 → Qp (some (.int v)) (woTC (xt X) a b c1)) : ∀ (p : (TSt × CSt)) (x2 : Int32) (x3 : Int32) (x4 : Int32) (x5 : Int32) (s0 : Int32), w_T_readBarge_110  post  p x2 x3 x4 x5 s0 → G X 0 0 (woTC (xt X) a b (p.1, p.2)) [(0, .ref (a 0)), (1, .ref (b 0)), (2, .int x2), (3, .int x3), (4, .int x4), (5, .int x5)] [.int s0] 110 := by
  intro p x2 x3 x4 x5 s0 hw
  unfold w_T_readBarge_110 at hw
  refine g_istore (pc := 110) C d_T_readBarge_110 (Nat.le_of_ble_eq_true rfl) (lv' := [(0, .ref (a 0)), (1, .ref (b 0)), (2, .int x2), (3, .int x3), (4, .int x4), (5, .int x5), (6, .int s0)]) rfl ?_
  refine g_aload_n (pc := 112) C d_T_readBarge_112 0 rfl rfl ?_
  refine k_I (pc := 113) (co_V C (c_T_takeEndOfLine (xl X) (xD X) (xt X) (xv X) a p.1 _ hw) mw_T_takeEndOfLine lk_T_78 d_T_readBarge_113 [0, 1] (cC_TC_1 (xt X) a b (p.1, p.2)) (by decide) (rec_w C 0 4 rfl rfl) rfl rfl ⟨Nat.le_of_ble_eq_true rfl, Nat.le_of_ble_eq_true rfl⟩ ⟨Nat.le_of_ble_eq_true rfl, Nat.le_of_ble_eq_true rfl⟩ (rest := []) rfl rfl (Nat.le_of_ble_eq_true rfl)) (fun c_9 => woTC (xt X) a b (c_9, p.2)) (cS_TC_1 (xt X) a b (p.1, p.2)) (fun v8 c_9 hw => ?_)
  refine g_if_ne (pc := 116) (tgt := 121) C d_T_readBarge_116 (by decide) (fun h11 => ?_) (fun h11 => ?_)
  · replace hw := hw.2 h11
    refine g_aload_n (pc := 121) C d_T_readBarge_121 1 rfl rfl ?_
    refine g_iload_n (pc := 122) C d_T_readBarge_122 2 rfl rfl ?_
    refine g_iload (pc := 123) C d_T_readBarge_123 5 rfl ?_
    refine g_iload (pc := 125) C d_T_readBarge_125 6 rfl ?_
    refine g_iload_n (pc := 127) C d_T_readBarge_127 3 rfl rfl ?_
    refine g_iload (pc := 128) C d_T_readBarge_128 4 rfl ?_
    refine k_V (pc := 130) (co_V C (c_C_add (xl X) (xD X) (xt X) (xv X) b p.2 x2 x5 s0 x3 x4 _ hw) mw_C_add lk_T_82 d_T_readBarge_130 [2, 3, 4, 5, 6, 7, 8, 9, 10] (cC_TC_2 (xt X) a b (c_9, p.2)) (by decide) (rec_w C 2 1 rfl rfl) rfl rfl ⟨Nat.le_of_ble_eq_true rfl, Nat.le_of_ble_eq_true rfl⟩ ⟨Nat.le_of_ble_eq_true rfl, Nat.le_of_ble_eq_true rfl⟩ (rest := []) rfl rfl (Nat.le_of_ble_eq_true rfl)) (fun c_10 => woTC (xt X) a b (c_9, c_10)) (cS_TC_2 (xt X) a b (c_9, p.2)) (fun c_10 hw => ?_)
    refine g_iconst (pc := 133) C (v := 1) d_T_readBarge_133 (by decide) ?_
    exact g_zret (pc := 134) C q d_T_readBarge_134 (by decide) (hq _ _ hw)
  · replace hw := hw.1 h11
    refine g_iconst (pc := 119) C (v := 0) d_T_readBarge_119 (by decide) ?_
    exact g_zret (pc := 120) C q d_T_readBarge_120 (by decide) (hq _ _ hw)
def w_T_readBarge_87  (post : Int32 → (TSt × CSt) → Prop)  (p : (TSt × CSt)) (x2 : Int32) (x3 : Int32) (x4 : Int32) (s0 : Int32) : Prop :=
  ((0 ≤ s0) → (wp_T_takeName p.1 9 (fun v6 c_7 => ((v6 = 0) → (w_T_readBarge_110  post  (c_7, p.2) x2 x3 x4 s0 0)) ∧ ((¬ v6 = 0) → (w_T_readBarge_110  post  (c_7, p.2) x2 x3 x4 s0 1))))) ∧ ((¬ 0 ≤ s0) → (post 0 (p.1, p.2)))
set_option maxRecDepth 20000 in
theorem j_T_readBarge_87 {X : GX} (C : GC X b_T_readBarge R_T 7 (rmd 6)) {Qp : Option Value → va_W → Prop} (q : RC X ((some .boolean)) Qp 0 0) (a b : Nat → Nat)   (post : Int32 → (TSt × CSt) → Prop) (hq : ∀ v c1, post v c1 → Qp (some (.int v)) (woTC (xt X) a b c1)) : ∀ (p : (TSt × CSt)) (x2 : Int32) (x3 : Int32) (x4 : Int32) (s0 : Int32), w_T_readBarge_87  post  p x2 x3 x4 s0 → G X 0 0 (woTC (xt X) a b (p.1, p.2)) [(0, .ref (a 0)), (1, .ref (b 0)), (2, .int x2), (3, .int x3), (4, .int x4)] [.int s0] 87 := by
  intro p x2 x3 x4 s0 hw
  unfold w_T_readBarge_87 at hw
  refine g_istore (pc := 87) C d_T_readBarge_87 (Nat.le_of_ble_eq_true rfl) (lv' := [(0, .ref (a 0)), (1, .ref (b 0)), (2, .int x2), (3, .int x3), (4, .int x4), (5, .int s0)]) rfl ?_
  refine g_iload (pc := 89) C d_T_readBarge_89 5 rfl ?_
  refine g_if_ge (pc := 91) (tgt := 96) C d_T_readBarge_91 (by decide) (fun h13 => ?_) (fun h13 => ?_)
  · replace hw := hw.1 h13
    refine g_aload_n (pc := 96) C d_T_readBarge_96 0 rfl rfl ?_
    refine g_ldcS (pc := 97) C d_T_readBarge_97 9 rfl rfl ?_
    refine k_I (pc := 99) (co_V C (c_T_takeName (xl X) (xD X) (xt X) (xv X) a p.1 9 _ hw) mw_T_takeName lk_T_50 d_T_readBarge_99 [0, 1] (cC_TC_1 (xt X) a b (p.1, p.2)) (by decide) (rec_w C 0 4 rfl rfl) rfl rfl ⟨Nat.le_of_ble_eq_true rfl, Nat.le_of_ble_eq_true rfl⟩ ⟨Nat.le_of_ble_eq_true rfl, Nat.le_of_ble_eq_true rfl⟩ (rest := []) rfl rfl (Nat.le_of_ble_eq_true rfl)) (fun c_7 => woTC (xt X) a b (c_7, p.2)) (cS_TC_1 (xt X) a b (p.1, p.2)) (fun v6 c_7 hw => ?_)
    refine g_if_eq (pc := 102) (tgt := 109) C d_T_readBarge_102 (by decide) (fun h12 => ?_) (fun h12 => ?_)
    · replace hw := hw.1 h12
      refine g_iconst (pc := 109) C (v := 0) d_T_readBarge_109 (by decide) ?_
      exact j_T_readBarge_110 C q a b post hq  (c_7, p.2) x2 x3 x4 s0 0 hw
    · replace hw := hw.2 h12
      refine g_iconst (pc := 105) C (v := 1) d_T_readBarge_105 (by decide) ?_
      refine g_goto (pc := 106) (tgt := 110) C d_T_readBarge_106 (by decide) ?_
      exact j_T_readBarge_110 C q a b post hq  (c_7, p.2) x2 x3 x4 s0 1 hw
  · replace hw := hw.2 h13
    refine g_iconst (pc := 94) C (v := 0) d_T_readBarge_94 (by decide) ?_
    exact g_zret (pc := 95) C q d_T_readBarge_95 (by decide) (hq _ _ hw)
def w_T_readBarge_58  (post : Int32 → (TSt × CSt) → Prop)  (p : (TSt × CSt)) (x2 : Int32) (x3 : Int32) (s0 : Int32) : Prop :=
  ((0 ≤ s0) → (wp_T_takeName p.1 8 (fun v4 c_5 => ((v4 = 0) → (w_T_readBarge_87  post  (c_5, p.2) x2 x3 s0 50)) ∧ ((¬ v4 = 0) → (wp_T_takeNumber c_5 99 (fun v14 c_15 => w_T_readBarge_87  post  (c_15, p.2) x2 x3 s0 v14)))))) ∧ ((¬ 0 ≤ s0) → (post 0 (p.1, p.2)))
set_option maxRecDepth 20000 in
theorem j_T_readBarge_58 {X : GX} (C : GC X b_T_readBarge R_T 7 (rmd 6)) {Qp : Option Value → va_W → Prop} (q : RC X ((some .boolean)) Qp 0 0) (a b : Nat → Nat)   (post : Int32 → (TSt × CSt) → Prop) (hq : ∀ v c1, post v c1 → Qp (some (.int v)) (woTC (xt X) a b c1)) : ∀ (p : (TSt × CSt)) (x2 : Int32) (x3 : Int32) (s0 : Int32), w_T_readBarge_58  post  p x2 x3 s0 → G X 0 0 (woTC (xt X) a b (p.1, p.2)) [(0, .ref (a 0)), (1, .ref (b 0)), (2, .int x2), (3, .int x3)] [.int s0] 58 := by
  intro p x2 x3 s0 hw
  unfold w_T_readBarge_58 at hw
  refine g_istore (pc := 58) C d_T_readBarge_58 (Nat.le_of_ble_eq_true rfl) (lv' := [(0, .ref (a 0)), (1, .ref (b 0)), (2, .int x2), (3, .int x3), (4, .int s0)]) rfl ?_
  refine g_iload (pc := 60) C d_T_readBarge_60 4 rfl ?_
  refine g_if_ge (pc := 62) (tgt := 67) C d_T_readBarge_62 (by decide) (fun h17 => ?_) (fun h17 => ?_)
  · replace hw := hw.1 h17
    refine g_aload_n (pc := 67) C d_T_readBarge_67 0 rfl rfl ?_
    refine g_ldcS (pc := 68) C d_T_readBarge_68 8 rfl rfl ?_
    refine k_I (pc := 70) (co_V C (c_T_takeName (xl X) (xD X) (xt X) (xv X) a p.1 8 _ hw) mw_T_takeName lk_T_50 d_T_readBarge_70 [0, 1] (cC_TC_1 (xt X) a b (p.1, p.2)) (by decide) (rec_w C 0 4 rfl rfl) rfl rfl ⟨Nat.le_of_ble_eq_true rfl, Nat.le_of_ble_eq_true rfl⟩ ⟨Nat.le_of_ble_eq_true rfl, Nat.le_of_ble_eq_true rfl⟩ (rest := []) rfl rfl (Nat.le_of_ble_eq_true rfl)) (fun c_5 => woTC (xt X) a b (c_5, p.2)) (cS_TC_1 (xt X) a b (p.1, p.2)) (fun v4 c_5 hw => ?_)
    refine g_if_eq (pc := 73) (tgt := 85) C d_T_readBarge_73 (by decide) (fun h16 => ?_) (fun h16 => ?_)
    · replace hw := hw.1 h16
      refine g_bipush (pc := 85) C (v := 50) d_T_readBarge_85 (by decide) ?_
      exact j_T_readBarge_87 C q a b post hq  (c_5, p.2) x2 x3 s0 50 hw
    · replace hw := hw.2 h16
      refine g_aload_n (pc := 76) C d_T_readBarge_76 0 rfl rfl ?_
      refine g_bipush (pc := 77) C (v := 99) d_T_readBarge_77 (by decide) ?_
      refine k_I (pc := 79) (co_V C (c_T_takeNumber (xl X) (xD X) (xt X) (xv X) a c_5 99 _ hw) mw_T_takeNumber lk_T_68 d_T_readBarge_79 [0, 1] (cC_TC_1 (xt X) a b (c_5, p.2)) (by decide) (rec_w C 0 4 rfl rfl) rfl rfl ⟨Nat.le_of_ble_eq_true rfl, Nat.le_of_ble_eq_true rfl⟩ ⟨Nat.le_of_ble_eq_true rfl, Nat.le_of_ble_eq_true rfl⟩ (rest := []) rfl rfl (Nat.le_of_ble_eq_true rfl)) (fun c_15 => woTC (xt X) a b (c_15, p.2)) (cS_TC_1 (xt X) a b (c_5, p.2)) (fun v14 c_15 hw => ?_)
      refine g_goto (pc := 82) (tgt := 87) C d_T_readBarge_82 (by decide) ?_
      exact j_T_readBarge_87 C q a b post hq  (c_15, p.2) x2 x3 s0 v14 hw
  · replace hw := hw.2 h17
    refine g_iconst (pc := 65) C (v := 0) d_T_readBarge_65 (by decide) ?_
    exact g_zret (pc := 66) C q d_T_readBarge_66 (by decide) (hq _ _ hw)
def w_T_readBarge_34  (post : Int32 → (TSt × CSt) → Prop)  (p : (TSt × CSt)) (x2 : Int32) (s0 : Int32) : Prop :=
  ((s0 < 0) → (w_T_readBarge_58  post  (p.1, p.2) x2 s0 (-1))) ∧ ((¬ s0 < 0) → (wp_T_takeName p.1 7 (fun v18 c_19 => ((v18 = 0) → (w_T_readBarge_58  post  (c_19, p.2) x2 s0 (-1))) ∧ ((¬ v18 = 0) → (wp_T_takeNumber c_19 9 (fun v20 c_21 => w_T_readBarge_58  post  (c_21, p.2) x2 s0 v20))))))
set_option maxRecDepth 20000 in
theorem j_T_readBarge_34 {X : GX} (C : GC X b_T_readBarge R_T 7 (rmd 6)) {Qp : Option Value → va_W → Prop} (q : RC X ((some .boolean)) Qp 0 0) (a b : Nat → Nat)   (post : Int32 → (TSt × CSt) → Prop) (hq : ∀ v c1, post v c1 → Qp (some (.int v)) (woTC (xt X) a b c1)) : ∀ (p : (TSt × CSt)) (x2 : Int32) (s0 : Int32), w_T_readBarge_34  post  p x2 s0 → G X 0 0 (woTC (xt X) a b (p.1, p.2)) [(0, .ref (a 0)), (1, .ref (b 0)), (2, .int x2)] [.int s0] 34 := by
  intro p x2 s0 hw
  unfold w_T_readBarge_34 at hw
  refine g_istore_n (pc := 34) C d_T_readBarge_34 rfl (Nat.le_of_ble_eq_true rfl) (lv' := [(0, .ref (a 0)), (1, .ref (b 0)), (2, .int x2), (3, .int s0)]) rfl ?_
  refine g_iload_n (pc := 35) C d_T_readBarge_35 3 rfl rfl ?_
  refine g_if_lt (pc := 36) (tgt := 57) C d_T_readBarge_36 (by decide) (fun h23 => ?_) (fun h23 => ?_)
  · replace hw := hw.1 h23
    refine g_iconst (pc := 57) C (v := (-1)) d_T_readBarge_57 (by decide) ?_
    exact j_T_readBarge_58 C q a b post hq  (p.1, p.2) x2 s0 (-1) hw
  · replace hw := hw.2 h23
    refine g_aload_n (pc := 39) C d_T_readBarge_39 0 rfl rfl ?_
    refine g_ldcS (pc := 40) C d_T_readBarge_40 7 rfl rfl ?_
    refine k_I (pc := 42) (co_V C (c_T_takeName (xl X) (xD X) (xt X) (xv X) a p.1 7 _ hw) mw_T_takeName lk_T_50 d_T_readBarge_42 [0, 1] (cC_TC_1 (xt X) a b (p.1, p.2)) (by decide) (rec_w C 0 4 rfl rfl) rfl rfl ⟨Nat.le_of_ble_eq_true rfl, Nat.le_of_ble_eq_true rfl⟩ ⟨Nat.le_of_ble_eq_true rfl, Nat.le_of_ble_eq_true rfl⟩ (rest := []) rfl rfl (Nat.le_of_ble_eq_true rfl)) (fun c_19 => woTC (xt X) a b (c_19, p.2)) (cS_TC_1 (xt X) a b (p.1, p.2)) (fun v18 c_19 hw => ?_)
    refine g_if_eq (pc := 45) (tgt := 57) C d_T_readBarge_45 (by decide) (fun h22 => ?_) (fun h22 => ?_)
    · replace hw := hw.1 h22
      refine g_iconst (pc := 57) C (v := (-1)) d_T_readBarge_57 (by decide) ?_
      exact j_T_readBarge_58 C q a b post hq  (c_19, p.2) x2 s0 (-1) hw
    · replace hw := hw.2 h22
      refine g_aload_n (pc := 48) C d_T_readBarge_48 0 rfl rfl ?_
      refine g_bipush (pc := 49) C (v := 9) d_T_readBarge_49 (by decide) ?_
      refine k_I (pc := 51) (co_V C (c_T_takeNumber (xl X) (xD X) (xt X) (xv X) a c_19 9 _ hw) mw_T_takeNumber lk_T_68 d_T_readBarge_51 [0, 1] (cC_TC_1 (xt X) a b (c_19, p.2)) (by decide) (rec_w C 0 4 rfl rfl) rfl rfl ⟨Nat.le_of_ble_eq_true rfl, Nat.le_of_ble_eq_true rfl⟩ ⟨Nat.le_of_ble_eq_true rfl, Nat.le_of_ble_eq_true rfl⟩ (rest := []) rfl rfl (Nat.le_of_ble_eq_true rfl)) (fun c_21 => woTC (xt X) a b (c_21, p.2)) (cS_TC_1 (xt X) a b (c_19, p.2)) (fun v20 c_21 hw => ?_)
      refine g_goto (pc := 54) (tgt := 58) C d_T_readBarge_54 (by decide) ?_
      exact j_T_readBarge_58 C q a b post hq  (c_21, p.2) x2 s0 v20 hw
def wp_T_readBarge (p : (TSt × CSt)) (x2 : Int32) (post : Int32 → (TSt × CSt) → Prop) : Prop :=
  (((C_count p.2) < 8) → (wp_T_step p.1 (fun c_1 => wp_T_takeName c_1 6 (fun v2 c_3 => ((v2 = 0) → (w_T_readBarge_34  post  (c_3, p.2) x2 (-1))) ∧ ((¬ v2 = 0) → (wp_T_takeNumber c_3 9 (fun v24 c_25 => w_T_readBarge_34  post  (c_25, p.2) x2 v24))))))) ∧ ((¬ (C_count p.2) < 8) → (post 0 (p.1, p.2)))
set_option maxRecDepth 20000 in
theorem g_T_readBarge {X : GX} (C : GC X b_T_readBarge R_T 7 (rmd 6)) {Qp : Option Value → va_W → Prop} (q : RC X ((some .boolean)) Qp 0 0) (a b : Nat → Nat) (p : (TSt × CSt)) (x2 : Int32) (post : Int32 → (TSt × CSt) → Prop) (hq : ∀ v c1, post v c1 → Qp (some (.int v)) (woTC (xt X) a b c1)) (hw : wp_T_readBarge p x2 post) : G X 0 0 (woTC (xt X) a b (p.1, p.2)) [(0, .ref (a 0)), (1, .ref (b 0)), (2, .int x2)] [] 0 := by
  unfold wp_T_readBarge at hw
  refine g_aload_n (pc := 0) C d_T_readBarge_0 1 rfl rfl ?_
  refine fTC2_count (pc := 1) C lk_T_61 d_T_readBarge_1 (v := C_count p.2) rfl ?_
  refine g_bipush (pc := 4) C (v := 8) d_T_readBarge_4 (by decide) ?_
  refine g_icmp_lt (pc := 6) (tgt := 11) C d_T_readBarge_6 (by decide) (fun h27 => ?_) (fun h27 => ?_)
  · replace hw := hw.1 h27
    refine g_aload_n (pc := 11) C d_T_readBarge_11 0 rfl rfl ?_
    refine k_V (pc := 12) (co_V C (c_T_step (xl X) (xD X) (xt X) (xv X) a p.1 _ hw) mw_T_step lk_T_28 d_T_readBarge_12 [0, 1] (cC_TC_1 (xt X) a b (p.1, p.2)) (by decide) (rec_w C 0 4 rfl rfl) rfl rfl ⟨Nat.le_of_ble_eq_true rfl, Nat.le_of_ble_eq_true rfl⟩ ⟨Nat.le_of_ble_eq_true rfl, Nat.le_of_ble_eq_true rfl⟩ (rest := []) rfl rfl (Nat.le_of_ble_eq_true rfl)) (fun c_1 => woTC (xt X) a b (c_1, p.2)) (cS_TC_1 (xt X) a b (p.1, p.2)) (fun c_1 hw => ?_)
    refine g_aload_n (pc := 15) C d_T_readBarge_15 0 rfl rfl ?_
    refine g_ldcS (pc := 16) C d_T_readBarge_16 6 rfl rfl ?_
    refine k_I (pc := 18) (co_V C (c_T_takeName (xl X) (xD X) (xt X) (xv X) a c_1 6 _ hw) mw_T_takeName lk_T_50 d_T_readBarge_18 [0, 1] (cC_TC_1 (xt X) a b (c_1, p.2)) (by decide) (rec_w C 0 4 rfl rfl) rfl rfl ⟨Nat.le_of_ble_eq_true rfl, Nat.le_of_ble_eq_true rfl⟩ ⟨Nat.le_of_ble_eq_true rfl, Nat.le_of_ble_eq_true rfl⟩ (rest := []) rfl rfl (Nat.le_of_ble_eq_true rfl)) (fun c_3 => woTC (xt X) a b (c_3, p.2)) (cS_TC_1 (xt X) a b (c_1, p.2)) (fun v2 c_3 hw => ?_)
    refine g_if_eq (pc := 21) (tgt := 33) C d_T_readBarge_21 (by decide) (fun h26 => ?_) (fun h26 => ?_)
    · replace hw := hw.1 h26
      refine g_iconst (pc := 33) C (v := (-1)) d_T_readBarge_33 (by decide) ?_
      exact j_T_readBarge_34 C q a b post hq  (c_3, p.2) x2 (-1) hw
    · replace hw := hw.2 h26
      refine g_aload_n (pc := 24) C d_T_readBarge_24 0 rfl rfl ?_
      refine g_bipush (pc := 25) C (v := 9) d_T_readBarge_25 (by decide) ?_
      refine k_I (pc := 27) (co_V C (c_T_takeNumber (xl X) (xD X) (xt X) (xv X) a c_3 9 _ hw) mw_T_takeNumber lk_T_68 d_T_readBarge_27 [0, 1] (cC_TC_1 (xt X) a b (c_3, p.2)) (by decide) (rec_w C 0 4 rfl rfl) rfl rfl ⟨Nat.le_of_ble_eq_true rfl, Nat.le_of_ble_eq_true rfl⟩ ⟨Nat.le_of_ble_eq_true rfl, Nat.le_of_ble_eq_true rfl⟩ (rest := []) rfl rfl (Nat.le_of_ble_eq_true rfl)) (fun c_25 => woTC (xt X) a b (c_25, p.2)) (cS_TC_1 (xt X) a b (c_3, p.2)) (fun v24 c_25 hw => ?_)
      refine g_goto (pc := 30) (tgt := 34) C d_T_readBarge_30 (by decide) ?_
      exact j_T_readBarge_34 C q a b post hq  (c_25, p.2) x2 v24 hw
  · replace hw := hw.2 h27
    refine g_iconst (pc := 9) C (v := 0) d_T_readBarge_9 (by decide) ?_
    exact g_zret (pc := 10) C q d_T_readBarge_10 (by decide) (hq _ _ hw)
set_option maxRecDepth 20000 in
theorem c_T_readBarge (l : Launch) (D : va_G) (t : Nat → ClassId) (ev : Nat → Nat) (a b : Nat → Nat) (p : (TSt × CSt)) (x2 : Int32) (post : Int32 → (TSt × CSt) → Prop) (hw : wp_T_readBarge p x2 post) : Con l D t ev y_T_readBarge b_T_readBarge 7 ((some .boolean)) 6 (woTC t a b (p.1, p.2)) [.ref (a 0), .ref (b 0), .int x2] (qI (woTC t a b)  post) :=
  ConR.of (by decide +kernel) (Nat.le_of_ble_eq_true rfl) (fun X el eD et ee C q _ => by subst el; subst eD; subst et; subst ee; exact g_T_readBarge C q a b p x2 post (fun v c1 h => ⟨⟨v, c1, rfl, rfl, h⟩, rfl⟩) hw)
def wp_T_readLaw (p : (TSt × CSt)) (x2 : Int32) (post : Int32 → (TSt × CSt) → Prop) : Prop :=
  wp_X_isLaw x2 (fun v1 => ((v1 = 0) → (post 0 (p.1, p.2))) ∧ ((¬ v1 = 0) → (vp_in x2 4 ∧ (wp_T_takeNumber p.1 (tbMost.getD x2.toNatClampNeg 0) (fun v3 c_4 => ((v3 < 0) → (post 0 (c_4, p.2))) ∧ ((¬ v3 < 0) → (wp_T_takeEndOfLine c_4 (fun v5 c_6 => ((v5 = 0) → (post 0 (c_6, p.2))) ∧ ((¬ v5 = 0) → (vp_in x2 4 ∧ (post 1 (c_6, C_laws_ p.2 (upd (C_laws p.2) x2.toNatClampNeg v3)))))))))))))
set_option maxRecDepth 20000 in
theorem g_T_readLaw {X : GX} (C : GC X b_T_readLaw R_T 4 (rmd 3)) {Qp : Option Value → va_W → Prop} (q : RC X ((some .boolean)) Qp 0 0) (a b : Nat → Nat) (p : (TSt × CSt)) (x2 : Int32) (post : Int32 → (TSt × CSt) → Prop) (hq : ∀ v c1, post v c1 → Qp (some (.int v)) (woTC (xt X) a b c1)) (hw : wp_T_readLaw p x2 post) : G X 0 0 (woTC (xt X) a b (p.1, p.2)) [(0, .ref (a 0)), (1, .ref (b 0)), (2, .int x2)] [] 0 := by
  unfold wp_T_readLaw at hw
  refine g_iload_n (pc := 0) C d_T_readLaw_0 2 rfl rfl ?_
  refine k_I0 (pc := 1) (co_SN C (c_X_isLaw (xl X) (xD X) (xt X) (xv X) x2 _ hw) mw_X_isLaw lk_T_86 d_T_readLaw_1 [] rfl (by decide)  rfl rfl ⟨Nat.le_of_ble_eq_true rfl, Nat.le_of_ble_eq_true rfl⟩ ⟨Nat.le_of_ble_eq_true rfl, Nat.le_of_ble_eq_true rfl⟩ (rest := []) rfl rfl (Nat.le_of_ble_eq_true rfl)) (fun v1 hw => ?_)
  refine g_if_ne (pc := 4) (tgt := 9) C d_T_readLaw_4 (by decide) (fun h10 => ?_) (fun h10 => ?_)
  · replace hw := hw.2 h10
    refine g_aload_n (pc := 9) C d_T_readLaw_9 0 rfl rfl ?_
    refine g_getsN (pc := 10) C C.2.2.2.2.2.2.2.1.2.1 lk_T_90 d_T_readLaw_10 ?_
    refine g_iload_n (pc := 13) C d_T_readLaw_13 2 rfl rfl ?_
    obtain ⟨h2, hw⟩ := hw
    refine g_tload (pc := 14) C C.2.2.2.2.2.2.2.1.2.1 d_T_readLaw_14 h2 ?_
    refine k_I (pc := 15) (co_V C (c_T_takeNumber (xl X) (xD X) (xt X) (xv X) a p.1 (tbMost.getD x2.toNatClampNeg 0) _ hw) mw_T_takeNumber lk_T_68 d_T_readLaw_15 [0, 1] (cC_TC_1 (xt X) a b (p.1, p.2)) (by decide) (rec_w C 0 4 rfl rfl) rfl rfl ⟨Nat.le_of_ble_eq_true rfl, Nat.le_of_ble_eq_true rfl⟩ ⟨Nat.le_of_ble_eq_true rfl, Nat.le_of_ble_eq_true rfl⟩ (rest := []) rfl rfl (Nat.le_of_ble_eq_true rfl)) (fun c_4 => woTC (xt X) a b (c_4, p.2)) (cS_TC_1 (xt X) a b (p.1, p.2)) (fun v3 c_4 hw => ?_)
    refine g_istore_n (pc := 18) C d_T_readLaw_18 rfl (Nat.le_of_ble_eq_true rfl) (lv' := [(0, .ref (a 0)), (1, .ref (b 0)), (2, .int x2), (3, .int v3)]) rfl ?_
    refine g_iload_n (pc := 19) C d_T_readLaw_19 3 rfl rfl ?_
    refine g_if_lt (pc := 20) (tgt := 30) C d_T_readLaw_20 (by decide) (fun h9 => ?_) (fun h9 => ?_)
    · replace hw := hw.1 h9
      refine g_iconst (pc := 30) C (v := 0) d_T_readLaw_30 (by decide) ?_
      exact g_zret (pc := 31) C q d_T_readLaw_31 (by decide) (hq _ _ hw)
    · replace hw := hw.2 h9
      refine g_aload_n (pc := 23) C d_T_readLaw_23 0 rfl rfl ?_
      refine k_I (pc := 24) (co_V C (c_T_takeEndOfLine (xl X) (xD X) (xt X) (xv X) a c_4 _ hw) mw_T_takeEndOfLine lk_T_78 d_T_readLaw_24 [0, 1] (cC_TC_1 (xt X) a b (c_4, p.2)) (by decide) (rec_w C 0 4 rfl rfl) rfl rfl ⟨Nat.le_of_ble_eq_true rfl, Nat.le_of_ble_eq_true rfl⟩ ⟨Nat.le_of_ble_eq_true rfl, Nat.le_of_ble_eq_true rfl⟩ (rest := []) rfl rfl (Nat.le_of_ble_eq_true rfl)) (fun c_6 => woTC (xt X) a b (c_6, p.2)) (cS_TC_1 (xt X) a b (c_4, p.2)) (fun v5 c_6 hw => ?_)
      refine g_if_ne (pc := 27) (tgt := 32) C d_T_readLaw_27 (by decide) (fun h8 => ?_) (fun h8 => ?_)
      · replace hw := hw.2 h8
        refine g_aload_n (pc := 32) C d_T_readLaw_32 1 rfl rfl ?_
        refine fTC2_laws (pc := 33) C lk_T_94 d_T_readLaw_33 ?_
        refine g_iload_n (pc := 36) C d_T_readLaw_36 2 rfl rfl ?_
        refine g_iload_n (pc := 37) C d_T_readLaw_37 3 rfl rfl ?_
        obtain ⟨h7, hw⟩ := hw
        refine sTC2_laws (pc := 38) C (c := p.2) rfl d_T_readLaw_38 (f := C_laws p.2) rfl (N0 := x2.toNatClampNeg) rfl h7 ?_
        refine g_iconst (pc := 39) C (v := 1) d_T_readLaw_39 (by decide) ?_
        exact g_zret (pc := 40) C q d_T_readLaw_40 (by decide) (hq _ _ hw)
      · replace hw := hw.1 h8
        refine g_iconst (pc := 30) C (v := 0) d_T_readLaw_30 (by decide) ?_
        exact g_zret (pc := 31) C q d_T_readLaw_31 (by decide) (hq _ _ hw)
  · replace hw := hw.1 h10
    refine g_iconst (pc := 7) C (v := 0) d_T_readLaw_7 (by decide) ?_
    exact g_zret (pc := 8) C q d_T_readLaw_8 (by decide) (hq _ _ hw)
set_option maxRecDepth 20000 in
theorem c_T_readLaw (l : Launch) (D : va_G) (t : Nat → ClassId) (ev : Nat → Nat) (a b : Nat → Nat) (p : (TSt × CSt)) (x2 : Int32) (post : Int32 → (TSt × CSt) → Prop) (hw : wp_T_readLaw p x2 post) : Con l D t ev y_T_readLaw b_T_readLaw 4 ((some .boolean)) 3 (woTC t a b (p.1, p.2)) [.ref (a 0), .ref (b 0), .int x2] (qI (woTC t a b)  post) :=
  ConR.of (by decide +kernel) (Nat.le_of_ble_eq_true rfl) (fun X el eD et ee C q _ => by subst el; subst eD; subst et; subst ee; exact g_T_readLaw C q a b p x2 post (fun v c1 h => ⟨⟨v, c1, rfl, rfl, h⟩, rfl⟩) hw)
def w_T_readNoise_30  (post : Int32 → (TSt × CSt) → Prop)  (p : (TSt × CSt)) (x2 : Int32) (s0 : Int32) : Prop :=
  ((s0 < 0) → (post 0 (p.1, p.2))) ∧ ((¬ s0 < 0) → (wp_X_isLock x2 (fun v3 => ((v3 = 0) → (post 0 (p.1, p.2))) ∧ ((¬ v3 = 0) → (wp_T_takeEndOfLine p.1 (fun v4 c_5 => ((v4 = 0) → (post 0 (c_5, p.2))) ∧ ((¬ v4 = 0) → (vp_in x2 10 ∧ (post 1 (c_5, C_noise_ p.2 (upd (C_noise p.2) x2.toNatClampNeg s0)))))))))))
set_option maxRecDepth 20000 in
theorem j_T_readNoise_30 {X : GX} (C : GC X b_T_readNoise R_T 4 (rmd 6)) {Qp : Option Value → va_W → Prop} (q : RC X ((some .boolean)) Qp 0 0) (a b : Nat → Nat)   (post : Int32 → (TSt × CSt) → Prop) (hq : ∀ v c1, post v c1 → Qp (some (.int v)) (woTC (xt X) a b c1)) : ∀ (p : (TSt × CSt)) (x2 : Int32) (s0 : Int32), w_T_readNoise_30  post  p x2 s0 → G X 0 0 (woTC (xt X) a b (p.1, p.2)) [(0, .ref (a 0)), (1, .ref (b 0)), (2, .int x2)] [.int s0] 30 := by
  intro p x2 s0 hw
  unfold w_T_readNoise_30 at hw
  refine g_istore_n (pc := 30) C d_T_readNoise_30 rfl (Nat.le_of_ble_eq_true rfl) (lv' := [(0, .ref (a 0)), (1, .ref (b 0)), (2, .int x2), (3, .int s0)]) rfl ?_
  refine g_iload_n (pc := 31) C d_T_readNoise_31 3 rfl rfl ?_
  refine g_if_lt (pc := 32) (tgt := 49) C d_T_readNoise_32 (by decide) (fun h9 => ?_) (fun h9 => ?_)
  · replace hw := hw.1 h9
    refine g_iconst (pc := 49) C (v := 0) d_T_readNoise_49 (by decide) ?_
    exact g_zret (pc := 50) C q d_T_readNoise_50 (by decide) (hq _ _ hw)
  · replace hw := hw.2 h9
    refine g_iload_n (pc := 35) C d_T_readNoise_35 2 rfl rfl ?_
    refine k_I0 (pc := 36) (co_SN C (c_X_isLock (xl X) (xD X) (xt X) (xv X) x2 _ hw) mw_X_isLock lk_T_99 d_T_readNoise_36 [] rfl (by decide)  rfl rfl ⟨Nat.le_of_ble_eq_true rfl, Nat.le_of_ble_eq_true rfl⟩ ⟨Nat.le_of_ble_eq_true rfl, Nat.le_of_ble_eq_true rfl⟩ (rest := []) rfl rfl (Nat.le_of_ble_eq_true rfl)) (fun v3 hw => ?_)
    refine g_if_eq (pc := 39) (tgt := 49) C d_T_readNoise_39 (by decide) (fun h8 => ?_) (fun h8 => ?_)
    · replace hw := hw.1 h8
      refine g_iconst (pc := 49) C (v := 0) d_T_readNoise_49 (by decide) ?_
      exact g_zret (pc := 50) C q d_T_readNoise_50 (by decide) (hq _ _ hw)
    · replace hw := hw.2 h8
      refine g_aload_n (pc := 42) C d_T_readNoise_42 0 rfl rfl ?_
      refine k_I (pc := 43) (co_V C (c_T_takeEndOfLine (xl X) (xD X) (xt X) (xv X) a p.1 _ hw) mw_T_takeEndOfLine lk_T_78 d_T_readNoise_43 [0, 1] (cC_TC_1 (xt X) a b (p.1, p.2)) (by decide) (rec_w C 0 4 rfl rfl) rfl rfl ⟨Nat.le_of_ble_eq_true rfl, Nat.le_of_ble_eq_true rfl⟩ ⟨Nat.le_of_ble_eq_true rfl, Nat.le_of_ble_eq_true rfl⟩ (rest := []) rfl rfl (Nat.le_of_ble_eq_true rfl)) (fun c_5 => woTC (xt X) a b (c_5, p.2)) (cS_TC_1 (xt X) a b (p.1, p.2)) (fun v4 c_5 hw => ?_)
      refine g_if_ne (pc := 46) (tgt := 51) C d_T_readNoise_46 (by decide) (fun h7 => ?_) (fun h7 => ?_)
      · replace hw := hw.2 h7
        refine g_aload_n (pc := 51) C d_T_readNoise_51 1 rfl rfl ?_
        refine fTC2_noise (pc := 52) C lk_T_102 d_T_readNoise_52 ?_
        refine g_iload_n (pc := 55) C d_T_readNoise_55 2 rfl rfl ?_
        refine g_iload_n (pc := 56) C d_T_readNoise_56 3 rfl rfl ?_
        obtain ⟨h6, hw⟩ := hw
        refine sTC2_noise (pc := 57) C (c := p.2) rfl d_T_readNoise_57 (f := C_noise p.2) rfl (N0 := x2.toNatClampNeg) rfl h6 ?_
        refine g_iconst (pc := 58) C (v := 1) d_T_readNoise_58 (by decide) ?_
        exact g_zret (pc := 59) C q d_T_readNoise_59 (by decide) (hq _ _ hw)
      · replace hw := hw.1 h7
        refine g_iconst (pc := 49) C (v := 0) d_T_readNoise_49 (by decide) ?_
        exact g_zret (pc := 50) C q d_T_readNoise_50 (by decide) (hq _ _ hw)
def wp_T_readNoise (p : (TSt × CSt)) (post : Int32 → (TSt × CSt) → Prop) : Prop :=
  wp_T_takeNumber p.1 9 (fun v1 c_2 => ((v1 < 0) → (w_T_readNoise_30  post  (c_2, p.2) v1 (-1))) ∧ ((¬ v1 < 0) → (wp_T_takeName c_2 10 (fun v10 c_11 => ((v10 = 0) → (w_T_readNoise_30  post  (c_11, p.2) v1 (-1))) ∧ ((¬ v10 = 0) → (wp_T_takeNumber c_11 9 (fun v12 c_13 => w_T_readNoise_30  post  (c_13, p.2) v1 v12)))))))
set_option maxRecDepth 20000 in
theorem g_T_readNoise {X : GX} (C : GC X b_T_readNoise R_T 4 (rmd 6)) {Qp : Option Value → va_W → Prop} (q : RC X ((some .boolean)) Qp 0 0) (a b : Nat → Nat) (p : (TSt × CSt)) (post : Int32 → (TSt × CSt) → Prop) (hq : ∀ v c1, post v c1 → Qp (some (.int v)) (woTC (xt X) a b c1)) (hw : wp_T_readNoise p post) : G X 0 0 (woTC (xt X) a b (p.1, p.2)) [(0, .ref (a 0)), (1, .ref (b 0))] [] 0 := by
  unfold wp_T_readNoise at hw
  refine g_aload_n (pc := 0) C d_T_readNoise_0 0 rfl rfl ?_
  refine g_bipush (pc := 1) C (v := 9) d_T_readNoise_1 (by decide) ?_
  refine k_I (pc := 3) (co_V C (c_T_takeNumber (xl X) (xD X) (xt X) (xv X) a p.1 9 _ hw) mw_T_takeNumber lk_T_68 d_T_readNoise_3 [0, 1] (cC_TC_1 (xt X) a b (p.1, p.2)) (by decide) (rec_w C 0 4 rfl rfl) rfl rfl ⟨Nat.le_of_ble_eq_true rfl, Nat.le_of_ble_eq_true rfl⟩ ⟨Nat.le_of_ble_eq_true rfl, Nat.le_of_ble_eq_true rfl⟩ (rest := []) rfl rfl (Nat.le_of_ble_eq_true rfl)) (fun c_2 => woTC (xt X) a b (c_2, p.2)) (cS_TC_1 (xt X) a b (p.1, p.2)) (fun v1 c_2 hw => ?_)
  refine g_istore_n (pc := 6) C d_T_readNoise_6 rfl (Nat.le_of_ble_eq_true rfl) (lv' := [(0, .ref (a 0)), (1, .ref (b 0)), (2, .int v1)]) rfl ?_
  refine g_iload_n (pc := 7) C d_T_readNoise_7 2 rfl rfl ?_
  refine g_if_lt (pc := 8) (tgt := 29) C d_T_readNoise_8 (by decide) (fun h15 => ?_) (fun h15 => ?_)
  · replace hw := hw.1 h15
    refine g_iconst (pc := 29) C (v := (-1)) d_T_readNoise_29 (by decide) ?_
    exact j_T_readNoise_30 C q a b post hq  (c_2, p.2) v1 (-1) hw
  · replace hw := hw.2 h15
    refine g_aload_n (pc := 11) C d_T_readNoise_11 0 rfl rfl ?_
    refine g_ldcS (pc := 12) C d_T_readNoise_12 10 rfl rfl ?_
    refine k_I (pc := 14) (co_V C (c_T_takeName (xl X) (xD X) (xt X) (xv X) a c_2 10 _ hw) mw_T_takeName lk_T_50 d_T_readNoise_14 [0, 1] (cC_TC_1 (xt X) a b (c_2, p.2)) (by decide) (rec_w C 0 4 rfl rfl) rfl rfl ⟨Nat.le_of_ble_eq_true rfl, Nat.le_of_ble_eq_true rfl⟩ ⟨Nat.le_of_ble_eq_true rfl, Nat.le_of_ble_eq_true rfl⟩ (rest := []) rfl rfl (Nat.le_of_ble_eq_true rfl)) (fun c_11 => woTC (xt X) a b (c_11, p.2)) (cS_TC_1 (xt X) a b (c_2, p.2)) (fun v10 c_11 hw => ?_)
    refine g_if_eq (pc := 17) (tgt := 29) C d_T_readNoise_17 (by decide) (fun h14 => ?_) (fun h14 => ?_)
    · replace hw := hw.1 h14
      refine g_iconst (pc := 29) C (v := (-1)) d_T_readNoise_29 (by decide) ?_
      exact j_T_readNoise_30 C q a b post hq  (c_11, p.2) v1 (-1) hw
    · replace hw := hw.2 h14
      refine g_aload_n (pc := 20) C d_T_readNoise_20 0 rfl rfl ?_
      refine g_bipush (pc := 21) C (v := 9) d_T_readNoise_21 (by decide) ?_
      refine k_I (pc := 23) (co_V C (c_T_takeNumber (xl X) (xD X) (xt X) (xv X) a c_11 9 _ hw) mw_T_takeNumber lk_T_68 d_T_readNoise_23 [0, 1] (cC_TC_1 (xt X) a b (c_11, p.2)) (by decide) (rec_w C 0 4 rfl rfl) rfl rfl ⟨Nat.le_of_ble_eq_true rfl, Nat.le_of_ble_eq_true rfl⟩ ⟨Nat.le_of_ble_eq_true rfl, Nat.le_of_ble_eq_true rfl⟩ (rest := []) rfl rfl (Nat.le_of_ble_eq_true rfl)) (fun c_13 => woTC (xt X) a b (c_13, p.2)) (cS_TC_1 (xt X) a b (c_11, p.2)) (fun v12 c_13 hw => ?_)
      refine g_goto (pc := 26) (tgt := 30) C d_T_readNoise_26 (by decide) ?_
      exact j_T_readNoise_30 C q a b post hq  (c_13, p.2) v1 v12 hw
set_option maxRecDepth 20000 in
theorem c_T_readNoise (l : Launch) (D : va_G) (t : Nat → ClassId) (ev : Nat → Nat) (a b : Nat → Nat) (p : (TSt × CSt)) (post : Int32 → (TSt × CSt) → Prop) (hw : wp_T_readNoise p post) : Con l D t ev y_T_readNoise b_T_readNoise 4 ((some .boolean)) 6 (woTC t a b (p.1, p.2)) [.ref (a 0), .ref (b 0)] (qI (woTC t a b)  post) :=
  ConR.of (by decide +kernel) (Nat.le_of_ble_eq_true rfl) (fun X el eD et ee C q _ => by subst el; subst eD; subst et; subst ee; exact g_T_readNoise C q a b p post (fun v c1 h => ⟨⟨v, c1, rfl, rfl, h⟩, rfl⟩) hw)
def w_T_readLine_34  (post : Int32 → (TSt × CSt) → Prop)  : Nat → (TSt × CSt) → Int32 → Prop
  | 0, _, _ => False
  | n + 1, p, x2 =>
    ((4 ≤ x2) → (wp_T_takeName p.1 11 (fun v1 c_2 => ((v1 = 0) → (post 0 (c_2, p.2))) ∧ ((¬ v1 = 0) → (wp_T_readNoise (c_2, p.2) (fun v3 p_4 => ((v3 = 0) → (post 0 (p_4.1, p_4.2))) ∧ ((¬ v3 = 0) → (post 1 (p_4.1, p_4.2))))))))) ∧ ((¬ 4 ≤ x2) → (wp_T_lawName x2 (fun v7 => wp_T_takeName p.1 v7 (fun v8 c_9 => ((v8 = 0) → (∀ y10 : Int32, y10 = x2 + 1 → (w_T_readLine_34  post  n (c_9, p.2) y10))) ∧ ((¬ v8 = 0) → (wp_T_readLaw (c_9, p.2) x2 (fun v11 p_12 => narrow .boolean (.int v11) = .int v11 ∧ post v11 (p_12.1, p_12.2))))))))
set_option maxRecDepth 20000 in
theorem j_T_readLine_34 {X : GX} (C : GC X b_T_readLine R_T 3 (rmd 7)) {Qp : Option Value → va_W → Prop} (q : RC X ((some .boolean)) Qp 0 0) (a b : Nat → Nat)   (post : Int32 → (TSt × CSt) → Prop) (hq : ∀ v c1, post v c1 → Qp (some (.int v)) (woTC (xt X) a b c1)) : ∀ (n : Nat) (p : (TSt × CSt)) (x2 : Int32), w_T_readLine_34  post  n p x2 → G X 0 0 (woTC (xt X) a b (p.1, p.2)) [(0, .ref (a 0)), (1, .ref (b 0)), (2, .int x2)] [] 34 := by
  intro n
  induction n with
  | zero => intro p x2 hw; exact hw.elim
  | succ n ih =>
    intro p x2 hw
    rw [w_T_readLine_34] at hw
    refine g_iload_n (pc := 34) C d_T_readLine_34 2 rfl rfl ?_
    refine g_iconst (pc := 35) C (v := 4) d_T_readLine_35 (by decide) ?_
    refine g_icmp_ge (pc := 36) (tgt := 63) C d_T_readLine_36 (by decide) (fun h15 => ?_) (fun h15 => ?_)
    · replace hw := hw.1 h15
      refine g_aload_n (pc := 63) C d_T_readLine_63 0 rfl rfl ?_
      refine g_ldcS (pc := 64) C d_T_readLine_64 11 rfl rfl ?_
      refine k_I (pc := 66) (co_V C (c_T_takeName (xl X) (xD X) (xt X) (xv X) a p.1 11 _ hw) mw_T_takeName lk_T_50 d_T_readLine_66 [0, 1] (cC_TC_1 (xt X) a b (p.1, p.2)) (by decide) (rec_w C 0 4 rfl rfl) rfl rfl ⟨Nat.le_of_ble_eq_true rfl, Nat.le_of_ble_eq_true rfl⟩ ⟨Nat.le_of_ble_eq_true rfl, Nat.le_of_ble_eq_true rfl⟩ (rest := []) rfl rfl (Nat.le_of_ble_eq_true rfl)) (fun c_2 => woTC (xt X) a b (c_2, p.2)) (cS_TC_1 (xt X) a b (p.1, p.2)) (fun v1 c_2 hw => ?_)
      refine g_if_eq (pc := 69) (tgt := 84) C d_T_readLine_69 (by decide) (fun h6 => ?_) (fun h6 => ?_)
      · replace hw := hw.1 h6
        refine g_iconst (pc := 84) C (v := 0) d_T_readLine_84 (by decide) ?_
        exact g_zret (pc := 85) C q d_T_readLine_85 (by decide) (hq _ _ hw)
      · replace hw := hw.2 h6
        refine g_aload_n (pc := 72) C d_T_readLine_72 0 rfl rfl ?_
        refine g_aload_n (pc := 73) C d_T_readLine_73 1 rfl rfl ?_
        refine k_Ia (pc := 74) (co_V C (c_T_readNoise (xl X) (xD X) (xt X) (xv X) a b (c_2, p.2) _ hw) mw_T_readNoise lk_T_58 d_T_readLine_74 (List.range _) (all_C _) (all_nd _) (rec_w C 0 4 rfl rfl) rfl rfl ⟨Nat.le_of_ble_eq_true rfl, Nat.le_of_ble_eq_true rfl⟩ ⟨Nat.le_of_ble_eq_true rfl, Nat.le_of_ble_eq_true rfl⟩ (rest := []) rfl rfl (Nat.le_of_ble_eq_true rfl)) (fun v3 p_4 hw => ?_)
        refine g_if_eq (pc := 77) (tgt := 84) C d_T_readLine_77 (by decide) (fun h5 => ?_) (fun h5 => ?_)
        · replace hw := hw.1 h5
          refine g_iconst (pc := 84) C (v := 0) d_T_readLine_84 (by decide) ?_
          exact g_zret (pc := 85) C q d_T_readLine_85 (by decide) (hq _ _ hw)
        · replace hw := hw.2 h5
          refine g_iconst (pc := 80) C (v := 1) d_T_readLine_80 (by decide) ?_
          refine g_goto (pc := 81) (tgt := 85) C d_T_readLine_81 (by decide) ?_
          exact g_zret (pc := 85) C q d_T_readLine_85 (by decide) (hq _ _ hw)
    · replace hw := hw.2 h15
      refine g_aload_n (pc := 39) C d_T_readLine_39 0 rfl rfl ?_
      refine g_iload_n (pc := 40) C d_T_readLine_40 2 rfl rfl ?_
      refine k_R0 (pc := 41) (co_S C (c_T_lawName (xl X) (xD X) (xt X) (xv X) x2 _ hw) mw_T_lawName lk_T_47 d_T_readLine_41 [] rfl (by decide)  rfl rfl ⟨Nat.le_of_ble_eq_true rfl, Nat.le_of_ble_eq_true rfl⟩ ⟨Nat.le_of_ble_eq_true rfl, Nat.le_of_ble_eq_true rfl⟩ (rest := [.ref (a 0)]) rfl rfl (Nat.le_of_ble_eq_true rfl)) (fun v7 hw => ?_)
      refine k_I (pc := 44) (co_V C (c_T_takeName (xl X) (xD X) (xt X) (xv X) a p.1 v7 _ hw) mw_T_takeName lk_T_50 d_T_readLine_44 [0, 1] (cC_TC_1 (xt X) a b (p.1, p.2)) (by decide) (rec_w C 0 4 rfl rfl) rfl rfl ⟨Nat.le_of_ble_eq_true rfl, Nat.le_of_ble_eq_true rfl⟩ ⟨Nat.le_of_ble_eq_true rfl, Nat.le_of_ble_eq_true rfl⟩ (rest := []) rfl rfl (Nat.le_of_ble_eq_true rfl)) (fun c_9 => woTC (xt X) a b (c_9, p.2)) (cS_TC_1 (xt X) a b (p.1, p.2)) (fun v8 c_9 hw => ?_)
      refine g_if_eq (pc := 47) (tgt := 57) C d_T_readLine_47 (by decide) (fun h14 => ?_) (fun h14 => ?_)
      · replace hw := hw.1 h14
        obtain ⟨y10, ey10⟩ : ∃ w, w = x2 + 1 := ⟨_, rfl⟩
        replace hw := hw y10 ey10
        refine g_iinc (pc := 57) C d_T_readLine_57 2 rfl (v := y10) (by rw [ey10]; rfl) (Nat.le_of_ble_eq_true rfl) (lv' := [(0, .ref (a 0)), (1, .ref (b 0)), (2, .int y10)]) rfl ?_
        refine g_goto (pc := 60) (tgt := 34) C d_T_readLine_60 (by decide) ?_
        exact ih (c_9, p.2) y10 hw
      · replace hw := hw.2 h14
        refine g_aload_n (pc := 50) C d_T_readLine_50 0 rfl rfl ?_
        refine g_aload_n (pc := 51) C d_T_readLine_51 1 rfl rfl ?_
        refine g_iload_n (pc := 52) C d_T_readLine_52 2 rfl rfl ?_
        refine k_Ia (pc := 53) (co_V C (c_T_readLaw (xl X) (xD X) (xt X) (xv X) a b (c_9, p.2) x2 _ hw) mw_T_readLaw lk_T_53 d_T_readLine_53 (List.range _) (all_C _) (all_nd _) (rec_w C 0 4 rfl rfl) rfl rfl ⟨Nat.le_of_ble_eq_true rfl, Nat.le_of_ble_eq_true rfl⟩ ⟨Nat.le_of_ble_eq_true rfl, Nat.le_of_ble_eq_true rfl⟩ (rest := []) rfl rfl (Nat.le_of_ble_eq_true rfl)) (fun v11 p_12 hw => ?_)
        obtain ⟨h13, hw⟩ := hw
        exact g_zret (pc := 56) C q d_T_readLine_56 h13 (hq _ _ hw)
def w_T_readLine_2  (post : Int32 → (TSt × CSt) → Prop)  : Nat → (TSt × CSt) → Int32 → Prop
  | 0, _, _ => False
  | n + 1, p, x2 =>
    ((6 ≤ x2) → (w_T_readLine_34  post  2000 (p.1, p.2) 0)) ∧ ((¬ 6 ≤ x2) → (wp_T_kindName x2 (fun v16 => wp_T_isName p.1 v16 (fun v17 c_18 => ((v17 = 0) → (∀ y19 : Int32, y19 = x2 + 1 → (w_T_readLine_2  post  n (c_18, p.2) y19))) ∧ ((¬ v17 = 0) → (wp_T_readBarge (c_18, p.2) x2 (fun v20 p_21 => narrow .boolean (.int v20) = .int v20 ∧ post v20 (p_21.1, p_21.2))))))))
set_option maxRecDepth 20000 in
theorem j_T_readLine_2 {X : GX} (C : GC X b_T_readLine R_T 3 (rmd 7)) {Qp : Option Value → va_W → Prop} (q : RC X ((some .boolean)) Qp 0 0) (a b : Nat → Nat)   (post : Int32 → (TSt × CSt) → Prop) (hq : ∀ v c1, post v c1 → Qp (some (.int v)) (woTC (xt X) a b c1)) : ∀ (n : Nat) (p : (TSt × CSt)) (x2 : Int32), w_T_readLine_2  post  n p x2 → G X 0 0 (woTC (xt X) a b (p.1, p.2)) [(0, .ref (a 0)), (1, .ref (b 0)), (2, .int x2)] [] 2 := by
  intro n
  induction n with
  | zero => intro p x2 hw; exact hw.elim
  | succ n ih =>
    intro p x2 hw
    rw [w_T_readLine_2] at hw
    refine g_iload_n (pc := 2) C d_T_readLine_2 2 rfl rfl ?_
    refine g_bipush (pc := 3) C (v := 6) d_T_readLine_3 (by decide) ?_
    refine g_icmp_ge (pc := 5) (tgt := 32) C d_T_readLine_5 (by decide) (fun h24 => ?_) (fun h24 => ?_)
    · replace hw := hw.1 h24
      refine g_iconst (pc := 32) C (v := 0) d_T_readLine_32 (by decide) ?_
      refine g_istore_n (pc := 33) C d_T_readLine_33 rfl (Nat.le_of_ble_eq_true rfl) (lv' := [(0, .ref (a 0)), (1, .ref (b 0)), (2, .int 0)]) rfl ?_
      exact j_T_readLine_34 C q a b post hq  2000 (p.1, p.2) 0 hw
    · replace hw := hw.2 h24
      refine g_aload_n (pc := 8) C d_T_readLine_8 0 rfl rfl ?_
      refine g_iload_n (pc := 9) C d_T_readLine_9 2 rfl rfl ?_
      refine k_R0 (pc := 10) (co_S C (c_T_kindName (xl X) (xD X) (xt X) (xv X) x2 _ hw) mw_T_kindName lk_T_35 d_T_readLine_10 [] rfl (by decide)  rfl rfl ⟨Nat.le_of_ble_eq_true rfl, Nat.le_of_ble_eq_true rfl⟩ ⟨Nat.le_of_ble_eq_true rfl, Nat.le_of_ble_eq_true rfl⟩ (rest := [.ref (a 0)]) rfl rfl (Nat.le_of_ble_eq_true rfl)) (fun v16 hw => ?_)
      refine k_I (pc := 13) (co_V C (c_T_isName (xl X) (xD X) (xt X) (xv X) a p.1 v16 _ hw) mw_T_isName lk_T_39 d_T_readLine_13 [0, 1] (cC_TC_1 (xt X) a b (p.1, p.2)) (by decide) (rec_w C 0 4 rfl rfl) rfl rfl ⟨Nat.le_of_ble_eq_true rfl, Nat.le_of_ble_eq_true rfl⟩ ⟨Nat.le_of_ble_eq_true rfl, Nat.le_of_ble_eq_true rfl⟩ (rest := []) rfl rfl (Nat.le_of_ble_eq_true rfl)) (fun c_18 => woTC (xt X) a b (c_18, p.2)) (cS_TC_1 (xt X) a b (p.1, p.2)) (fun v17 c_18 hw => ?_)
      refine g_if_eq (pc := 16) (tgt := 26) C d_T_readLine_16 (by decide) (fun h23 => ?_) (fun h23 => ?_)
      · replace hw := hw.1 h23
        obtain ⟨y19, ey19⟩ : ∃ w, w = x2 + 1 := ⟨_, rfl⟩
        replace hw := hw y19 ey19
        refine g_iinc (pc := 26) C d_T_readLine_26 2 rfl (v := y19) (by rw [ey19]; rfl) (Nat.le_of_ble_eq_true rfl) (lv' := [(0, .ref (a 0)), (1, .ref (b 0)), (2, .int y19)]) rfl ?_
        refine g_goto (pc := 29) (tgt := 2) C d_T_readLine_29 (by decide) ?_
        exact ih (c_18, p.2) y19 hw
      · replace hw := hw.2 h23
        refine g_aload_n (pc := 19) C d_T_readLine_19 0 rfl rfl ?_
        refine g_aload_n (pc := 20) C d_T_readLine_20 1 rfl rfl ?_
        refine g_iload_n (pc := 21) C d_T_readLine_21 2 rfl rfl ?_
        refine k_Ia (pc := 22) (co_V C (c_T_readBarge (xl X) (xD X) (xt X) (xv X) a b (c_18, p.2) x2 _ hw) mw_T_readBarge lk_T_43 d_T_readLine_22 (List.range _) (all_C _) (all_nd _) (rec_w C 0 4 rfl rfl) rfl rfl ⟨Nat.le_of_ble_eq_true rfl, Nat.le_of_ble_eq_true rfl⟩ ⟨Nat.le_of_ble_eq_true rfl, Nat.le_of_ble_eq_true rfl⟩ (rest := []) rfl rfl (Nat.le_of_ble_eq_true rfl)) (fun v20 p_21 hw => ?_)
        obtain ⟨h22, hw⟩ := hw
        exact g_zret (pc := 25) C q d_T_readLine_25 h22 (hq _ _ hw)
def wp_T_readLine (p : (TSt × CSt)) (post : Int32 → (TSt × CSt) → Prop) : Prop :=
  w_T_readLine_2  post  2000 (p.1, p.2) 0
set_option maxRecDepth 20000 in
theorem g_T_readLine {X : GX} (C : GC X b_T_readLine R_T 3 (rmd 7)) {Qp : Option Value → va_W → Prop} (q : RC X ((some .boolean)) Qp 0 0) (a b : Nat → Nat) (p : (TSt × CSt)) (post : Int32 → (TSt × CSt) → Prop) (hq : ∀ v c1, post v c1 → Qp (some (.int v)) (woTC (xt X) a b c1)) (hw : wp_T_readLine p post) : G X 0 0 (woTC (xt X) a b (p.1, p.2)) [(0, .ref (a 0)), (1, .ref (b 0))] [] 0 := by
  unfold wp_T_readLine at hw
  refine g_iconst (pc := 0) C (v := 0) d_T_readLine_0 (by decide) ?_
  refine g_istore_n (pc := 1) C d_T_readLine_1 rfl (Nat.le_of_ble_eq_true rfl) (lv' := [(0, .ref (a 0)), (1, .ref (b 0)), (2, .int 0)]) rfl ?_
  exact j_T_readLine_2 C q a b post hq  2000 (p.1, p.2) 0 hw
set_option maxRecDepth 20000 in
theorem c_T_readLine (l : Launch) (D : va_G) (t : Nat → ClassId) (ev : Nat → Nat) (a b : Nat → Nat) (p : (TSt × CSt)) (post : Int32 → (TSt × CSt) → Prop) (hw : wp_T_readLine p post) : Con l D t ev y_T_readLine b_T_readLine 3 ((some .boolean)) 7 (woTC t a b (p.1, p.2)) [.ref (a 0), .ref (b 0)] (qI (woTC t a b)  post) :=
  ConR.of (by decide +kernel) (Nat.le_of_ble_eq_true rfl) (fun X el eD et ee C q _ => by subst el; subst eD; subst et; subst ee; exact g_T_readLine C q a b p post (fun v c1 h => ⟨⟨v, c1, rfl, rfl, h⟩, rfl⟩) hw)
def w_T_readInto_11  (post : Int32 → (TSt × CSt) → Prop)  : Nat → (TSt × CSt) → Int32 → Prop
  | 0, _, _ => False
  | n + 1, p, x2 =>
    ((200 ≤ x2) → (post (-1) (p.1, p.2))) ∧ ((¬ 200 ≤ x2) → ((((T_sort p.1) = 0) → (post (-1) (p.1, p.2))) ∧ ((¬ (T_sort p.1) = 0) → (wp_T_readLine (p.1, p.2) (fun v2 p_3 => ((v2 = 0) → (post (T_start p_3.1) (p_3.1, p_3.2))) ∧ ((¬ v2 = 0) → (∀ y4 : Int32, y4 = x2 + 1 → (w_T_readInto_11  post  n (p_3.1, p_3.2) y4))))))))
set_option maxRecDepth 20000 in
theorem j_T_readInto_11 {X : GX} (C : GC X b_T_readInto R_T 3 (rmd 8)) {Qp : Option Value → va_W → Prop} (q : RC X ((some .int)) Qp 0 0) (a b : Nat → Nat)   (post : Int32 → (TSt × CSt) → Prop) (hq : ∀ v c1, post v c1 → Qp (some (.int v)) (woTC (xt X) a b c1)) : ∀ (n : Nat) (p : (TSt × CSt)) (x2 : Int32), w_T_readInto_11  post  n p x2 → G X 0 0 (woTC (xt X) a b (p.1, p.2)) [(0, .ref (a 0)), (1, .ref (b 0)), (2, .int x2)] [] 11 := by
  intro n
  induction n with
  | zero => intro p x2 hw; exact hw.elim
  | succ n ih =>
    intro p x2 hw
    rw [w_T_readInto_11] at hw
    refine g_iload_n (pc := 11) C d_T_readInto_11 2 rfl rfl ?_
    refine g_sipush (pc := 12) C (v := 200) d_T_readInto_12 (by decide) ?_
    refine g_icmp_ge (pc := 15) (tgt := 44) C d_T_readInto_15 (by decide) (fun h7 => ?_) (fun h7 => ?_)
    · replace hw := hw.1 h7
      refine g_iconst (pc := 44) C (v := (-1)) d_T_readInto_44 (by decide) ?_
      exact g_iret (pc := 45) C q d_T_readInto_45 (hq _ _ hw)
    · replace hw := hw.2 h7
      refine g_aload_n (pc := 18) C d_T_readInto_18 0 rfl rfl ?_
      refine fTC1_sort (pc := 19) C lk_T_19 d_T_readInto_19 (v := T_sort p.1) rfl ?_
      refine g_if_eq (pc := 22) (tgt := 44) C d_T_readInto_22 (by decide) (fun h6 => ?_) (fun h6 => ?_)
      · replace hw := hw.1 h6
        refine g_iconst (pc := 44) C (v := (-1)) d_T_readInto_44 (by decide) ?_
        exact g_iret (pc := 45) C q d_T_readInto_45 (hq _ _ hw)
      · replace hw := hw.2 h6
        refine g_aload_n (pc := 25) C d_T_readInto_25 0 rfl rfl ?_
        refine g_aload_n (pc := 26) C d_T_readInto_26 1 rfl rfl ?_
        refine k_Ia (pc := 27) (co_V C (c_T_readLine (xl X) (xD X) (xt X) (xv X) a b (p.1, p.2) _ hw) mw_T_readLine lk_T_31 d_T_readInto_27 (List.range _) (all_C _) (all_nd _) (rec_w C 0 4 rfl rfl) rfl rfl ⟨Nat.le_of_ble_eq_true rfl, Nat.le_of_ble_eq_true rfl⟩ ⟨Nat.le_of_ble_eq_true rfl, Nat.le_of_ble_eq_true rfl⟩ (rest := []) rfl rfl (Nat.le_of_ble_eq_true rfl)) (fun v2 p_3 hw => ?_)
        refine g_if_ne (pc := 30) (tgt := 38) C d_T_readInto_30 (by decide) (fun h5 => ?_) (fun h5 => ?_)
        · replace hw := hw.2 h5
          obtain ⟨y4, ey4⟩ : ∃ w, w = x2 + 1 := ⟨_, rfl⟩
          replace hw := hw y4 ey4
          refine g_iinc (pc := 38) C d_T_readInto_38 2 rfl (v := y4) (by rw [ey4]; rfl) (Nat.le_of_ble_eq_true rfl) (lv' := [(0, .ref (a 0)), (1, .ref (b 0)), (2, .int y4)]) rfl ?_
          refine g_goto (pc := 41) (tgt := 11) C d_T_readInto_41 (by decide) ?_
          exact ih (p_3.1, p_3.2) y4 hw
        · replace hw := hw.1 h5
          refine g_aload_n (pc := 33) C d_T_readInto_33 0 rfl rfl ?_
          refine fTC1_start (pc := 34) C lk_T_22 d_T_readInto_34 (v := T_start p_3.1) rfl ?_
          exact g_iret (pc := 37) C q d_T_readInto_37 (hq _ _ hw)
def wp_T_readInto (p : (TSt × CSt)) (post : Int32 → (TSt × CSt) → Prop) : Prop :=
  wp_T_step (T_end_ p.1 0) (fun c_1 => w_T_readInto_11  post  2000 (c_1, p.2) 0)
set_option maxRecDepth 20000 in
theorem g_T_readInto {X : GX} (C : GC X b_T_readInto R_T 3 (rmd 8)) {Qp : Option Value → va_W → Prop} (q : RC X ((some .int)) Qp 0 0) (a b : Nat → Nat) (p : (TSt × CSt)) (post : Int32 → (TSt × CSt) → Prop) (hq : ∀ v c1, post v c1 → Qp (some (.int v)) (woTC (xt X) a b c1)) (hw : wp_T_readInto p post) : G X 0 0 (woTC (xt X) a b (p.1, p.2)) [(0, .ref (a 0)), (1, .ref (b 0))] [] 0 := by
  unfold wp_T_readInto at hw
  refine g_aload_n (pc := 0) C d_T_readInto_0 0 rfl rfl ?_
  refine g_iconst (pc := 1) C (v := 0) d_T_readInto_1 (by decide) ?_
  refine pTC1_end (pc := 2) C (c := p.1) rfl lk_T_25 d_T_readInto_2   ?_
  refine g_aload_n (pc := 5) C d_T_readInto_5 0 rfl rfl ?_
  refine k_V (pc := 6) (co_V C (c_T_step (xl X) (xD X) (xt X) (xv X) a (T_end_ p.1 0) _ hw) mw_T_step lk_T_28 d_T_readInto_6 [0, 1] (cC_TC_1 (xt X) a b (T_end_ p.1 0, p.2)) (by decide) (rec_w C 0 4 rfl rfl) rfl rfl ⟨Nat.le_of_ble_eq_true rfl, Nat.le_of_ble_eq_true rfl⟩ ⟨Nat.le_of_ble_eq_true rfl, Nat.le_of_ble_eq_true rfl⟩ (rest := []) rfl rfl (Nat.le_of_ble_eq_true rfl)) (fun c_1 => woTC (xt X) a b (c_1, p.2)) (cS_TC_1 (xt X) a b (T_end_ p.1 0, p.2)) (fun c_1 hw => ?_)
  refine g_iconst (pc := 9) C (v := 0) d_T_readInto_9 (by decide) ?_
  refine g_istore_n (pc := 10) C d_T_readInto_10 rfl (Nat.le_of_ble_eq_true rfl) (lv' := [(0, .ref (a 0)), (1, .ref (b 0)), (2, .int 0)]) rfl ?_
  exact j_T_readInto_11 C q a b post hq  2000 (c_1, p.2) 0 hw
set_option maxRecDepth 20000 in
theorem c_T_readInto (l : Launch) (D : va_G) (t : Nat → ClassId) (ev : Nat → Nat) (a b : Nat → Nat) (p : (TSt × CSt)) (post : Int32 → (TSt × CSt) → Prop) (hw : wp_T_readInto p post) : Con l D t ev y_T_readInto b_T_readInto 3 ((some .int)) 8 (woTC t a b (p.1, p.2)) [.ref (a 0), .ref (b 0)] (qI (woTC t a b)  post) :=
  ConR.of (by decide +kernel) (Nat.le_of_ble_eq_true rfl) (fun X el eD et ee C q _ => by subst el; subst eD; subst et; subst ee; exact g_T_readInto C q a b p post (fun v c1 h => ⟨⟨v, c1, rfl, rfl, h⟩, rfl⟩) hw)
