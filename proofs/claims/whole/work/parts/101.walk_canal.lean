def wp_X_isLock (x0 : Int32) (post : Int32 → Prop) : Prop :=
  ((x0 < 0) → (post 0 )) ∧ ((¬ x0 < 0) → (((10 ≤ x0) → (post 0 )) ∧ ((¬ 10 ≤ x0) → (post 1 ))))
set_option maxRecDepth 20000 in
theorem g_X_isLock {X : GX} (C : GC X b_X_isLock R_X 1 (rmd 0)) {Qp : Option Value → va_W → Prop} (q : RC X ((some .boolean)) Qp 0 0) (x0 : Int32) (post : Int32 → Prop) (hq : ∀ v, post v → Qp (some (.int v)) []) (hw : wp_X_isLock x0 post) : G X 0 0 ([]) [(0, .int x0)] [] 0 := by
  unfold wp_X_isLock at hw
  refine g_iload_n (pc := 0) C d_X_isLock_0 0 rfl rfl ?_
  refine g_if_lt (pc := 1) (tgt := 14) C d_X_isLock_1 (by decide) (fun h2 => ?_) (fun h2 => ?_)
  · replace hw := hw.1 h2
    refine g_iconst (pc := 14) C (v := 0) d_X_isLock_14 (by decide) ?_
    exact g_zret (pc := 15) C q d_X_isLock_15 (by decide) (hq _ hw)
  · replace hw := hw.2 h2
    refine g_iload_n (pc := 4) C d_X_isLock_4 0 rfl rfl ?_
    refine g_bipush (pc := 5) C (v := 10) d_X_isLock_5 (by decide) ?_
    refine g_icmp_ge (pc := 7) (tgt := 14) C d_X_isLock_7 (by decide) (fun h1 => ?_) (fun h1 => ?_)
    · replace hw := hw.1 h1
      refine g_iconst (pc := 14) C (v := 0) d_X_isLock_14 (by decide) ?_
      exact g_zret (pc := 15) C q d_X_isLock_15 (by decide) (hq _ hw)
    · replace hw := hw.2 h1
      refine g_iconst (pc := 10) C (v := 1) d_X_isLock_10 (by decide) ?_
      refine g_goto (pc := 11) (tgt := 15) C d_X_isLock_11 (by decide) ?_
      exact g_zret (pc := 15) C q d_X_isLock_15 (by decide) (hq _ hw)
set_option maxRecDepth 20000 in
theorem c_X_isLock (l : Launch) (D : va_G) (t : Nat → ClassId) (ev : Nat → Nat) (x0 : Int32) (post : Int32 → Prop) (hw : wp_X_isLock x0 post) : Con l D t ev y_X_isLock b_X_isLock 1 ((some .boolean)) 0 ([]) [.int x0] (qI (fun _ : Unit => [])  (fun v _ => post v)) :=
  ConR.of (by decide +kernel) (Nat.le_of_ble_eq_true rfl) (fun X el eD et ee C q _ => by subst el; subst eD; subst et; subst ee; exact g_X_isLock C q x0 post (fun v h => ⟨⟨v, (), rfl, rfl, h⟩, rfl⟩) hw)
def wp_X_heldLoad (x0 : Int32) (post : Int32 → Prop) : Prop :=
  ((0 ≤ x0) → (((x0 ≤ 99) → (post x0 )) ∧ ((¬ x0 ≤ 99) → (post 99 )))) ∧ ((¬ 0 ≤ x0) → (post 0 ))
set_option maxRecDepth 20000 in
theorem g_X_heldLoad {X : GX} (C : GC X b_X_heldLoad R_X 1 (rmd 0)) {Qp : Option Value → va_W → Prop} (q : RC X ((some .int)) Qp 0 0) (x0 : Int32) (post : Int32 → Prop) (hq : ∀ v, post v → Qp (some (.int v)) []) (hw : wp_X_heldLoad x0 post) : G X 0 0 ([]) [(0, .int x0)] [] 0 := by
  unfold wp_X_heldLoad at hw
  refine g_iload_n (pc := 0) C d_X_heldLoad_0 0 rfl rfl ?_
  refine g_if_ge (pc := 1) (tgt := 8) C d_X_heldLoad_1 (by decide) (fun h2 => ?_) (fun h2 => ?_)
  · replace hw := hw.1 h2
    refine g_iload_n (pc := 8) C d_X_heldLoad_8 0 rfl rfl ?_
    refine g_bipush (pc := 9) C (v := 99) d_X_heldLoad_9 (by decide) ?_
    refine g_icmp_le (pc := 11) (tgt := 19) C d_X_heldLoad_11 (by decide) (fun h1 => ?_) (fun h1 => ?_)
    · replace hw := hw.1 h1
      refine g_iload_n (pc := 19) C d_X_heldLoad_19 0 rfl rfl ?_
      exact g_iret (pc := 20) C q d_X_heldLoad_20 (hq _ hw)
    · replace hw := hw.2 h1
      refine g_bipush (pc := 14) C (v := 99) d_X_heldLoad_14 (by decide) ?_
      refine g_goto (pc := 16) (tgt := 20) C d_X_heldLoad_16 (by decide) ?_
      exact g_iret (pc := 20) C q d_X_heldLoad_20 (hq _ hw)
  · replace hw := hw.2 h2
    refine g_iconst (pc := 4) C (v := 0) d_X_heldLoad_4 (by decide) ?_
    refine g_goto (pc := 5) (tgt := 20) C d_X_heldLoad_5 (by decide) ?_
    exact g_iret (pc := 20) C q d_X_heldLoad_20 (hq _ hw)
set_option maxRecDepth 20000 in
theorem c_X_heldLoad (l : Launch) (D : va_G) (t : Nat → ClassId) (ev : Nat → Nat) (x0 : Int32) (post : Int32 → Prop) (hw : wp_X_heldLoad x0 post) : Con l D t ev y_X_heldLoad b_X_heldLoad 1 ((some .int)) 0 ([]) [.int x0] (qI (fun _ : Unit => [])  (fun v _ => post v)) :=
  ConR.of (by decide +kernel) (Nat.le_of_ble_eq_true rfl) (fun X el eD et ee C q _ => by subst el; subst eD; subst et; subst ee; exact g_X_heldLoad C q x0 post (fun v h => ⟨⟨v, (), rfl, rfl, h⟩, rfl⟩) hw)
def w_JA_fill_5 (N : Nat) (post : (Nat → Int32) → Prop)  : Nat → (Nat → Int32) → Int32 → Int32 → Int32 → Prop
  | 0, _, _, _, _ => False
  | n + 1, f, x1, x2, x3 =>
    ((x3 ≤ x2) → (post f)) ∧ ((¬ x3 ≤ x2) → (vp_in x2 N ∧ (∀ y2 : Int32, y2 = x2 + 1 → (w_JA_fill_5 N post  n (upd f x2.toNatClampNeg x1) x1 y2 x3))))
set_option maxRecDepth 20000 in
theorem j_JA_fill_5 {X : GX} (C : GC X b_JA_fill R_JA 4 (rmd 0)) {Qp : Option Value → va_W → Prop} (q : RC X (none) Qp 0 0) (a : Nat → Nat) (N : Nat)  (post : (Nat → Int32) → Prop) (hq : ∀ c1, post c1 → Qp none ([(a 0, .inl ((xt X) 2, N, .inl c1))])) : ∀ (n : Nat) (f : (Nat → Int32)) (x1 : Int32) (x2 : Int32) (x3 : Int32), w_JA_fill_5 N post  n f x1 x2 x3 → G X 0 0 ([(a 0, .inl ((xt X) 2, N, .inl f))]) [(0, .ref (a 0)), (1, .int x1), (2, .int x2), (3, .int x3)] [] 5 := by
  intro n
  induction n with
  | zero => intro f x1 x2 x3 hw; exact hw.elim
  | succ n ih =>
    intro f x1 x2 x3 hw
    rw [w_JA_fill_5] at hw
    refine g_iload_n (pc := 5) C d_JA_fill_5 2 rfl rfl ?_
    refine g_iload_n (pc := 6) C d_JA_fill_6 3 rfl rfl ?_
    refine g_icmp_ge (pc := 7) (tgt := 20) C d_JA_fill_7 (by decide) (fun h3 => ?_) (fun h3 => ?_)
    · replace hw := hw.1 h3
      exact g_vret (pc := 20) C q d_JA_fill_20 (hq f hw)
    · replace hw := hw.2 h3
      refine g_aload_n (pc := 10) C d_JA_fill_10 0 rfl rfl ?_
      refine g_iload_n (pc := 11) C d_JA_fill_11 2 rfl rfl ?_
      refine g_iload_n (pc := 12) C d_JA_fill_12 1 rfl rfl ?_
      obtain ⟨h1, hw⟩ := hw
      refine g_iastore (pc := 13) C 0 (f := f) d_JA_fill_13 rfl h1 (ws' := [(a 0, .inl ((xt X) 2, N, .inl (upd f x2.toNatClampNeg x1)))]) rfl ?_
      obtain ⟨y2, ey2⟩ : ∃ w, w = x2 + 1 := ⟨_, rfl⟩
      replace hw := hw y2 ey2
      refine g_iinc (pc := 14) C d_JA_fill_14 2 rfl (v := y2) (by rw [ey2]; rfl) (Nat.le_of_ble_eq_true rfl) (lv' := [(0, .ref (a 0)), (1, .int x1), (2, .int y2), (3, .int x3)]) rfl ?_
      refine g_goto (pc := 17) (tgt := 5) C d_JA_fill_17 (by decide) ?_
      exact ih (upd f x2.toNatClampNeg x1) x1 y2 x3 hw
def wp_JA_fill (N : Nat) (f : (Nat → Int32)) (x1 : Int32) (post : (Nat → Int32) → Prop) : Prop :=
  w_JA_fill_5 N post  2000 f x1 0 (Int32.ofNat N)
set_option maxRecDepth 20000 in
theorem g_JA_fill {X : GX} (C : GC X b_JA_fill R_JA 4 (rmd 0)) {Qp : Option Value → va_W → Prop} (q : RC X (none) Qp 0 0) (a : Nat → Nat) (N : Nat) (f : (Nat → Int32)) (x1 : Int32) (post : (Nat → Int32) → Prop) (hq : ∀ c1, post c1 → Qp none ([(a 0, .inl ((xt X) 2, N, .inl c1))])) (hw : wp_JA_fill N f x1 post) : G X 0 0 ([(a 0, .inl ((xt X) 2, N, .inl f))]) [(0, .ref (a 0)), (1, .int x1)] [] 0 := by
  unfold wp_JA_fill at hw
  refine g_iconst (pc := 0) C (v := 0) d_JA_fill_0 (by decide) ?_
  refine g_istore_n (pc := 1) C d_JA_fill_1 rfl (Nat.le_of_ble_eq_true rfl) (lv' := [(0, .ref (a 0)), (1, .int x1), (2, .int 0)]) rfl ?_
  refine g_aload_n (pc := 2) C d_JA_fill_2 0 rfl rfl ?_
  refine g_alen (pc := 3) C 0 2 (v := Int32.ofNat N) d_JA_fill_3 rfl rfl rfl ?_
  refine g_istore_n (pc := 4) C d_JA_fill_4 rfl (Nat.le_of_ble_eq_true rfl) (lv' := [(0, .ref (a 0)), (1, .int x1), (2, .int 0), (3, .int (Int32.ofNat N))]) rfl ?_
  exact j_JA_fill_5 C q a N post hq  2000 f x1 0 (Int32.ofNat N) hw
set_option maxRecDepth 20000 in
theorem c_JA_fill (l : Launch) (D : va_G) (t : Nat → ClassId) (ev : Nat → Nat) (a : Nat → Nat) (N : Nat) (f : (Nat → Int32)) (x1 : Int32) (post : (Nat → Int32) → Prop) (hw : wp_JA_fill N f x1 post) : Con l D t ev y_JA_fill b_JA_fill 4 (none) 0 ([(a 0, .inl (t 2, N, .inl f))]) [.ref (a 0), .int x1] (qV (fun f => [(a 0, .inl (t 2, N, .inl f))])  post) :=
  ConR.of (by decide +kernel) (Nat.le_of_ble_eq_true rfl) (fun X el eD et ee C q _ => by subst el; subst eD; subst et; subst ee; exact g_JA_fill C q a N f x1 post (fun c1 h => ⟨⟨c1, rfl, rfl, h⟩, rfl⟩) hw)
def wp_C_clearAllButDraws (c : CSt) (post : CSt → Prop) : Prop :=
  wp_JA_fill 10 (C_noise c) 2 (fun f_1 => wp_JA_fill 10 (C_lost c) 0 (fun f_2 => post (C_hour_ (C_count_ (C_lost_ (C_noise_ (C_laws_ c (va_cpy (fun j => tbFirst.getD j 0) (C_laws c) 0 0 4)) f_1) f_2) 0) 0)))
set_option maxRecDepth 20000 in
theorem g_C_clearAllButDraws {X : GX} (C : GC X b_C_clearAllButDraws R_C 1 (rmd 1)) {Qp : Option Value → va_W → Prop} (q : RC X (none) Qp 0 0) (a : Nat → Nat) (c : CSt) (post : CSt → Prop) (hq : ∀ c1, post c1 → Qp none (woC (xt X) a c1)) (hw : wp_C_clearAllButDraws c post) : G X 0 0 (woC (xt X) a c) [(0, .ref (a 0))] [] 0 := by
  unfold wp_C_clearAllButDraws at hw
  refine g_getsN (pc := 0) C C.2.2.2.2.2.2.2.1.1 lk_C_49 d_C_clearAllButDraws_0 ?_
  refine g_iconst (pc := 3) C (v := 0) d_C_clearAllButDraws_3 (by decide) ?_
  refine g_aload_n (pc := 4) C d_C_clearAllButDraws_4 0 rfl rfl ?_
  refine fC_laws (pc := 5) C lk_C_9 d_C_clearAllButDraws_5 ?_
  refine g_iconst (pc := 8) C (v := 0) d_C_clearAllButDraws_8 (by decide) ?_
  refine g_iconst (pc := 9) C (v := 4) d_C_clearAllButDraws_9 (by decide) ?_
  refine g_copyt (pc := 10) C C.2.2.2.2.2.2.2.1.1 1 (g := C_laws c) lk_C_52 d_C_clearAllButDraws_10 rfl (by decide) (by decide) ⟨Nat.le_of_ble_eq_true rfl, Nat.le_of_ble_eq_true rfl⟩ (Nat.le_of_ble_eq_true rfl) (ws' := woC (xt X) a (C_laws_ c (va_cpy (fun j => tbFirst.getD j 0) (C_laws c) 0 0 4))) rfl ?_
  refine g_aload_n (pc := 13) C d_C_clearAllButDraws_13 0 rfl rfl ?_
  refine fC_noise (pc := 14) C lk_C_15 d_C_clearAllButDraws_14 ?_
  refine g_iconst (pc := 17) C (v := 2) d_C_clearAllButDraws_17 (by decide) ?_
  refine k_V (pc := 18) (co_S C (c_JA_fill (xl X) (xD X) (xt X) (xv X) (fun _ => a 2) 10 (C_noise c) 2 _ hw) mw_JA_fill lk_C_58 d_C_clearAllButDraws_18 [2] (cC_C_noise (xt X) a a (C_laws_ c (va_cpy (fun j => tbFirst.getD j 0) (C_laws c) 0 0 4))) (by decide)  rfl rfl ⟨Nat.le_of_ble_eq_true rfl, Nat.le_of_ble_eq_true rfl⟩ ⟨Nat.le_of_ble_eq_true rfl, Nat.le_of_ble_eq_true rfl⟩ (rest := []) rfl rfl (Nat.le_of_ble_eq_true rfl)) (fun f_1 => woC (xt X) a (C_noise_ (C_laws_ c (va_cpy (fun j => tbFirst.getD j 0) (C_laws c) 0 0 4)) f_1)) (cS_C_noise (xt X) a a (C_laws_ c (va_cpy (fun j => tbFirst.getD j 0) (C_laws c) 0 0 4))) (fun f_1 hw => ?_)
  refine g_aload_n (pc := 21) C d_C_clearAllButDraws_21 0 rfl rfl ?_
  refine fC_lost (pc := 22) C lk_C_18 d_C_clearAllButDraws_22 ?_
  refine g_iconst (pc := 25) C (v := 0) d_C_clearAllButDraws_25 (by decide) ?_
  refine k_V (pc := 26) (co_S C (c_JA_fill (xl X) (xD X) (xt X) (xv X) (fun _ => a 3) 10 (C_lost c) 0 _ hw) mw_JA_fill lk_C_58 d_C_clearAllButDraws_26 [3] (cC_C_lost (xt X) a a (C_noise_ (C_laws_ c (va_cpy (fun j => tbFirst.getD j 0) (C_laws c) 0 0 4)) f_1)) (by decide)  rfl rfl ⟨Nat.le_of_ble_eq_true rfl, Nat.le_of_ble_eq_true rfl⟩ ⟨Nat.le_of_ble_eq_true rfl, Nat.le_of_ble_eq_true rfl⟩ (rest := []) rfl rfl (Nat.le_of_ble_eq_true rfl)) (fun f_2 => woC (xt X) a (C_lost_ (C_noise_ (C_laws_ c (va_cpy (fun j => tbFirst.getD j 0) (C_laws c) 0 0 4)) f_1) f_2)) (cS_C_lost (xt X) a a (C_noise_ (C_laws_ c (va_cpy (fun j => tbFirst.getD j 0) (C_laws c) 0 0 4)) f_1)) (fun f_2 hw => ?_)
  refine g_aload_n (pc := 29) C d_C_clearAllButDraws_29 0 rfl rfl ?_
  refine g_iconst (pc := 30) C (v := 0) d_C_clearAllButDraws_30 (by decide) ?_
  refine pC_count (pc := 31) C lk_C_36 d_C_clearAllButDraws_31   ?_
  refine g_aload_n (pc := 34) C d_C_clearAllButDraws_34 0 rfl rfl ?_
  refine g_iconst (pc := 35) C (v := 0) d_C_clearAllButDraws_35 (by decide) ?_
  refine pC_hour (pc := 36) C lk_C_40 d_C_clearAllButDraws_36   ?_
  exact g_vret (pc := 39) C q d_C_clearAllButDraws_39 (hq (C_hour_ (C_count_ (C_lost_ (C_noise_ (C_laws_ c (va_cpy (fun j => tbFirst.getD j 0) (C_laws c) 0 0 4)) f_1) f_2) 0) 0) hw)
set_option maxRecDepth 20000 in
theorem c_C_clearAllButDraws (l : Launch) (D : va_G) (t : Nat → ClassId) (ev : Nat → Nat) (a : Nat → Nat) (c : CSt) (post : CSt → Prop) (hw : wp_C_clearAllButDraws c post) : Con l D t ev y_C_clearAllButDraws b_C_clearAllButDraws 1 (none) 1 (woC t a c) [.ref (a 0)] (qV (woC t a)  post) :=
  ConR.of (by decide +kernel) (Nat.le_of_ble_eq_true rfl) (fun X el eD et ee C q _ => by subst el; subst eD; subst et; subst ee; exact g_C_clearAllButDraws C q a c post (fun c1 h => ⟨⟨c1, rfl, rfl, h⟩, rfl⟩) hw)
def wp_C_copyFrom (p : (CSt × CSt)) (post : (CSt × CSt) → Prop) : Prop :=
  post (C_heldBack_ (C_z_ (C_hour_ (C_count_ (C_bound_ (C_at_ (C_sort_ (C_load_ (C_kind_ (C_lost_ (C_noise_ (C_laws_ p.1 (va_cpy (C_laws p.2) (C_laws p.1) 0 0 4)) (va_cpy (C_noise p.2) (C_noise p.1) 0 0 10)) (va_cpy (C_lost p.2) (C_lost p.1) 0 0 10)) (va_cpy (C_kind p.2) (C_kind p.1) 0 0 8)) (va_cpy (C_load p.2) (C_load p.1) 0 0 8)) (va_cpy (C_sort p.2) (C_sort p.1) 0 0 8)) (va_cpy (C_at p.2) (C_at p.1) 0 0 8)) (va_cpy (C_bound p.2) (C_bound p.1) 0 0 8)) (C_count p.2)) (C_hour p.2)) (C_z p.2)) (-1), p.2)
set_option maxRecDepth 20000 in
theorem g_C_copyFrom {X : GX} (C : GC X b_C_copyFrom R_C 2 (rmd 1)) {Qp : Option Value → va_W → Prop} (q : RC X (none) Qp 0 0) (a b : Nat → Nat) (p : (CSt × CSt)) (post : (CSt × CSt) → Prop) (hq : ∀ c1, post c1 → Qp none (woCC (xt X) a b c1)) (hw : wp_C_copyFrom p post) : G X 0 0 (woCC (xt X) a b (p.1, p.2)) [(0, .ref (a 0)), (1, .ref (b 0))] [] 0 := by
  unfold wp_C_copyFrom at hw
  refine g_aload_n (pc := 0) C d_C_copyFrom_0 1 rfl rfl ?_
  refine fCC2_laws (pc := 1) C lk_C_9 d_C_copyFrom_1 ?_
  refine g_iconst (pc := 4) C (v := 0) d_C_copyFrom_4 (by decide) ?_
  refine g_aload_n (pc := 5) C d_C_copyFrom_5 0 rfl rfl ?_
  refine fCC1_laws (pc := 6) C lk_C_9 d_C_copyFrom_6 ?_
  refine g_iconst (pc := 9) C (v := 0) d_C_copyFrom_9 (by decide) ?_
  refine g_iconst (pc := 10) C (v := 4) d_C_copyFrom_10 (by decide) ?_
  refine g_copyi (pc := 11) C 10 1 (f := C_laws p.2) (g := C_laws p.1) lk_C_52 d_C_copyFrom_11 rfl rfl (by decide) (by decide) ⟨Nat.le_of_ble_eq_true rfl, Nat.le_of_ble_eq_true rfl⟩ (Nat.le_of_ble_eq_true rfl) (ws' := woCC (xt X) a b (C_laws_ p.1 (va_cpy (C_laws p.2) (C_laws p.1) 0 0 4), p.2)) rfl ?_
  refine g_aload_n (pc := 14) C d_C_copyFrom_14 1 rfl rfl ?_
  refine fCC2_noise (pc := 15) C lk_C_15 d_C_copyFrom_15 ?_
  refine g_iconst (pc := 18) C (v := 0) d_C_copyFrom_18 (by decide) ?_
  refine g_aload_n (pc := 19) C d_C_copyFrom_19 0 rfl rfl ?_
  refine fCC1_noise (pc := 20) C lk_C_15 d_C_copyFrom_20 ?_
  refine g_iconst (pc := 23) C (v := 0) d_C_copyFrom_23 (by decide) ?_
  refine g_bipush (pc := 24) C (v := 10) d_C_copyFrom_24 (by decide) ?_
  refine g_copyi (pc := 26) C 11 2 (f := C_noise p.2) (g := C_noise p.1) lk_C_52 d_C_copyFrom_26 rfl rfl (by decide) (by decide) ⟨Nat.le_of_ble_eq_true rfl, Nat.le_of_ble_eq_true rfl⟩ (Nat.le_of_ble_eq_true rfl) (ws' := woCC (xt X) a b (C_noise_ (C_laws_ p.1 (va_cpy (C_laws p.2) (C_laws p.1) 0 0 4)) (va_cpy (C_noise p.2) (C_noise p.1) 0 0 10), p.2)) rfl ?_
  refine g_aload_n (pc := 29) C d_C_copyFrom_29 1 rfl rfl ?_
  refine fCC2_lost (pc := 30) C lk_C_18 d_C_copyFrom_30 ?_
  refine g_iconst (pc := 33) C (v := 0) d_C_copyFrom_33 (by decide) ?_
  refine g_aload_n (pc := 34) C d_C_copyFrom_34 0 rfl rfl ?_
  refine fCC1_lost (pc := 35) C lk_C_18 d_C_copyFrom_35 ?_
  refine g_iconst (pc := 38) C (v := 0) d_C_copyFrom_38 (by decide) ?_
  refine g_bipush (pc := 39) C (v := 10) d_C_copyFrom_39 (by decide) ?_
  refine g_copyi (pc := 41) C 12 3 (f := C_lost p.2) (g := C_lost p.1) lk_C_52 d_C_copyFrom_41 rfl rfl (by decide) (by decide) ⟨Nat.le_of_ble_eq_true rfl, Nat.le_of_ble_eq_true rfl⟩ (Nat.le_of_ble_eq_true rfl) (ws' := woCC (xt X) a b (C_lost_ (C_noise_ (C_laws_ p.1 (va_cpy (C_laws p.2) (C_laws p.1) 0 0 4)) (va_cpy (C_noise p.2) (C_noise p.1) 0 0 10)) (va_cpy (C_lost p.2) (C_lost p.1) 0 0 10), p.2)) rfl ?_
  refine g_aload_n (pc := 44) C d_C_copyFrom_44 1 rfl rfl ?_
  refine fCC2_kind (pc := 45) C lk_C_21 d_C_copyFrom_45 ?_
  refine g_iconst (pc := 48) C (v := 0) d_C_copyFrom_48 (by decide) ?_
  refine g_aload_n (pc := 49) C d_C_copyFrom_49 0 rfl rfl ?_
  refine fCC1_kind (pc := 50) C lk_C_21 d_C_copyFrom_50 ?_
  refine g_iconst (pc := 53) C (v := 0) d_C_copyFrom_53 (by decide) ?_
  refine g_bipush (pc := 54) C (v := 8) d_C_copyFrom_54 (by decide) ?_
  refine g_copyi (pc := 56) C 13 4 (f := C_kind p.2) (g := C_kind p.1) lk_C_52 d_C_copyFrom_56 rfl rfl (by decide) (by decide) ⟨Nat.le_of_ble_eq_true rfl, Nat.le_of_ble_eq_true rfl⟩ (Nat.le_of_ble_eq_true rfl) (ws' := woCC (xt X) a b (C_kind_ (C_lost_ (C_noise_ (C_laws_ p.1 (va_cpy (C_laws p.2) (C_laws p.1) 0 0 4)) (va_cpy (C_noise p.2) (C_noise p.1) 0 0 10)) (va_cpy (C_lost p.2) (C_lost p.1) 0 0 10)) (va_cpy (C_kind p.2) (C_kind p.1) 0 0 8), p.2)) rfl ?_
  refine g_aload_n (pc := 59) C d_C_copyFrom_59 1 rfl rfl ?_
  refine fCC2_load (pc := 60) C lk_C_24 d_C_copyFrom_60 ?_
  refine g_iconst (pc := 63) C (v := 0) d_C_copyFrom_63 (by decide) ?_
  refine g_aload_n (pc := 64) C d_C_copyFrom_64 0 rfl rfl ?_
  refine fCC1_load (pc := 65) C lk_C_24 d_C_copyFrom_65 ?_
  refine g_iconst (pc := 68) C (v := 0) d_C_copyFrom_68 (by decide) ?_
  refine g_bipush (pc := 69) C (v := 8) d_C_copyFrom_69 (by decide) ?_
  refine g_copyi (pc := 71) C 14 5 (f := C_load p.2) (g := C_load p.1) lk_C_52 d_C_copyFrom_71 rfl rfl (by decide) (by decide) ⟨Nat.le_of_ble_eq_true rfl, Nat.le_of_ble_eq_true rfl⟩ (Nat.le_of_ble_eq_true rfl) (ws' := woCC (xt X) a b (C_load_ (C_kind_ (C_lost_ (C_noise_ (C_laws_ p.1 (va_cpy (C_laws p.2) (C_laws p.1) 0 0 4)) (va_cpy (C_noise p.2) (C_noise p.1) 0 0 10)) (va_cpy (C_lost p.2) (C_lost p.1) 0 0 10)) (va_cpy (C_kind p.2) (C_kind p.1) 0 0 8)) (va_cpy (C_load p.2) (C_load p.1) 0 0 8), p.2)) rfl ?_
  refine g_aload_n (pc := 74) C d_C_copyFrom_74 1 rfl rfl ?_
  refine fCC2_sort (pc := 75) C lk_C_27 d_C_copyFrom_75 ?_
  refine g_iconst (pc := 78) C (v := 0) d_C_copyFrom_78 (by decide) ?_
  refine g_aload_n (pc := 79) C d_C_copyFrom_79 0 rfl rfl ?_
  refine fCC1_sort (pc := 80) C lk_C_27 d_C_copyFrom_80 ?_
  refine g_iconst (pc := 83) C (v := 0) d_C_copyFrom_83 (by decide) ?_
  refine g_bipush (pc := 84) C (v := 8) d_C_copyFrom_84 (by decide) ?_
  refine g_copyi (pc := 86) C 15 6 (f := C_sort p.2) (g := C_sort p.1) lk_C_52 d_C_copyFrom_86 rfl rfl (by decide) (by decide) ⟨Nat.le_of_ble_eq_true rfl, Nat.le_of_ble_eq_true rfl⟩ (Nat.le_of_ble_eq_true rfl) (ws' := woCC (xt X) a b (C_sort_ (C_load_ (C_kind_ (C_lost_ (C_noise_ (C_laws_ p.1 (va_cpy (C_laws p.2) (C_laws p.1) 0 0 4)) (va_cpy (C_noise p.2) (C_noise p.1) 0 0 10)) (va_cpy (C_lost p.2) (C_lost p.1) 0 0 10)) (va_cpy (C_kind p.2) (C_kind p.1) 0 0 8)) (va_cpy (C_load p.2) (C_load p.1) 0 0 8)) (va_cpy (C_sort p.2) (C_sort p.1) 0 0 8), p.2)) rfl ?_
  refine g_aload_n (pc := 89) C d_C_copyFrom_89 1 rfl rfl ?_
  refine fCC2_at (pc := 90) C lk_C_30 d_C_copyFrom_90 ?_
  refine g_iconst (pc := 93) C (v := 0) d_C_copyFrom_93 (by decide) ?_
  refine g_aload_n (pc := 94) C d_C_copyFrom_94 0 rfl rfl ?_
  refine fCC1_at (pc := 95) C lk_C_30 d_C_copyFrom_95 ?_
  refine g_iconst (pc := 98) C (v := 0) d_C_copyFrom_98 (by decide) ?_
  refine g_bipush (pc := 99) C (v := 8) d_C_copyFrom_99 (by decide) ?_
  refine g_copyi (pc := 101) C 16 7 (f := C_at p.2) (g := C_at p.1) lk_C_52 d_C_copyFrom_101 rfl rfl (by decide) (by decide) ⟨Nat.le_of_ble_eq_true rfl, Nat.le_of_ble_eq_true rfl⟩ (Nat.le_of_ble_eq_true rfl) (ws' := woCC (xt X) a b (C_at_ (C_sort_ (C_load_ (C_kind_ (C_lost_ (C_noise_ (C_laws_ p.1 (va_cpy (C_laws p.2) (C_laws p.1) 0 0 4)) (va_cpy (C_noise p.2) (C_noise p.1) 0 0 10)) (va_cpy (C_lost p.2) (C_lost p.1) 0 0 10)) (va_cpy (C_kind p.2) (C_kind p.1) 0 0 8)) (va_cpy (C_load p.2) (C_load p.1) 0 0 8)) (va_cpy (C_sort p.2) (C_sort p.1) 0 0 8)) (va_cpy (C_at p.2) (C_at p.1) 0 0 8), p.2)) rfl ?_
  refine g_aload_n (pc := 104) C d_C_copyFrom_104 1 rfl rfl ?_
  refine fCC2_bound (pc := 105) C lk_C_33 d_C_copyFrom_105 ?_
  refine g_iconst (pc := 108) C (v := 0) d_C_copyFrom_108 (by decide) ?_
  refine g_aload_n (pc := 109) C d_C_copyFrom_109 0 rfl rfl ?_
  refine fCC1_bound (pc := 110) C lk_C_33 d_C_copyFrom_110 ?_
  refine g_iconst (pc := 113) C (v := 0) d_C_copyFrom_113 (by decide) ?_
  refine g_bipush (pc := 114) C (v := 8) d_C_copyFrom_114 (by decide) ?_
  refine g_copyi (pc := 116) C 17 8 (f := C_bound p.2) (g := C_bound p.1) lk_C_52 d_C_copyFrom_116 rfl rfl (by decide) (by decide) ⟨Nat.le_of_ble_eq_true rfl, Nat.le_of_ble_eq_true rfl⟩ (Nat.le_of_ble_eq_true rfl) (ws' := woCC (xt X) a b (C_bound_ (C_at_ (C_sort_ (C_load_ (C_kind_ (C_lost_ (C_noise_ (C_laws_ p.1 (va_cpy (C_laws p.2) (C_laws p.1) 0 0 4)) (va_cpy (C_noise p.2) (C_noise p.1) 0 0 10)) (va_cpy (C_lost p.2) (C_lost p.1) 0 0 10)) (va_cpy (C_kind p.2) (C_kind p.1) 0 0 8)) (va_cpy (C_load p.2) (C_load p.1) 0 0 8)) (va_cpy (C_sort p.2) (C_sort p.1) 0 0 8)) (va_cpy (C_at p.2) (C_at p.1) 0 0 8)) (va_cpy (C_bound p.2) (C_bound p.1) 0 0 8), p.2)) rfl ?_
  refine g_aload_n (pc := 119) C d_C_copyFrom_119 0 rfl rfl ?_
  refine g_aload_n (pc := 120) C d_C_copyFrom_120 1 rfl rfl ?_
  refine fCC2_count (pc := 121) C lk_C_36 d_C_copyFrom_121 (v := C_count p.2) rfl ?_
  refine pCC1_count (pc := 124) C (c := C_bound_ (C_at_ (C_sort_ (C_load_ (C_kind_ (C_lost_ (C_noise_ (C_laws_ p.1 (va_cpy (C_laws p.2) (C_laws p.1) 0 0 4)) (va_cpy (C_noise p.2) (C_noise p.1) 0 0 10)) (va_cpy (C_lost p.2) (C_lost p.1) 0 0 10)) (va_cpy (C_kind p.2) (C_kind p.1) 0 0 8)) (va_cpy (C_load p.2) (C_load p.1) 0 0 8)) (va_cpy (C_sort p.2) (C_sort p.1) 0 0 8)) (va_cpy (C_at p.2) (C_at p.1) 0 0 8)) (va_cpy (C_bound p.2) (C_bound p.1) 0 0 8)) rfl lk_C_36 d_C_copyFrom_124   ?_
  refine g_aload_n (pc := 127) C d_C_copyFrom_127 0 rfl rfl ?_
  refine g_aload_n (pc := 128) C d_C_copyFrom_128 1 rfl rfl ?_
  refine fCC2_hour (pc := 129) C lk_C_40 d_C_copyFrom_129 (v := C_hour p.2) rfl ?_
  refine pCC1_hour (pc := 132) C (c := C_count_ (C_bound_ (C_at_ (C_sort_ (C_load_ (C_kind_ (C_lost_ (C_noise_ (C_laws_ p.1 (va_cpy (C_laws p.2) (C_laws p.1) 0 0 4)) (va_cpy (C_noise p.2) (C_noise p.1) 0 0 10)) (va_cpy (C_lost p.2) (C_lost p.1) 0 0 10)) (va_cpy (C_kind p.2) (C_kind p.1) 0 0 8)) (va_cpy (C_load p.2) (C_load p.1) 0 0 8)) (va_cpy (C_sort p.2) (C_sort p.1) 0 0 8)) (va_cpy (C_at p.2) (C_at p.1) 0 0 8)) (va_cpy (C_bound p.2) (C_bound p.1) 0 0 8)) (C_count p.2)) rfl lk_C_40 d_C_copyFrom_132   ?_
  refine g_aload_n (pc := 135) C d_C_copyFrom_135 0 rfl rfl ?_
  refine g_aload_n (pc := 136) C d_C_copyFrom_136 1 rfl rfl ?_
  refine fCC2_z (pc := 137) C lk_C_43 d_C_copyFrom_137 (v := C_z p.2) rfl ?_
  refine pCC1_z (pc := 140) C (c := C_hour_ (C_count_ (C_bound_ (C_at_ (C_sort_ (C_load_ (C_kind_ (C_lost_ (C_noise_ (C_laws_ p.1 (va_cpy (C_laws p.2) (C_laws p.1) 0 0 4)) (va_cpy (C_noise p.2) (C_noise p.1) 0 0 10)) (va_cpy (C_lost p.2) (C_lost p.1) 0 0 10)) (va_cpy (C_kind p.2) (C_kind p.1) 0 0 8)) (va_cpy (C_load p.2) (C_load p.1) 0 0 8)) (va_cpy (C_sort p.2) (C_sort p.1) 0 0 8)) (va_cpy (C_at p.2) (C_at p.1) 0 0 8)) (va_cpy (C_bound p.2) (C_bound p.1) 0 0 8)) (C_count p.2)) (C_hour p.2)) rfl lk_C_43 d_C_copyFrom_140   ?_
  refine g_aload_n (pc := 143) C d_C_copyFrom_143 0 rfl rfl ?_
  refine g_iconst (pc := 144) C (v := (-1)) d_C_copyFrom_144 (by decide) ?_
  refine pCC1_heldBack (pc := 145) C (c := C_z_ (C_hour_ (C_count_ (C_bound_ (C_at_ (C_sort_ (C_load_ (C_kind_ (C_lost_ (C_noise_ (C_laws_ p.1 (va_cpy (C_laws p.2) (C_laws p.1) 0 0 4)) (va_cpy (C_noise p.2) (C_noise p.1) 0 0 10)) (va_cpy (C_lost p.2) (C_lost p.1) 0 0 10)) (va_cpy (C_kind p.2) (C_kind p.1) 0 0 8)) (va_cpy (C_load p.2) (C_load p.1) 0 0 8)) (va_cpy (C_sort p.2) (C_sort p.1) 0 0 8)) (va_cpy (C_at p.2) (C_at p.1) 0 0 8)) (va_cpy (C_bound p.2) (C_bound p.1) 0 0 8)) (C_count p.2)) (C_hour p.2)) (C_z p.2)) rfl lk_C_46 d_C_copyFrom_145   ?_
  exact g_vret (pc := 148) C q d_C_copyFrom_148 (hq (C_heldBack_ (C_z_ (C_hour_ (C_count_ (C_bound_ (C_at_ (C_sort_ (C_load_ (C_kind_ (C_lost_ (C_noise_ (C_laws_ p.1 (va_cpy (C_laws p.2) (C_laws p.1) 0 0 4)) (va_cpy (C_noise p.2) (C_noise p.1) 0 0 10)) (va_cpy (C_lost p.2) (C_lost p.1) 0 0 10)) (va_cpy (C_kind p.2) (C_kind p.1) 0 0 8)) (va_cpy (C_load p.2) (C_load p.1) 0 0 8)) (va_cpy (C_sort p.2) (C_sort p.1) 0 0 8)) (va_cpy (C_at p.2) (C_at p.1) 0 0 8)) (va_cpy (C_bound p.2) (C_bound p.1) 0 0 8)) (C_count p.2)) (C_hour p.2)) (C_z p.2)) (-1), p.2) hw)
set_option maxRecDepth 20000 in
theorem c_C_copyFrom (l : Launch) (D : va_G) (t : Nat → ClassId) (ev : Nat → Nat) (a b : Nat → Nat) (p : (CSt × CSt)) (post : (CSt × CSt) → Prop) (hw : wp_C_copyFrom p post) : Con l D t ev y_C_copyFrom b_C_copyFrom 2 (none) 1 (woCC t a b (p.1, p.2)) [.ref (a 0), .ref (b 0)] (qV (woCC t a b)  post) :=
  ConR.of (by decide +kernel) (Nat.le_of_ble_eq_true rfl) (fun X el eD et ee C q _ => by subst el; subst eD; subst et; subst ee; exact g_C_copyFrom C q a b p post (fun c1 h => ⟨⟨c1, rfl, rfl, h⟩, rfl⟩) hw)
def wp_C_add (c : CSt) (x1 : Int32) (x2 : Int32) (x3 : Int32) (x4 : Int32) (x5 : Int32) (post : CSt → Prop) : Prop :=
  (((C_count c) < 0) → (post c)) ∧ ((¬ (C_count c) < 0) → ((((C_count c) < 8) → (vp_in (C_count c) 8 ∧ (vp_in (C_count c) 8 ∧ (vp_in (C_count c) 8 ∧ (vp_in (C_count c) 8 ∧ (vp_in (C_count c) 8 ∧ (∀ y6 : Int32, y6 = (C_count c) + 1 → (post (C_count_ (C_bound_ (C_at_ (C_sort_ (C_load_ (C_kind_ c (upd (C_kind c) (C_count c).toNatClampNeg x1)) (upd (C_load c) (C_count c).toNatClampNeg x2)) (upd (C_sort c) (C_count c).toNatClampNeg x3)) (upd (C_at c) (C_count c).toNatClampNeg x4)) (upd (C_bound c) (C_count c).toNatClampNeg x5)) y6))))))))) ∧ ((¬ (C_count c) < 8) → (post c))))
set_option maxRecDepth 20000 in
theorem g_C_add {X : GX} (C : GC X b_C_add R_C 6 (rmd 0)) {Qp : Option Value → va_W → Prop} (q : RC X (none) Qp 0 0) (a : Nat → Nat) (c : CSt) (x1 : Int32) (x2 : Int32) (x3 : Int32) (x4 : Int32) (x5 : Int32) (post : CSt → Prop) (hq : ∀ c1, post c1 → Qp none (woC (xt X) a c1)) (hw : wp_C_add c x1 x2 x3 x4 x5 post) : G X 0 0 (woC (xt X) a c) [(0, .ref (a 0)), (1, .int x1), (2, .int x2), (3, .int x3), (4, .int x4), (5, .int x5)] [] 0 := by
  unfold wp_C_add at hw
  refine g_aload_n (pc := 0) C d_C_add_0 0 rfl rfl ?_
  refine fC_count (pc := 1) C lk_C_36 d_C_add_1 (v := C_count c) rfl ?_
  refine g_if_lt (pc := 4) (tgt := 16) C d_C_add_4 (by decide) (fun h8 => ?_) (fun h8 => ?_)
  · replace hw := hw.1 h8
    exact g_vret (pc := 16) C q d_C_add_16 (hq c hw)
  · replace hw := hw.2 h8
    refine g_aload_n (pc := 7) C d_C_add_7 0 rfl rfl ?_
    refine fC_count (pc := 8) C lk_C_36 d_C_add_8 (v := C_count c) rfl ?_
    refine g_bipush (pc := 11) C (v := 8) d_C_add_11 (by decide) ?_
    refine g_icmp_lt (pc := 13) (tgt := 17) C d_C_add_13 (by decide) (fun h7 => ?_) (fun h7 => ?_)
    · replace hw := hw.1 h7
      refine g_aload_n (pc := 17) C d_C_add_17 0 rfl rfl ?_
      refine fC_kind (pc := 18) C lk_C_21 d_C_add_18 ?_
      refine g_aload_n (pc := 21) C d_C_add_21 0 rfl rfl ?_
      refine fC_count (pc := 22) C lk_C_36 d_C_add_22 (v := C_count c) rfl ?_
      refine g_iload_n (pc := 25) C d_C_add_25 1 rfl rfl ?_
      obtain ⟨h1, hw⟩ := hw
      refine sC_kind (pc := 26) C d_C_add_26 (f := C_kind c) rfl (N0 := (C_count c).toNatClampNeg) rfl h1 ?_
      refine g_aload_n (pc := 27) C d_C_add_27 0 rfl rfl ?_
      refine fC_load (pc := 28) C lk_C_24 d_C_add_28 ?_
      refine g_aload_n (pc := 31) C d_C_add_31 0 rfl rfl ?_
      refine fC_count (pc := 32) C lk_C_36 d_C_add_32 (v := C_count c) rfl ?_
      refine g_iload_n (pc := 35) C d_C_add_35 2 rfl rfl ?_
      obtain ⟨h2, hw⟩ := hw
      refine sC_load (pc := 36) C d_C_add_36 (f := C_load c) rfl (N0 := (C_count c).toNatClampNeg) rfl h2 ?_
      refine g_aload_n (pc := 37) C d_C_add_37 0 rfl rfl ?_
      refine fC_sort (pc := 38) C lk_C_27 d_C_add_38 ?_
      refine g_aload_n (pc := 41) C d_C_add_41 0 rfl rfl ?_
      refine fC_count (pc := 42) C lk_C_36 d_C_add_42 (v := C_count c) rfl ?_
      refine g_iload_n (pc := 45) C d_C_add_45 3 rfl rfl ?_
      obtain ⟨h3, hw⟩ := hw
      refine sC_sort (pc := 46) C d_C_add_46 (f := C_sort c) rfl (N0 := (C_count c).toNatClampNeg) rfl h3 ?_
      refine g_aload_n (pc := 47) C d_C_add_47 0 rfl rfl ?_
      refine fC_at (pc := 48) C lk_C_30 d_C_add_48 ?_
      refine g_aload_n (pc := 51) C d_C_add_51 0 rfl rfl ?_
      refine fC_count (pc := 52) C lk_C_36 d_C_add_52 (v := C_count c) rfl ?_
      refine g_iload (pc := 55) C d_C_add_55 4 rfl ?_
      obtain ⟨h4, hw⟩ := hw
      refine sC_at (pc := 57) C d_C_add_57 (f := C_at c) rfl (N0 := (C_count c).toNatClampNeg) rfl h4 ?_
      refine g_aload_n (pc := 58) C d_C_add_58 0 rfl rfl ?_
      refine fC_bound (pc := 59) C lk_C_33 d_C_add_59 ?_
      refine g_aload_n (pc := 62) C d_C_add_62 0 rfl rfl ?_
      refine fC_count (pc := 63) C lk_C_36 d_C_add_63 (v := C_count c) rfl ?_
      refine g_iload (pc := 66) C d_C_add_66 5 rfl ?_
      obtain ⟨h5, hw⟩ := hw
      refine sC_bound (pc := 68) C d_C_add_68 (f := C_bound c) rfl (N0 := (C_count c).toNatClampNeg) rfl h5 ?_
      refine g_aload_n (pc := 69) C d_C_add_69 0 rfl rfl ?_
      refine g_dup (pc := 70) C d_C_add_70 rfl ?_
      refine fC_count (pc := 71) C lk_C_36 d_C_add_71 (v := C_count c) rfl ?_
      refine g_iconst (pc := 74) C (v := 1) d_C_add_74 (by decide) ?_
      refine g_iadd (pc := 75) C d_C_add_75 ?_
      refine g_topi (fun y6 ey6 => ?_)
      replace hw := hw y6 ey6
      refine pC_count (pc := 76) C lk_C_36 d_C_add_76   ?_
      exact g_vret (pc := 79) C q d_C_add_79 (hq (C_count_ (C_bound_ (C_at_ (C_sort_ (C_load_ (C_kind_ c (upd (C_kind c) (C_count c).toNatClampNeg x1)) (upd (C_load c) (C_count c).toNatClampNeg x2)) (upd (C_sort c) (C_count c).toNatClampNeg x3)) (upd (C_at c) (C_count c).toNatClampNeg x4)) (upd (C_bound c) (C_count c).toNatClampNeg x5)) y6) hw)
    · replace hw := hw.2 h7
      exact g_vret (pc := 16) C q d_C_add_16 (hq c hw)
set_option maxRecDepth 20000 in
theorem c_C_add (l : Launch) (D : va_G) (t : Nat → ClassId) (ev : Nat → Nat) (a : Nat → Nat) (c : CSt) (x1 : Int32) (x2 : Int32) (x3 : Int32) (x4 : Int32) (x5 : Int32) (post : CSt → Prop) (hw : wp_C_add c x1 x2 x3 x4 x5 post) : Con l D t ev y_C_add b_C_add 6 (none) 0 (woC t a c) [.ref (a 0), .int x1, .int x2, .int x3, .int x4, .int x5] (qV (woC t a)  post) :=
  ConR.of (by decide +kernel) (Nat.le_of_ble_eq_true rfl) (fun X el eD et ee C q _ => by subst el; subst eD; subst et; subst ee; exact g_C_add C q a c x1 x2 x3 x4 x5 post (fun c1 h => ⟨⟨c1, rfl, rfl, h⟩, rfl⟩) hw)
def w_C_still_2  (post : CSt → Prop)  : Nat → CSt → Int32 → Int32 → Prop
  | 0, _, _, _ => False
  | n + 1, c, x1, x2 =>
    ((10 ≤ x2) → (post c)) ∧ ((¬ 10 ≤ x2) → (∀ y1 : Int32, y1 = x1 >>> (x2 &&& 31) → (∀ y2 : Int32, y2 = y1 &&& 1 → (((y2 = 1) → (vp_in x2 10 ∧ (∀ y5 : Int32, y5 = x2 + 1 → (w_C_still_2  post  n (C_noise_ c (upd (C_noise c) x2.toNatClampNeg 0)) x1 y5)))) ∧ ((¬ y2 = 1) → (∀ y3 : Int32, y3 = x2 + 1 → (w_C_still_2  post  n c x1 y3)))))))
set_option maxRecDepth 20000 in
theorem j_C_still_2 {X : GX} (C : GC X b_C_still R_C 3 (rmd 0)) {Qp : Option Value → va_W → Prop} (q : RC X (none) Qp 0 0) (a : Nat → Nat)   (post : CSt → Prop) (hq : ∀ c1, post c1 → Qp none (woC (xt X) a c1)) : ∀ (n : Nat) (c : CSt) (x1 : Int32) (x2 : Int32), w_C_still_2  post  n c x1 x2 → G X 0 0 (woC (xt X) a c) [(0, .ref (a 0)), (1, .int x1), (2, .int x2)] [] 2 := by
  intro n
  induction n with
  | zero => intro c x1 x2 hw; exact hw.elim
  | succ n ih =>
    intro c x1 x2 hw
    rw [w_C_still_2] at hw
    refine g_iload_n (pc := 2) C d_C_still_2 2 rfl rfl ?_
    refine g_bipush (pc := 3) C (v := 10) d_C_still_3 (by decide) ?_
    refine g_icmp_ge (pc := 5) (tgt := 30) C d_C_still_5 (by decide) (fun h7 => ?_) (fun h7 => ?_)
    · replace hw := hw.1 h7
      exact g_vret (pc := 30) C q d_C_still_30 (hq c hw)
    · replace hw := hw.2 h7
      refine g_iload_n (pc := 8) C d_C_still_8 1 rfl rfl ?_
      refine g_iload_n (pc := 9) C d_C_still_9 2 rfl rfl ?_
      refine g_ishr (pc := 10) C d_C_still_10 ?_
      refine g_topi (fun y1 ey1 => ?_)
      replace hw := hw y1 ey1
      refine g_iconst (pc := 11) C (v := 1) d_C_still_11 (by decide) ?_
      refine g_iand (pc := 12) C d_C_still_12 ?_
      refine g_topi (fun y2 ey2 => ?_)
      replace hw := hw y2 ey2
      refine g_iconst (pc := 13) C (v := 1) d_C_still_13 (by decide) ?_
      refine g_icmp_ne (pc := 14) (tgt := 24) C d_C_still_14 (by decide) (fun h6 => ?_) (fun h6 => ?_)
      · replace hw := hw.2 h6
        obtain ⟨y3, ey3⟩ : ∃ w, w = x2 + 1 := ⟨_, rfl⟩
        replace hw := hw y3 ey3
        refine g_iinc (pc := 24) C d_C_still_24 2 rfl (v := y3) (by rw [ey3]; rfl) (Nat.le_of_ble_eq_true rfl) (lv' := [(0, .ref (a 0)), (1, .int x1), (2, .int y3)]) rfl ?_
        refine g_goto (pc := 27) (tgt := 2) C d_C_still_27 (by decide) ?_
        exact ih c x1 y3 hw
      · replace hw := hw.1 h6
        refine g_aload_n (pc := 17) C d_C_still_17 0 rfl rfl ?_
        refine fC_noise (pc := 18) C lk_C_15 d_C_still_18 ?_
        refine g_iload_n (pc := 21) C d_C_still_21 2 rfl rfl ?_
        refine g_iconst (pc := 22) C (v := 0) d_C_still_22 (by decide) ?_
        obtain ⟨h4, hw⟩ := hw
        refine sC_noise (pc := 23) C d_C_still_23 (f := C_noise c) rfl (N0 := x2.toNatClampNeg) rfl h4 ?_
        obtain ⟨y5, ey5⟩ : ∃ w, w = x2 + 1 := ⟨_, rfl⟩
        replace hw := hw y5 ey5
        refine g_iinc (pc := 24) C d_C_still_24 2 rfl (v := y5) (by rw [ey5]; rfl) (Nat.le_of_ble_eq_true rfl) (lv' := [(0, .ref (a 0)), (1, .int x1), (2, .int y5)]) rfl ?_
        refine g_goto (pc := 27) (tgt := 2) C d_C_still_27 (by decide) ?_
        exact ih (C_noise_ c (upd (C_noise c) x2.toNatClampNeg 0)) x1 y5 hw
def wp_C_still (c : CSt) (x1 : Int32) (post : CSt → Prop) : Prop :=
  w_C_still_2  post  2000 c x1 0
set_option maxRecDepth 20000 in
theorem g_C_still {X : GX} (C : GC X b_C_still R_C 3 (rmd 0)) {Qp : Option Value → va_W → Prop} (q : RC X (none) Qp 0 0) (a : Nat → Nat) (c : CSt) (x1 : Int32) (post : CSt → Prop) (hq : ∀ c1, post c1 → Qp none (woC (xt X) a c1)) (hw : wp_C_still c x1 post) : G X 0 0 (woC (xt X) a c) [(0, .ref (a 0)), (1, .int x1)] [] 0 := by
  unfold wp_C_still at hw
  refine g_iconst (pc := 0) C (v := 0) d_C_still_0 (by decide) ?_
  refine g_istore_n (pc := 1) C d_C_still_1 rfl (Nat.le_of_ble_eq_true rfl) (lv' := [(0, .ref (a 0)), (1, .int x1), (2, .int 0)]) rfl ?_
  exact j_C_still_2 C q a post hq  2000 c x1 0 hw
set_option maxRecDepth 20000 in
theorem c_C_still (l : Launch) (D : va_G) (t : Nat → ClassId) (ev : Nat → Nat) (a : Nat → Nat) (c : CSt) (x1 : Int32) (post : CSt → Prop) (hw : wp_C_still c x1 post) : Con l D t ev y_C_still b_C_still 3 (none) 0 (woC t a c) [.ref (a 0), .int x1] (qV (woC t a)  post) :=
  ConR.of (by decide +kernel) (Nat.le_of_ble_eq_true rfl) (fun X el eD et ee C q _ => by subst el; subst eD; subst et; subst ee; exact g_C_still C q a c x1 post (fun c1 h => ⟨⟨c1, rfl, rfl, h⟩, rfl⟩) hw)
def wp_C_hasLanded (c : CSt) (x1 : Int32) (post : Int32 → CSt → Prop) : Prop :=
  vp_in x1 8 ∧ (vp_in x1 8 ∧ (((((C_at c) x1.toNatClampNeg) = ((C_bound c) x1.toNatClampNeg)) → (post 1 c)) ∧ ((¬ ((C_at c) x1.toNatClampNeg) = ((C_bound c) x1.toNatClampNeg)) → (post 0 c))))
set_option maxRecDepth 20000 in
theorem g_C_hasLanded {X : GX} (C : GC X b_C_hasLanded R_C 2 (rmd 0)) {Qp : Option Value → va_W → Prop} (q : RC X ((some .boolean)) Qp 0 0) (a : Nat → Nat) (c : CSt) (x1 : Int32) (post : Int32 → CSt → Prop) (hq : ∀ v c1, post v c1 → Qp (some (.int v)) (woC (xt X) a c1)) (hw : wp_C_hasLanded c x1 post) : G X 0 0 (woC (xt X) a c) [(0, .ref (a 0)), (1, .int x1)] [] 0 := by
  unfold wp_C_hasLanded at hw
  refine g_aload_n (pc := 0) C d_C_hasLanded_0 0 rfl rfl ?_
  refine fC_at (pc := 1) C lk_C_30 d_C_hasLanded_1 ?_
  refine g_iload_n (pc := 4) C d_C_hasLanded_4 1 rfl rfl ?_
  obtain ⟨h1, hw⟩ := hw
  refine lC_at (pc := 5) C d_C_hasLanded_5 (f := C_at c) rfl (N0 := x1.toNatClampNeg) rfl h1 ?_
  refine g_aload_n (pc := 6) C d_C_hasLanded_6 0 rfl rfl ?_
  refine fC_bound (pc := 7) C lk_C_33 d_C_hasLanded_7 ?_
  refine g_iload_n (pc := 10) C d_C_hasLanded_10 1 rfl rfl ?_
  obtain ⟨h2, hw⟩ := hw
  refine lC_bound (pc := 11) C d_C_hasLanded_11 (f := C_bound c) rfl (N0 := x1.toNatClampNeg) rfl h2 ?_
  refine g_icmp_ne (pc := 12) (tgt := 19) C d_C_hasLanded_12 (by decide) (fun h3 => ?_) (fun h3 => ?_)
  · replace hw := hw.2 h3
    refine g_iconst (pc := 19) C (v := 0) d_C_hasLanded_19 (by decide) ?_
    exact g_zret (pc := 20) C q d_C_hasLanded_20 (by decide) (hq _ _ hw)
  · replace hw := hw.1 h3
    refine g_iconst (pc := 15) C (v := 1) d_C_hasLanded_15 (by decide) ?_
    refine g_goto (pc := 16) (tgt := 20) C d_C_hasLanded_16 (by decide) ?_
    exact g_zret (pc := 20) C q d_C_hasLanded_20 (by decide) (hq _ _ hw)
set_option maxRecDepth 20000 in
theorem c_C_hasLanded (l : Launch) (D : va_G) (t : Nat → ClassId) (ev : Nat → Nat) (a : Nat → Nat) (c : CSt) (x1 : Int32) (post : Int32 → CSt → Prop) (hw : wp_C_hasLanded c x1 post) : Con l D t ev y_C_hasLanded b_C_hasLanded 2 ((some .boolean)) 0 (woC t a c) [.ref (a 0), .int x1] (qI (woC t a)  post) :=
  ConR.of (by decide +kernel) (Nat.le_of_ble_eq_true rfl) (fun X el eD et ee C q _ => by subst el; subst eD; subst et; subst ee; exact g_C_hasLanded C q a c x1 post (fun v c1 h => ⟨⟨v, c1, rfl, rfl, h⟩, rfl⟩) hw)
def w_C_landedSet_4  (post : Int32 → CSt → Prop)  : Nat → CSt → Int32 → Int32 → Prop
  | 0, _, _, _ => False
  | n + 1, c, x1, x2 =>
    (((C_count c) ≤ x2) → (post x1 c)) ∧ ((¬ (C_count c) ≤ x2) → (((8 ≤ x2) → (post x1 c)) ∧ ((¬ 8 ≤ x2) → (wp_C_hasLanded c x2 (fun v1 c_2 => ((v1 = 0) → (∀ y3 : Int32, y3 = x2 + 1 → (w_C_landedSet_4  post  n c_2 x1 y3))) ∧ ((¬ v1 = 0) → (∀ y4 : Int32, y4 = x1 ||| (1 <<< (x2 &&& 31)) → (∀ y5 : Int32, y5 = x2 + 1 → (w_C_landedSet_4  post  n c_2 y4 y5)))))))))
set_option maxRecDepth 20000 in
theorem j_C_landedSet_4 {X : GX} (C : GC X b_C_landedSet R_C 3 (rmd 1)) {Qp : Option Value → va_W → Prop} (q : RC X ((some .int)) Qp 0 0) (a : Nat → Nat)   (post : Int32 → CSt → Prop) (hq : ∀ v c1, post v c1 → Qp (some (.int v)) (woC (xt X) a c1)) : ∀ (n : Nat) (c : CSt) (x1 : Int32) (x2 : Int32), w_C_landedSet_4  post  n c x1 x2 → G X 0 0 (woC (xt X) a c) [(0, .ref (a 0)), (1, .int x1), (2, .int x2)] [] 4 := by
  intro n
  induction n with
  | zero => intro c x1 x2 hw; exact hw.elim
  | succ n ih =>
    intro c x1 x2 hw
    rw [w_C_landedSet_4] at hw
    refine g_iload_n (pc := 4) C d_C_landedSet_4 2 rfl rfl ?_
    refine g_aload_n (pc := 5) C d_C_landedSet_5 0 rfl rfl ?_
    refine fC_count (pc := 6) C lk_C_36 d_C_landedSet_6 (v := C_count c) rfl ?_
    refine g_icmp_ge (pc := 9) (tgt := 38) C d_C_landedSet_9 (by decide) (fun h8 => ?_) (fun h8 => ?_)
    · replace hw := hw.1 h8
      refine g_iload_n (pc := 38) C d_C_landedSet_38 1 rfl rfl ?_
      exact g_iret (pc := 39) C q d_C_landedSet_39 (hq _ _ hw)
    · replace hw := hw.2 h8
      refine g_iload_n (pc := 12) C d_C_landedSet_12 2 rfl rfl ?_
      refine g_bipush (pc := 13) C (v := 8) d_C_landedSet_13 (by decide) ?_
      refine g_icmp_ge (pc := 15) (tgt := 38) C d_C_landedSet_15 (by decide) (fun h7 => ?_) (fun h7 => ?_)
      · replace hw := hw.1 h7
        refine g_iload_n (pc := 38) C d_C_landedSet_38 1 rfl rfl ?_
        exact g_iret (pc := 39) C q d_C_landedSet_39 (hq _ _ hw)
      · replace hw := hw.2 h7
        refine g_aload_n (pc := 18) C d_C_landedSet_18 0 rfl rfl ?_
        refine g_iload_n (pc := 19) C d_C_landedSet_19 2 rfl rfl ?_
        refine k_Ia (pc := 20) (co_V C (c_C_hasLanded (xl X) (xD X) (xt X) (xv X) a c x2 _ hw) mw_C_hasLanded lk_C_79 d_C_landedSet_20 (List.range _) (all_C _) (all_nd _) (rec_w C 0 1 rfl rfl) rfl rfl ⟨Nat.le_of_ble_eq_true rfl, Nat.le_of_ble_eq_true rfl⟩ ⟨Nat.le_of_ble_eq_true rfl, Nat.le_of_ble_eq_true rfl⟩ (rest := []) rfl rfl (Nat.le_of_ble_eq_true rfl)) (fun v1 c_2 hw => ?_)
        refine g_if_eq (pc := 23) (tgt := 32) C d_C_landedSet_23 (by decide) (fun h6 => ?_) (fun h6 => ?_)
        · replace hw := hw.1 h6
          obtain ⟨y3, ey3⟩ : ∃ w, w = x2 + 1 := ⟨_, rfl⟩
          replace hw := hw y3 ey3
          refine g_iinc (pc := 32) C d_C_landedSet_32 2 rfl (v := y3) (by rw [ey3]; rfl) (Nat.le_of_ble_eq_true rfl) (lv' := [(0, .ref (a 0)), (1, .int x1), (2, .int y3)]) rfl ?_
          refine g_goto (pc := 35) (tgt := 4) C d_C_landedSet_35 (by decide) ?_
          exact ih c_2 x1 y3 hw
        · replace hw := hw.2 h6
          refine g_iload_n (pc := 26) C d_C_landedSet_26 1 rfl rfl ?_
          refine g_iconst (pc := 27) C (v := 1) d_C_landedSet_27 (by decide) ?_
          refine g_iload_n (pc := 28) C d_C_landedSet_28 2 rfl rfl ?_
          refine g_ishl (pc := 29) C d_C_landedSet_29 ?_
          refine g_ior (pc := 30) C d_C_landedSet_30 ?_
          refine g_topi (fun y4 ey4 => ?_)
          replace hw := hw y4 ey4
          refine g_istore_n (pc := 31) C d_C_landedSet_31 rfl (Nat.le_of_ble_eq_true rfl) (lv' := [(0, .ref (a 0)), (1, .int y4), (2, .int x2)]) rfl ?_
          obtain ⟨y5, ey5⟩ : ∃ w, w = x2 + 1 := ⟨_, rfl⟩
          replace hw := hw y5 ey5
          refine g_iinc (pc := 32) C d_C_landedSet_32 2 rfl (v := y5) (by rw [ey5]; rfl) (Nat.le_of_ble_eq_true rfl) (lv' := [(0, .ref (a 0)), (1, .int y4), (2, .int y5)]) rfl ?_
          refine g_goto (pc := 35) (tgt := 4) C d_C_landedSet_35 (by decide) ?_
          exact ih c_2 y4 y5 hw
def wp_C_landedSet (c : CSt) (post : Int32 → CSt → Prop) : Prop :=
  w_C_landedSet_4  post  2000 c 0 0
set_option maxRecDepth 20000 in
theorem g_C_landedSet {X : GX} (C : GC X b_C_landedSet R_C 3 (rmd 1)) {Qp : Option Value → va_W → Prop} (q : RC X ((some .int)) Qp 0 0) (a : Nat → Nat) (c : CSt) (post : Int32 → CSt → Prop) (hq : ∀ v c1, post v c1 → Qp (some (.int v)) (woC (xt X) a c1)) (hw : wp_C_landedSet c post) : G X 0 0 (woC (xt X) a c) [(0, .ref (a 0))] [] 0 := by
  unfold wp_C_landedSet at hw
  refine g_iconst (pc := 0) C (v := 0) d_C_landedSet_0 (by decide) ?_
  refine g_istore_n (pc := 1) C d_C_landedSet_1 rfl (Nat.le_of_ble_eq_true rfl) (lv' := [(0, .ref (a 0)), (1, .int 0)]) rfl ?_
  refine g_iconst (pc := 2) C (v := 0) d_C_landedSet_2 (by decide) ?_
  refine g_istore_n (pc := 3) C d_C_landedSet_3 rfl (Nat.le_of_ble_eq_true rfl) (lv' := [(0, .ref (a 0)), (1, .int 0), (2, .int 0)]) rfl ?_
  exact j_C_landedSet_4 C q a post hq  2000 c 0 0 hw
set_option maxRecDepth 20000 in
theorem c_C_landedSet (l : Launch) (D : va_G) (t : Nat → ClassId) (ev : Nat → Nat) (a : Nat → Nat) (c : CSt) (post : Int32 → CSt → Prop) (hw : wp_C_landedSet c post) : Con l D t ev y_C_landedSet b_C_landedSet 3 ((some .int)) 1 (woC t a c) [.ref (a 0)] (qI (woC t a)  post) :=
  ConR.of (by decide +kernel) (Nat.le_of_ble_eq_true rfl) (fun X el eD et ee C q _ => by subst el; subst eD; subst et; subst ee; exact g_C_landedSet C q a c post (fun v c1 h => ⟨⟨v, c1, rfl, rfl, h⟩, rfl⟩) hw)
def wp_C_allLanded (c : CSt) (post : Int32 → CSt → Prop) : Prop :=
  wp_C_landedSet c (fun v1 c_2 => ∀ y3 : Int32, y3 = 1 <<< ((C_count c_2) &&& 31) → (((v1 = (y3 - 1)) → (post 1 c_2)) ∧ ((¬ v1 = (y3 - 1)) → (post 0 c_2))))
set_option maxRecDepth 20000 in
theorem g_C_allLanded {X : GX} (C : GC X b_C_allLanded R_C 1 (rmd 2)) {Qp : Option Value → va_W → Prop} (q : RC X ((some .boolean)) Qp 0 0) (a : Nat → Nat) (c : CSt) (post : Int32 → CSt → Prop) (hq : ∀ v c1, post v c1 → Qp (some (.int v)) (woC (xt X) a c1)) (hw : wp_C_allLanded c post) : G X 0 0 (woC (xt X) a c) [(0, .ref (a 0))] [] 0 := by
  unfold wp_C_allLanded at hw
  refine g_aload_n (pc := 0) C d_C_allLanded_0 0 rfl rfl ?_
  refine k_Ia (pc := 1) (co_V C (c_C_landedSet (xl X) (xD X) (xt X) (xv X) a c _ hw) mw_C_landedSet lk_C_64 d_C_allLanded_1 (List.range _) (all_C _) (all_nd _) (rec_w C 0 1 rfl rfl) rfl rfl ⟨Nat.le_of_ble_eq_true rfl, Nat.le_of_ble_eq_true rfl⟩ ⟨Nat.le_of_ble_eq_true rfl, Nat.le_of_ble_eq_true rfl⟩ (rest := []) rfl rfl (Nat.le_of_ble_eq_true rfl)) (fun v1 c_2 hw => ?_)
  refine g_iconst (pc := 4) C (v := 1) d_C_allLanded_4 (by decide) ?_
  refine g_aload_n (pc := 5) C d_C_allLanded_5 0 rfl rfl ?_
  refine fC_count (pc := 6) C lk_C_36 d_C_allLanded_6 (v := C_count c_2) rfl ?_
  refine g_ishl (pc := 9) C d_C_allLanded_9 ?_
  refine g_topi (fun y3 ey3 => ?_)
  replace hw := hw y3 ey3
  refine g_iconst (pc := 10) C (v := 1) d_C_allLanded_10 (by decide) ?_
  refine g_isub (pc := 11) C d_C_allLanded_11 ?_
  refine g_icmp_ne (pc := 12) (tgt := 19) C d_C_allLanded_12 (by decide) (fun h4 => ?_) (fun h4 => ?_)
  · replace hw := hw.2 h4
    refine g_iconst (pc := 19) C (v := 0) d_C_allLanded_19 (by decide) ?_
    exact g_zret (pc := 20) C q d_C_allLanded_20 (by decide) (hq _ _ hw)
  · replace hw := hw.1 h4
    refine g_iconst (pc := 15) C (v := 1) d_C_allLanded_15 (by decide) ?_
    refine g_goto (pc := 16) (tgt := 20) C d_C_allLanded_16 (by decide) ?_
    exact g_zret (pc := 20) C q d_C_allLanded_20 (by decide) (hq _ _ hw)
set_option maxRecDepth 20000 in
theorem c_C_allLanded (l : Launch) (D : va_G) (t : Nat → ClassId) (ev : Nat → Nat) (a : Nat → Nat) (c : CSt) (post : Int32 → CSt → Prop) (hw : wp_C_allLanded c post) : Con l D t ev y_C_allLanded b_C_allLanded 1 ((some .boolean)) 2 (woC t a c) [.ref (a 0)] (qI (woC t a)  post) :=
  ConR.of (by decide +kernel) (Nat.le_of_ble_eq_true rfl) (fun X el eD et ee C q _ => by subst el; subst eD; subst et; subst ee; exact g_C_allLanded C q a c post (fun v c1 h => ⟨⟨v, c1, rfl, rfl, h⟩, rfl⟩) hw)
def wp_C_noiseAt (c : CSt) (x1 : Int32) (post : Int32 → CSt → Prop) : Prop :=
  wp_X_isLock x1 (fun v1 => ((v1 = 0) → (post 0 c)) ∧ ((¬ v1 = 0) → (vp_in x1 10 ∧ (post ((C_noise c) x1.toNatClampNeg) c))))
set_option maxRecDepth 20000 in
theorem g_C_noiseAt {X : GX} (C : GC X b_C_noiseAt R_C 2 (rmd 1)) {Qp : Option Value → va_W → Prop} (q : RC X ((some .int)) Qp 0 0) (a : Nat → Nat) (c : CSt) (x1 : Int32) (post : Int32 → CSt → Prop) (hq : ∀ v c1, post v c1 → Qp (some (.int v)) (woC (xt X) a c1)) (hw : wp_C_noiseAt c x1 post) : G X 0 0 (woC (xt X) a c) [(0, .ref (a 0)), (1, .int x1)] [] 0 := by
  unfold wp_C_noiseAt at hw
  refine g_iload_n (pc := 0) C d_C_noiseAt_0 1 rfl rfl ?_
  refine k_I0 (pc := 1) (co_SN C (c_X_isLock (xl X) (xD X) (xt X) (xv X) x1 _ hw) mw_X_isLock lk_C_68 d_C_noiseAt_1 [] rfl (by decide)  rfl rfl ⟨Nat.le_of_ble_eq_true rfl, Nat.le_of_ble_eq_true rfl⟩ ⟨Nat.le_of_ble_eq_true rfl, Nat.le_of_ble_eq_true rfl⟩ (rest := []) rfl rfl (Nat.le_of_ble_eq_true rfl)) (fun v1 hw => ?_)
  refine g_if_eq (pc := 4) (tgt := 16) C d_C_noiseAt_4 (by decide) (fun h3 => ?_) (fun h3 => ?_)
  · replace hw := hw.1 h3
    refine g_iconst (pc := 16) C (v := 0) d_C_noiseAt_16 (by decide) ?_
    exact g_iret (pc := 17) C q d_C_noiseAt_17 (hq _ _ hw)
  · replace hw := hw.2 h3
    refine g_aload_n (pc := 7) C d_C_noiseAt_7 0 rfl rfl ?_
    refine fC_noise (pc := 8) C lk_C_15 d_C_noiseAt_8 ?_
    refine g_iload_n (pc := 11) C d_C_noiseAt_11 1 rfl rfl ?_
    obtain ⟨h2, hw⟩ := hw
    refine lC_noise (pc := 12) C d_C_noiseAt_12 (f := C_noise c) rfl (N0 := x1.toNatClampNeg) rfl h2 ?_
    refine g_goto (pc := 13) (tgt := 17) C d_C_noiseAt_13 (by decide) ?_
    exact g_iret (pc := 17) C q d_C_noiseAt_17 (hq _ _ hw)
set_option maxRecDepth 20000 in
theorem c_C_noiseAt (l : Launch) (D : va_G) (t : Nat → ClassId) (ev : Nat → Nat) (a : Nat → Nat) (c : CSt) (x1 : Int32) (post : Int32 → CSt → Prop) (hw : wp_C_noiseAt c x1 post) : Con l D t ev y_C_noiseAt b_C_noiseAt 2 ((some .int)) 1 (woC t a c) [.ref (a 0), .int x1] (qI (woC t a)  post) :=
  ConR.of (by decide +kernel) (Nat.le_of_ble_eq_true rfl) (fun X el eD et ee C q _ => by subst el; subst eD; subst et; subst ee; exact g_C_noiseAt C q a c x1 post (fun v c1 h => ⟨⟨v, c1, rfl, rfl, h⟩, rfl⟩) hw)
def wp_C_paceOf (c : CSt) (x1 : Int32) (post : Int32 → CSt → Prop) : Prop :=
  vp_in x1 8 ∧ (((((C_kind c) x1.toNatClampNeg) = 2) → (post 2 c)) ∧ ((¬ ((C_kind c) x1.toNatClampNeg) = 2) → (((((C_kind c) x1.toNatClampNeg) = 3) → (post 2 c)) ∧ ((¬ ((C_kind c) x1.toNatClampNeg) = 3) → (((((C_kind c) x1.toNatClampNeg) = 4) → (post (2 - ((C_hour c) &&& 1)) c)) ∧ ((¬ ((C_kind c) x1.toNatClampNeg) = 4) → (((((C_kind c) x1.toNatClampNeg) = 5) → (post (1 + ((C_laws c) 2)) c)) ∧ ((¬ ((C_kind c) x1.toNatClampNeg) = 5) → (post 1 c)))))))))
set_option maxRecDepth 20000 in
theorem g_C_paceOf {X : GX} (C : GC X b_C_paceOf R_C 2 (rmd 0)) {Qp : Option Value → va_W → Prop} (q : RC X ((some .int)) Qp 0 0) (a : Nat → Nat) (c : CSt) (x1 : Int32) (post : Int32 → CSt → Prop) (hq : ∀ v c1, post v c1 → Qp (some (.int v)) (woC (xt X) a c1)) (hw : wp_C_paceOf c x1 post) : G X 0 0 (woC (xt X) a c) [(0, .ref (a 0)), (1, .int x1)] [] 0 := by
  unfold wp_C_paceOf at hw
  refine g_aload_n (pc := 0) C d_C_paceOf_0 0 rfl rfl ?_
  refine fC_kind (pc := 1) C lk_C_21 d_C_paceOf_1 ?_
  refine g_iload_n (pc := 4) C d_C_paceOf_4 1 rfl rfl ?_
  obtain ⟨h1, hw⟩ := hw
  refine lC_kind (pc := 5) C d_C_paceOf_5 (f := C_kind c) rfl (N0 := x1.toNatClampNeg) rfl h1 ?_
  by_cases h2 : ((C_kind c) x1.toNatClampNeg) = 2
  · replace hw := hw.1 h2
    refine g_tabIn (pc := 6) (tgt := 36) C d_C_paceOf_6 (by rw [h2]; decide) (by rw [h2]; decide) (off := 30) (by rw [h2]; rfl) (by decide) ?_
    refine g_iconst (pc := 36) C (v := 2) d_C_paceOf_36 (by decide) ?_
    exact g_iret (pc := 37) C q d_C_paceOf_37 (hq _ _ hw)
  · replace hw := hw.2 h2
    by_cases h3 : ((C_kind c) x1.toNatClampNeg) = 3
    · replace hw := hw.1 h3
      refine g_tabIn (pc := 6) (tgt := 36) C d_C_paceOf_6 (by rw [h3]; decide) (by rw [h3]; decide) (off := 30) (by rw [h3]; rfl) (by decide) ?_
      refine g_iconst (pc := 36) C (v := 2) d_C_paceOf_36 (by decide) ?_
      exact g_iret (pc := 37) C q d_C_paceOf_37 (hq _ _ hw)
    · replace hw := hw.2 h3
      by_cases h4 : ((C_kind c) x1.toNatClampNeg) = 4
      · replace hw := hw.1 h4
        refine g_tabIn (pc := 6) (tgt := 38) C d_C_paceOf_6 (by rw [h4]; decide) (by rw [h4]; decide) (off := 32) (by rw [h4]; rfl) (by decide) ?_
        refine g_iconst (pc := 38) C (v := 2) d_C_paceOf_38 (by decide) ?_
        refine g_aload_n (pc := 39) C d_C_paceOf_39 0 rfl rfl ?_
        refine fC_hour (pc := 40) C lk_C_40 d_C_paceOf_40 (v := C_hour c) rfl ?_
        refine g_iconst (pc := 43) C (v := 1) d_C_paceOf_43 (by decide) ?_
        refine g_iand (pc := 44) C d_C_paceOf_44 ?_
        refine g_isub (pc := 45) C d_C_paceOf_45 ?_
        exact g_iret (pc := 46) C q d_C_paceOf_46 (hq _ _ hw)
      · replace hw := hw.2 h4
        by_cases h5 : ((C_kind c) x1.toNatClampNeg) = 5
        · replace hw := hw.1 h5
          refine g_tabIn (pc := 6) (tgt := 47) C d_C_paceOf_6 (by rw [h5]; decide) (by rw [h5]; decide) (off := 41) (by rw [h5]; rfl) (by decide) ?_
          refine g_iconst (pc := 47) C (v := 1) d_C_paceOf_47 (by decide) ?_
          refine g_aload_n (pc := 48) C d_C_paceOf_48 0 rfl rfl ?_
          refine fC_laws (pc := 49) C lk_C_9 d_C_paceOf_49 ?_
          refine g_iconst (pc := 52) C (v := 2) d_C_paceOf_52 (by decide) ?_
          refine lC_laws (pc := 53) C d_C_paceOf_53 (f := C_laws c) rfl (N0 := 2) (by decide) (by unfold vp_in; decide) ?_
          refine g_iadd (pc := 54) C d_C_paceOf_54 ?_
          exact g_iret (pc := 55) C q d_C_paceOf_55 (hq _ _ hw)
        · replace hw := hw.2 h5
          have h2_ := sw_ne (v := 2) h2 (by decide)
          have h3_ := sw_ne (v := 3) h3 (by decide)
          have h4_ := sw_ne (v := 4) h4 (by decide)
          have h5_ := sw_ne (v := 5) h5 (by decide)
          refine g_tabOut (pc := 6) (tgt := 56) C d_C_paceOf_6 (by omega) (by decide) ?_
          refine g_iconst (pc := 56) C (v := 1) d_C_paceOf_56 (by decide) ?_
          exact g_iret (pc := 57) C q d_C_paceOf_57 (hq _ _ hw)
set_option maxRecDepth 20000 in
theorem c_C_paceOf (l : Launch) (D : va_G) (t : Nat → ClassId) (ev : Nat → Nat) (a : Nat → Nat) (c : CSt) (x1 : Int32) (post : Int32 → CSt → Prop) (hw : wp_C_paceOf c x1 post) : Con l D t ev y_C_paceOf b_C_paceOf 2 ((some .int)) 0 (woC t a c) [.ref (a 0), .int x1] (qI (woC t a)  post) :=
  ConR.of (by decide +kernel) (Nat.le_of_ble_eq_true rfl) (fun X el eD et ee C q _ => by subst el; subst eD; subst et; subst ee; exact g_C_paceOf C q a c x1 post (fun v c1 h => ⟨⟨v, c1, rfl, rfl, h⟩, rfl⟩) hw)
def wp_C_spillOf (c : CSt) (x1 : Int32) (x2 : Int32) (post : Int32 → CSt → Prop) : Prop :=
  vp_in x1 8 ∧ (((((C_kind c) x1.toNatClampNeg) = 1) → (post (x2 / 2) c)) ∧ ((¬ ((C_kind c) x1.toNatClampNeg) = 1) → (((((C_kind c) x1.toNatClampNeg) = 2) → (post (x2 - 1) c)) ∧ ((¬ ((C_kind c) x1.toNatClampNeg) = 2) → (((((C_kind c) x1.toNatClampNeg) = 3) → (∀ y2 : Int32, y2 = x2 / 2 → (post (y2 - ((C_laws c) 1)) c))) ∧ ((¬ ((C_kind c) x1.toNatClampNeg) = 3) → (((((C_kind c) x1.toNatClampNeg) = 4) → (∀ y3 : Int32, y3 = x2 - 1 → (vp_in x1 8 ∧ (post (y3 + (((C_load c) x1.toNatClampNeg) / 10)) c)))) ∧ ((¬ ((C_kind c) x1.toNatClampNeg) = 4) → (((((C_kind c) x1.toNatClampNeg) = 5) → (((((C_hour c) - (C_hour c) / 3 * 3) = 0) → (∀ y5 : Int32, y5 = x2 * 2 → (post y5 c))) ∧ ((¬ ((C_hour c) - (C_hour c) / 3 * 3) = 0) → (post 0 c)))) ∧ ((¬ ((C_kind c) x1.toNatClampNeg) = 5) → (post x2 c)))))))))))
set_option maxRecDepth 20000 in
theorem g_C_spillOf {X : GX} (C : GC X b_C_spillOf R_C 3 (rmd 0)) {Qp : Option Value → va_W → Prop} (q : RC X ((some .int)) Qp 0 0) (a : Nat → Nat) (c : CSt) (x1 : Int32) (x2 : Int32) (post : Int32 → CSt → Prop) (hq : ∀ v c1, post v c1 → Qp (some (.int v)) (woC (xt X) a c1)) (hw : wp_C_spillOf c x1 x2 post) : G X 0 0 (woC (xt X) a c) [(0, .ref (a 0)), (1, .int x1), (2, .int x2)] [] 0 := by
  unfold wp_C_spillOf at hw
  refine g_aload_n (pc := 0) C d_C_spillOf_0 0 rfl rfl ?_
  refine fC_kind (pc := 1) C lk_C_21 d_C_spillOf_1 ?_
  refine g_iload_n (pc := 4) C d_C_spillOf_4 1 rfl rfl ?_
  obtain ⟨h1, hw⟩ := hw
  refine lC_kind (pc := 5) C d_C_spillOf_5 (f := C_kind c) rfl (N0 := x1.toNatClampNeg) rfl h1 ?_
  by_cases h7 : ((C_kind c) x1.toNatClampNeg) = 1
  · replace hw := hw.1 h7
    refine g_tabIn (pc := 6) (tgt := 40) C d_C_spillOf_6 (by rw [h7]; decide) (by rw [h7]; decide) (off := 34) (by rw [h7]; rfl) (by decide) ?_
    refine g_iload_n (pc := 40) C d_C_spillOf_40 2 rfl rfl ?_
    refine g_iconst (pc := 41) C (v := 2) d_C_spillOf_41 (by decide) ?_
    refine g_idiv (pc := 42) C d_C_spillOf_42 (by decide) ?_
    exact g_iret (pc := 43) C q d_C_spillOf_43 (hq _ _ hw)
  · replace hw := hw.2 h7
    by_cases h8 : ((C_kind c) x1.toNatClampNeg) = 2
    · replace hw := hw.1 h8
      refine g_tabIn (pc := 6) (tgt := 55) C d_C_spillOf_6 (by rw [h8]; decide) (by rw [h8]; decide) (off := 49) (by rw [h8]; rfl) (by decide) ?_
      refine g_iload_n (pc := 55) C d_C_spillOf_55 2 rfl rfl ?_
      refine g_iconst (pc := 56) C (v := 1) d_C_spillOf_56 (by decide) ?_
      refine g_isub (pc := 57) C d_C_spillOf_57 ?_
      exact g_iret (pc := 58) C q d_C_spillOf_58 (hq _ _ hw)
    · replace hw := hw.2 h8
      by_cases h9 : ((C_kind c) x1.toNatClampNeg) = 3
      · replace hw := hw.1 h9
        refine g_tabIn (pc := 6) (tgt := 44) C d_C_spillOf_6 (by rw [h9]; decide) (by rw [h9]; decide) (off := 38) (by rw [h9]; rfl) (by decide) ?_
        refine g_iload_n (pc := 44) C d_C_spillOf_44 2 rfl rfl ?_
        refine g_iconst (pc := 45) C (v := 2) d_C_spillOf_45 (by decide) ?_
        refine g_idiv (pc := 46) C d_C_spillOf_46 (by decide) ?_
        refine g_topi (fun y2 ey2 => ?_)
        replace hw := hw y2 ey2
        refine g_aload_n (pc := 47) C d_C_spillOf_47 0 rfl rfl ?_
        refine fC_laws (pc := 48) C lk_C_9 d_C_spillOf_48 ?_
        refine g_iconst (pc := 51) C (v := 1) d_C_spillOf_51 (by decide) ?_
        refine lC_laws (pc := 52) C d_C_spillOf_52 (f := C_laws c) rfl (N0 := 1) (by decide) (by unfold vp_in; decide) ?_
        refine g_isub (pc := 53) C d_C_spillOf_53 ?_
        exact g_iret (pc := 54) C q d_C_spillOf_54 (hq _ _ hw)
      · replace hw := hw.2 h9
        by_cases h10 : ((C_kind c) x1.toNatClampNeg) = 4
        · replace hw := hw.1 h10
          refine g_tabIn (pc := 6) (tgt := 59) C d_C_spillOf_6 (by rw [h10]; decide) (by rw [h10]; decide) (off := 53) (by rw [h10]; rfl) (by decide) ?_
          refine g_iload_n (pc := 59) C d_C_spillOf_59 2 rfl rfl ?_
          refine g_iconst (pc := 60) C (v := 1) d_C_spillOf_60 (by decide) ?_
          refine g_isub (pc := 61) C d_C_spillOf_61 ?_
          refine g_topi (fun y3 ey3 => ?_)
          replace hw := hw y3 ey3
          refine g_aload_n (pc := 62) C d_C_spillOf_62 0 rfl rfl ?_
          refine fC_load (pc := 63) C lk_C_24 d_C_spillOf_63 ?_
          refine g_iload_n (pc := 66) C d_C_spillOf_66 1 rfl rfl ?_
          obtain ⟨h4, hw⟩ := hw
          refine lC_load (pc := 67) C d_C_spillOf_67 (f := C_load c) rfl (N0 := x1.toNatClampNeg) rfl h4 ?_
          refine g_bipush (pc := 68) C (v := 10) d_C_spillOf_68 (by decide) ?_
          refine g_idiv (pc := 70) C d_C_spillOf_70 (by decide) ?_
          refine g_iadd (pc := 71) C d_C_spillOf_71 ?_
          exact g_iret (pc := 72) C q d_C_spillOf_72 (hq _ _ hw)
        · replace hw := hw.2 h10
          by_cases h11 : ((C_kind c) x1.toNatClampNeg) = 5
          · replace hw := hw.1 h11
            refine g_tabIn (pc := 6) (tgt := 73) C d_C_spillOf_6 (by rw [h11]; decide) (by rw [h11]; decide) (off := 67) (by rw [h11]; rfl) (by decide) ?_
            refine g_aload_n (pc := 73) C d_C_spillOf_73 0 rfl rfl ?_
            refine fC_hour (pc := 74) C lk_C_40 d_C_spillOf_74 (v := C_hour c) rfl ?_
            refine g_iconst (pc := 77) C (v := 3) d_C_spillOf_77 (by decide) ?_
            refine g_irem (pc := 78) C d_C_spillOf_78 (by decide) ?_
            refine g_if_ne (pc := 79) (tgt := 88) C d_C_spillOf_79 (by decide) (fun h6 => ?_) (fun h6 => ?_)
            · replace hw := hw.2 h6
              refine g_iconst (pc := 88) C (v := 0) d_C_spillOf_88 (by decide) ?_
              exact g_iret (pc := 89) C q d_C_spillOf_89 (hq _ _ hw)
            · replace hw := hw.1 h6
              refine g_iload_n (pc := 82) C d_C_spillOf_82 2 rfl rfl ?_
              refine g_iconst (pc := 83) C (v := 2) d_C_spillOf_83 (by decide) ?_
              refine g_imul (pc := 84) C d_C_spillOf_84 ?_
              refine g_topi (fun y5 ey5 => ?_)
              replace hw := hw y5 ey5
              refine g_goto (pc := 85) (tgt := 89) C d_C_spillOf_85 (by decide) ?_
              exact g_iret (pc := 89) C q d_C_spillOf_89 (hq _ _ hw)
          · replace hw := hw.2 h11
            have h7_ := sw_ne (v := 1) h7 (by decide)
            have h8_ := sw_ne (v := 2) h8 (by decide)
            have h9_ := sw_ne (v := 3) h9 (by decide)
            have h10_ := sw_ne (v := 4) h10 (by decide)
            have h11_ := sw_ne (v := 5) h11 (by decide)
            refine g_tabOut (pc := 6) (tgt := 90) C d_C_spillOf_6 (by omega) (by decide) ?_
            refine g_iload_n (pc := 90) C d_C_spillOf_90 2 rfl rfl ?_
            exact g_iret (pc := 91) C q d_C_spillOf_91 (hq _ _ hw)
set_option maxRecDepth 20000 in
theorem c_C_spillOf (l : Launch) (D : va_G) (t : Nat → ClassId) (ev : Nat → Nat) (a : Nat → Nat) (c : CSt) (x1 : Int32) (x2 : Int32) (post : Int32 → CSt → Prop) (hw : wp_C_spillOf c x1 x2 post) : Con l D t ev y_C_spillOf b_C_spillOf 3 ((some .int)) 0 (woC t a c) [.ref (a 0), .int x1, .int x2] (qI (woC t a)  post) :=
  ConR.of (by decide +kernel) (Nat.le_of_ble_eq_true rfl) (fun X el eD et ee C q _ => by subst el; subst eD; subst et; subst ee; exact g_C_spillOf C q a c x1 x2 post (fun v c1 h => ⟨⟨v, c1, rfl, rfl, h⟩, rfl⟩) hw)
def wp_C_spill (c : CSt) (x1 : Int32) (x2 : Int32) (x3 : Int32) (post : CSt → Prop) : Prop :=
  vp_in x1 8 ∧ (∀ y2 : Int32, y2 = ((C_load c) x1.toNatClampNeg) - x3 → (wp_X_heldLoad y2 (fun v3 => vp_in x1 8 ∧ (vp_in x1 8 ∧ (((((C_load c) x1.toNatClampNeg) ≤ ((upd (C_load c) x1.toNatClampNeg v3) x1.toNatClampNeg)) → (post (C_load_ c (upd (C_load c) x1.toNatClampNeg v3)))) ∧ ((¬ ((C_load c) x1.toNatClampNeg) ≤ ((upd (C_load c) x1.toNatClampNeg v3) x1.toNatClampNeg)) → (wp_X_isLock x2 (fun v6 => ((v6 = 0) → (post (C_load_ c (upd (C_load c) x1.toNatClampNeg v3)))) ∧ ((¬ v6 = 0) → (vp_in x2 10 ∧ (∀ y8 : Int32, y8 = ((C_lost c) x2.toNatClampNeg) + ((C_load c) x1.toNatClampNeg) → (vp_in x1 8 ∧ (∀ y10 : Int32, y10 = y8 - ((upd (C_load c) x1.toNatClampNeg v3) x1.toNatClampNeg) → (vp_in x2 10 ∧ (post (C_lost_ (C_load_ c (upd (C_load c) x1.toNatClampNeg v3)) (upd (C_lost c) x2.toNatClampNeg (if y10 < 9999 then y10 else 9999))))))))))))))))))
set_option maxRecDepth 20000 in
theorem g_C_spill {X : GX} (C : GC X b_C_spill R_C 5 (rmd 1)) {Qp : Option Value → va_W → Prop} (q : RC X (none) Qp 0 0) (a : Nat → Nat) (c : CSt) (x1 : Int32) (x2 : Int32) (x3 : Int32) (post : CSt → Prop) (hq : ∀ c1, post c1 → Qp none (woC (xt X) a c1)) (hw : wp_C_spill c x1 x2 x3 post) : G X 0 0 (woC (xt X) a c) [(0, .ref (a 0)), (1, .int x1), (2, .int x2), (3, .int x3)] [] 0 := by
  unfold wp_C_spill at hw
  refine g_aload_n (pc := 0) C d_C_spill_0 0 rfl rfl ?_
  refine fC_load (pc := 1) C lk_C_24 d_C_spill_1 ?_
  refine g_iload_n (pc := 4) C d_C_spill_4 1 rfl rfl ?_
  obtain ⟨h1, hw⟩ := hw
  refine lC_load (pc := 5) C d_C_spill_5 (f := C_load c) rfl (N0 := x1.toNatClampNeg) rfl h1 ?_
  refine g_istore (pc := 6) C d_C_spill_6 (Nat.le_of_ble_eq_true rfl) (lv' := [(0, .ref (a 0)), (1, .int x1), (2, .int x2), (3, .int x3), (4, .int ((C_load c) x1.toNatClampNeg))]) rfl ?_
  refine g_aload_n (pc := 8) C d_C_spill_8 0 rfl rfl ?_
  refine fC_load (pc := 9) C lk_C_24 d_C_spill_9 ?_
  refine g_iload_n (pc := 12) C d_C_spill_12 1 rfl rfl ?_
  refine g_iload (pc := 13) C d_C_spill_13 4 rfl ?_
  refine g_iload_n (pc := 15) C d_C_spill_15 3 rfl rfl ?_
  refine g_isub (pc := 16) C d_C_spill_16 ?_
  refine g_topi (fun y2 ey2 => ?_)
  replace hw := hw y2 ey2
  refine k_I0 (pc := 17) (co_SN C (c_X_heldLoad (xl X) (xD X) (xt X) (xv X) y2 _ hw) mw_X_heldLoad lk_C_104 d_C_spill_17 [] rfl (by decide)  rfl rfl ⟨Nat.le_of_ble_eq_true rfl, Nat.le_of_ble_eq_true rfl⟩ ⟨Nat.le_of_ble_eq_true rfl, Nat.le_of_ble_eq_true rfl⟩ (rest := [.int x1, .ref (a 5)]) rfl rfl (Nat.le_of_ble_eq_true rfl)) (fun v3 hw => ?_)
  obtain ⟨h4, hw⟩ := hw
  refine sC_load (pc := 20) C d_C_spill_20 (f := C_load c) rfl (N0 := x1.toNatClampNeg) rfl h4 ?_
  refine g_aload_n (pc := 21) C d_C_spill_21 0 rfl rfl ?_
  refine fC_load (pc := 22) C lk_C_24 d_C_spill_22 ?_
  refine g_iload_n (pc := 25) C d_C_spill_25 1 rfl rfl ?_
  obtain ⟨h5, hw⟩ := hw
  refine lC_load (pc := 26) C d_C_spill_26 (f := upd (C_load c) x1.toNatClampNeg v3) rfl (N0 := x1.toNatClampNeg) rfl h5 ?_
  refine g_iload (pc := 27) C d_C_spill_27 4 rfl ?_
  refine g_icmp_ge (pc := 29) (tgt := 67) C d_C_spill_29 (by decide) (fun h13 => ?_) (fun h13 => ?_)
  · replace hw := hw.1 h13
    exact g_vret (pc := 67) C q d_C_spill_67 (hq (C_load_ c (upd (C_load c) x1.toNatClampNeg v3)) hw)
  · replace hw := hw.2 h13
    refine g_iload_n (pc := 32) C d_C_spill_32 2 rfl rfl ?_
    refine k_I0 (pc := 33) (co_SN C (c_X_isLock (xl X) (xD X) (xt X) (xv X) x2 _ hw) mw_X_isLock lk_C_68 d_C_spill_33 [] rfl (by decide)  rfl rfl ⟨Nat.le_of_ble_eq_true rfl, Nat.le_of_ble_eq_true rfl⟩ ⟨Nat.le_of_ble_eq_true rfl, Nat.le_of_ble_eq_true rfl⟩ (rest := []) rfl rfl (Nat.le_of_ble_eq_true rfl)) (fun v6 hw => ?_)
    refine g_if_eq (pc := 36) (tgt := 67) C d_C_spill_36 (by decide) (fun h12 => ?_) (fun h12 => ?_)
    · replace hw := hw.1 h12
      exact g_vret (pc := 67) C q d_C_spill_67 (hq (C_load_ c (upd (C_load c) x1.toNatClampNeg v3)) hw)
    · replace hw := hw.2 h12
      refine g_aload_n (pc := 39) C d_C_spill_39 0 rfl rfl ?_
      refine fC_lost (pc := 40) C lk_C_18 d_C_spill_40 ?_
      refine g_iload_n (pc := 43) C d_C_spill_43 2 rfl rfl ?_
      refine g_sipush (pc := 44) C (v := 9999) d_C_spill_44 (by decide) ?_
      refine g_aload_n (pc := 47) C d_C_spill_47 0 rfl rfl ?_
      refine fC_lost (pc := 48) C lk_C_18 d_C_spill_48 ?_
      refine g_iload_n (pc := 51) C d_C_spill_51 2 rfl rfl ?_
      obtain ⟨h7, hw⟩ := hw
      refine lC_lost (pc := 52) C d_C_spill_52 (f := C_lost c) rfl (N0 := x2.toNatClampNeg) rfl h7 ?_
      refine g_iload (pc := 53) C d_C_spill_53 4 rfl ?_
      refine g_iadd (pc := 55) C d_C_spill_55 ?_
      refine g_topi (fun y8 ey8 => ?_)
      replace hw := hw y8 ey8
      refine g_aload_n (pc := 56) C d_C_spill_56 0 rfl rfl ?_
      refine fC_load (pc := 57) C lk_C_24 d_C_spill_57 ?_
      refine g_iload_n (pc := 60) C d_C_spill_60 1 rfl rfl ?_
      obtain ⟨h9, hw⟩ := hw
      refine lC_load (pc := 61) C d_C_spill_61 (f := upd (C_load c) x1.toNatClampNeg v3) rfl (N0 := x1.toNatClampNeg) rfl h9 ?_
      refine g_isub (pc := 62) C d_C_spill_62 ?_
      refine g_topi (fun y10 ey10 => ?_)
      replace hw := hw y10 ey10
      refine g_mmin (pc := 63) C lk_C_107 ⟨Nat.le_of_ble_eq_true rfl, Nat.le_of_ble_eq_true rfl⟩ d_C_spill_63 (Nat.le_of_ble_eq_true rfl) ⟨Nat.le_of_ble_eq_true rfl, Nat.le_of_ble_eq_true rfl⟩ ?_
      obtain ⟨h11, hw⟩ := hw
      refine sC_lost (pc := 66) C d_C_spill_66 (f := C_lost c) rfl (N0 := x2.toNatClampNeg) rfl h11 ?_
      exact g_vret (pc := 67) C q d_C_spill_67 (hq (C_lost_ (C_load_ c (upd (C_load c) x1.toNatClampNeg v3)) (upd (C_lost c) x2.toNatClampNeg (if y10 < 9999 then y10 else 9999))) hw)
set_option maxRecDepth 20000 in
theorem c_C_spill (l : Launch) (D : va_G) (t : Nat → ClassId) (ev : Nat → Nat) (a : Nat → Nat) (c : CSt) (x1 : Int32) (x2 : Int32) (x3 : Int32) (post : CSt → Prop) (hw : wp_C_spill c x1 x2 x3 post) : Con l D t ev y_C_spill b_C_spill 5 (none) 1 (woC t a c) [.ref (a 0), .int x1, .int x2, .int x3] (qV (woC t a)  post) :=
  ConR.of (by decide +kernel) (Nat.le_of_ble_eq_true rfl) (fun X el eD et ee C q _ => by subst el; subst eD; subst et; subst ee; exact g_C_spill C q a c x1 x2 x3 post (fun c1 h => ⟨⟨c1, rfl, rfl, h⟩, rfl⟩) hw)
def w_C_goOn_47  (post : CSt → Prop) (k8 : CSt → Int32 → Int32 → Int32 → Prop) (c : CSt) (x1 : Int32) (x2 : Int32) (x3 : Int32) (s0 : Int32) (s1 : Int32) : Prop :=
  ∀ y8 : Int32, y8 = s0 + s1 → (vp_in x1 8 ∧ (wp_C_noiseAt (C_at_ c (upd (C_at c) x1.toNatClampNeg y8)) y8 (fun v10 c_11 => wp_C_spillOf c_11 x1 v10 (fun v12 c_13 => wp_C_spill c_13 x1 y8 v12 (fun c_14 => ∀ y15 : Int32, y15 = x3 + 1 → (k8 c_14 x1 x2 y15))))))
set_option maxRecDepth 20000 in
theorem j_C_goOn_47 {X : GX} (C : GC X b_C_goOn R_C 5 (rmd 2)) {Qp : Option Value → va_W → Prop} (q : RC X (none) Qp 0 0) (a : Nat → Nat)   (post : CSt → Prop) (hq : ∀ c1, post c1 → Qp none (woC (xt X) a c1)) {k8 : CSt → Int32 → Int32 → Int32 → Prop} (hk8 : ∀ (c : CSt) (x1 : Int32) (x2 : Int32) (x3 : Int32), k8 c x1 x2 x3 → G X 0 0 (woC (xt X) a c) [(0, .ref (a 0)), (1, .int x1), (2, .int x2), (3, .int x3)] [] 8) : ∀ (c : CSt) (x1 : Int32) (x2 : Int32) (x3 : Int32) (s0 : Int32) (s1 : Int32), w_C_goOn_47  post k8 c x1 x2 x3 s0 s1 → G X 0 0 (woC (xt X) a c) [(0, .ref (a 0)), (1, .int x1), (2, .int x2), (3, .int x3)] [.int s1, .int s0] 47 := by
  intro c x1 x2 x3 s0 s1 hw
  unfold w_C_goOn_47 at hw
  refine g_iadd (pc := 47) C d_C_goOn_47 ?_
  refine g_topi (fun y8 ey8 => ?_)
  replace hw := hw y8 ey8
  refine g_istore (pc := 48) C d_C_goOn_48 (Nat.le_of_ble_eq_true rfl) (lv' := [(0, .ref (a 0)), (1, .int x1), (2, .int x2), (3, .int x3), (4, .int y8)]) rfl ?_
  refine g_aload_n (pc := 50) C d_C_goOn_50 0 rfl rfl ?_
  refine fC_at (pc := 51) C lk_C_30 d_C_goOn_51 ?_
  refine g_iload_n (pc := 54) C d_C_goOn_54 1 rfl rfl ?_
  refine g_iload (pc := 55) C d_C_goOn_55 4 rfl ?_
  obtain ⟨h9, hw⟩ := hw
  refine sC_at (pc := 57) C d_C_goOn_57 (f := C_at c) rfl (N0 := x1.toNatClampNeg) rfl h9 ?_
  refine g_aload_n (pc := 58) C d_C_goOn_58 0 rfl rfl ?_
  refine g_iload_n (pc := 59) C d_C_goOn_59 1 rfl rfl ?_
  refine g_iload (pc := 60) C d_C_goOn_60 4 rfl ?_
  refine g_aload_n (pc := 62) C d_C_goOn_62 0 rfl rfl ?_
  refine g_iload_n (pc := 63) C d_C_goOn_63 1 rfl rfl ?_
  refine g_aload_n (pc := 64) C d_C_goOn_64 0 rfl rfl ?_
  refine g_iload (pc := 65) C d_C_goOn_65 4 rfl ?_
  refine k_Ia (pc := 67) (co_V C (c_C_noiseAt (xl X) (xD X) (xt X) (xv X) a (C_at_ c (upd (C_at c) x1.toNatClampNeg y8)) y8 _ hw) mw_C_noiseAt lk_C_93 d_C_goOn_67 (List.range _) (all_C _) (all_nd _) (rec_w C 0 1 rfl rfl) rfl rfl ⟨Nat.le_of_ble_eq_true rfl, Nat.le_of_ble_eq_true rfl⟩ ⟨Nat.le_of_ble_eq_true rfl, Nat.le_of_ble_eq_true rfl⟩ (rest := [.int x1, .ref (a 0), .int y8, .int x1, .ref (a 0)]) rfl rfl (Nat.le_of_ble_eq_true rfl)) (fun v10 c_11 hw => ?_)
  refine k_Ia (pc := 70) (co_V C (c_C_spillOf (xl X) (xD X) (xt X) (xv X) a c_11 x1 v10 _ hw) mw_C_spillOf lk_C_96 d_C_goOn_70 (List.range _) (all_C _) (all_nd _) (rec_w C 0 1 rfl rfl) rfl rfl ⟨Nat.le_of_ble_eq_true rfl, Nat.le_of_ble_eq_true rfl⟩ ⟨Nat.le_of_ble_eq_true rfl, Nat.le_of_ble_eq_true rfl⟩ (rest := [.int y8, .int x1, .ref (a 0)]) rfl rfl (Nat.le_of_ble_eq_true rfl)) (fun v12 c_13 hw => ?_)
  refine k_Va (pc := 73) (co_V C (c_C_spill (xl X) (xD X) (xt X) (xv X) a c_13 x1 y8 v12 _ hw) mw_C_spill lk_C_100 d_C_goOn_73 (List.range _) (all_C _) (all_nd _) (rec_w C 0 1 rfl rfl) rfl rfl ⟨Nat.le_of_ble_eq_true rfl, Nat.le_of_ble_eq_true rfl⟩ ⟨Nat.le_of_ble_eq_true rfl, Nat.le_of_ble_eq_true rfl⟩ (rest := []) rfl rfl (Nat.le_of_ble_eq_true rfl)) (fun c_14 hw => ?_)
  obtain ⟨y15, ey15⟩ : ∃ w, w = x3 + 1 := ⟨_, rfl⟩
  replace hw := hw y15 ey15
  refine g_iinc (pc := 76) C d_C_goOn_76 3 rfl (v := y15) (by rw [ey15]; rfl) (Nat.le_of_ble_eq_true rfl) (lv' := [(0, .ref (a 0)), (1, .int x1), (2, .int x2), (3, .int y15), (4, .int y8)]) rfl ?_
  refine g_goto (pc := 79) (tgt := 8) C d_C_goOn_79 (by decide) ?_
  refine g_sub [0, 1, 2, 3] (lv' := [(0, .ref (a 0)), (1, .int x1), (2, .int x2), (3, .int y15)]) rfl ?_
  exact hk8 c_14 x1 x2 y15 hw
def w_C_goOn_8  (post : CSt → Prop)  : Nat → CSt → Int32 → Int32 → Int32 → Prop
  | 0, _, _, _, _ => False
  | n + 1, c, x1, x2, x3 =>
    ((x2 ≤ x3) → (post c)) ∧ ((¬ x2 ≤ x3) → (wp_C_hasLanded c x1 (fun v3 c_4 => ((v3 = 0) → (vp_in x1 8 ∧ (vp_in x1 8 ∧ (vp_in x1 8 ∧ (((((C_bound c_4) x1.toNatClampNeg) ≤ ((C_at c_4) x1.toNatClampNeg)) → (w_C_goOn_47  post (w_C_goOn_8  post  n) c_4 x1 x2 x3 ((C_at c_4) x1.toNatClampNeg) (-1))) ∧ ((¬ ((C_bound c_4) x1.toNatClampNeg) ≤ ((C_at c_4) x1.toNatClampNeg)) → (w_C_goOn_47  post (w_C_goOn_8  post  n) c_4 x1 x2 x3 ((C_at c_4) x1.toNatClampNeg) 1))))))) ∧ ((¬ v3 = 0) → (post c_4)))))
set_option maxRecDepth 20000 in
theorem j_C_goOn_8 {X : GX} (C : GC X b_C_goOn R_C 5 (rmd 2)) {Qp : Option Value → va_W → Prop} (q : RC X (none) Qp 0 0) (a : Nat → Nat)   (post : CSt → Prop) (hq : ∀ c1, post c1 → Qp none (woC (xt X) a c1)) : ∀ (n : Nat) (c : CSt) (x1 : Int32) (x2 : Int32) (x3 : Int32), w_C_goOn_8  post  n c x1 x2 x3 → G X 0 0 (woC (xt X) a c) [(0, .ref (a 0)), (1, .int x1), (2, .int x2), (3, .int x3)] [] 8 := by
  intro n
  induction n with
  | zero => intro c x1 x2 x3 hw; exact hw.elim
  | succ n ih =>
    intro c x1 x2 x3 hw
    rw [w_C_goOn_8] at hw
    refine g_iload_n (pc := 8) C d_C_goOn_8 3 rfl rfl ?_
    refine g_iload_n (pc := 9) C d_C_goOn_9 2 rfl rfl ?_
    refine g_icmp_ge (pc := 10) (tgt := 82) C d_C_goOn_10 (by decide) (fun h18 => ?_) (fun h18 => ?_)
    · replace hw := hw.1 h18
      exact g_vret (pc := 82) C q d_C_goOn_82 (hq c hw)
    · replace hw := hw.2 h18
      refine g_aload_n (pc := 13) C d_C_goOn_13 0 rfl rfl ?_
      refine g_iload_n (pc := 14) C d_C_goOn_14 1 rfl rfl ?_
      refine k_Ia (pc := 15) (co_V C (c_C_hasLanded (xl X) (xD X) (xt X) (xv X) a c x1 _ hw) mw_C_hasLanded lk_C_79 d_C_goOn_15 (List.range _) (all_C _) (all_nd _) (rec_w C 0 1 rfl rfl) rfl rfl ⟨Nat.le_of_ble_eq_true rfl, Nat.le_of_ble_eq_true rfl⟩ ⟨Nat.le_of_ble_eq_true rfl, Nat.le_of_ble_eq_true rfl⟩ (rest := []) rfl rfl (Nat.le_of_ble_eq_true rfl)) (fun v3 c_4 hw => ?_)
      refine g_if_ne (pc := 18) (tgt := 82) C d_C_goOn_18 (by decide) (fun h17 => ?_) (fun h17 => ?_)
      · replace hw := hw.2 h17
        exact g_vret (pc := 82) C q d_C_goOn_82 (hq c_4 hw)
      · replace hw := hw.1 h17
        refine g_aload_n (pc := 21) C d_C_goOn_21 0 rfl rfl ?_
        refine fC_at (pc := 22) C lk_C_30 d_C_goOn_22 ?_
        refine g_iload_n (pc := 25) C d_C_goOn_25 1 rfl rfl ?_
        obtain ⟨h5, hw⟩ := hw
        refine lC_at (pc := 26) C d_C_goOn_26 (f := C_at c_4) rfl (N0 := x1.toNatClampNeg) rfl h5 ?_
        refine g_aload_n (pc := 27) C d_C_goOn_27 0 rfl rfl ?_
        refine fC_bound (pc := 28) C lk_C_33 d_C_goOn_28 ?_
        refine g_iload_n (pc := 31) C d_C_goOn_31 1 rfl rfl ?_
        obtain ⟨h6, hw⟩ := hw
        refine lC_bound (pc := 32) C d_C_goOn_32 (f := C_bound c_4) rfl (N0 := x1.toNatClampNeg) rfl h6 ?_
        refine g_aload_n (pc := 33) C d_C_goOn_33 0 rfl rfl ?_
        refine fC_at (pc := 34) C lk_C_30 d_C_goOn_34 ?_
        refine g_iload_n (pc := 37) C d_C_goOn_37 1 rfl rfl ?_
        obtain ⟨h7, hw⟩ := hw
        refine lC_at (pc := 38) C d_C_goOn_38 (f := C_at c_4) rfl (N0 := x1.toNatClampNeg) rfl h7 ?_
        refine g_icmp_le (pc := 39) (tgt := 46) C d_C_goOn_39 (by decide) (fun h16 => ?_) (fun h16 => ?_)
        · replace hw := hw.1 h16
          refine g_iconst (pc := 46) C (v := (-1)) d_C_goOn_46 (by decide) ?_
          exact j_C_goOn_47 C q a post hq ih c_4 x1 x2 x3 ((C_at c_4) x1.toNatClampNeg) (-1) hw
        · replace hw := hw.2 h16
          refine g_iconst (pc := 42) C (v := 1) d_C_goOn_42 (by decide) ?_
          refine g_goto (pc := 43) (tgt := 47) C d_C_goOn_43 (by decide) ?_
          exact j_C_goOn_47 C q a post hq ih c_4 x1 x2 x3 ((C_at c_4) x1.toNatClampNeg) 1 hw
def wp_C_goOn (c : CSt) (x1 : Int32) (post : CSt → Prop) : Prop :=
  wp_C_paceOf c x1 (fun v1 c_2 => w_C_goOn_8  post  2000 c_2 x1 v1 0)
set_option maxRecDepth 20000 in
theorem g_C_goOn {X : GX} (C : GC X b_C_goOn R_C 5 (rmd 2)) {Qp : Option Value → va_W → Prop} (q : RC X (none) Qp 0 0) (a : Nat → Nat) (c : CSt) (x1 : Int32) (post : CSt → Prop) (hq : ∀ c1, post c1 → Qp none (woC (xt X) a c1)) (hw : wp_C_goOn c x1 post) : G X 0 0 (woC (xt X) a c) [(0, .ref (a 0)), (1, .int x1)] [] 0 := by
  unfold wp_C_goOn at hw
  refine g_aload_n (pc := 0) C d_C_goOn_0 0 rfl rfl ?_
  refine g_iload_n (pc := 1) C d_C_goOn_1 1 rfl rfl ?_
  refine k_Ia (pc := 2) (co_V C (c_C_paceOf (xl X) (xD X) (xt X) (xv X) a c x1 _ hw) mw_C_paceOf lk_C_89 d_C_goOn_2 (List.range _) (all_C _) (all_nd _) (rec_w C 0 1 rfl rfl) rfl rfl ⟨Nat.le_of_ble_eq_true rfl, Nat.le_of_ble_eq_true rfl⟩ ⟨Nat.le_of_ble_eq_true rfl, Nat.le_of_ble_eq_true rfl⟩ (rest := []) rfl rfl (Nat.le_of_ble_eq_true rfl)) (fun v1 c_2 hw => ?_)
  refine g_istore_n (pc := 5) C d_C_goOn_5 rfl (Nat.le_of_ble_eq_true rfl) (lv' := [(0, .ref (a 0)), (1, .int x1), (2, .int v1)]) rfl ?_
  refine g_iconst (pc := 6) C (v := 0) d_C_goOn_6 (by decide) ?_
  refine g_istore_n (pc := 7) C d_C_goOn_7 rfl (Nat.le_of_ble_eq_true rfl) (lv' := [(0, .ref (a 0)), (1, .int x1), (2, .int v1), (3, .int 0)]) rfl ?_
  exact j_C_goOn_8 C q a post hq  2000 c_2 x1 v1 0 hw
set_option maxRecDepth 20000 in
theorem c_C_goOn (l : Launch) (D : va_G) (t : Nat → ClassId) (ev : Nat → Nat) (a : Nat → Nat) (c : CSt) (x1 : Int32) (post : CSt → Prop) (hw : wp_C_goOn c x1 post) : Con l D t ev y_C_goOn b_C_goOn 5 (none) 2 (woC t a c) [.ref (a 0), .int x1] (qV (woC t a)  post) :=
  ConR.of (by decide +kernel) (Nat.le_of_ble_eq_true rfl) (fun X el eD et ee C q _ => by subst el; subst eD; subst et; subst ee; exact g_C_goOn C q a c x1 post (fun c1 h => ⟨⟨c1, rfl, rfl, h⟩, rfl⟩) hw)
def w_C_echoWithOthers_9  (post : CSt → Prop)  : Nat → CSt → Int32 → Int32 → Int32 → Prop
  | 0, _, _, _, _ => False
  | n + 1, c, x1, x2, x3 =>
    (((C_count c) ≤ x3) → (post c)) ∧ ((¬ (C_count c) ≤ x3) → (((8 ≤ x3) → (post c)) ∧ ((¬ 8 ≤ x3) → (vp_in x3 8 ∧ (((((C_at c) x3.toNatClampNeg) = x2) → (((x3 = x1) → (∀ y4 : Int32, y4 = x3 + 1 → (w_C_echoWithOthers_9  post  n c x1 x2 y4))) ∧ ((¬ x3 = x1) → (vp_in x3 8 ∧ (vp_in x1 8 ∧ (((((C_sort c) x3.toNatClampNeg) = ((C_sort c) x1.toNatClampNeg)) → (∀ y7 : Int32, y7 = x3 + 1 → (w_C_echoWithOthers_9  post  n c x1 x2 y7))) ∧ ((¬ ((C_sort c) x3.toNatClampNeg) = ((C_sort c) x1.toNatClampNeg)) → (wp_C_hasLanded c x3 (fun v8 c_9 => ((v8 = 0) → (wp_C_spill c_9 x1 x2 ((C_laws c_9) 0) (fun c_11 => wp_C_spill c_11 x3 x2 ((C_laws c_11) 0) (fun c_12 => ∀ y13 : Int32, y13 = x3 + 1 → (w_C_echoWithOthers_9  post  n c_12 x1 x2 y13))))) ∧ ((¬ v8 = 0) → (∀ y10 : Int32, y10 = x3 + 1 → (w_C_echoWithOthers_9  post  n c_9 x1 x2 y10)))))))))))) ∧ ((¬ ((C_at c) x3.toNatClampNeg) = x2) → (∀ y3 : Int32, y3 = x3 + 1 → (w_C_echoWithOthers_9  post  n c x1 x2 y3))))))))
set_option maxRecDepth 20000 in
theorem j_C_echoWithOthers_9 {X : GX} (C : GC X b_C_echoWithOthers R_C 4 (rmd 2)) {Qp : Option Value → va_W → Prop} (q : RC X (none) Qp 0 0) (a : Nat → Nat)   (post : CSt → Prop) (hq : ∀ c1, post c1 → Qp none (woC (xt X) a c1)) : ∀ (n : Nat) (c : CSt) (x1 : Int32) (x2 : Int32) (x3 : Int32), w_C_echoWithOthers_9  post  n c x1 x2 x3 → G X 0 0 (woC (xt X) a c) [(0, .ref (a 0)), (1, .int x1), (2, .int x2), (3, .int x3)] [] 9 := by
  intro n
  induction n with
  | zero => intro c x1 x2 x3 hw; exact hw.elim
  | succ n ih =>
    intro c x1 x2 x3 hw
    rw [w_C_echoWithOthers_9] at hw
    refine g_iload_n (pc := 9) C d_C_echoWithOthers_9 3 rfl rfl ?_
    refine g_aload_n (pc := 10) C d_C_echoWithOthers_10 0 rfl rfl ?_
    refine fC_count (pc := 11) C lk_C_36 d_C_echoWithOthers_11 (v := C_count c) rfl ?_
    refine g_icmp_ge (pc := 14) (tgt := 91) C d_C_echoWithOthers_14 (by decide) (fun h19 => ?_) (fun h19 => ?_)
    · replace hw := hw.1 h19
      exact g_vret (pc := 91) C q d_C_echoWithOthers_91 (hq c hw)
    · replace hw := hw.2 h19
      refine g_iload_n (pc := 17) C d_C_echoWithOthers_17 3 rfl rfl ?_
      refine g_bipush (pc := 18) C (v := 8) d_C_echoWithOthers_18 (by decide) ?_
      refine g_icmp_ge (pc := 20) (tgt := 91) C d_C_echoWithOthers_20 (by decide) (fun h18 => ?_) (fun h18 => ?_)
      · replace hw := hw.1 h18
        exact g_vret (pc := 91) C q d_C_echoWithOthers_91 (hq c hw)
      · replace hw := hw.2 h18
        refine g_aload_n (pc := 23) C d_C_echoWithOthers_23 0 rfl rfl ?_
        refine fC_at (pc := 24) C lk_C_30 d_C_echoWithOthers_24 ?_
        refine g_iload_n (pc := 27) C d_C_echoWithOthers_27 3 rfl rfl ?_
        obtain ⟨h2, hw⟩ := hw
        refine lC_at (pc := 28) C d_C_echoWithOthers_28 (f := C_at c) rfl (N0 := x3.toNatClampNeg) rfl h2 ?_
        refine g_iload_n (pc := 29) C d_C_echoWithOthers_29 2 rfl rfl ?_
        refine g_icmp_ne (pc := 30) (tgt := 85) C d_C_echoWithOthers_30 (by decide) (fun h17 => ?_) (fun h17 => ?_)
        · replace hw := hw.2 h17
          obtain ⟨y3, ey3⟩ : ∃ w, w = x3 + 1 := ⟨_, rfl⟩
          replace hw := hw y3 ey3
          refine g_iinc (pc := 85) C d_C_echoWithOthers_85 3 rfl (v := y3) (by rw [ey3]; rfl) (Nat.le_of_ble_eq_true rfl) (lv' := [(0, .ref (a 0)), (1, .int x1), (2, .int x2), (3, .int y3)]) rfl ?_
          refine g_goto (pc := 88) (tgt := 9) C d_C_echoWithOthers_88 (by decide) ?_
          exact ih c x1 x2 y3 hw
        · replace hw := hw.1 h17
          refine g_iload_n (pc := 33) C d_C_echoWithOthers_33 3 rfl rfl ?_
          refine g_iload_n (pc := 34) C d_C_echoWithOthers_34 1 rfl rfl ?_
          refine g_icmp_eq (pc := 35) (tgt := 85) C d_C_echoWithOthers_35 (by decide) (fun h16 => ?_) (fun h16 => ?_)
          · replace hw := hw.1 h16
            obtain ⟨y4, ey4⟩ : ∃ w, w = x3 + 1 := ⟨_, rfl⟩
            replace hw := hw y4 ey4
            refine g_iinc (pc := 85) C d_C_echoWithOthers_85 3 rfl (v := y4) (by rw [ey4]; rfl) (Nat.le_of_ble_eq_true rfl) (lv' := [(0, .ref (a 0)), (1, .int x1), (2, .int x2), (3, .int y4)]) rfl ?_
            refine g_goto (pc := 88) (tgt := 9) C d_C_echoWithOthers_88 (by decide) ?_
            exact ih c x1 x2 y4 hw
          · replace hw := hw.2 h16
            refine g_aload_n (pc := 38) C d_C_echoWithOthers_38 0 rfl rfl ?_
            refine fC_sort (pc := 39) C lk_C_27 d_C_echoWithOthers_39 ?_
            refine g_iload_n (pc := 42) C d_C_echoWithOthers_42 3 rfl rfl ?_
            obtain ⟨h5, hw⟩ := hw
            refine lC_sort (pc := 43) C d_C_echoWithOthers_43 (f := C_sort c) rfl (N0 := x3.toNatClampNeg) rfl h5 ?_
            refine g_aload_n (pc := 44) C d_C_echoWithOthers_44 0 rfl rfl ?_
            refine fC_sort (pc := 45) C lk_C_27 d_C_echoWithOthers_45 ?_
            refine g_iload_n (pc := 48) C d_C_echoWithOthers_48 1 rfl rfl ?_
            obtain ⟨h6, hw⟩ := hw
            refine lC_sort (pc := 49) C d_C_echoWithOthers_49 (f := C_sort c) rfl (N0 := x1.toNatClampNeg) rfl h6 ?_
            refine g_icmp_eq (pc := 50) (tgt := 85) C d_C_echoWithOthers_50 (by decide) (fun h15 => ?_) (fun h15 => ?_)
            · replace hw := hw.1 h15
              obtain ⟨y7, ey7⟩ : ∃ w, w = x3 + 1 := ⟨_, rfl⟩
              replace hw := hw y7 ey7
              refine g_iinc (pc := 85) C d_C_echoWithOthers_85 3 rfl (v := y7) (by rw [ey7]; rfl) (Nat.le_of_ble_eq_true rfl) (lv' := [(0, .ref (a 0)), (1, .int x1), (2, .int x2), (3, .int y7)]) rfl ?_
              refine g_goto (pc := 88) (tgt := 9) C d_C_echoWithOthers_88 (by decide) ?_
              exact ih c x1 x2 y7 hw
            · replace hw := hw.2 h15
              refine g_aload_n (pc := 53) C d_C_echoWithOthers_53 0 rfl rfl ?_
              refine g_iload_n (pc := 54) C d_C_echoWithOthers_54 3 rfl rfl ?_
              refine k_Ia (pc := 55) (co_V C (c_C_hasLanded (xl X) (xD X) (xt X) (xv X) a c x3 _ hw) mw_C_hasLanded lk_C_79 d_C_echoWithOthers_55 (List.range _) (all_C _) (all_nd _) (rec_w C 0 1 rfl rfl) rfl rfl ⟨Nat.le_of_ble_eq_true rfl, Nat.le_of_ble_eq_true rfl⟩ ⟨Nat.le_of_ble_eq_true rfl, Nat.le_of_ble_eq_true rfl⟩ (rest := []) rfl rfl (Nat.le_of_ble_eq_true rfl)) (fun v8 c_9 hw => ?_)
              refine g_if_ne (pc := 58) (tgt := 85) C d_C_echoWithOthers_58 (by decide) (fun h14 => ?_) (fun h14 => ?_)
              · replace hw := hw.2 h14
                obtain ⟨y10, ey10⟩ : ∃ w, w = x3 + 1 := ⟨_, rfl⟩
                replace hw := hw y10 ey10
                refine g_iinc (pc := 85) C d_C_echoWithOthers_85 3 rfl (v := y10) (by rw [ey10]; rfl) (Nat.le_of_ble_eq_true rfl) (lv' := [(0, .ref (a 0)), (1, .int x1), (2, .int x2), (3, .int y10)]) rfl ?_
                refine g_goto (pc := 88) (tgt := 9) C d_C_echoWithOthers_88 (by decide) ?_
                exact ih c_9 x1 x2 y10 hw
              · replace hw := hw.1 h14
                refine g_aload_n (pc := 61) C d_C_echoWithOthers_61 0 rfl rfl ?_
                refine g_iload_n (pc := 62) C d_C_echoWithOthers_62 1 rfl rfl ?_
                refine g_iload_n (pc := 63) C d_C_echoWithOthers_63 2 rfl rfl ?_
                refine g_aload_n (pc := 64) C d_C_echoWithOthers_64 0 rfl rfl ?_
                refine fC_laws (pc := 65) C lk_C_9 d_C_echoWithOthers_65 ?_
                refine g_iconst (pc := 68) C (v := 0) d_C_echoWithOthers_68 (by decide) ?_
                refine lC_laws (pc := 69) C d_C_echoWithOthers_69 (f := C_laws c_9) rfl (N0 := 0) (by decide) (by unfold vp_in; decide) ?_
                refine k_Va (pc := 70) (co_V C (c_C_spill (xl X) (xD X) (xt X) (xv X) a c_9 x1 x2 ((C_laws c_9) 0) _ hw) mw_C_spill lk_C_100 d_C_echoWithOthers_70 (List.range _) (all_C _) (all_nd _) (rec_w C 0 1 rfl rfl) rfl rfl ⟨Nat.le_of_ble_eq_true rfl, Nat.le_of_ble_eq_true rfl⟩ ⟨Nat.le_of_ble_eq_true rfl, Nat.le_of_ble_eq_true rfl⟩ (rest := []) rfl rfl (Nat.le_of_ble_eq_true rfl)) (fun c_11 hw => ?_)
                refine g_aload_n (pc := 73) C d_C_echoWithOthers_73 0 rfl rfl ?_
                refine g_iload_n (pc := 74) C d_C_echoWithOthers_74 3 rfl rfl ?_
                refine g_iload_n (pc := 75) C d_C_echoWithOthers_75 2 rfl rfl ?_
                refine g_aload_n (pc := 76) C d_C_echoWithOthers_76 0 rfl rfl ?_
                refine fC_laws (pc := 77) C lk_C_9 d_C_echoWithOthers_77 ?_
                refine g_iconst (pc := 80) C (v := 0) d_C_echoWithOthers_80 (by decide) ?_
                refine lC_laws (pc := 81) C d_C_echoWithOthers_81 (f := C_laws c_11) rfl (N0 := 0) (by decide) (by unfold vp_in; decide) ?_
                refine k_Va (pc := 82) (co_V C (c_C_spill (xl X) (xD X) (xt X) (xv X) a c_11 x3 x2 ((C_laws c_11) 0) _ hw) mw_C_spill lk_C_100 d_C_echoWithOthers_82 (List.range _) (all_C _) (all_nd _) (rec_w C 0 1 rfl rfl) rfl rfl ⟨Nat.le_of_ble_eq_true rfl, Nat.le_of_ble_eq_true rfl⟩ ⟨Nat.le_of_ble_eq_true rfl, Nat.le_of_ble_eq_true rfl⟩ (rest := []) rfl rfl (Nat.le_of_ble_eq_true rfl)) (fun c_12 hw => ?_)
                obtain ⟨y13, ey13⟩ : ∃ w, w = x3 + 1 := ⟨_, rfl⟩
                replace hw := hw y13 ey13
                refine g_iinc (pc := 85) C d_C_echoWithOthers_85 3 rfl (v := y13) (by rw [ey13]; rfl) (Nat.le_of_ble_eq_true rfl) (lv' := [(0, .ref (a 0)), (1, .int x1), (2, .int x2), (3, .int y13)]) rfl ?_
                refine g_goto (pc := 88) (tgt := 9) C d_C_echoWithOthers_88 (by decide) ?_
                exact ih c_12 x1 x2 y13 hw
def wp_C_echoWithOthers (c : CSt) (x1 : Int32) (post : CSt → Prop) : Prop :=
  vp_in x1 8 ∧ (w_C_echoWithOthers_9  post  2000 c x1 ((C_at c) x1.toNatClampNeg) 0)
set_option maxRecDepth 20000 in
theorem g_C_echoWithOthers {X : GX} (C : GC X b_C_echoWithOthers R_C 4 (rmd 2)) {Qp : Option Value → va_W → Prop} (q : RC X (none) Qp 0 0) (a : Nat → Nat) (c : CSt) (x1 : Int32) (post : CSt → Prop) (hq : ∀ c1, post c1 → Qp none (woC (xt X) a c1)) (hw : wp_C_echoWithOthers c x1 post) : G X 0 0 (woC (xt X) a c) [(0, .ref (a 0)), (1, .int x1)] [] 0 := by
  unfold wp_C_echoWithOthers at hw
  refine g_aload_n (pc := 0) C d_C_echoWithOthers_0 0 rfl rfl ?_
  refine fC_at (pc := 1) C lk_C_30 d_C_echoWithOthers_1 ?_
  refine g_iload_n (pc := 4) C d_C_echoWithOthers_4 1 rfl rfl ?_
  obtain ⟨h1, hw⟩ := hw
  refine lC_at (pc := 5) C d_C_echoWithOthers_5 (f := C_at c) rfl (N0 := x1.toNatClampNeg) rfl h1 ?_
  refine g_istore_n (pc := 6) C d_C_echoWithOthers_6 rfl (Nat.le_of_ble_eq_true rfl) (lv' := [(0, .ref (a 0)), (1, .int x1), (2, .int ((C_at c) x1.toNatClampNeg))]) rfl ?_
  refine g_iconst (pc := 7) C (v := 0) d_C_echoWithOthers_7 (by decide) ?_
  refine g_istore_n (pc := 8) C d_C_echoWithOthers_8 rfl (Nat.le_of_ble_eq_true rfl) (lv' := [(0, .ref (a 0)), (1, .int x1), (2, .int ((C_at c) x1.toNatClampNeg)), (3, .int 0)]) rfl ?_
  exact j_C_echoWithOthers_9 C q a post hq  2000 c x1 ((C_at c) x1.toNatClampNeg) 0 hw
set_option maxRecDepth 20000 in
theorem c_C_echoWithOthers (l : Launch) (D : va_G) (t : Nat → ClassId) (ev : Nat → Nat) (a : Nat → Nat) (c : CSt) (x1 : Int32) (post : CSt → Prop) (hw : wp_C_echoWithOthers c x1 post) : Con l D t ev y_C_echoWithOthers b_C_echoWithOthers 4 (none) 2 (woC t a c) [.ref (a 0), .int x1] (qV (woC t a)  post) :=
  ConR.of (by decide +kernel) (Nat.le_of_ble_eq_true rfl) (fun X el eD et ee C q _ => by subst el; subst eD; subst et; subst ee; exact g_C_echoWithOthers C q a c x1 post (fun c1 h => ⟨⟨c1, rfl, rfl, h⟩, rfl⟩) hw)
def w_C_passHour_2  (post : CSt → Prop)  : Nat → CSt → Int32 → Prop
  | 0, _, _ => False
  | n + 1, c, x1 =>
    (((C_count c) ≤ x1) → (∀ y1 : Int32, y1 = (C_hour c) + 1 → (post (C_hour_ c y1)))) ∧ ((¬ (C_count c) ≤ x1) → (((8 ≤ x1) → (∀ y2 : Int32, y2 = (C_hour c) + 1 → (post (C_hour_ c y2)))) ∧ ((¬ 8 ≤ x1) → (((x1 = (C_heldBack c)) → (∀ y3 : Int32, y3 = x1 + 1 → (w_C_passHour_2  post  n c y3))) ∧ ((¬ x1 = (C_heldBack c)) → (wp_C_hasLanded c x1 (fun v4 c_5 => ((v4 = 0) → (wp_C_goOn c_5 x1 (fun c_7 => wp_C_echoWithOthers c_7 x1 (fun c_8 => ∀ y9 : Int32, y9 = x1 + 1 → (w_C_passHour_2  post  n c_8 y9))))) ∧ ((¬ v4 = 0) → (∀ y6 : Int32, y6 = x1 + 1 → (w_C_passHour_2  post  n c_5 y6))))))))))
set_option maxRecDepth 20000 in
theorem j_C_passHour_2 {X : GX} (C : GC X b_C_passHour R_C 2 (rmd 3)) {Qp : Option Value → va_W → Prop} (q : RC X (none) Qp 0 0) (a : Nat → Nat)   (post : CSt → Prop) (hq : ∀ c1, post c1 → Qp none (woC (xt X) a c1)) : ∀ (n : Nat) (c : CSt) (x1 : Int32), w_C_passHour_2  post  n c x1 → G X 0 0 (woC (xt X) a c) [(0, .ref (a 0)), (1, .int x1)] [] 2 := by
  intro n
  induction n with
  | zero => intro c x1 hw; exact hw.elim
  | succ n ih =>
    intro c x1 hw
    rw [w_C_passHour_2] at hw
    refine g_iload_n (pc := 2) C d_C_passHour_2 1 rfl rfl ?_
    refine g_aload_n (pc := 3) C d_C_passHour_3 0 rfl rfl ?_
    refine fC_count (pc := 4) C lk_C_36 d_C_passHour_4 (v := C_count c) rfl ?_
    refine g_icmp_ge (pc := 7) (tgt := 48) C d_C_passHour_7 (by decide) (fun h13 => ?_) (fun h13 => ?_)
    · replace hw := hw.1 h13
      refine g_aload_n (pc := 48) C d_C_passHour_48 0 rfl rfl ?_
      refine g_dup (pc := 49) C d_C_passHour_49 rfl ?_
      refine fC_hour (pc := 50) C lk_C_40 d_C_passHour_50 (v := C_hour c) rfl ?_
      refine g_iconst (pc := 53) C (v := 1) d_C_passHour_53 (by decide) ?_
      refine g_iadd (pc := 54) C d_C_passHour_54 ?_
      refine g_topi (fun y1 ey1 => ?_)
      replace hw := hw y1 ey1
      refine pC_hour (pc := 55) C lk_C_40 d_C_passHour_55   ?_
      exact g_vret (pc := 58) C q d_C_passHour_58 (hq (C_hour_ c y1) hw)
    · replace hw := hw.2 h13
      refine g_iload_n (pc := 10) C d_C_passHour_10 1 rfl rfl ?_
      refine g_bipush (pc := 11) C (v := 8) d_C_passHour_11 (by decide) ?_
      refine g_icmp_ge (pc := 13) (tgt := 48) C d_C_passHour_13 (by decide) (fun h12 => ?_) (fun h12 => ?_)
      · replace hw := hw.1 h12
        refine g_aload_n (pc := 48) C d_C_passHour_48 0 rfl rfl ?_
        refine g_dup (pc := 49) C d_C_passHour_49 rfl ?_
        refine fC_hour (pc := 50) C lk_C_40 d_C_passHour_50 (v := C_hour c) rfl ?_
        refine g_iconst (pc := 53) C (v := 1) d_C_passHour_53 (by decide) ?_
        refine g_iadd (pc := 54) C d_C_passHour_54 ?_
        refine g_topi (fun y2 ey2 => ?_)
        replace hw := hw y2 ey2
        refine pC_hour (pc := 55) C lk_C_40 d_C_passHour_55   ?_
        exact g_vret (pc := 58) C q d_C_passHour_58 (hq (C_hour_ c y2) hw)
      · replace hw := hw.2 h12
        refine g_iload_n (pc := 16) C d_C_passHour_16 1 rfl rfl ?_
        refine g_aload_n (pc := 17) C d_C_passHour_17 0 rfl rfl ?_
        refine fC_heldBack (pc := 18) C lk_C_46 d_C_passHour_18 (v := C_heldBack c) rfl ?_
        refine g_icmp_eq (pc := 21) (tgt := 42) C d_C_passHour_21 (by decide) (fun h11 => ?_) (fun h11 => ?_)
        · replace hw := hw.1 h11
          obtain ⟨y3, ey3⟩ : ∃ w, w = x1 + 1 := ⟨_, rfl⟩
          replace hw := hw y3 ey3
          refine g_iinc (pc := 42) C d_C_passHour_42 1 rfl (v := y3) (by rw [ey3]; rfl) (Nat.le_of_ble_eq_true rfl) (lv' := [(0, .ref (a 0)), (1, .int y3)]) rfl ?_
          refine g_goto (pc := 45) (tgt := 2) C d_C_passHour_45 (by decide) ?_
          exact ih c y3 hw
        · replace hw := hw.2 h11
          refine g_aload_n (pc := 24) C d_C_passHour_24 0 rfl rfl ?_
          refine g_iload_n (pc := 25) C d_C_passHour_25 1 rfl rfl ?_
          refine k_Ia (pc := 26) (co_V C (c_C_hasLanded (xl X) (xD X) (xt X) (xv X) a c x1 _ hw) mw_C_hasLanded lk_C_79 d_C_passHour_26 (List.range _) (all_C _) (all_nd _) (rec_w C 0 1 rfl rfl) rfl rfl ⟨Nat.le_of_ble_eq_true rfl, Nat.le_of_ble_eq_true rfl⟩ ⟨Nat.le_of_ble_eq_true rfl, Nat.le_of_ble_eq_true rfl⟩ (rest := []) rfl rfl (Nat.le_of_ble_eq_true rfl)) (fun v4 c_5 hw => ?_)
          refine g_if_ne (pc := 29) (tgt := 42) C d_C_passHour_29 (by decide) (fun h10 => ?_) (fun h10 => ?_)
          · replace hw := hw.2 h10
            obtain ⟨y6, ey6⟩ : ∃ w, w = x1 + 1 := ⟨_, rfl⟩
            replace hw := hw y6 ey6
            refine g_iinc (pc := 42) C d_C_passHour_42 1 rfl (v := y6) (by rw [ey6]; rfl) (Nat.le_of_ble_eq_true rfl) (lv' := [(0, .ref (a 0)), (1, .int y6)]) rfl ?_
            refine g_goto (pc := 45) (tgt := 2) C d_C_passHour_45 (by decide) ?_
            exact ih c_5 y6 hw
          · replace hw := hw.1 h10
            refine g_aload_n (pc := 32) C d_C_passHour_32 0 rfl rfl ?_
            refine g_iload_n (pc := 33) C d_C_passHour_33 1 rfl rfl ?_
            refine k_Va (pc := 34) (co_V C (c_C_goOn (xl X) (xD X) (xt X) (xv X) a c_5 x1 _ hw) mw_C_goOn lk_C_82 d_C_passHour_34 (List.range _) (all_C _) (all_nd _) (rec_w C 0 1 rfl rfl) rfl rfl ⟨Nat.le_of_ble_eq_true rfl, Nat.le_of_ble_eq_true rfl⟩ ⟨Nat.le_of_ble_eq_true rfl, Nat.le_of_ble_eq_true rfl⟩ (rest := []) rfl rfl (Nat.le_of_ble_eq_true rfl)) (fun c_7 hw => ?_)
            refine g_aload_n (pc := 37) C d_C_passHour_37 0 rfl rfl ?_
            refine g_iload_n (pc := 38) C d_C_passHour_38 1 rfl rfl ?_
            refine k_Va (pc := 39) (co_V C (c_C_echoWithOthers (xl X) (xD X) (xt X) (xv X) a c_7 x1 _ hw) mw_C_echoWithOthers lk_C_86 d_C_passHour_39 (List.range _) (all_C _) (all_nd _) (rec_w C 0 1 rfl rfl) rfl rfl ⟨Nat.le_of_ble_eq_true rfl, Nat.le_of_ble_eq_true rfl⟩ ⟨Nat.le_of_ble_eq_true rfl, Nat.le_of_ble_eq_true rfl⟩ (rest := []) rfl rfl (Nat.le_of_ble_eq_true rfl)) (fun c_8 hw => ?_)
            obtain ⟨y9, ey9⟩ : ∃ w, w = x1 + 1 := ⟨_, rfl⟩
            replace hw := hw y9 ey9
            refine g_iinc (pc := 42) C d_C_passHour_42 1 rfl (v := y9) (by rw [ey9]; rfl) (Nat.le_of_ble_eq_true rfl) (lv' := [(0, .ref (a 0)), (1, .int y9)]) rfl ?_
            refine g_goto (pc := 45) (tgt := 2) C d_C_passHour_45 (by decide) ?_
            exact ih c_8 y9 hw
def wp_C_passHour (c : CSt) (post : CSt → Prop) : Prop :=
  w_C_passHour_2  post  2000 c 0
set_option maxRecDepth 20000 in
theorem g_C_passHour {X : GX} (C : GC X b_C_passHour R_C 2 (rmd 3)) {Qp : Option Value → va_W → Prop} (q : RC X (none) Qp 0 0) (a : Nat → Nat) (c : CSt) (post : CSt → Prop) (hq : ∀ c1, post c1 → Qp none (woC (xt X) a c1)) (hw : wp_C_passHour c post) : G X 0 0 (woC (xt X) a c) [(0, .ref (a 0))] [] 0 := by
  unfold wp_C_passHour at hw
  refine g_iconst (pc := 0) C (v := 0) d_C_passHour_0 (by decide) ?_
  refine g_istore_n (pc := 1) C d_C_passHour_1 rfl (Nat.le_of_ble_eq_true rfl) (lv' := [(0, .ref (a 0)), (1, .int 0)]) rfl ?_
  exact j_C_passHour_2 C q a post hq  2000 c 0 hw
set_option maxRecDepth 20000 in
theorem c_C_passHour (l : Launch) (D : va_G) (t : Nat → ClassId) (ev : Nat → Nat) (a : Nat → Nat) (c : CSt) (post : CSt → Prop) (hw : wp_C_passHour c post) : Con l D t ev y_C_passHour b_C_passHour 2 (none) 3 (woC t a c) [.ref (a 0)] (qV (woC t a)  post) :=
  ConR.of (by decide +kernel) (Nat.le_of_ble_eq_true rfl) (fun X el eD et ee C q _ => by subst el; subst eD; subst et; subst ee; exact g_C_passHour C q a c post (fun c1 h => ⟨⟨c1, rfl, rfl, h⟩, rfl⟩) hw)
def w_C_passHours_2  (post : CSt → Prop)  : Nat → CSt → Int32 → Int32 → Prop
  | 0, _, _, _ => False
  | n + 1, c, x1, x2 =>
    ((x1 ≤ x2) → (post c)) ∧ ((¬ x1 ≤ x2) → (wp_C_allLanded c (fun v1 c_2 => ((v1 = 0) → (wp_C_passHour c_2 (fun c_3 => ∀ y4 : Int32, y4 = x2 + 1 → (w_C_passHours_2  post  n c_3 x1 y4)))) ∧ ((¬ v1 = 0) → (∀ y5 : Int32, y5 = (C_hour c_2) + (x1 - x2) → (post (C_hour_ c_2 y5)))))))
set_option maxRecDepth 20000 in
theorem j_C_passHours_2 {X : GX} (C : GC X b_C_passHours R_C 3 (rmd 4)) {Qp : Option Value → va_W → Prop} (q : RC X (none) Qp 0 0) (a : Nat → Nat)   (post : CSt → Prop) (hq : ∀ c1, post c1 → Qp none (woC (xt X) a c1)) : ∀ (n : Nat) (c : CSt) (x1 : Int32) (x2 : Int32), w_C_passHours_2  post  n c x1 x2 → G X 0 0 (woC (xt X) a c) [(0, .ref (a 0)), (1, .int x1), (2, .int x2)] [] 2 := by
  intro n
  induction n with
  | zero => intro c x1 x2 hw; exact hw.elim
  | succ n ih =>
    intro c x1 x2 hw
    rw [w_C_passHours_2] at hw
    refine g_iload_n (pc := 2) C d_C_passHours_2 2 rfl rfl ?_
    refine g_iload_n (pc := 3) C d_C_passHours_3 1 rfl rfl ?_
    refine g_icmp_ge (pc := 4) (tgt := 37) C d_C_passHours_4 (by decide) (fun h7 => ?_) (fun h7 => ?_)
    · replace hw := hw.1 h7
      exact g_vret (pc := 37) C q d_C_passHours_37 (hq c hw)
    · replace hw := hw.2 h7
      refine g_aload_n (pc := 7) C d_C_passHours_7 0 rfl rfl ?_
      refine k_Ia (pc := 8) (co_V C (c_C_allLanded (xl X) (xD X) (xt X) (xv X) a c _ hw) mw_C_allLanded lk_C_72 d_C_passHours_8 (List.range _) (all_C _) (all_nd _) (rec_w C 0 1 rfl rfl) rfl rfl ⟨Nat.le_of_ble_eq_true rfl, Nat.le_of_ble_eq_true rfl⟩ ⟨Nat.le_of_ble_eq_true rfl, Nat.le_of_ble_eq_true rfl⟩ (rest := []) rfl rfl (Nat.le_of_ble_eq_true rfl)) (fun v1 c_2 hw => ?_)
      refine g_if_eq (pc := 11) (tgt := 27) C d_C_passHours_11 (by decide) (fun h6 => ?_) (fun h6 => ?_)
      · replace hw := hw.1 h6
        refine g_aload_n (pc := 27) C d_C_passHours_27 0 rfl rfl ?_
        refine k_Va (pc := 28) (co_V C (c_C_passHour (xl X) (xD X) (xt X) (xv X) a c_2 _ hw) mw_C_passHour lk_C_76 d_C_passHours_28 (List.range _) (all_C _) (all_nd _) (rec_w C 0 1 rfl rfl) rfl rfl ⟨Nat.le_of_ble_eq_true rfl, Nat.le_of_ble_eq_true rfl⟩ ⟨Nat.le_of_ble_eq_true rfl, Nat.le_of_ble_eq_true rfl⟩ (rest := []) rfl rfl (Nat.le_of_ble_eq_true rfl)) (fun c_3 hw => ?_)
        obtain ⟨y4, ey4⟩ : ∃ w, w = x2 + 1 := ⟨_, rfl⟩
        replace hw := hw y4 ey4
        refine g_iinc (pc := 31) C d_C_passHours_31 2 rfl (v := y4) (by rw [ey4]; rfl) (Nat.le_of_ble_eq_true rfl) (lv' := [(0, .ref (a 0)), (1, .int x1), (2, .int y4)]) rfl ?_
        refine g_goto (pc := 34) (tgt := 2) C d_C_passHours_34 (by decide) ?_
        exact ih c_3 x1 y4 hw
      · replace hw := hw.2 h6
        refine g_aload_n (pc := 14) C d_C_passHours_14 0 rfl rfl ?_
        refine g_dup (pc := 15) C d_C_passHours_15 rfl ?_
        refine fC_hour (pc := 16) C lk_C_40 d_C_passHours_16 (v := C_hour c_2) rfl ?_
        refine g_iload_n (pc := 19) C d_C_passHours_19 1 rfl rfl ?_
        refine g_iload_n (pc := 20) C d_C_passHours_20 2 rfl rfl ?_
        refine g_isub (pc := 21) C d_C_passHours_21 ?_
        refine g_iadd (pc := 22) C d_C_passHours_22 ?_
        refine g_topi (fun y5 ey5 => ?_)
        replace hw := hw y5 ey5
        refine pC_hour (pc := 23) C lk_C_40 d_C_passHours_23   ?_
        exact g_vret (pc := 26) C q d_C_passHours_26 (hq (C_hour_ c_2 y5) hw)
def wp_C_passHours (c : CSt) (x1 : Int32) (post : CSt → Prop) : Prop :=
  w_C_passHours_2  post  2000 c x1 0
set_option maxRecDepth 20000 in
theorem g_C_passHours {X : GX} (C : GC X b_C_passHours R_C 3 (rmd 4)) {Qp : Option Value → va_W → Prop} (q : RC X (none) Qp 0 0) (a : Nat → Nat) (c : CSt) (x1 : Int32) (post : CSt → Prop) (hq : ∀ c1, post c1 → Qp none (woC (xt X) a c1)) (hw : wp_C_passHours c x1 post) : G X 0 0 (woC (xt X) a c) [(0, .ref (a 0)), (1, .int x1)] [] 0 := by
  unfold wp_C_passHours at hw
  refine g_iconst (pc := 0) C (v := 0) d_C_passHours_0 (by decide) ?_
  refine g_istore_n (pc := 1) C d_C_passHours_1 rfl (Nat.le_of_ble_eq_true rfl) (lv' := [(0, .ref (a 0)), (1, .int x1), (2, .int 0)]) rfl ?_
  exact j_C_passHours_2 C q a post hq  2000 c x1 0 hw
set_option maxRecDepth 20000 in
theorem c_C_passHours (l : Launch) (D : va_G) (t : Nat → ClassId) (ev : Nat → Nat) (a : Nat → Nat) (c : CSt) (x1 : Int32) (post : CSt → Prop) (hw : wp_C_passHours c x1 post) : Con l D t ev y_C_passHours b_C_passHours 3 (none) 4 (woC t a c) [.ref (a 0), .int x1] (qV (woC t a)  post) :=
  ConR.of (by decide +kernel) (Nat.le_of_ble_eq_true rfl) (fun X el eD et ee C q _ => by subst el; subst eD; subst et; subst ee; exact g_C_passHours C q a c x1 post (fun c1 h => ⟨⟨c1, rfl, rfl, h⟩, rfl⟩) hw)
def wp_C_draw (c : CSt) (post : Int32 → CSt → Prop) : Prop :=
  ∀ y1 : Int32, y1 = (C_z c) * 1103515245 → (∀ y2 : Int32, y2 = y1 + 12345 → (post ((y2.toUInt32 >>> ((16 : Int32).toUInt32 &&& Int32.toUInt32 31)).toInt32) (C_z_ c y2)))
set_option maxRecDepth 20000 in
theorem g_C_draw {X : GX} (C : GC X b_C_draw R_C 1 (rmd 0)) {Qp : Option Value → va_W → Prop} (q : RC X ((some .int)) Qp 0 0) (a : Nat → Nat) (c : CSt) (post : Int32 → CSt → Prop) (hq : ∀ v c1, post v c1 → Qp (some (.int v)) (woC (xt X) a c1)) (hw : wp_C_draw c post) : G X 0 0 (woC (xt X) a c) [(0, .ref (a 0))] [] 0 := by
  unfold wp_C_draw at hw
  refine g_aload_n (pc := 0) C d_C_draw_0 0 rfl rfl ?_
  refine g_aload_n (pc := 1) C d_C_draw_1 0 rfl rfl ?_
  refine fC_z (pc := 2) C lk_C_43 d_C_draw_2 (v := C_z c) rfl ?_
  refine g_ldc (pc := 5) C (v := 1103515245) d_C_draw_5 lk_C_115 ?_
  refine g_imul (pc := 7) C d_C_draw_7 ?_
  refine g_topi (fun y1 ey1 => ?_)
  replace hw := hw y1 ey1
  refine g_sipush (pc := 8) C (v := 12345) d_C_draw_8 (by decide) ?_
  refine g_iadd (pc := 11) C d_C_draw_11 ?_
  refine g_topi (fun y2 ey2 => ?_)
  replace hw := hw y2 ey2
  refine pC_z (pc := 12) C lk_C_43 d_C_draw_12   ?_
  refine g_aload_n (pc := 15) C d_C_draw_15 0 rfl rfl ?_
  refine fC_z (pc := 16) C lk_C_43 d_C_draw_16 (v := y2) rfl ?_
  refine g_bipush (pc := 19) C (v := 16) d_C_draw_19 (by decide) ?_
  refine g_iushr (pc := 21) C d_C_draw_21 ?_
  exact g_iret (pc := 22) C q d_C_draw_22 (hq _ _ hw)
set_option maxRecDepth 20000 in
theorem c_C_draw (l : Launch) (D : va_G) (t : Nat → ClassId) (ev : Nat → Nat) (a : Nat → Nat) (c : CSt) (post : Int32 → CSt → Prop) (hw : wp_C_draw c post) : Con l D t ev y_C_draw b_C_draw 1 ((some .int)) 0 (woC t a c) [.ref (a 0)] (qI (woC t a)  post) :=
  ConR.of (by decide +kernel) (Nat.le_of_ble_eq_true rfl) (fun X el eD et ee C q _ => by subst el; subst eD; subst et; subst ee; exact g_C_draw C q a c post (fun v c1 h => ⟨⟨v, c1, rfl, rfl, h⟩, rfl⟩) hw)
def w_C_passHourByDraws_38  (post : CSt → Prop)  (c : CSt) (x1 : Int32) (s0 : Int32) : Prop :=
  ((s0 = 0) → (wp_C_passHour c (fun c_9 => post c_9))) ∧ ((¬ s0 = 0) → (((x1 < 0) → (wp_C_passHour c (fun c_10 => post c_10))) ∧ ((¬ x1 < 0) → (((8 ≤ x1) → (wp_C_passHour c (fun c_11 => post c_11))) ∧ ((¬ 8 ≤ x1) → (vp_in x1 8 ∧ (∀ y13 : Int32, y13 = ((C_load c) x1.toNatClampNeg) / 2 → (vp_in x1 8 ∧ (wp_C_passHour (C_load_ c (upd (C_load c) x1.toNatClampNeg y13)) (fun c_15 => post c_15))))))))))
set_option maxRecDepth 20000 in
theorem j_C_passHourByDraws_38 {X : GX} (C : GC X b_C_passHourByDraws R_C 3 (rmd 4)) {Qp : Option Value → va_W → Prop} (q : RC X (none) Qp 0 0) (a : Nat → Nat)   (post : CSt → Prop) (hq : ∀ c1, post c1 → Qp none (woC (xt X) a c1)) : ∀ (c : CSt) (x1 : Int32) (s0 : Int32), w_C_passHourByDraws_38  post  c x1 s0 → G X 0 0 (woC (xt X) a c) [(0, .ref (a 0)), (1, .int x1)] [.int s0] 38 := by
  intro c x1 s0 hw
  unfold w_C_passHourByDraws_38 at hw
  refine g_istore_n (pc := 38) C d_C_passHourByDraws_38 rfl (Nat.le_of_ble_eq_true rfl) (lv' := [(0, .ref (a 0)), (1, .int x1), (2, .int s0)]) rfl ?_
  refine g_iload_n (pc := 39) C d_C_passHourByDraws_39 2 rfl rfl ?_
  refine g_if_eq (pc := 40) (tgt := 63) C d_C_passHourByDraws_40 (by decide) (fun h18 => ?_) (fun h18 => ?_)
  · replace hw := hw.1 h18
    refine g_aload_n (pc := 63) C d_C_passHourByDraws_63 0 rfl rfl ?_
    refine k_Va (pc := 64) (co_V C (c_C_passHour (xl X) (xD X) (xt X) (xv X) a c _ hw) mw_C_passHour lk_C_76 d_C_passHourByDraws_64 (List.range _) (all_C _) (all_nd _) (rec_w C 0 1 rfl rfl) rfl rfl ⟨Nat.le_of_ble_eq_true rfl, Nat.le_of_ble_eq_true rfl⟩ ⟨Nat.le_of_ble_eq_true rfl, Nat.le_of_ble_eq_true rfl⟩ (rest := []) rfl rfl (Nat.le_of_ble_eq_true rfl)) (fun c_9 hw => ?_)
    exact g_vret (pc := 67) C q d_C_passHourByDraws_67 (hq c_9 hw)
  · replace hw := hw.2 h18
    refine g_iload_n (pc := 43) C d_C_passHourByDraws_43 1 rfl rfl ?_
    refine g_if_lt (pc := 44) (tgt := 63) C d_C_passHourByDraws_44 (by decide) (fun h17 => ?_) (fun h17 => ?_)
    · replace hw := hw.1 h17
      refine g_aload_n (pc := 63) C d_C_passHourByDraws_63 0 rfl rfl ?_
      refine k_Va (pc := 64) (co_V C (c_C_passHour (xl X) (xD X) (xt X) (xv X) a c _ hw) mw_C_passHour lk_C_76 d_C_passHourByDraws_64 (List.range _) (all_C _) (all_nd _) (rec_w C 0 1 rfl rfl) rfl rfl ⟨Nat.le_of_ble_eq_true rfl, Nat.le_of_ble_eq_true rfl⟩ ⟨Nat.le_of_ble_eq_true rfl, Nat.le_of_ble_eq_true rfl⟩ (rest := []) rfl rfl (Nat.le_of_ble_eq_true rfl)) (fun c_10 hw => ?_)
      exact g_vret (pc := 67) C q d_C_passHourByDraws_67 (hq c_10 hw)
    · replace hw := hw.2 h17
      refine g_iload_n (pc := 47) C d_C_passHourByDraws_47 1 rfl rfl ?_
      refine g_bipush (pc := 48) C (v := 8) d_C_passHourByDraws_48 (by decide) ?_
      refine g_icmp_ge (pc := 50) (tgt := 63) C d_C_passHourByDraws_50 (by decide) (fun h16 => ?_) (fun h16 => ?_)
      · replace hw := hw.1 h16
        refine g_aload_n (pc := 63) C d_C_passHourByDraws_63 0 rfl rfl ?_
        refine k_Va (pc := 64) (co_V C (c_C_passHour (xl X) (xD X) (xt X) (xv X) a c _ hw) mw_C_passHour lk_C_76 d_C_passHourByDraws_64 (List.range _) (all_C _) (all_nd _) (rec_w C 0 1 rfl rfl) rfl rfl ⟨Nat.le_of_ble_eq_true rfl, Nat.le_of_ble_eq_true rfl⟩ ⟨Nat.le_of_ble_eq_true rfl, Nat.le_of_ble_eq_true rfl⟩ (rest := []) rfl rfl (Nat.le_of_ble_eq_true rfl)) (fun c_11 hw => ?_)
        exact g_vret (pc := 67) C q d_C_passHourByDraws_67 (hq c_11 hw)
      · replace hw := hw.2 h16
        refine g_aload_n (pc := 53) C d_C_passHourByDraws_53 0 rfl rfl ?_
        refine fC_load (pc := 54) C lk_C_24 d_C_passHourByDraws_54 ?_
        refine g_iload_n (pc := 57) C d_C_passHourByDraws_57 1 rfl rfl ?_
        refine g_dup2 (pc := 58) C d_C_passHourByDraws_58 rfl rfl ?_
        obtain ⟨h12, hw⟩ := hw
        refine lC_load (pc := 59) C d_C_passHourByDraws_59 (f := C_load c) rfl (N0 := x1.toNatClampNeg) rfl h12 ?_
        refine g_iconst (pc := 60) C (v := 2) d_C_passHourByDraws_60 (by decide) ?_
        refine g_idiv (pc := 61) C d_C_passHourByDraws_61 (by decide) ?_
        refine g_topi (fun y13 ey13 => ?_)
        replace hw := hw y13 ey13
        obtain ⟨h14, hw⟩ := hw
        refine sC_load (pc := 62) C d_C_passHourByDraws_62 (f := C_load c) rfl (N0 := x1.toNatClampNeg) rfl h14 ?_
        refine g_aload_n (pc := 63) C d_C_passHourByDraws_63 0 rfl rfl ?_
        refine k_Va (pc := 64) (co_V C (c_C_passHour (xl X) (xD X) (xt X) (xv X) a (C_load_ c (upd (C_load c) x1.toNatClampNeg y13)) _ hw) mw_C_passHour lk_C_76 d_C_passHourByDraws_64 (List.range _) (all_C _) (all_nd _) (rec_w C 0 1 rfl rfl) rfl rfl ⟨Nat.le_of_ble_eq_true rfl, Nat.le_of_ble_eq_true rfl⟩ ⟨Nat.le_of_ble_eq_true rfl, Nat.le_of_ble_eq_true rfl⟩ (rest := []) rfl rfl (Nat.le_of_ble_eq_true rfl)) (fun c_15 hw => ?_)
        exact g_vret (pc := 67) C q d_C_passHourByDraws_67 (hq c_15 hw)
def wp_C_passHourByDraws (c : CSt) (post : CSt → Prop) : Prop :=
  (((C_count c) ≤ 0) → (wp_C_passHour c (fun c_1 => post c_1))) ∧ ((¬ (C_count c) ≤ 0) → (wp_C_draw c (fun v2 c_3 => ¬ (C_count c_3) = 0 ∧ (∀ y5 : Int32, y5 = v2 - v2 / (C_count c_3) * (C_count c_3) → (wp_C_draw c_3 (fun v6 c_7 => ∀ y8 : Int32, y8 = v6 - v6 / 100 * 100 → (((((C_laws c_7) 3) ≤ y8) → (w_C_passHourByDraws_38  post  c_7 y5 0)) ∧ ((¬ ((C_laws c_7) 3) ≤ y8) → (w_C_passHourByDraws_38  post  c_7 y5 1)))))))))
set_option maxRecDepth 20000 in
theorem g_C_passHourByDraws {X : GX} (C : GC X b_C_passHourByDraws R_C 3 (rmd 4)) {Qp : Option Value → va_W → Prop} (q : RC X (none) Qp 0 0) (a : Nat → Nat) (c : CSt) (post : CSt → Prop) (hq : ∀ c1, post c1 → Qp none (woC (xt X) a c1)) (hw : wp_C_passHourByDraws c post) : G X 0 0 (woC (xt X) a c) [(0, .ref (a 0))] [] 0 := by
  unfold wp_C_passHourByDraws at hw
  refine g_aload_n (pc := 0) C d_C_passHourByDraws_0 0 rfl rfl ?_
  refine fC_count (pc := 1) C lk_C_36 d_C_passHourByDraws_1 (v := C_count c) rfl ?_
  refine g_if_le (pc := 4) (tgt := 63) C d_C_passHourByDraws_4 (by decide) (fun h20 => ?_) (fun h20 => ?_)
  · replace hw := hw.1 h20
    refine g_aload_n (pc := 63) C d_C_passHourByDraws_63 0 rfl rfl ?_
    refine k_Va (pc := 64) (co_V C (c_C_passHour (xl X) (xD X) (xt X) (xv X) a c _ hw) mw_C_passHour lk_C_76 d_C_passHourByDraws_64 (List.range _) (all_C _) (all_nd _) (rec_w C 0 1 rfl rfl) rfl rfl ⟨Nat.le_of_ble_eq_true rfl, Nat.le_of_ble_eq_true rfl⟩ ⟨Nat.le_of_ble_eq_true rfl, Nat.le_of_ble_eq_true rfl⟩ (rest := []) rfl rfl (Nat.le_of_ble_eq_true rfl)) (fun c_1 hw => ?_)
    exact g_vret (pc := 67) C q d_C_passHourByDraws_67 (hq c_1 hw)
  · replace hw := hw.2 h20
    refine g_aload_n (pc := 7) C d_C_passHourByDraws_7 0 rfl rfl ?_
    refine k_Ia (pc := 8) (co_V C (c_C_draw (xl X) (xD X) (xt X) (xv X) a c _ hw) mw_C_draw lk_C_112 d_C_passHourByDraws_8 (List.range _) (all_C _) (all_nd _) (rec_w C 0 1 rfl rfl) rfl rfl ⟨Nat.le_of_ble_eq_true rfl, Nat.le_of_ble_eq_true rfl⟩ ⟨Nat.le_of_ble_eq_true rfl, Nat.le_of_ble_eq_true rfl⟩ (rest := []) rfl rfl (Nat.le_of_ble_eq_true rfl)) (fun v2 c_3 hw => ?_)
    refine g_aload_n (pc := 11) C d_C_passHourByDraws_11 0 rfl rfl ?_
    refine fC_count (pc := 12) C lk_C_36 d_C_passHourByDraws_12 (v := C_count c_3) rfl ?_
    obtain ⟨h4, hw⟩ := hw
    refine g_irem (pc := 15) C d_C_passHourByDraws_15 h4 ?_
    refine g_topi (fun y5 ey5 => ?_)
    replace hw := hw y5 ey5
    refine g_istore_n (pc := 16) C d_C_passHourByDraws_16 rfl (Nat.le_of_ble_eq_true rfl) (lv' := [(0, .ref (a 0)), (1, .int y5)]) rfl ?_
    refine g_aload_n (pc := 17) C d_C_passHourByDraws_17 0 rfl rfl ?_
    refine k_Ia (pc := 18) (co_V C (c_C_draw (xl X) (xD X) (xt X) (xv X) a c_3 _ hw) mw_C_draw lk_C_112 d_C_passHourByDraws_18 (List.range _) (all_C _) (all_nd _) (rec_w C 0 1 rfl rfl) rfl rfl ⟨Nat.le_of_ble_eq_true rfl, Nat.le_of_ble_eq_true rfl⟩ ⟨Nat.le_of_ble_eq_true rfl, Nat.le_of_ble_eq_true rfl⟩ (rest := []) rfl rfl (Nat.le_of_ble_eq_true rfl)) (fun v6 c_7 hw => ?_)
    refine g_bipush (pc := 21) C (v := 100) d_C_passHourByDraws_21 (by decide) ?_
    refine g_irem (pc := 23) C d_C_passHourByDraws_23 (by decide) ?_
    refine g_topi (fun y8 ey8 => ?_)
    replace hw := hw y8 ey8
    refine g_aload_n (pc := 24) C d_C_passHourByDraws_24 0 rfl rfl ?_
    refine fC_laws (pc := 25) C lk_C_9 d_C_passHourByDraws_25 ?_
    refine g_iconst (pc := 28) C (v := 3) d_C_passHourByDraws_28 (by decide) ?_
    refine lC_laws (pc := 29) C d_C_passHourByDraws_29 (f := C_laws c_7) rfl (N0 := 3) (by decide) (by unfold vp_in; decide) ?_
    refine g_icmp_ge (pc := 30) (tgt := 37) C d_C_passHourByDraws_30 (by decide) (fun h19 => ?_) (fun h19 => ?_)
    · replace hw := hw.1 h19
      refine g_iconst (pc := 37) C (v := 0) d_C_passHourByDraws_37 (by decide) ?_
      exact j_C_passHourByDraws_38 C q a post hq  c_7 y5 0 hw
    · replace hw := hw.2 h19
      refine g_iconst (pc := 33) C (v := 1) d_C_passHourByDraws_33 (by decide) ?_
      refine g_goto (pc := 34) (tgt := 38) C d_C_passHourByDraws_34 (by decide) ?_
      exact j_C_passHourByDraws_38 C q a post hq  c_7 y5 1 hw
set_option maxRecDepth 20000 in
theorem c_C_passHourByDraws (l : Launch) (D : va_G) (t : Nat → ClassId) (ev : Nat → Nat) (a : Nat → Nat) (c : CSt) (post : CSt → Prop) (hw : wp_C_passHourByDraws c post) : Con l D t ev y_C_passHourByDraws b_C_passHourByDraws 3 (none) 4 (woC t a c) [.ref (a 0)] (qV (woC t a)  post) :=
  ConR.of (by decide +kernel) (Nat.le_of_ble_eq_true rfl) (fun X el eD et ee C q _ => by subst el; subst eD; subst et; subst ee; exact g_C_passHourByDraws C q a c post (fun c1 h => ⟨⟨c1, rfl, rfl, h⟩, rfl⟩) hw)
def w_C_allLoads_4  (post : Int32 → CSt → Prop)  : Nat → CSt → Int32 → Int32 → Prop
  | 0, _, _, _ => False
  | n + 1, c, x1, x2 =>
    (((C_count c) ≤ x2) → (post x1 c)) ∧ ((¬ (C_count c) ≤ x2) → (((8 ≤ x2) → (post x1 c)) ∧ ((¬ 8 ≤ x2) → (vp_in x2 8 ∧ (∀ y2 : Int32, y2 = x1 + ((C_load c) x2.toNatClampNeg) → (∀ y3 : Int32, y3 = x2 + 1 → (w_C_allLoads_4  post  n c y2 y3)))))))
set_option maxRecDepth 20000 in
theorem j_C_allLoads_4 {X : GX} (C : GC X b_C_allLoads R_C 3 (rmd 0)) {Qp : Option Value → va_W → Prop} (q : RC X ((some .int)) Qp 0 0) (a : Nat → Nat)   (post : Int32 → CSt → Prop) (hq : ∀ v c1, post v c1 → Qp (some (.int v)) (woC (xt X) a c1)) : ∀ (n : Nat) (c : CSt) (x1 : Int32) (x2 : Int32), w_C_allLoads_4  post  n c x1 x2 → G X 0 0 (woC (xt X) a c) [(0, .ref (a 0)), (1, .int x1), (2, .int x2)] [] 4 := by
  intro n
  induction n with
  | zero => intro c x1 x2 hw; exact hw.elim
  | succ n ih =>
    intro c x1 x2 hw
    rw [w_C_allLoads_4] at hw
    refine g_iload_n (pc := 4) C d_C_allLoads_4 2 rfl rfl ?_
    refine g_aload_n (pc := 5) C d_C_allLoads_5 0 rfl rfl ?_
    refine fC_count (pc := 6) C lk_C_36 d_C_allLoads_6 (v := C_count c) rfl ?_
    refine g_icmp_ge (pc := 9) (tgt := 33) C d_C_allLoads_9 (by decide) (fun h5 => ?_) (fun h5 => ?_)
    · replace hw := hw.1 h5
      refine g_iload_n (pc := 33) C d_C_allLoads_33 1 rfl rfl ?_
      exact g_iret (pc := 34) C q d_C_allLoads_34 (hq _ _ hw)
    · replace hw := hw.2 h5
      refine g_iload_n (pc := 12) C d_C_allLoads_12 2 rfl rfl ?_
      refine g_bipush (pc := 13) C (v := 8) d_C_allLoads_13 (by decide) ?_
      refine g_icmp_ge (pc := 15) (tgt := 33) C d_C_allLoads_15 (by decide) (fun h4 => ?_) (fun h4 => ?_)
      · replace hw := hw.1 h4
        refine g_iload_n (pc := 33) C d_C_allLoads_33 1 rfl rfl ?_
        exact g_iret (pc := 34) C q d_C_allLoads_34 (hq _ _ hw)
      · replace hw := hw.2 h4
        refine g_iload_n (pc := 18) C d_C_allLoads_18 1 rfl rfl ?_
        refine g_aload_n (pc := 19) C d_C_allLoads_19 0 rfl rfl ?_
        refine fC_load (pc := 20) C lk_C_24 d_C_allLoads_20 ?_
        refine g_iload_n (pc := 23) C d_C_allLoads_23 2 rfl rfl ?_
        obtain ⟨h1, hw⟩ := hw
        refine lC_load (pc := 24) C d_C_allLoads_24 (f := C_load c) rfl (N0 := x2.toNatClampNeg) rfl h1 ?_
        refine g_iadd (pc := 25) C d_C_allLoads_25 ?_
        refine g_topi (fun y2 ey2 => ?_)
        replace hw := hw y2 ey2
        refine g_istore_n (pc := 26) C d_C_allLoads_26 rfl (Nat.le_of_ble_eq_true rfl) (lv' := [(0, .ref (a 0)), (1, .int y2), (2, .int x2)]) rfl ?_
        obtain ⟨y3, ey3⟩ : ∃ w, w = x2 + 1 := ⟨_, rfl⟩
        replace hw := hw y3 ey3
        refine g_iinc (pc := 27) C d_C_allLoads_27 2 rfl (v := y3) (by rw [ey3]; rfl) (Nat.le_of_ble_eq_true rfl) (lv' := [(0, .ref (a 0)), (1, .int y2), (2, .int y3)]) rfl ?_
        refine g_goto (pc := 30) (tgt := 4) C d_C_allLoads_30 (by decide) ?_
        exact ih c y2 y3 hw
def wp_C_allLoads (c : CSt) (post : Int32 → CSt → Prop) : Prop :=
  w_C_allLoads_4  post  2000 c 0 0
set_option maxRecDepth 20000 in
theorem g_C_allLoads {X : GX} (C : GC X b_C_allLoads R_C 3 (rmd 0)) {Qp : Option Value → va_W → Prop} (q : RC X ((some .int)) Qp 0 0) (a : Nat → Nat) (c : CSt) (post : Int32 → CSt → Prop) (hq : ∀ v c1, post v c1 → Qp (some (.int v)) (woC (xt X) a c1)) (hw : wp_C_allLoads c post) : G X 0 0 (woC (xt X) a c) [(0, .ref (a 0))] [] 0 := by
  unfold wp_C_allLoads at hw
  refine g_iconst (pc := 0) C (v := 0) d_C_allLoads_0 (by decide) ?_
  refine g_istore_n (pc := 1) C d_C_allLoads_1 rfl (Nat.le_of_ble_eq_true rfl) (lv' := [(0, .ref (a 0)), (1, .int 0)]) rfl ?_
  refine g_iconst (pc := 2) C (v := 0) d_C_allLoads_2 (by decide) ?_
  refine g_istore_n (pc := 3) C d_C_allLoads_3 rfl (Nat.le_of_ble_eq_true rfl) (lv' := [(0, .ref (a 0)), (1, .int 0), (2, .int 0)]) rfl ?_
  exact j_C_allLoads_4 C q a post hq  2000 c 0 0 hw
set_option maxRecDepth 20000 in
theorem c_C_allLoads (l : Launch) (D : va_G) (t : Nat → ClassId) (ev : Nat → Nat) (a : Nat → Nat) (c : CSt) (post : Int32 → CSt → Prop) (hw : wp_C_allLoads c post) : Con l D t ev y_C_allLoads b_C_allLoads 3 ((some .int)) 0 (woC t a c) [.ref (a 0)] (qI (woC t a)  post) :=
  ConR.of (by decide +kernel) (Nat.le_of_ble_eq_true rfl) (fun X el eD et ee C q _ => by subst el; subst eD; subst et; subst ee; exact g_C_allLoads C q a c post (fun v c1 h => ⟨⟨v, c1, rfl, rfl, h⟩, rfl⟩) hw)
def w_C_allLost_4  (post : Int32 → CSt → Prop)  : Nat → CSt → Int32 → Int32 → Prop
  | 0, _, _, _ => False
  | n + 1, c, x1, x2 =>
    ((10 ≤ x2) → (post x1 c)) ∧ ((¬ 10 ≤ x2) → (vp_in x2 10 ∧ (∀ y2 : Int32, y2 = x1 + ((C_lost c) x2.toNatClampNeg) → (∀ y3 : Int32, y3 = x2 + 1 → (w_C_allLost_4  post  n c y2 y3)))))
set_option maxRecDepth 20000 in
theorem j_C_allLost_4 {X : GX} (C : GC X b_C_allLost R_C 3 (rmd 0)) {Qp : Option Value → va_W → Prop} (q : RC X ((some .int)) Qp 0 0) (a : Nat → Nat)   (post : Int32 → CSt → Prop) (hq : ∀ v c1, post v c1 → Qp (some (.int v)) (woC (xt X) a c1)) : ∀ (n : Nat) (c : CSt) (x1 : Int32) (x2 : Int32), w_C_allLost_4  post  n c x1 x2 → G X 0 0 (woC (xt X) a c) [(0, .ref (a 0)), (1, .int x1), (2, .int x2)] [] 4 := by
  intro n
  induction n with
  | zero => intro c x1 x2 hw; exact hw.elim
  | succ n ih =>
    intro c x1 x2 hw
    rw [w_C_allLost_4] at hw
    refine g_iload_n (pc := 4) C d_C_allLost_4 2 rfl rfl ?_
    refine g_bipush (pc := 5) C (v := 10) d_C_allLost_5 (by decide) ?_
    refine g_icmp_ge (pc := 7) (tgt := 25) C d_C_allLost_7 (by decide) (fun h4 => ?_) (fun h4 => ?_)
    · replace hw := hw.1 h4
      refine g_iload_n (pc := 25) C d_C_allLost_25 1 rfl rfl ?_
      exact g_iret (pc := 26) C q d_C_allLost_26 (hq _ _ hw)
    · replace hw := hw.2 h4
      refine g_iload_n (pc := 10) C d_C_allLost_10 1 rfl rfl ?_
      refine g_aload_n (pc := 11) C d_C_allLost_11 0 rfl rfl ?_
      refine fC_lost (pc := 12) C lk_C_18 d_C_allLost_12 ?_
      refine g_iload_n (pc := 15) C d_C_allLost_15 2 rfl rfl ?_
      obtain ⟨h1, hw⟩ := hw
      refine lC_lost (pc := 16) C d_C_allLost_16 (f := C_lost c) rfl (N0 := x2.toNatClampNeg) rfl h1 ?_
      refine g_iadd (pc := 17) C d_C_allLost_17 ?_
      refine g_topi (fun y2 ey2 => ?_)
      replace hw := hw y2 ey2
      refine g_istore_n (pc := 18) C d_C_allLost_18 rfl (Nat.le_of_ble_eq_true rfl) (lv' := [(0, .ref (a 0)), (1, .int y2), (2, .int x2)]) rfl ?_
      obtain ⟨y3, ey3⟩ : ∃ w, w = x2 + 1 := ⟨_, rfl⟩
      replace hw := hw y3 ey3
      refine g_iinc (pc := 19) C d_C_allLost_19 2 rfl (v := y3) (by rw [ey3]; rfl) (Nat.le_of_ble_eq_true rfl) (lv' := [(0, .ref (a 0)), (1, .int y2), (2, .int y3)]) rfl ?_
      refine g_goto (pc := 22) (tgt := 4) C d_C_allLost_22 (by decide) ?_
      exact ih c y2 y3 hw
def wp_C_allLost (c : CSt) (post : Int32 → CSt → Prop) : Prop :=
  w_C_allLost_4  post  2000 c 0 0
set_option maxRecDepth 20000 in
theorem g_C_allLost {X : GX} (C : GC X b_C_allLost R_C 3 (rmd 0)) {Qp : Option Value → va_W → Prop} (q : RC X ((some .int)) Qp 0 0) (a : Nat → Nat) (c : CSt) (post : Int32 → CSt → Prop) (hq : ∀ v c1, post v c1 → Qp (some (.int v)) (woC (xt X) a c1)) (hw : wp_C_allLost c post) : G X 0 0 (woC (xt X) a c) [(0, .ref (a 0))] [] 0 := by
  unfold wp_C_allLost at hw
  refine g_iconst (pc := 0) C (v := 0) d_C_allLost_0 (by decide) ?_
  refine g_istore_n (pc := 1) C d_C_allLost_1 rfl (Nat.le_of_ble_eq_true rfl) (lv' := [(0, .ref (a 0)), (1, .int 0)]) rfl ?_
  refine g_iconst (pc := 2) C (v := 0) d_C_allLost_2 (by decide) ?_
  refine g_istore_n (pc := 3) C d_C_allLost_3 rfl (Nat.le_of_ble_eq_true rfl) (lv' := [(0, .ref (a 0)), (1, .int 0), (2, .int 0)]) rfl ?_
  exact j_C_allLost_4 C q a post hq  2000 c 0 0 hw
set_option maxRecDepth 20000 in
theorem c_C_allLost (l : Launch) (D : va_G) (t : Nat → ClassId) (ev : Nat → Nat) (a : Nat → Nat) (c : CSt) (post : Int32 → CSt → Prop) (hw : wp_C_allLost c post) : Con l D t ev y_C_allLost b_C_allLost 3 ((some .int)) 0 (woC t a c) [.ref (a 0)] (qI (woC t a)  post) :=
  ConR.of (by decide +kernel) (Nat.le_of_ble_eq_true rfl) (fun X el eD et ee C q _ => by subst el; subst eD; subst et; subst ee; exact g_C_allLost C q a c post (fun v c1 h => ⟨⟨v, c1, rfl, rfl, h⟩, rfl⟩) hw)
def w_C_usedLocks_4  (post : Int32 → CSt → Prop)  : Nat → CSt → Int32 → Int32 → Prop
  | 0, _, _, _ => False
  | n + 1, c, x1, x2 =>
    (((C_count c) ≤ x2) → (post x1 c)) ∧ ((¬ (C_count c) ≤ x2) → (((8 ≤ x2) → (post x1 c)) ∧ ((¬ 8 ≤ x2) → (vp_in x2 8 ∧ (∀ y2 : Int32, y2 = x1 ||| (1 <<< (((C_at c) x2.toNatClampNeg) &&& 31)) → (∀ y3 : Int32, y3 = x2 + 1 → (w_C_usedLocks_4  post  n c y2 y3)))))))
set_option maxRecDepth 20000 in
theorem j_C_usedLocks_4 {X : GX} (C : GC X b_C_usedLocks R_C 3 (rmd 0)) {Qp : Option Value → va_W → Prop} (q : RC X ((some .int)) Qp 0 0) (a : Nat → Nat)   (post : Int32 → CSt → Prop) (hq : ∀ v c1, post v c1 → Qp (some (.int v)) (woC (xt X) a c1)) : ∀ (n : Nat) (c : CSt) (x1 : Int32) (x2 : Int32), w_C_usedLocks_4  post  n c x1 x2 → G X 0 0 (woC (xt X) a c) [(0, .ref (a 0)), (1, .int x1), (2, .int x2)] [] 4 := by
  intro n
  induction n with
  | zero => intro c x1 x2 hw; exact hw.elim
  | succ n ih =>
    intro c x1 x2 hw
    rw [w_C_usedLocks_4] at hw
    refine g_iload_n (pc := 4) C d_C_usedLocks_4 2 rfl rfl ?_
    refine g_aload_n (pc := 5) C d_C_usedLocks_5 0 rfl rfl ?_
    refine fC_count (pc := 6) C lk_C_36 d_C_usedLocks_6 (v := C_count c) rfl ?_
    refine g_icmp_ge (pc := 9) (tgt := 35) C d_C_usedLocks_9 (by decide) (fun h5 => ?_) (fun h5 => ?_)
    · replace hw := hw.1 h5
      refine g_iload_n (pc := 35) C d_C_usedLocks_35 1 rfl rfl ?_
      exact g_iret (pc := 36) C q d_C_usedLocks_36 (hq _ _ hw)
    · replace hw := hw.2 h5
      refine g_iload_n (pc := 12) C d_C_usedLocks_12 2 rfl rfl ?_
      refine g_bipush (pc := 13) C (v := 8) d_C_usedLocks_13 (by decide) ?_
      refine g_icmp_ge (pc := 15) (tgt := 35) C d_C_usedLocks_15 (by decide) (fun h4 => ?_) (fun h4 => ?_)
      · replace hw := hw.1 h4
        refine g_iload_n (pc := 35) C d_C_usedLocks_35 1 rfl rfl ?_
        exact g_iret (pc := 36) C q d_C_usedLocks_36 (hq _ _ hw)
      · replace hw := hw.2 h4
        refine g_iload_n (pc := 18) C d_C_usedLocks_18 1 rfl rfl ?_
        refine g_iconst (pc := 19) C (v := 1) d_C_usedLocks_19 (by decide) ?_
        refine g_aload_n (pc := 20) C d_C_usedLocks_20 0 rfl rfl ?_
        refine fC_at (pc := 21) C lk_C_30 d_C_usedLocks_21 ?_
        refine g_iload_n (pc := 24) C d_C_usedLocks_24 2 rfl rfl ?_
        obtain ⟨h1, hw⟩ := hw
        refine lC_at (pc := 25) C d_C_usedLocks_25 (f := C_at c) rfl (N0 := x2.toNatClampNeg) rfl h1 ?_
        refine g_ishl (pc := 26) C d_C_usedLocks_26 ?_
        refine g_ior (pc := 27) C d_C_usedLocks_27 ?_
        refine g_topi (fun y2 ey2 => ?_)
        replace hw := hw y2 ey2
        refine g_istore_n (pc := 28) C d_C_usedLocks_28 rfl (Nat.le_of_ble_eq_true rfl) (lv' := [(0, .ref (a 0)), (1, .int y2), (2, .int x2)]) rfl ?_
        obtain ⟨y3, ey3⟩ : ∃ w, w = x2 + 1 := ⟨_, rfl⟩
        replace hw := hw y3 ey3
        refine g_iinc (pc := 29) C d_C_usedLocks_29 2 rfl (v := y3) (by rw [ey3]; rfl) (Nat.le_of_ble_eq_true rfl) (lv' := [(0, .ref (a 0)), (1, .int y2), (2, .int y3)]) rfl ?_
        refine g_goto (pc := 32) (tgt := 4) C d_C_usedLocks_32 (by decide) ?_
        exact ih c y2 y3 hw
def wp_C_usedLocks (c : CSt) (post : Int32 → CSt → Prop) : Prop :=
  w_C_usedLocks_4  post  2000 c 0 0
set_option maxRecDepth 20000 in
theorem g_C_usedLocks {X : GX} (C : GC X b_C_usedLocks R_C 3 (rmd 0)) {Qp : Option Value → va_W → Prop} (q : RC X ((some .int)) Qp 0 0) (a : Nat → Nat) (c : CSt) (post : Int32 → CSt → Prop) (hq : ∀ v c1, post v c1 → Qp (some (.int v)) (woC (xt X) a c1)) (hw : wp_C_usedLocks c post) : G X 0 0 (woC (xt X) a c) [(0, .ref (a 0))] [] 0 := by
  unfold wp_C_usedLocks at hw
  refine g_iconst (pc := 0) C (v := 0) d_C_usedLocks_0 (by decide) ?_
  refine g_istore_n (pc := 1) C d_C_usedLocks_1 rfl (Nat.le_of_ble_eq_true rfl) (lv' := [(0, .ref (a 0)), (1, .int 0)]) rfl ?_
  refine g_iconst (pc := 2) C (v := 0) d_C_usedLocks_2 (by decide) ?_
  refine g_istore_n (pc := 3) C d_C_usedLocks_3 rfl (Nat.le_of_ble_eq_true rfl) (lv' := [(0, .ref (a 0)), (1, .int 0), (2, .int 0)]) rfl ?_
  exact j_C_usedLocks_4 C q a post hq  2000 c 0 0 hw
set_option maxRecDepth 20000 in
theorem c_C_usedLocks (l : Launch) (D : va_G) (t : Nat → ClassId) (ev : Nat → Nat) (a : Nat → Nat) (c : CSt) (post : Int32 → CSt → Prop) (hw : wp_C_usedLocks c post) : Con l D t ev y_C_usedLocks b_C_usedLocks 3 ((some .int)) 0 (woC t a c) [.ref (a 0)] (qI (woC t a)  post) :=
  ConR.of (by decide +kernel) (Nat.le_of_ble_eq_true rfl) (fun X el eD et ee C q _ => by subst el; subst eD; subst et; subst ee; exact g_C_usedLocks C q a c post (fun v c1 h => ⟨⟨v, c1, rfl, rfl, h⟩, rfl⟩) hw)
def w_C_bargesAt_4  (post : Int32 → CSt → Prop)  : Nat → CSt → Int32 → Int32 → Int32 → Prop
  | 0, _, _, _, _ => False
  | n + 1, c, x1, x2, x3 =>
    (((C_count c) ≤ x3) → (post x2 c)) ∧ ((¬ (C_count c) ≤ x3) → (((8 ≤ x3) → (post x2 c)) ∧ ((¬ 8 ≤ x3) → (vp_in x3 8 ∧ (((((C_at c) x3.toNatClampNeg) = x1) → (∀ y3 : Int32, y3 = x2 ||| (1 <<< (x3 &&& 31)) → (∀ y4 : Int32, y4 = x3 + 1 → (w_C_bargesAt_4  post  n c x1 y3 y4)))) ∧ ((¬ ((C_at c) x3.toNatClampNeg) = x1) → (∀ y2 : Int32, y2 = x3 + 1 → (w_C_bargesAt_4  post  n c x1 x2 y2))))))))
set_option maxRecDepth 20000 in
theorem j_C_bargesAt_4 {X : GX} (C : GC X b_C_bargesAt R_C 4 (rmd 0)) {Qp : Option Value → va_W → Prop} (q : RC X ((some .int)) Qp 0 0) (a : Nat → Nat)   (post : Int32 → CSt → Prop) (hq : ∀ v c1, post v c1 → Qp (some (.int v)) (woC (xt X) a c1)) : ∀ (n : Nat) (c : CSt) (x1 : Int32) (x2 : Int32) (x3 : Int32), w_C_bargesAt_4  post  n c x1 x2 x3 → G X 0 0 (woC (xt X) a c) [(0, .ref (a 0)), (1, .int x1), (2, .int x2), (3, .int x3)] [] 4 := by
  intro n
  induction n with
  | zero => intro c x1 x2 x3 hw; exact hw.elim
  | succ n ih =>
    intro c x1 x2 x3 hw
    rw [w_C_bargesAt_4] at hw
    refine g_iload_n (pc := 4) C d_C_bargesAt_4 3 rfl rfl ?_
    refine g_aload_n (pc := 5) C d_C_bargesAt_5 0 rfl rfl ?_
    refine fC_count (pc := 6) C lk_C_36 d_C_bargesAt_6 (v := C_count c) rfl ?_
    refine g_icmp_ge (pc := 9) (tgt := 40) C d_C_bargesAt_9 (by decide) (fun h7 => ?_) (fun h7 => ?_)
    · replace hw := hw.1 h7
      refine g_iload_n (pc := 40) C d_C_bargesAt_40 2 rfl rfl ?_
      exact g_iret (pc := 41) C q d_C_bargesAt_41 (hq _ _ hw)
    · replace hw := hw.2 h7
      refine g_iload_n (pc := 12) C d_C_bargesAt_12 3 rfl rfl ?_
      refine g_bipush (pc := 13) C (v := 8) d_C_bargesAt_13 (by decide) ?_
      refine g_icmp_ge (pc := 15) (tgt := 40) C d_C_bargesAt_15 (by decide) (fun h6 => ?_) (fun h6 => ?_)
      · replace hw := hw.1 h6
        refine g_iload_n (pc := 40) C d_C_bargesAt_40 2 rfl rfl ?_
        exact g_iret (pc := 41) C q d_C_bargesAt_41 (hq _ _ hw)
      · replace hw := hw.2 h6
        refine g_aload_n (pc := 18) C d_C_bargesAt_18 0 rfl rfl ?_
        refine fC_at (pc := 19) C lk_C_30 d_C_bargesAt_19 ?_
        refine g_iload_n (pc := 22) C d_C_bargesAt_22 3 rfl rfl ?_
        obtain ⟨h1, hw⟩ := hw
        refine lC_at (pc := 23) C d_C_bargesAt_23 (f := C_at c) rfl (N0 := x3.toNatClampNeg) rfl h1 ?_
        refine g_iload_n (pc := 24) C d_C_bargesAt_24 1 rfl rfl ?_
        refine g_icmp_ne (pc := 25) (tgt := 34) C d_C_bargesAt_25 (by decide) (fun h5 => ?_) (fun h5 => ?_)
        · replace hw := hw.2 h5
          obtain ⟨y2, ey2⟩ : ∃ w, w = x3 + 1 := ⟨_, rfl⟩
          replace hw := hw y2 ey2
          refine g_iinc (pc := 34) C d_C_bargesAt_34 3 rfl (v := y2) (by rw [ey2]; rfl) (Nat.le_of_ble_eq_true rfl) (lv' := [(0, .ref (a 0)), (1, .int x1), (2, .int x2), (3, .int y2)]) rfl ?_
          refine g_goto (pc := 37) (tgt := 4) C d_C_bargesAt_37 (by decide) ?_
          exact ih c x1 x2 y2 hw
        · replace hw := hw.1 h5
          refine g_iload_n (pc := 28) C d_C_bargesAt_28 2 rfl rfl ?_
          refine g_iconst (pc := 29) C (v := 1) d_C_bargesAt_29 (by decide) ?_
          refine g_iload_n (pc := 30) C d_C_bargesAt_30 3 rfl rfl ?_
          refine g_ishl (pc := 31) C d_C_bargesAt_31 ?_
          refine g_ior (pc := 32) C d_C_bargesAt_32 ?_
          refine g_topi (fun y3 ey3 => ?_)
          replace hw := hw y3 ey3
          refine g_istore_n (pc := 33) C d_C_bargesAt_33 rfl (Nat.le_of_ble_eq_true rfl) (lv' := [(0, .ref (a 0)), (1, .int x1), (2, .int y3), (3, .int x3)]) rfl ?_
          obtain ⟨y4, ey4⟩ : ∃ w, w = x3 + 1 := ⟨_, rfl⟩
          replace hw := hw y4 ey4
          refine g_iinc (pc := 34) C d_C_bargesAt_34 3 rfl (v := y4) (by rw [ey4]; rfl) (Nat.le_of_ble_eq_true rfl) (lv' := [(0, .ref (a 0)), (1, .int x1), (2, .int y3), (3, .int y4)]) rfl ?_
          refine g_goto (pc := 37) (tgt := 4) C d_C_bargesAt_37 (by decide) ?_
          exact ih c x1 y3 y4 hw
def wp_C_bargesAt (c : CSt) (x1 : Int32) (post : Int32 → CSt → Prop) : Prop :=
  w_C_bargesAt_4  post  2000 c x1 0 0
set_option maxRecDepth 20000 in
theorem g_C_bargesAt {X : GX} (C : GC X b_C_bargesAt R_C 4 (rmd 0)) {Qp : Option Value → va_W → Prop} (q : RC X ((some .int)) Qp 0 0) (a : Nat → Nat) (c : CSt) (x1 : Int32) (post : Int32 → CSt → Prop) (hq : ∀ v c1, post v c1 → Qp (some (.int v)) (woC (xt X) a c1)) (hw : wp_C_bargesAt c x1 post) : G X 0 0 (woC (xt X) a c) [(0, .ref (a 0)), (1, .int x1)] [] 0 := by
  unfold wp_C_bargesAt at hw
  refine g_iconst (pc := 0) C (v := 0) d_C_bargesAt_0 (by decide) ?_
  refine g_istore_n (pc := 1) C d_C_bargesAt_1 rfl (Nat.le_of_ble_eq_true rfl) (lv' := [(0, .ref (a 0)), (1, .int x1), (2, .int 0)]) rfl ?_
  refine g_iconst (pc := 2) C (v := 0) d_C_bargesAt_2 (by decide) ?_
  refine g_istore_n (pc := 3) C d_C_bargesAt_3 rfl (Nat.le_of_ble_eq_true rfl) (lv' := [(0, .ref (a 0)), (1, .int x1), (2, .int 0), (3, .int 0)]) rfl ?_
  exact j_C_bargesAt_4 C q a post hq  2000 c x1 0 0 hw
set_option maxRecDepth 20000 in
theorem c_C_bargesAt (l : Launch) (D : va_G) (t : Nat → ClassId) (ev : Nat → Nat) (a : Nat → Nat) (c : CSt) (x1 : Int32) (post : Int32 → CSt → Prop) (hw : wp_C_bargesAt c x1 post) : Con l D t ev y_C_bargesAt b_C_bargesAt 4 ((some .int)) 0 (woC t a c) [.ref (a 0), .int x1] (qI (woC t a)  post) :=
  ConR.of (by decide +kernel) (Nat.le_of_ble_eq_true rfl) (fun X el eD et ee C q _ => by subst el; subst eD; subst et; subst ee; exact g_C_bargesAt C q a c x1 post (fun v c1 h => ⟨⟨v, c1, rfl, rfl, h⟩, rfl⟩) hw)
def w_C_loudest_7  (post : Int32 → CSt → Prop)  : Nat → CSt → Int32 → Int32 → Int32 → Prop
  | 0, _, _, _, _ => False
  | n + 1, c, x1, x2, x3 =>
    ((10 ≤ x3) → (post x1 c)) ∧ ((¬ 10 ≤ x3) → (vp_in x3 10 ∧ (((((C_lost c) x3.toNatClampNeg) ≤ x2) → (∀ y2 : Int32, y2 = x3 + 1 → (w_C_loudest_7  post  n c x1 x2 y2))) ∧ ((¬ ((C_lost c) x3.toNatClampNeg) ≤ x2) → (vp_in x3 10 ∧ (∀ y4 : Int32, y4 = x3 + 1 → (w_C_loudest_7  post  n c x3 ((C_lost c) x3.toNatClampNeg) y4)))))))
set_option maxRecDepth 20000 in
theorem j_C_loudest_7 {X : GX} (C : GC X b_C_loudest R_C 4 (rmd 0)) {Qp : Option Value → va_W → Prop} (q : RC X ((some .int)) Qp 0 0) (a : Nat → Nat)   (post : Int32 → CSt → Prop) (hq : ∀ v c1, post v c1 → Qp (some (.int v)) (woC (xt X) a c1)) : ∀ (n : Nat) (c : CSt) (x1 : Int32) (x2 : Int32) (x3 : Int32), w_C_loudest_7  post  n c x1 x2 x3 → G X 0 0 (woC (xt X) a c) [(0, .ref (a 0)), (1, .int x1), (2, .int x2), (3, .int x3)] [] 7 := by
  intro n
  induction n with
  | zero => intro c x1 x2 x3 hw; exact hw.elim
  | succ n ih =>
    intro c x1 x2 x3 hw
    rw [w_C_loudest_7] at hw
    refine g_iload_n (pc := 7) C d_C_loudest_7 3 rfl rfl ?_
    refine g_bipush (pc := 8) C (v := 10) d_C_loudest_8 (by decide) ?_
    refine g_icmp_ge (pc := 10) (tgt := 38) C d_C_loudest_10 (by decide) (fun h6 => ?_) (fun h6 => ?_)
    · replace hw := hw.1 h6
      refine g_iload_n (pc := 38) C d_C_loudest_38 1 rfl rfl ?_
      exact g_iret (pc := 39) C q d_C_loudest_39 (hq _ _ hw)
    · replace hw := hw.2 h6
      refine g_aload_n (pc := 13) C d_C_loudest_13 0 rfl rfl ?_
      refine fC_lost (pc := 14) C lk_C_18 d_C_loudest_14 ?_
      refine g_iload_n (pc := 17) C d_C_loudest_17 3 rfl rfl ?_
      obtain ⟨h1, hw⟩ := hw
      refine lC_lost (pc := 18) C d_C_loudest_18 (f := C_lost c) rfl (N0 := x3.toNatClampNeg) rfl h1 ?_
      refine g_iload_n (pc := 19) C d_C_loudest_19 2 rfl rfl ?_
      refine g_icmp_le (pc := 20) (tgt := 32) C d_C_loudest_20 (by decide) (fun h5 => ?_) (fun h5 => ?_)
      · replace hw := hw.1 h5
        obtain ⟨y2, ey2⟩ : ∃ w, w = x3 + 1 := ⟨_, rfl⟩
        replace hw := hw y2 ey2
        refine g_iinc (pc := 32) C d_C_loudest_32 3 rfl (v := y2) (by rw [ey2]; rfl) (Nat.le_of_ble_eq_true rfl) (lv' := [(0, .ref (a 0)), (1, .int x1), (2, .int x2), (3, .int y2)]) rfl ?_
        refine g_goto (pc := 35) (tgt := 7) C d_C_loudest_35 (by decide) ?_
        exact ih c x1 x2 y2 hw
      · replace hw := hw.2 h5
        refine g_aload_n (pc := 23) C d_C_loudest_23 0 rfl rfl ?_
        refine fC_lost (pc := 24) C lk_C_18 d_C_loudest_24 ?_
        refine g_iload_n (pc := 27) C d_C_loudest_27 3 rfl rfl ?_
        obtain ⟨h3, hw⟩ := hw
        refine lC_lost (pc := 28) C d_C_loudest_28 (f := C_lost c) rfl (N0 := x3.toNatClampNeg) rfl h3 ?_
        refine g_istore_n (pc := 29) C d_C_loudest_29 rfl (Nat.le_of_ble_eq_true rfl) (lv' := [(0, .ref (a 0)), (1, .int x1), (2, .int ((C_lost c) x3.toNatClampNeg)), (3, .int x3)]) rfl ?_
        refine g_iload_n (pc := 30) C d_C_loudest_30 3 rfl rfl ?_
        refine g_istore_n (pc := 31) C d_C_loudest_31 rfl (Nat.le_of_ble_eq_true rfl) (lv' := [(0, .ref (a 0)), (1, .int x3), (2, .int ((C_lost c) x3.toNatClampNeg)), (3, .int x3)]) rfl ?_
        obtain ⟨y4, ey4⟩ : ∃ w, w = x3 + 1 := ⟨_, rfl⟩
        replace hw := hw y4 ey4
        refine g_iinc (pc := 32) C d_C_loudest_32 3 rfl (v := y4) (by rw [ey4]; rfl) (Nat.le_of_ble_eq_true rfl) (lv' := [(0, .ref (a 0)), (1, .int x3), (2, .int ((C_lost c) x3.toNatClampNeg)), (3, .int y4)]) rfl ?_
        refine g_goto (pc := 35) (tgt := 7) C d_C_loudest_35 (by decide) ?_
        exact ih c x3 ((C_lost c) x3.toNatClampNeg) y4 hw
def wp_C_loudest (c : CSt) (post : Int32 → CSt → Prop) : Prop :=
  w_C_loudest_7  post  2000 c 10 0 0
set_option maxRecDepth 20000 in
theorem g_C_loudest {X : GX} (C : GC X b_C_loudest R_C 4 (rmd 0)) {Qp : Option Value → va_W → Prop} (q : RC X ((some .int)) Qp 0 0) (a : Nat → Nat) (c : CSt) (post : Int32 → CSt → Prop) (hq : ∀ v c1, post v c1 → Qp (some (.int v)) (woC (xt X) a c1)) (hw : wp_C_loudest c post) : G X 0 0 (woC (xt X) a c) [(0, .ref (a 0))] [] 0 := by
  unfold wp_C_loudest at hw
  refine g_bipush (pc := 0) C (v := 10) d_C_loudest_0 (by decide) ?_
  refine g_istore_n (pc := 2) C d_C_loudest_2 rfl (Nat.le_of_ble_eq_true rfl) (lv' := [(0, .ref (a 0)), (1, .int 10)]) rfl ?_
  refine g_iconst (pc := 3) C (v := 0) d_C_loudest_3 (by decide) ?_
  refine g_istore_n (pc := 4) C d_C_loudest_4 rfl (Nat.le_of_ble_eq_true rfl) (lv' := [(0, .ref (a 0)), (1, .int 10), (2, .int 0)]) rfl ?_
  refine g_iconst (pc := 5) C (v := 0) d_C_loudest_5 (by decide) ?_
  refine g_istore_n (pc := 6) C d_C_loudest_6 rfl (Nat.le_of_ble_eq_true rfl) (lv' := [(0, .ref (a 0)), (1, .int 10), (2, .int 0), (3, .int 0)]) rfl ?_
  exact j_C_loudest_7 C q a post hq  2000 c 10 0 0 hw
set_option maxRecDepth 20000 in
theorem c_C_loudest (l : Launch) (D : va_G) (t : Nat → ClassId) (ev : Nat → Nat) (a : Nat → Nat) (c : CSt) (post : Int32 → CSt → Prop) (hw : wp_C_loudest c post) : Con l D t ev y_C_loudest b_C_loudest 4 ((some .int)) 0 (woC t a c) [.ref (a 0)] (qI (woC t a)  post) :=
  ConR.of (by decide +kernel) (Nat.le_of_ble_eq_true rfl) (fun X el eD et ee C q _ => by subst el; subst eD; subst et; subst ee; exact g_C_loudest C q a c post (fun v c1 h => ⟨⟨v, c1, rfl, rfl, h⟩, rfl⟩) hw)
def w_C_locksWithLoss_4  (post : Int32 → CSt → Prop)  : Nat → CSt → Int32 → Int32 → Prop
  | 0, _, _, _ => False
  | n + 1, c, x1, x2 =>
    ((10 ≤ x2) → (post x1 c)) ∧ ((¬ 10 ≤ x2) → (vp_in x2 10 ∧ (((((C_lost c) x2.toNatClampNeg) ≤ 0) → (∀ y2 : Int32, y2 = x2 + 1 → (w_C_locksWithLoss_4  post  n c x1 y2))) ∧ ((¬ ((C_lost c) x2.toNatClampNeg) ≤ 0) → (∀ y3 : Int32, y3 = x1 + 1 → (∀ y4 : Int32, y4 = x2 + 1 → (w_C_locksWithLoss_4  post  n c y3 y4)))))))
set_option maxRecDepth 20000 in
theorem j_C_locksWithLoss_4 {X : GX} (C : GC X b_C_locksWithLoss R_C 3 (rmd 0)) {Qp : Option Value → va_W → Prop} (q : RC X ((some .int)) Qp 0 0) (a : Nat → Nat)   (post : Int32 → CSt → Prop) (hq : ∀ v c1, post v c1 → Qp (some (.int v)) (woC (xt X) a c1)) : ∀ (n : Nat) (c : CSt) (x1 : Int32) (x2 : Int32), w_C_locksWithLoss_4  post  n c x1 x2 → G X 0 0 (woC (xt X) a c) [(0, .ref (a 0)), (1, .int x1), (2, .int x2)] [] 4 := by
  intro n
  induction n with
  | zero => intro c x1 x2 hw; exact hw.elim
  | succ n ih =>
    intro c x1 x2 hw
    rw [w_C_locksWithLoss_4] at hw
    refine g_iload_n (pc := 4) C d_C_locksWithLoss_4 2 rfl rfl ?_
    refine g_bipush (pc := 5) C (v := 10) d_C_locksWithLoss_5 (by decide) ?_
    refine g_icmp_ge (pc := 7) (tgt := 28) C d_C_locksWithLoss_7 (by decide) (fun h6 => ?_) (fun h6 => ?_)
    · replace hw := hw.1 h6
      refine g_iload_n (pc := 28) C d_C_locksWithLoss_28 1 rfl rfl ?_
      exact g_iret (pc := 29) C q d_C_locksWithLoss_29 (hq _ _ hw)
    · replace hw := hw.2 h6
      refine g_aload_n (pc := 10) C d_C_locksWithLoss_10 0 rfl rfl ?_
      refine fC_lost (pc := 11) C lk_C_18 d_C_locksWithLoss_11 ?_
      refine g_iload_n (pc := 14) C d_C_locksWithLoss_14 2 rfl rfl ?_
      obtain ⟨h1, hw⟩ := hw
      refine lC_lost (pc := 15) C d_C_locksWithLoss_15 (f := C_lost c) rfl (N0 := x2.toNatClampNeg) rfl h1 ?_
      refine g_if_le (pc := 16) (tgt := 22) C d_C_locksWithLoss_16 (by decide) (fun h5 => ?_) (fun h5 => ?_)
      · replace hw := hw.1 h5
        obtain ⟨y2, ey2⟩ : ∃ w, w = x2 + 1 := ⟨_, rfl⟩
        replace hw := hw y2 ey2
        refine g_iinc (pc := 22) C d_C_locksWithLoss_22 2 rfl (v := y2) (by rw [ey2]; rfl) (Nat.le_of_ble_eq_true rfl) (lv' := [(0, .ref (a 0)), (1, .int x1), (2, .int y2)]) rfl ?_
        refine g_goto (pc := 25) (tgt := 4) C d_C_locksWithLoss_25 (by decide) ?_
        exact ih c x1 y2 hw
      · replace hw := hw.2 h5
        obtain ⟨y3, ey3⟩ : ∃ w, w = x1 + 1 := ⟨_, rfl⟩
        replace hw := hw y3 ey3
        refine g_iinc (pc := 19) C d_C_locksWithLoss_19 1 rfl (v := y3) (by rw [ey3]; rfl) (Nat.le_of_ble_eq_true rfl) (lv' := [(0, .ref (a 0)), (1, .int y3), (2, .int x2)]) rfl ?_
        obtain ⟨y4, ey4⟩ : ∃ w, w = x2 + 1 := ⟨_, rfl⟩
        replace hw := hw y4 ey4
        refine g_iinc (pc := 22) C d_C_locksWithLoss_22 2 rfl (v := y4) (by rw [ey4]; rfl) (Nat.le_of_ble_eq_true rfl) (lv' := [(0, .ref (a 0)), (1, .int y3), (2, .int y4)]) rfl ?_
        refine g_goto (pc := 25) (tgt := 4) C d_C_locksWithLoss_25 (by decide) ?_
        exact ih c y3 y4 hw
def wp_C_locksWithLoss (c : CSt) (post : Int32 → CSt → Prop) : Prop :=
  w_C_locksWithLoss_4  post  2000 c 0 0
set_option maxRecDepth 20000 in
theorem g_C_locksWithLoss {X : GX} (C : GC X b_C_locksWithLoss R_C 3 (rmd 0)) {Qp : Option Value → va_W → Prop} (q : RC X ((some .int)) Qp 0 0) (a : Nat → Nat) (c : CSt) (post : Int32 → CSt → Prop) (hq : ∀ v c1, post v c1 → Qp (some (.int v)) (woC (xt X) a c1)) (hw : wp_C_locksWithLoss c post) : G X 0 0 (woC (xt X) a c) [(0, .ref (a 0))] [] 0 := by
  unfold wp_C_locksWithLoss at hw
  refine g_iconst (pc := 0) C (v := 0) d_C_locksWithLoss_0 (by decide) ?_
  refine g_istore_n (pc := 1) C d_C_locksWithLoss_1 rfl (Nat.le_of_ble_eq_true rfl) (lv' := [(0, .ref (a 0)), (1, .int 0)]) rfl ?_
  refine g_iconst (pc := 2) C (v := 0) d_C_locksWithLoss_2 (by decide) ?_
  refine g_istore_n (pc := 3) C d_C_locksWithLoss_3 rfl (Nat.le_of_ble_eq_true rfl) (lv' := [(0, .ref (a 0)), (1, .int 0), (2, .int 0)]) rfl ?_
  exact j_C_locksWithLoss_4 C q a post hq  2000 c 0 0 hw
set_option maxRecDepth 20000 in
theorem c_C_locksWithLoss (l : Launch) (D : va_G) (t : Nat → ClassId) (ev : Nat → Nat) (a : Nat → Nat) (c : CSt) (post : Int32 → CSt → Prop) (hw : wp_C_locksWithLoss c post) : Con l D t ev y_C_locksWithLoss b_C_locksWithLoss 3 ((some .int)) 0 (woC t a c) [.ref (a 0)] (qI (woC t a)  post) :=
  ConR.of (by decide +kernel) (Nat.le_of_ble_eq_true rfl) (fun X el eD et ee C q _ => by subst el; subst eD; subst et; subst ee; exact g_C_locksWithLoss C q a c post (fun v c1 h => ⟨⟨v, c1, rfl, rfl, h⟩, rfl⟩) hw)
def w_C_loudOnTheWay_54  (post : Int32 → CSt → Prop) (k4 : CSt → Int32 → Int32 → Prop) : Nat → CSt → Int32 → Int32 → Int32 → Int32 → Prop
  | 0, _, _, _, _, _ => False
  | n + 1, c, x1, x2, x4, x5 =>
    ((x4 < x5) → (∀ y5 : Int32, y5 = x2 + 1 → (k4 c x1 y5))) ∧ ((¬ x4 < x5) → (vp_in x2 8 ∧ (((x5 = ((C_at c) x2.toNatClampNeg)) → (∀ y7 : Int32, y7 = x5 + 1 → (w_C_loudOnTheWay_54  post k4 n c x1 x2 x4 y7))) ∧ ((¬ x5 = ((C_at c) x2.toNatClampNeg)) → (wp_C_noiseAt c x5 (fun v8 c_9 => ((v8 ≤ 0) → (∀ y10 : Int32, y10 = x5 + 1 → (w_C_loudOnTheWay_54  post k4 n c_9 x1 x2 x4 y10))) ∧ ((¬ v8 ≤ 0) → (∀ y11 : Int32, y11 = x1 ||| (1 <<< (x5 &&& 31)) → (∀ y12 : Int32, y12 = x5 + 1 → (w_C_loudOnTheWay_54  post k4 n c_9 y11 x2 x4 y12))))))))))
set_option maxRecDepth 20000 in
theorem j_C_loudOnTheWay_54 {X : GX} (C : GC X b_C_loudOnTheWay R_C 6 (rmd 2)) {Qp : Option Value → va_W → Prop} (q : RC X ((some .int)) Qp 0 0) (a : Nat → Nat)   (post : Int32 → CSt → Prop) (hq : ∀ v c1, post v c1 → Qp (some (.int v)) (woC (xt X) a c1)) {k4 : CSt → Int32 → Int32 → Prop} (hk4 : ∀ (c : CSt) (x1 : Int32) (x2 : Int32), k4 c x1 x2 → G X 0 0 (woC (xt X) a c) [(0, .ref (a 0)), (1, .int x1), (2, .int x2)] [] 4) : ∀ (n : Nat) (c : CSt) (x1 : Int32) (x2 : Int32) (x4 : Int32) (x5 : Int32), w_C_loudOnTheWay_54  post k4 n c x1 x2 x4 x5 → G X 0 0 (woC (xt X) a c) [(0, .ref (a 0)), (1, .int x1), (2, .int x2), (4, .int x4), (5, .int x5)] [] 54 := by
  intro n
  induction n with
  | zero => intro c x1 x2 x4 x5 hw; exact hw.elim
  | succ n ih =>
    intro c x1 x2 x4 x5 hw
    rw [w_C_loudOnTheWay_54] at hw
    refine g_iload (pc := 54) C d_C_loudOnTheWay_54 4 rfl ?_
    refine g_iload (pc := 56) C d_C_loudOnTheWay_56 3 rfl ?_
    refine g_icmp_gt (pc := 58) (tgt := 94) C d_C_loudOnTheWay_58 (by decide) (fun h15 => ?_) (fun h15 => ?_)
    · replace hw := hw.1 h15
      obtain ⟨y5, ey5⟩ : ∃ w, w = x2 + 1 := ⟨_, rfl⟩
      replace hw := hw y5 ey5
      refine g_iinc (pc := 94) C d_C_loudOnTheWay_94 2 rfl (v := y5) (by rw [ey5]; rfl) (Nat.le_of_ble_eq_true rfl) (lv' := [(0, .ref (a 0)), (1, .int x1), (2, .int y5), (4, .int x4), (5, .int x5)]) rfl ?_
      refine g_goto (pc := 97) (tgt := 4) C d_C_loudOnTheWay_97 (by decide) ?_
      refine g_sub [0, 1, 2] (lv' := [(0, .ref (a 0)), (1, .int x1), (2, .int y5)]) rfl ?_
      exact hk4 c x1 y5 hw
    · replace hw := hw.2 h15
      refine g_iload (pc := 61) C d_C_loudOnTheWay_61 4 rfl ?_
      refine g_aload_n (pc := 63) C d_C_loudOnTheWay_63 0 rfl rfl ?_
      refine fC_at (pc := 64) C lk_C_30 d_C_loudOnTheWay_64 ?_
      refine g_iload_n (pc := 67) C d_C_loudOnTheWay_67 2 rfl rfl ?_
      obtain ⟨h6, hw⟩ := hw
      refine lC_at (pc := 68) C d_C_loudOnTheWay_68 (f := C_at c) rfl (N0 := x2.toNatClampNeg) rfl h6 ?_
      refine g_icmp_eq (pc := 69) (tgt := 88) C d_C_loudOnTheWay_69 (by decide) (fun h14 => ?_) (fun h14 => ?_)
      · replace hw := hw.1 h14
        obtain ⟨y7, ey7⟩ : ∃ w, w = x5 + 1 := ⟨_, rfl⟩
        replace hw := hw y7 ey7
        refine g_iinc (pc := 88) C d_C_loudOnTheWay_88 4 rfl (v := y7) (by rw [ey7]; rfl) (Nat.le_of_ble_eq_true rfl) (lv' := [(0, .ref (a 0)), (1, .int x1), (2, .int x2), (4, .int x4), (5, .int y7)]) rfl ?_
        refine g_goto (pc := 91) (tgt := 54) C d_C_loudOnTheWay_91 (by decide) ?_
        exact ih c x1 x2 x4 y7 hw
      · replace hw := hw.2 h14
        refine g_aload_n (pc := 72) C d_C_loudOnTheWay_72 0 rfl rfl ?_
        refine g_iload (pc := 73) C d_C_loudOnTheWay_73 4 rfl ?_
        refine k_Ia (pc := 75) (co_V C (c_C_noiseAt (xl X) (xD X) (xt X) (xv X) a c x5 _ hw) mw_C_noiseAt lk_C_93 d_C_loudOnTheWay_75 (List.range _) (all_C _) (all_nd _) (rec_w C 0 1 rfl rfl) rfl rfl ⟨Nat.le_of_ble_eq_true rfl, Nat.le_of_ble_eq_true rfl⟩ ⟨Nat.le_of_ble_eq_true rfl, Nat.le_of_ble_eq_true rfl⟩ (rest := []) rfl rfl (Nat.le_of_ble_eq_true rfl)) (fun v8 c_9 hw => ?_)
        refine g_if_le (pc := 78) (tgt := 88) C d_C_loudOnTheWay_78 (by decide) (fun h13 => ?_) (fun h13 => ?_)
        · replace hw := hw.1 h13
          obtain ⟨y10, ey10⟩ : ∃ w, w = x5 + 1 := ⟨_, rfl⟩
          replace hw := hw y10 ey10
          refine g_iinc (pc := 88) C d_C_loudOnTheWay_88 4 rfl (v := y10) (by rw [ey10]; rfl) (Nat.le_of_ble_eq_true rfl) (lv' := [(0, .ref (a 0)), (1, .int x1), (2, .int x2), (4, .int x4), (5, .int y10)]) rfl ?_
          refine g_goto (pc := 91) (tgt := 54) C d_C_loudOnTheWay_91 (by decide) ?_
          exact ih c_9 x1 x2 x4 y10 hw
        · replace hw := hw.2 h13
          refine g_iload_n (pc := 81) C d_C_loudOnTheWay_81 1 rfl rfl ?_
          refine g_iconst (pc := 82) C (v := 1) d_C_loudOnTheWay_82 (by decide) ?_
          refine g_iload (pc := 83) C d_C_loudOnTheWay_83 4 rfl ?_
          refine g_ishl (pc := 85) C d_C_loudOnTheWay_85 ?_
          refine g_ior (pc := 86) C d_C_loudOnTheWay_86 ?_
          refine g_topi (fun y11 ey11 => ?_)
          replace hw := hw y11 ey11
          refine g_istore_n (pc := 87) C d_C_loudOnTheWay_87 rfl (Nat.le_of_ble_eq_true rfl) (lv' := [(0, .ref (a 0)), (1, .int y11), (2, .int x2), (4, .int x4), (5, .int x5)]) rfl ?_
          obtain ⟨y12, ey12⟩ : ∃ w, w = x5 + 1 := ⟨_, rfl⟩
          replace hw := hw y12 ey12
          refine g_iinc (pc := 88) C d_C_loudOnTheWay_88 4 rfl (v := y12) (by rw [ey12]; rfl) (Nat.le_of_ble_eq_true rfl) (lv' := [(0, .ref (a 0)), (1, .int y11), (2, .int x2), (4, .int x4), (5, .int y12)]) rfl ?_
          refine g_goto (pc := 91) (tgt := 54) C d_C_loudOnTheWay_91 (by decide) ?_
          exact ih c_9 y11 x2 x4 y12 hw
def w_C_loudOnTheWay_4  (post : Int32 → CSt → Prop)  : Nat → CSt → Int32 → Int32 → Prop
  | 0, _, _, _ => False
  | n + 1, c, x1, x2 =>
    (((C_count c) ≤ x2) → (post x1 c)) ∧ ((¬ (C_count c) ≤ x2) → (((8 ≤ x2) → (post x1 c)) ∧ ((¬ 8 ≤ x2) → (vp_in x2 8 ∧ (vp_in x2 8 ∧ (vp_in x2 8 ∧ (vp_in x2 8 ∧ (w_C_loudOnTheWay_54  post (w_C_loudOnTheWay_4  post  n) 2000 c x1 x2 (if ((C_at c) x2.toNatClampNeg) < ((C_bound c) x2.toNatClampNeg) then ((C_bound c) x2.toNatClampNeg) else ((C_at c) x2.toNatClampNeg)) (if ((C_bound c) x2.toNatClampNeg) < ((C_at c) x2.toNatClampNeg) then ((C_bound c) x2.toNatClampNeg) else ((C_at c) x2.toNatClampNeg))))))))))
set_option maxRecDepth 20000 in
theorem j_C_loudOnTheWay_4 {X : GX} (C : GC X b_C_loudOnTheWay R_C 6 (rmd 2)) {Qp : Option Value → va_W → Prop} (q : RC X ((some .int)) Qp 0 0) (a : Nat → Nat)   (post : Int32 → CSt → Prop) (hq : ∀ v c1, post v c1 → Qp (some (.int v)) (woC (xt X) a c1)) : ∀ (n : Nat) (c : CSt) (x1 : Int32) (x2 : Int32), w_C_loudOnTheWay_4  post  n c x1 x2 → G X 0 0 (woC (xt X) a c) [(0, .ref (a 0)), (1, .int x1), (2, .int x2)] [] 4 := by
  intro n
  induction n with
  | zero => intro c x1 x2 hw; exact hw.elim
  | succ n ih =>
    intro c x1 x2 hw
    rw [w_C_loudOnTheWay_4] at hw
    refine g_iload_n (pc := 4) C d_C_loudOnTheWay_4 2 rfl rfl ?_
    refine g_aload_n (pc := 5) C d_C_loudOnTheWay_5 0 rfl rfl ?_
    refine fC_count (pc := 6) C lk_C_36 d_C_loudOnTheWay_6 (v := C_count c) rfl ?_
    refine g_icmp_ge (pc := 9) (tgt := 100) C d_C_loudOnTheWay_9 (by decide) (fun h17 => ?_) (fun h17 => ?_)
    · replace hw := hw.1 h17
      refine g_iload_n (pc := 100) C d_C_loudOnTheWay_100 1 rfl rfl ?_
      exact g_iret (pc := 101) C q d_C_loudOnTheWay_101 (hq _ _ hw)
    · replace hw := hw.2 h17
      refine g_iload_n (pc := 12) C d_C_loudOnTheWay_12 2 rfl rfl ?_
      refine g_bipush (pc := 13) C (v := 8) d_C_loudOnTheWay_13 (by decide) ?_
      refine g_icmp_ge (pc := 15) (tgt := 100) C d_C_loudOnTheWay_15 (by decide) (fun h16 => ?_) (fun h16 => ?_)
      · replace hw := hw.1 h16
        refine g_iload_n (pc := 100) C d_C_loudOnTheWay_100 1 rfl rfl ?_
        exact g_iret (pc := 101) C q d_C_loudOnTheWay_101 (hq _ _ hw)
      · replace hw := hw.2 h16
        refine g_aload_n (pc := 18) C d_C_loudOnTheWay_18 0 rfl rfl ?_
        refine fC_at (pc := 19) C lk_C_30 d_C_loudOnTheWay_19 ?_
        refine g_iload_n (pc := 22) C d_C_loudOnTheWay_22 2 rfl rfl ?_
        obtain ⟨h1, hw⟩ := hw
        refine lC_at (pc := 23) C d_C_loudOnTheWay_23 (f := C_at c) rfl (N0 := x2.toNatClampNeg) rfl h1 ?_
        refine g_aload_n (pc := 24) C d_C_loudOnTheWay_24 0 rfl rfl ?_
        refine fC_bound (pc := 25) C lk_C_33 d_C_loudOnTheWay_25 ?_
        refine g_iload_n (pc := 28) C d_C_loudOnTheWay_28 2 rfl rfl ?_
        obtain ⟨h2, hw⟩ := hw
        refine lC_bound (pc := 29) C d_C_loudOnTheWay_29 (f := C_bound c) rfl (N0 := x2.toNatClampNeg) rfl h2 ?_
        refine g_mmin (pc := 30) C lk_C_107 ⟨Nat.le_of_ble_eq_true rfl, Nat.le_of_ble_eq_true rfl⟩ d_C_loudOnTheWay_30 (Nat.le_of_ble_eq_true rfl) ⟨Nat.le_of_ble_eq_true rfl, Nat.le_of_ble_eq_true rfl⟩ ?_
        refine g_istore_n (pc := 33) C d_C_loudOnTheWay_33 rfl (Nat.le_of_ble_eq_true rfl) (lv' := [(0, .ref (a 0)), (1, .int x1), (2, .int x2), (3, .int (if ((C_bound c) x2.toNatClampNeg) < ((C_at c) x2.toNatClampNeg) then ((C_bound c) x2.toNatClampNeg) else ((C_at c) x2.toNatClampNeg)))]) rfl ?_
        refine g_aload_n (pc := 34) C d_C_loudOnTheWay_34 0 rfl rfl ?_
        refine fC_at (pc := 35) C lk_C_30 d_C_loudOnTheWay_35 ?_
        refine g_iload_n (pc := 38) C d_C_loudOnTheWay_38 2 rfl rfl ?_
        obtain ⟨h3, hw⟩ := hw
        refine lC_at (pc := 39) C d_C_loudOnTheWay_39 (f := C_at c) rfl (N0 := x2.toNatClampNeg) rfl h3 ?_
        refine g_aload_n (pc := 40) C d_C_loudOnTheWay_40 0 rfl rfl ?_
        refine fC_bound (pc := 41) C lk_C_33 d_C_loudOnTheWay_41 ?_
        refine g_iload_n (pc := 44) C d_C_loudOnTheWay_44 2 rfl rfl ?_
        obtain ⟨h4, hw⟩ := hw
        refine lC_bound (pc := 45) C d_C_loudOnTheWay_45 (f := C_bound c) rfl (N0 := x2.toNatClampNeg) rfl h4 ?_
        refine g_mmax (pc := 46) C lk_C_116 ⟨Nat.le_of_ble_eq_true rfl, Nat.le_of_ble_eq_true rfl⟩ d_C_loudOnTheWay_46 (Nat.le_of_ble_eq_true rfl) ⟨Nat.le_of_ble_eq_true rfl, Nat.le_of_ble_eq_true rfl⟩ ?_
        refine g_istore (pc := 49) C d_C_loudOnTheWay_49 (Nat.le_of_ble_eq_true rfl) (lv' := [(0, .ref (a 0)), (1, .int x1), (2, .int x2), (3, .int (if ((C_bound c) x2.toNatClampNeg) < ((C_at c) x2.toNatClampNeg) then ((C_bound c) x2.toNatClampNeg) else ((C_at c) x2.toNatClampNeg))), (4, .int (if ((C_at c) x2.toNatClampNeg) < ((C_bound c) x2.toNatClampNeg) then ((C_bound c) x2.toNatClampNeg) else ((C_at c) x2.toNatClampNeg)))]) rfl ?_
        refine g_iload_n (pc := 51) C d_C_loudOnTheWay_51 3 rfl rfl ?_
        refine g_istore (pc := 52) C d_C_loudOnTheWay_52 (Nat.le_of_ble_eq_true rfl) (lv' := [(0, .ref (a 0)), (1, .int x1), (2, .int x2), (3, .int (if ((C_bound c) x2.toNatClampNeg) < ((C_at c) x2.toNatClampNeg) then ((C_bound c) x2.toNatClampNeg) else ((C_at c) x2.toNatClampNeg))), (4, .int (if ((C_at c) x2.toNatClampNeg) < ((C_bound c) x2.toNatClampNeg) then ((C_bound c) x2.toNatClampNeg) else ((C_at c) x2.toNatClampNeg))), (5, .int (if ((C_bound c) x2.toNatClampNeg) < ((C_at c) x2.toNatClampNeg) then ((C_bound c) x2.toNatClampNeg) else ((C_at c) x2.toNatClampNeg)))]) rfl ?_
        refine g_sub [0, 1, 2, 4, 5] (lv' := [(0, .ref (a 0)), (1, .int x1), (2, .int x2), (4, .int (if ((C_at c) x2.toNatClampNeg) < ((C_bound c) x2.toNatClampNeg) then ((C_bound c) x2.toNatClampNeg) else ((C_at c) x2.toNatClampNeg))), (5, .int (if ((C_bound c) x2.toNatClampNeg) < ((C_at c) x2.toNatClampNeg) then ((C_bound c) x2.toNatClampNeg) else ((C_at c) x2.toNatClampNeg)))]) rfl ?_
        exact j_C_loudOnTheWay_54 C q a post hq ih 2000 c x1 x2 (if ((C_at c) x2.toNatClampNeg) < ((C_bound c) x2.toNatClampNeg) then ((C_bound c) x2.toNatClampNeg) else ((C_at c) x2.toNatClampNeg)) (if ((C_bound c) x2.toNatClampNeg) < ((C_at c) x2.toNatClampNeg) then ((C_bound c) x2.toNatClampNeg) else ((C_at c) x2.toNatClampNeg)) hw
def wp_C_loudOnTheWay (c : CSt) (post : Int32 → CSt → Prop) : Prop :=
  w_C_loudOnTheWay_4  post  2000 c 0 0
set_option maxRecDepth 20000 in
theorem g_C_loudOnTheWay {X : GX} (C : GC X b_C_loudOnTheWay R_C 6 (rmd 2)) {Qp : Option Value → va_W → Prop} (q : RC X ((some .int)) Qp 0 0) (a : Nat → Nat) (c : CSt) (post : Int32 → CSt → Prop) (hq : ∀ v c1, post v c1 → Qp (some (.int v)) (woC (xt X) a c1)) (hw : wp_C_loudOnTheWay c post) : G X 0 0 (woC (xt X) a c) [(0, .ref (a 0))] [] 0 := by
  unfold wp_C_loudOnTheWay at hw
  refine g_iconst (pc := 0) C (v := 0) d_C_loudOnTheWay_0 (by decide) ?_
  refine g_istore_n (pc := 1) C d_C_loudOnTheWay_1 rfl (Nat.le_of_ble_eq_true rfl) (lv' := [(0, .ref (a 0)), (1, .int 0)]) rfl ?_
  refine g_iconst (pc := 2) C (v := 0) d_C_loudOnTheWay_2 (by decide) ?_
  refine g_istore_n (pc := 3) C d_C_loudOnTheWay_3 rfl (Nat.le_of_ble_eq_true rfl) (lv' := [(0, .ref (a 0)), (1, .int 0), (2, .int 0)]) rfl ?_
  exact j_C_loudOnTheWay_4 C q a post hq  2000 c 0 0 hw
set_option maxRecDepth 20000 in
theorem c_C_loudOnTheWay (l : Launch) (D : va_G) (t : Nat → ClassId) (ev : Nat → Nat) (a : Nat → Nat) (c : CSt) (post : Int32 → CSt → Prop) (hw : wp_C_loudOnTheWay c post) : Con l D t ev y_C_loudOnTheWay b_C_loudOnTheWay 6 ((some .int)) 2 (woC t a c) [.ref (a 0)] (qI (woC t a)  post) :=
  ConR.of (by decide +kernel) (Nat.le_of_ble_eq_true rfl) (fun X el eD et ee C q _ => by subst el; subst eD; subst et; subst ee; exact g_C_loudOnTheWay C q a c post (fun v c1 h => ⟨⟨v, c1, rfl, rfl, h⟩, rfl⟩) hw)
