theorem d_JP_checkIndex_0 : decode b_JP_checkIndex 0 = .ok (.iload_n 0, 1) := by decide +kernel
theorem d_JP_checkIndex_1 : decode b_JP_checkIndex 1 = .ok (.ifCond .lt 8, 3) := by decide +kernel
theorem d_JP_checkIndex_4 : decode b_JP_checkIndex 4 = .ok (.iload_n 0, 1) := by decide +kernel
theorem d_JP_checkIndex_5 : decode b_JP_checkIndex 5 = .ok (.iload_n 1, 1) := by decide +kernel
theorem d_JP_checkIndex_6 : decode b_JP_checkIndex 6 = .ok (.if_icmp .lt 10, 3) := by decide +kernel
theorem d_JP_checkIndex_9 : decode b_JP_checkIndex 9 = .ok (.aload_n 2, 1) := by decide +kernel
theorem d_JP_checkIndex_10 : decode b_JP_checkIndex 10 = .ok (.iload_n 0, 1) := by decide +kernel
theorem d_JP_checkIndex_11 : decode b_JP_checkIndex 11 = .ok (.iload_n 1, 1) := by decide +kernel
theorem d_JP_checkIndex_12 : decode b_JP_checkIndex 12 = .ok (.invokestatic 95, 3) := by decide +kernel
theorem d_JP_checkIndex_15 : decode b_JP_checkIndex 15 = .ok (.athrow, 1) := by decide +kernel
theorem d_JP_checkIndex_16 : decode b_JP_checkIndex 16 = .ok (.iload_n 0, 1) := by decide +kernel
theorem d_JP_checkIndex_17 : decode b_JP_checkIndex 17 = .ok (.ireturn, 1) := by decide +kernel
theorem d_JS_checkIndex_0 : decode b_JS_checkIndex 0 = .ok (.iload_n 0, 1) := by decide +kernel
theorem d_JS_checkIndex_1 : decode b_JS_checkIndex 1 = .ok (.iload_n 1, 1) := by decide +kernel
theorem d_JS_checkIndex_2 : decode b_JS_checkIndex 2 = .ok (.getstatic 1053, 3) := by decide +kernel
theorem d_JS_checkIndex_5 : decode b_JS_checkIndex 5 = .ok (.invokestatic 1059, 3) := by decide +kernel
theorem d_JS_checkIndex_8 : decode b_JS_checkIndex 8 = .ok (.pop, 1) := by decide +kernel
theorem d_JS_checkIndex_9 : decode b_JS_checkIndex 9 = .ok (.return_, 1) := by decide +kernel
theorem d_JL_charAt_0 : decode b_JL_charAt 0 = .ok (.iload_n 1, 1) := by decide +kernel
theorem d_JL_charAt_1 : decode b_JL_charAt 1 = .ok (.aload_n 0, 1) := by decide +kernel
theorem d_JL_charAt_2 : decode b_JL_charAt 2 = .ok (.arraylength, 1) := by decide +kernel
theorem d_JL_charAt_3 : decode b_JL_charAt 3 = .ok (.invokestatic 9, 3) := by decide +kernel
theorem d_JL_charAt_6 : decode b_JL_charAt 6 = .ok (.aload_n 0, 1) := by decide +kernel
theorem d_JL_charAt_7 : decode b_JL_charAt 7 = .ok (.iload_n 1, 1) := by decide +kernel
theorem d_JL_charAt_8 : decode b_JL_charAt 8 = .ok (.baload, 1) := by decide +kernel
theorem d_JL_charAt_9 : decode b_JL_charAt 9 = .ok (.sipush 255, 3) := by decide +kernel
theorem d_JL_charAt_12 : decode b_JL_charAt 12 = .ok (.iand, 1) := by decide +kernel
theorem d_JL_charAt_13 : decode b_JL_charAt 13 = .ok (.i2c, 1) := by decide +kernel
theorem d_JL_charAt_14 : decode b_JL_charAt 14 = .ok (.ireturn, 1) := by decide +kernel
theorem d_JS_isLatin1_0 : decode b_JS_isLatin1 0 = .ok (.getstatic 38, 3) := by decide +kernel
theorem d_JS_isLatin1_3 : decode b_JS_isLatin1 3 = .ok (.ifCond .eq 14, 3) := by decide +kernel
theorem d_JS_isLatin1_6 : decode b_JS_isLatin1 6 = .ok (.aload_n 0, 1) := by decide +kernel
theorem d_JS_isLatin1_7 : decode b_JS_isLatin1 7 = .ok (.getfield 15, 3) := by decide +kernel
theorem d_JS_isLatin1_10 : decode b_JS_isLatin1 10 = .ok (.ifCond .ne 7, 3) := by decide +kernel
theorem d_JS_isLatin1_13 : decode b_JS_isLatin1 13 = .ok (.iconst 1, 1) := by decide +kernel
theorem d_JS_isLatin1_14 : decode b_JS_isLatin1 14 = .ok (.goto 4, 3) := by decide +kernel
theorem d_JS_isLatin1_17 : decode b_JS_isLatin1 17 = .ok (.iconst 0, 1) := by decide +kernel
theorem d_JS_isLatin1_18 : decode b_JS_isLatin1 18 = .ok (.ireturn, 1) := by decide +kernel
theorem d_JS_coder_0 : decode b_JS_coder 0 = .ok (.getstatic 38, 3) := by decide +kernel
theorem d_JS_coder_3 : decode b_JS_coder 3 = .ok (.ifCond .eq 10, 3) := by decide +kernel
theorem d_JS_coder_6 : decode b_JS_coder 6 = .ok (.aload_n 0, 1) := by decide +kernel
theorem d_JS_coder_7 : decode b_JS_coder 7 = .ok (.getfield 15, 3) := by decide +kernel
theorem d_JS_coder_10 : decode b_JS_coder 10 = .ok (.goto 4, 3) := by decide +kernel
theorem d_JS_coder_13 : decode b_JS_coder 13 = .ok (.iconst 1, 1) := by decide +kernel
theorem d_JS_coder_14 : decode b_JS_coder 14 = .ok (.ireturn, 1) := by decide +kernel
theorem d_JS_length_0 : decode b_JS_length 0 = .ok (.aload_n 0, 1) := by decide +kernel
theorem d_JS_length_1 : decode b_JS_length 1 = .ok (.getfield 9, 3) := by decide +kernel
theorem d_JS_length_4 : decode b_JS_length 4 = .ok (.arraylength, 1) := by decide +kernel
theorem d_JS_length_5 : decode b_JS_length 5 = .ok (.aload_n 0, 1) := by decide +kernel
theorem d_JS_length_6 : decode b_JS_length 6 = .ok (.invokevirtual 335, 3) := by decide +kernel
theorem d_JS_length_9 : decode b_JS_length 9 = .ok (.ishr, 1) := by decide +kernel
theorem d_JS_length_10 : decode b_JS_length 10 = .ok (.ireturn, 1) := by decide +kernel
theorem d_JS_charAt_0 : decode b_JS_charAt 0 = .ok (.aload_n 0, 1) := by decide +kernel
theorem d_JS_charAt_1 : decode b_JS_charAt 1 = .ok (.invokevirtual 492, 3) := by decide +kernel
theorem d_JS_charAt_4 : decode b_JS_charAt 4 = .ok (.ifCond .eq 12, 3) := by decide +kernel
theorem d_JS_charAt_7 : decode b_JS_charAt 7 = .ok (.aload_n 0, 1) := by decide +kernel
theorem d_JS_charAt_8 : decode b_JS_charAt 8 = .ok (.getfield 9, 3) := by decide +kernel
theorem d_JS_charAt_11 : decode b_JS_charAt 11 = .ok (.iload_n 1, 1) := by decide +kernel
theorem d_JS_charAt_12 : decode b_JS_charAt 12 = .ok (.invokestatic 495, 3) := by decide +kernel
theorem d_JS_charAt_15 : decode b_JS_charAt 15 = .ok (.ireturn, 1) := by decide +kernel
theorem d_JS_charAt_16 : decode b_JS_charAt 16 = .ok (.aload_n 0, 1) := by decide +kernel
theorem d_JS_charAt_17 : decode b_JS_charAt 17 = .ok (.getfield 9, 3) := by decide +kernel
theorem d_JS_charAt_20 : decode b_JS_charAt 20 = .ok (.iload_n 1, 1) := by decide +kernel
theorem d_JS_charAt_21 : decode b_JS_charAt 21 = .ok (.invokestatic 498, 3) := by decide +kernel
theorem d_JS_charAt_24 : decode b_JS_charAt 24 = .ok (.ireturn, 1) := by decide +kernel
section GTEXT
variable {X : GX} {cc : ByteArray} {own : String} {n : Nat} {R : Room} {k z : Nat} {ws ws' : va_W} {lv lv' : List (Nat × Value)} {st st' : List Value} {pc tgt : Nat} {off : Int}
theorem g_sval (C : GC X cc own n R) {i j : Nat} (hj : j < 16) (hlk : Cond.fieldLink own i R_JS "value" "[B" ∈ TB) (d : decode cc pc = .ok (.getfield i, 3)) (h : G X k z ws lv (.ref (vaV (xv X) j) :: st) (pc + 3)) : G X k z ws lv (.ref (vaK (xv X) j) :: st) pc :=
  fun H locs ls hP hD hS hl => vk_getf C.1 C.2.1 (C.2.2.2.2.2.2.2.1.2.2.2.2.2.1.1 j hj).2.2.1 hS C.2.2.2.1 (C.2.2.2.2.1 _ hlk) (fun _ h9 => h9) d (h H locs ls hP hD hS hl)
theorem g_scod (C : GC X cc own n R) {i j : Nat} (hj : j < 16) (hlk : Cond.fieldLink own i R_JS "coder" "B" ∈ TB) (d : decode cc pc = .ok (.getfield i, 3)) (h : G X k z ws lv (.int 0 :: st) (pc + 3)) : G X k z ws lv (.ref (vaK (xv X) j) :: st) pc :=
  fun H locs ls hP hD hS hl => vk_getf C.1 C.2.1 (C.2.2.2.2.2.2.2.1.2.2.2.2.2.1.1 j hj).2.1 hS C.2.2.2.1 (C.2.2.2.2.1 _ hlk) (fun _ h9 => h9) d (h H locs ls hP hD hS hl)
theorem g_scomp (C : GC X cc own n R) {i : Nat} (hlk : Cond.fieldLink own i R_JS "COMPACT_STRINGS" "Z" ∈ TB) (d : decode cc pc = .ok (.getstatic i, 3)) (h : G X k z ws lv (.int 1 :: st) (pc + 3)) : G X k z ws lv st pc :=
  fun H locs ls hP hD hS hl => va_gets C.1 C.2.1 C.2.2.2.2.2.2.2.1.2.2.2.2.1 hS C.2.2.2.1 (C.2.2.2.2.1 _ hlk) (fun _ h9 => h9) d (h H locs ls hP hD hS hl)
theorem g_sfmt (C : GC X cc own n R) {i : Nat} (hlk : Cond.fieldLink own i R_JP "SIOOBE_FORMATTER" "Ljava/util/function/BiFunction;" ∈ TB) (d : decode cc pc = .ok (.getstatic i, 3)) (h : ∀ r : Option Nat, G X k z ws lv (va_rf r :: st) (pc + 3)) : G X k z ws lv st pc := by
  intro H locs ls hP hD hS hl
  rcases C.2.2.2.2.2.2.2.1.2.2.2.2.2.2.1 with hz | ⟨t, hz⟩
  · exact va_gets C.1 C.2.1 hz hS C.2.2.2.1 (C.2.2.2.2.1 _ hlk) (fun _ h9 => h9) d (h none H locs ls hP hD hS hl)
  · exact va_gets C.1 C.2.1 hz hS C.2.2.2.1 (C.2.2.2.2.1 _ hlk) (fun _ h9 => h9) d (h (some t) H locs ls hP hD hS hl)
theorem g_slen (C : GC X cc own n R) {j : Nat} (hj : j < 16) (d : decode cc pc = .ok (.arraylength, 1)) (h : G X k z ws lv (.int (Int32.ofNat (txLen.getD j 0)) :: st) (pc + 1)) : G X k z ws lv (.ref (vaV (xv X) j) :: st) pc :=
  fun H locs ls hP hD hS hl => va_tlen C.1 C.2.1 (C.2.2.2.2.2.2.2.1.2.2.2.2.2.1.1 j hj).2.2.2 hS rfl d (h H locs ls hP hD hS hl)
theorem g_sbyt (C : GC X cc own n R) {j : Nat} (hj : j < 16) {i : Int32} (hi : vp_in i (txLen.getD j 0)) (d : decode cc pc = .ok (.baload, 1)) (h : G X k z ws lv (.int ((txByt.getD j []).getD i.toNatClampNeg 0) :: st) (pc + 1)) : G X k z ws lv (.int i :: .ref (vaV (xv X) j) :: st) pc :=
  fun H locs ls hP hD hS hl => va_tb C.1 C.2.1 (C.2.2.2.2.2.2.2.1.2.2.2.2.2.1.1 j hj).2.2.2 hS hi rfl d (h H locs ls hP hD hS hl)
end GTEXT
theorem tx_len : ∀ j, j < 16 → txLen.getD j 0 < 2 ^ 31 ∧ Int32.ofNat (txLen.getD j 0) >>> ((0 : Int32) &&& 31) = nI (txLen.getD j 0) := by decide +kernel
def txc (j k : Nat) : Int32 := ((((txByt.getD j []).getD k 0) &&& 255).toUInt32 % 65536).toInt32
theorem c_JP_checkIndex (l : Launch) (D : va_G) (t : Nat → ClassId) (ev : Nat → Nat) (x0 x1 : Int32) (r : Option Nat) (post : Int32 → Prop) (h0 : ¬ x0 < 0) (h1 : x0 < x1) (hw : post x0) : Con l D t ev y_JP_checkIndex b_JP_checkIndex 3 (some .int) 0 [] [.int x0, .int x1, va_rf r] (qI (fun _ : Unit => []) (fun v _ => post v)) := by
  cases r with
  | none =>
    refine ConR.of (by decide +kernel) (Nat.le_of_ble_eq_true rfl) (fun X el eD et ee C q _ => ?_)
    subst el; subst eD; subst et; subst ee
    show G X 0 0 [] [(0, .int x0), (1, .int x1), (2, .null)] [] 0
    refine g_iload_n (pc := 0) C d_JP_checkIndex_0 0 rfl rfl ?_
    refine g_if_lt (pc := 1) (tgt := 9) C d_JP_checkIndex_1 (by decide) (fun h => absurd h h0) (fun _ => ?_)
    refine g_iload_n (pc := 4) C d_JP_checkIndex_4 0 rfl rfl ?_
    refine g_iload_n (pc := 5) C d_JP_checkIndex_5 1 rfl rfl ?_
    refine g_icmp_lt (pc := 6) (tgt := 16) C d_JP_checkIndex_6 (by decide) (fun _ => ?_) (fun h => absurd h1 h)
    refine g_iload_n (pc := 16) C d_JP_checkIndex_16 0 rfl rfl ?_
    exact g_iret (pc := 17) C q d_JP_checkIndex_17 ⟨⟨x0, (), rfl, rfl, hw⟩, rfl⟩
  | some y =>
    refine ConR.of (by decide +kernel) (Nat.le_of_ble_eq_true rfl) (fun X el eD et ee C q _ => ?_)
    subst el; subst eD; subst et; subst ee
    show G X 0 0 [] [(0, .int x0), (1, .int x1), (2, .ref y)] [] 0
    refine g_iload_n (pc := 0) C d_JP_checkIndex_0 0 rfl rfl ?_
    refine g_if_lt (pc := 1) (tgt := 9) C d_JP_checkIndex_1 (by decide) (fun h => absurd h h0) (fun _ => ?_)
    refine g_iload_n (pc := 4) C d_JP_checkIndex_4 0 rfl rfl ?_
    refine g_iload_n (pc := 5) C d_JP_checkIndex_5 1 rfl rfl ?_
    refine g_icmp_lt (pc := 6) (tgt := 16) C d_JP_checkIndex_6 (by decide) (fun _ => ?_) (fun h => absurd h1 h)
    refine g_iload_n (pc := 16) C d_JP_checkIndex_16 0 rfl rfl ?_
    exact g_iret (pc := 17) C q d_JP_checkIndex_17 ⟨⟨x0, (), rfl, rfl, hw⟩, rfl⟩
theorem c_JS_checkIndex (l : Launch) (D : va_G) (t : Nat → ClassId) (ev : Nat → Nat) (x0 x1 : Int32) (post : Prop) (h0 : ¬ x0 < 0) (h1 : x0 < x1) (hw : post) : Con l D t ev y_JS_checkIndex b_JS_checkIndex 2 none 1 [] [.int x0, .int x1] (qV (fun _ : Unit => []) (fun _ => post)) := by
  refine ConR.of (by decide +kernel) (Nat.le_of_ble_eq_true rfl) (fun X el eD et ee C q _ => ?_)
  subst el; subst eD; subst et; subst ee
  show G X 0 0 [] [(0, .int x0), (1, .int x1)] [] 0
  refine g_iload_n (pc := 0) C d_JS_checkIndex_0 0 rfl rfl ?_
  refine g_iload_n (pc := 1) C d_JS_checkIndex_1 1 rfl rfl ?_
  refine g_sfmt (pc := 2) C lk_JS_1053 d_JS_checkIndex_2 (fun r => ?_)
  refine k_I0 (pc := 5) (co_S C (c_JP_checkIndex (xl X) (xD X) (xt X) (xv X) x0 x1 r (fun _ => post) h0 h1 hw) mw_JP_checkIndex lk_JS_1059 d_JS_checkIndex_5 [] rfl (by decide) rfl rfl ⟨Nat.le_of_ble_eq_true rfl, Nat.le_of_ble_eq_true rfl⟩ ⟨Nat.le_of_ble_eq_true rfl, Nat.le_of_ble_eq_true rfl⟩ (rest := []) rfl rfl (Nat.le_of_ble_eq_true rfl)) (fun v hw => ?_)
  refine g_pop (pc := 8) C d_JS_checkIndex_8 rfl ?_
  exact g_vret (pc := 9) C q d_JS_checkIndex_9 ⟨⟨(), rfl, rfl, hw⟩, rfl⟩
theorem k_V0 {X : GX} {k z : Nat} {ws : va_W} {lv : List (Nat × Value)} {st rest : List Value} {pc : Nat} {post : Prop} (co : CO X k z 0 0 ws [] lv st rest pc (qV (fun _ : Unit => []) (fun _ => post))) (h : post → G X k z ws lv rest (pc + 3)) : G X k z ws lv st pc := k_V co (fun _ => ws) (fun _ => rfl) (fun _ hq => h hq)
theorem c_JL_charAt (l : Launch) (D : va_G) (t : Nat → ClassId) (ev : Nat → Nat) (j : Nat) (x1 : Int32) (post : Int32 → Prop) (hj : j < 16) (h1 : vp_in x1 (txLen.getD j 0)) (hw : post (txc j x1.toNatClampNeg)) : Con l D t ev y_JL_charAt b_JL_charAt 2 (some .char) 2 [] [.ref (vaV ev j), .int x1] (qI (fun _ : Unit => []) (fun v _ => post v)) := by
  refine ConR.of (by decide +kernel) (Nat.le_of_ble_eq_true rfl) (fun X el eD et ee C q _ => ?_)
  subst el; subst eD; subst et; subst ee
  show G X 0 0 [] [(0, .ref (vaV (xv X) j)), (1, .int x1)] [] 0
  refine g_iload_n (pc := 0) C d_JL_charAt_0 1 rfl rfl ?_
  refine g_aload_n (pc := 1) C d_JL_charAt_1 0 rfl rfl ?_
  refine g_slen (pc := 2) C hj d_JL_charAt_2 ?_
  have hx : ¬ x1 < 0 ∧ x1 < Int32.ofNat (txLen.getD j 0) := by
    obtain ⟨m, hm, rfl⟩ := vp_in_of h1 (tx_len j hj).1
    exact ⟨nI_pos (Nat.lt_trans hm (tx_len j hj).1), nI_lt hm (tx_len j hj).1⟩
  refine k_V0 (pc := 3) (co_S C (c_JS_checkIndex (xl X) (xD X) (xt X) (xv X) x1 (Int32.ofNat (txLen.getD j 0)) (post (txc j x1.toNatClampNeg)) hx.1 hx.2 hw) mw_JS_checkIndex lk_JL_9 d_JL_charAt_3 [] rfl (by decide) rfl rfl ⟨Nat.le_of_ble_eq_true rfl, Nat.le_of_ble_eq_true rfl⟩ ⟨Nat.le_of_ble_eq_true rfl, Nat.le_of_ble_eq_true rfl⟩ (rest := []) rfl rfl (Nat.le_of_ble_eq_true rfl)) (fun hw => ?_)
  refine g_aload_n (pc := 6) C d_JL_charAt_6 0 rfl rfl ?_
  refine g_iload_n (pc := 7) C d_JL_charAt_7 1 rfl rfl ?_
  refine g_sbyt (pc := 8) C hj h1 d_JL_charAt_8 ?_
  refine g_sipush (pc := 9) C (v := 255) d_JL_charAt_9 (by decide) ?_
  refine g_iand (pc := 12) C d_JL_charAt_12 ?_
  refine g_i2c (pc := 13) C d_JL_charAt_13 ?_
  exact g_zret (pc := 14) C q d_JL_charAt_14 (pk_nc _) ⟨⟨_, (), rfl, rfl, hw⟩, rfl⟩
theorem c_JS_isLatin1 (l : Launch) (D : va_G) (t : Nat → ClassId) (ev : Nat → Nat) (j : Nat) (post : Int32 → Prop) (hj : j < 16) (hw : post 1) : Con l D t ev y_JS_isLatin1 b_JS_isLatin1 1 (some .boolean) 0 [] [.ref (vaK ev j)] (qI (fun _ : Unit => []) (fun v _ => post v)) := by
  refine ConR.of (by decide +kernel) (Nat.le_of_ble_eq_true rfl) (fun X el eD et ee C q _ => ?_)
  subst el; subst eD; subst et; subst ee
  show G X 0 0 [] [(0, .ref (vaK (xv X) j))] [] 0
  refine g_scomp (pc := 0) C lk_JS_38 d_JS_isLatin1_0 ?_
  refine g_if_eq (pc := 3) (tgt := 17) C d_JS_isLatin1_3 (by decide) (fun h9 => absurd h9 (by decide)) (fun _ => ?_)
  refine g_aload_n (pc := 6) C d_JS_isLatin1_6 0 rfl rfl ?_
  refine g_scod (pc := 7) C hj lk_JS_15 d_JS_isLatin1_7 ?_
  refine g_if_ne (pc := 10) (tgt := 17) C d_JS_isLatin1_10 (by decide) (fun h9 => absurd rfl h9) (fun _ => ?_)
  refine g_iconst (pc := 13) C (v := 1) d_JS_isLatin1_13 (by decide) ?_
  refine g_goto (pc := 14) (tgt := 18) C d_JS_isLatin1_14 (by decide) ?_
  exact g_zret (pc := 18) C q d_JS_isLatin1_18 (by decide) ⟨⟨_, (), rfl, rfl, hw⟩, rfl⟩
theorem c_JS_coder (l : Launch) (D : va_G) (t : Nat → ClassId) (ev : Nat → Nat) (j : Nat) (post : Int32 → Prop) (hj : j < 16) (hw : post 0) : Con l D t ev y_JS_coder b_JS_coder 1 (some .byte) 0 [] [.ref (vaK ev j)] (qI (fun _ : Unit => []) (fun v _ => post v)) := by
  refine ConR.of (by decide +kernel) (Nat.le_of_ble_eq_true rfl) (fun X el eD et ee C q _ => ?_)
  subst el; subst eD; subst et; subst ee
  show G X 0 0 [] [(0, .ref (vaK (xv X) j))] [] 0
  refine g_scomp (pc := 0) C lk_JS_38 d_JS_coder_0 ?_
  refine g_if_eq (pc := 3) (tgt := 13) C d_JS_coder_3 (by decide) (fun h9 => absurd h9 (by decide)) (fun _ => ?_)
  refine g_aload_n (pc := 6) C d_JS_coder_6 0 rfl rfl ?_
  refine g_scod (pc := 7) C hj lk_JS_15 d_JS_coder_7 ?_
  refine g_goto (pc := 10) (tgt := 14) C d_JS_coder_10 (by decide) ?_
  exact g_zret (pc := 14) C q d_JS_coder_14 (by decide) ⟨⟨_, (), rfl, rfl, hw⟩, rfl⟩
/-- String.length() of a text -/
def wp_JS_length (j : Nat) (post : Int32 → Prop) : Prop := j < 16 ∧ post (nI (txLen.getD j 0))
theorem c_JS_length (l : Launch) (D : va_G) (t : Nat → ClassId) (ev : Nat → Nat) (j : Nat) (post : Int32 → Prop) (hw : wp_JS_length j post) : Con l D t ev y_JS_length b_JS_length 1 (some .int) 1 [] [.ref (vaK ev j)] (qI (fun _ : Unit => []) (fun v _ => post v)) := by
  obtain ⟨hj, hw⟩ := hw
  refine ConR.of (by decide +kernel) (Nat.le_of_ble_eq_true rfl) (fun X el eD et ee C q _ => ?_)
  subst el; subst eD; subst et; subst ee
  show G X 0 0 [] [(0, .ref (vaK (xv X) j))] [] 0
  refine g_aload_n (pc := 0) C d_JS_length_0 0 rfl rfl ?_
  refine g_sval (pc := 1) C hj lk_JS_9 d_JS_length_1 ?_
  refine g_slen (pc := 4) C hj d_JS_length_4 ?_
  refine g_aload_n (pc := 5) C d_JS_length_5 0 rfl rfl ?_
  refine k_I0 (pc := 6) (co_V C (c_JS_coder (xl X) (xD X) (xt X) (xv X) j (fun v => v = 0) hj rfl) mw_JS_coder lk_JS_335 d_JS_length_6 [] rfl (by decide) (rec_s C hj) rfl rfl ⟨Nat.le_of_ble_eq_true rfl, Nat.le_of_ble_eq_true rfl⟩ ⟨Nat.le_of_ble_eq_true rfl, Nat.le_of_ble_eq_true rfl⟩ (rest := [.int (Int32.ofNat (txLen.getD j 0))]) rfl rfl (Nat.le_of_ble_eq_true rfl)) (fun v hv => ?_)
  subst hv
  refine g_ishr (pc := 9) C d_JS_length_9 ?_
  rw [(tx_len j hj).2]
  exact g_iret (pc := 10) C q d_JS_length_10 ⟨⟨_, (), rfl, rfl, hw⟩, rfl⟩
/-- String.charAt(k) of a text -/
def wp_JS_charAt (j : Nat) (x1 : Int32) (post : Int32 → Prop) : Prop := j < 16 ∧ vp_in x1 (txLen.getD j 0) ∧ post (txc j x1.toNatClampNeg)
theorem c_JS_charAt (l : Launch) (D : va_G) (t : Nat → ClassId) (ev : Nat → Nat) (j : Nat) (x1 : Int32) (post : Int32 → Prop) (hw : wp_JS_charAt j x1 post) : Con l D t ev y_JS_charAt b_JS_charAt 2 (some .char) 3 [] [.ref (vaK ev j), .int x1] (qI (fun _ : Unit => []) (fun v _ => post v)) := by
  obtain ⟨hj, h1, hw⟩ := hw
  refine ConR.of (by decide +kernel) (Nat.le_of_ble_eq_true rfl) (fun X el eD et ee C q _ => ?_)
  subst el; subst eD; subst et; subst ee
  show G X 0 0 [] [(0, .ref (vaK (xv X) j)), (1, .int x1)] [] 0
  refine g_aload_n (pc := 0) C d_JS_charAt_0 0 rfl rfl ?_
  refine k_I0 (pc := 1) (co_V C (c_JS_isLatin1 (xl X) (xD X) (xt X) (xv X) j (fun v => v = 1) hj rfl) mw_JS_isLatin1 lk_JS_492 d_JS_charAt_1 [] rfl (by decide) (rec_s C hj) rfl rfl ⟨Nat.le_of_ble_eq_true rfl, Nat.le_of_ble_eq_true rfl⟩ ⟨Nat.le_of_ble_eq_true rfl, Nat.le_of_ble_eq_true rfl⟩ (rest := []) rfl rfl (Nat.le_of_ble_eq_true rfl)) (fun v hv => ?_)
  subst hv
  refine g_if_eq (pc := 4) (tgt := 16) C d_JS_charAt_4 (by decide) (fun h9 => absurd h9 (by decide)) (fun _ => ?_)
  refine g_aload_n (pc := 7) C d_JS_charAt_7 0 rfl rfl ?_
  refine g_sval (pc := 8) C hj lk_JS_9 d_JS_charAt_8 ?_
  refine g_iload_n (pc := 11) C d_JS_charAt_11 1 rfl rfl ?_
  refine k_I0 (pc := 12) (co_S C (c_JL_charAt (xl X) (xD X) (xt X) (xv X) j x1 (fun v => v = txc j x1.toNatClampNeg) hj h1 rfl) mw_JL_charAt lk_JS_495 d_JS_charAt_12 [] rfl (by decide) rfl rfl ⟨Nat.le_of_ble_eq_true rfl, Nat.le_of_ble_eq_true rfl⟩ ⟨Nat.le_of_ble_eq_true rfl, Nat.le_of_ble_eq_true rfl⟩ (rest := []) rfl rfl (Nat.le_of_ble_eq_true rfl)) (fun v hv => ?_)
  subst hv
  exact g_zret (pc := 15) C q d_JS_charAt_15 (pk_nc _) ⟨⟨_, (), rfl, rfl, hw⟩, rfl⟩
