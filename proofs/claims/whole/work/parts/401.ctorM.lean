def wordsL : List Int32 := [98, 97, 114, 103, 101, 32, 32, 32, 109, 117, 116, 101, 32, 32, 32, 32, 108, 111, 118, 101, 114, 32, 32, 32, 98, 105, 115, 104, 111, 112, 32, 32, 109, 105, 108, 108, 101, 114, 32, 32, 100, 101, 97, 108, 101, 114, 32, 32, 97, 116, 32, 32, 32, 32, 32, 32, 102, 111, 114, 32, 32, 32, 32, 32, 108, 111, 97, 100, 32, 32, 32, 32, 111, 116, 104, 101, 114, 32, 32, 32, 105, 115, 32, 32, 32, 32, 32, 32, 110, 111, 105, 115, 101, 32, 32, 32, 101, 99, 104, 111, 32, 32, 32, 32, 104, 117, 115, 104, 32, 32, 32, 32, 119, 105, 110, 100, 32, 32, 32, 32, 108, 97, 117, 103, 104, 32, 32, 32]
def wordsF : Nat → Int32 := upd (upd (upd (upd (upd (upd (upd (upd (upd (upd (upd (upd (upd (upd (upd (upd (upd (upd (upd (upd (upd (upd (upd (upd (upd (upd (upd (upd (upd (upd (upd (upd (upd (upd (upd (upd (upd (upd (upd (upd (upd (upd (upd (upd (upd (upd (upd (upd (upd (upd (upd (upd (upd (upd (upd (upd (upd (upd (upd (upd (upd (upd (upd (upd (upd (upd (upd (upd (upd (upd (upd (upd (upd (upd (upd (upd (upd (upd (upd (upd (upd (upd (upd (upd (upd (upd (upd (upd (upd (upd (upd (upd (upd (upd (upd (upd (upd (upd (upd (upd (upd (upd (upd (upd (upd (upd (upd (upd (upd (upd (upd (upd (upd (upd (upd (upd (upd (upd (upd (upd (upd (upd (upd (upd (upd (upd (upd (upd (fun _ => 0) 0 98) 1 97) 2 114) 3 103) 4 101) 5 32) 6 32) 7 32) 8 109) 9 117) 10 116) 11 101) 12 32) 13 32) 14 32) 15 32) 16 108) 17 111) 18 118) 19 101) 20 114) 21 32) 22 32) 23 32) 24 98) 25 105) 26 115) 27 104) 28 111) 29 112) 30 32) 31 32) 32 109) 33 105) 34 108) 35 108) 36 101) 37 114) 38 32) 39 32) 40 100) 41 101) 42 97) 43 108) 44 101) 45 114) 46 32) 47 32) 48 97) 49 116) 50 32) 51 32) 52 32) 53 32) 54 32) 55 32) 56 102) 57 111) 58 114) 59 32) 60 32) 61 32) 62 32) 63 32) 64 108) 65 111) 66 97) 67 100) 68 32) 69 32) 70 32) 71 32) 72 111) 73 116) 74 104) 75 101) 76 114) 77 32) 78 32) 79 32) 80 105) 81 115) 82 32) 83 32) 84 32) 85 32) 86 32) 87 32) 88 110) 89 111) 90 105) 91 115) 92 101) 93 32) 94 32) 95 32) 96 101) 97 99) 98 104) 99 111) 100 32) 101 32) 102 32) 103 32) 104 104) 105 117) 106 115) 107 104) 108 32) 109 32) 110 32) 111 32) 112 119) 113 105) 114 110) 115 100) 116 32) 117 32) 118 32) 119 32) 120 108) 121 97) 122 117) 123 103) 124 104) 125 32) 126 32) 127 32
def ini_M0 : MSt := (fun _ => 0, fun _ => 0, fun _ => 0, 0, (-1), fun _ => 0, 0, 0, 0, 0, 0, wordsF, 0, fun _ => 0, 0, fun _ => 0, fun _ => 0, fun _ => 0, fun _ => 0, fun _ => 0, fun _ => 0, fun _ => 0, 0, 0, 0)
set_option maxHeartbeats 4000000 in
set_option maxRecDepth 100000 in
theorem c_M_init (l : Launch) (D : va_G) (t : Nat → ClassId) (ev : Nat → Nat) (h : Nat) (post : MSt → Prop) (hw : wp_M_first ini_M0 (fun m => post (M_d_ m (upd (M_d m) 6 1)))) : ConR l D t ev y_M_init b_M_init 1 none (rmc 1 13 769) 13 769 [(h, .inr (6, [.null, .null, .null, .int 0, .int 0, .null, .int 0, .int 0, .int 0, .int 0, .int 0, .null, .int 0, .null, .int 0, .null, .null, .null, .null, .null, .null, .null, .int 0, .int 0, .int 0]))] [.ref h] (fun r u => r = none ∧ ∃ (a : Nat → Nat) (m : MSt), a 0 = h ∧ u = woM t a m ∧ post m) := by
  refine ConR.of (by decide +kernel) (Nat.le_of_ble_eq_true rfl) (fun X el eD et ee C q hin => ?_)
  subst el; subst eD; subst et; subst ee
  replace hin := hin rfl
  show G X 0 0 [(h, .inr (6, [.null, .null, .null, .int 0, .int 0, .null, .int 0, .int 0, .int 0, .int 0, .int 0, .null, .int 0, .null, .int 0, .null, .null, .null, .null, .null, .null, .null, .int 0, .int 0, .int 0]))] [(0, .ref h)] [] 0
  refine g_aload_n (pc := 0) C d_M_init_0 0 rfl rfl ?_
  refine g_objInit (pc := 1) C lk_M_1 ⟨Nat.le_of_ble_eq_true rfl, Nat.le_of_ble_eq_true rfl⟩ d_M_init_1 (Nat.le_of_ble_eq_true rfl) ?_
  refine g_aload_n (pc := 4) C d_M_init_4 0 rfl rfl ?_
  refine g_bipush (pc := 5) C (v := 67) d_M_init_5 (by decide) ?_
  refine g_newI (pc := 7) C (k' := 1) (z' := 67) (N := 67) d_M_init_7 (by decide) (by decide) (by decide) rfl rfl ⟨Nat.le_of_ble_eq_true rfl, Nat.le_of_ble_eq_true rfl⟩ (fun q0 => ?_)
  refine g_ws (ws' := [(h, .inr (6, [.null, .null, .null, .int 0, .int 0, .null, .int 0, .int 0, .int 0, .int 0, .int 0, .null, .int 0, .null, .int 0, .null, .null, .null, .null, .null, .null, .null, .int 0, .int 0, .int 0])), (q0, .inl ((xt X) 2, 67, .inl (fun _ => 0)))]) rfl ?_
  refine g_putF (pc := 9) C hin i_M (ci := 6) rfl ty_M ty_M_ok n_M 0 0 (Nat.le_of_ble_eq_true rfl) lk_M_7 rfl rfl rfl d_M_init_9 rfl rfl rfl (Nat.le_of_ble_eq_true rfl) (ws' := [(h, .inr (6, [.ref q0, .null, .null, .int 0, .int 0, .null, .int 0, .int 0, .int 0, .int 0, .int 0, .null, .int 0, .null, .int 0, .null, .null, .null, .null, .null, .null, .null, .int 0, .int 0, .int 0])), (q0, .inl ((xt X) 2, 67, .inl (fun _ => 0)))]) rfl ?_
  refine g_aload_n (pc := 12) C d_M_init_12 0 rfl rfl ?_
  refine g_bipush (pc := 13) C (v := 67) d_M_init_13 (by decide) ?_
  refine g_newI (pc := 15) C (k' := 2) (z' := 134) (N := 67) d_M_init_15 (by decide) (by decide) (by decide) rfl rfl ⟨Nat.le_of_ble_eq_true rfl, Nat.le_of_ble_eq_true rfl⟩ (fun q1 => ?_)
  refine g_ws (ws' := [(h, .inr (6, [.ref q0, .null, .null, .int 0, .int 0, .null, .int 0, .int 0, .int 0, .int 0, .int 0, .null, .int 0, .null, .int 0, .null, .null, .null, .null, .null, .null, .null, .int 0, .int 0, .int 0])), (q0, .inl ((xt X) 2, 67, .inl (fun _ => 0))), (q1, .inl ((xt X) 2, 67, .inl (fun _ => 0)))]) rfl ?_
  refine g_putF (pc := 17) C hin i_M (ci := 6) rfl ty_M ty_M_ok n_M 0 1 (Nat.le_of_ble_eq_true rfl) lk_M_13 rfl rfl rfl d_M_init_17 rfl rfl rfl (Nat.le_of_ble_eq_true rfl) (ws' := [(h, .inr (6, [.ref q0, .ref q1, .null, .int 0, .int 0, .null, .int 0, .int 0, .int 0, .int 0, .int 0, .null, .int 0, .null, .int 0, .null, .null, .null, .null, .null, .null, .null, .int 0, .int 0, .int 0])), (q0, .inl ((xt X) 2, 67, .inl (fun _ => 0))), (q1, .inl ((xt X) 2, 67, .inl (fun _ => 0)))]) rfl ?_
  refine g_aload_n (pc := 20) C d_M_init_20 0 rfl rfl ?_
  refine g_bipush (pc := 21) C (v := 67) d_M_init_21 (by decide) ?_
  refine g_newI (pc := 23) C (k' := 3) (z' := 201) (N := 67) d_M_init_23 (by decide) (by decide) (by decide) rfl rfl ⟨Nat.le_of_ble_eq_true rfl, Nat.le_of_ble_eq_true rfl⟩ (fun q2 => ?_)
  refine g_ws (ws' := [(h, .inr (6, [.ref q0, .ref q1, .null, .int 0, .int 0, .null, .int 0, .int 0, .int 0, .int 0, .int 0, .null, .int 0, .null, .int 0, .null, .null, .null, .null, .null, .null, .null, .int 0, .int 0, .int 0])), (q0, .inl ((xt X) 2, 67, .inl (fun _ => 0))), (q1, .inl ((xt X) 2, 67, .inl (fun _ => 0))), (q2, .inl ((xt X) 2, 67, .inl (fun _ => 0)))]) rfl ?_
  refine g_putF (pc := 25) C hin i_M (ci := 6) rfl ty_M ty_M_ok n_M 0 2 (Nat.le_of_ble_eq_true rfl) lk_M_16 rfl rfl rfl d_M_init_25 rfl rfl rfl (Nat.le_of_ble_eq_true rfl) (ws' := [(h, .inr (6, [.ref q0, .ref q1, .ref q2, .int 0, .int 0, .null, .int 0, .int 0, .int 0, .int 0, .int 0, .null, .int 0, .null, .int 0, .null, .null, .null, .null, .null, .null, .null, .int 0, .int 0, .int 0])), (q0, .inl ((xt X) 2, 67, .inl (fun _ => 0))), (q1, .inl ((xt X) 2, 67, .inl (fun _ => 0))), (q2, .inl ((xt X) 2, 67, .inl (fun _ => 0)))]) rfl ?_
  refine g_aload_n (pc := 28) C d_M_init_28 0 rfl rfl ?_
  refine g_iconst (pc := 29) C (v := (-1)) d_M_init_29 (by decide) ?_
  refine g_putf (pc := 30) C i_M (ci := 6) rfl ty_M ty_M_ok n_M 0 4 (Nat.le_of_ble_eq_true rfl) lk_M_19 rfl rfl d_M_init_30 rfl (by decide) (by decide) (Nat.le_of_ble_eq_true rfl) (ws' := [(h, .inr (6, [.ref q0, .ref q1, .ref q2, .int 0, .int (-1), .null, .int 0, .int 0, .int 0, .int 0, .int 0, .null, .int 0, .null, .int 0, .null, .null, .null, .null, .null, .null, .null, .int 0, .int 0, .int 0])), (q0, .inl ((xt X) 2, 67, .inl (fun _ => 0))), (q1, .inl ((xt X) 2, 67, .inl (fun _ => 0))), (q2, .inl ((xt X) 2, 67, .inl (fun _ => 0)))]) rfl ?_
  refine g_aload_n (pc := 33) C d_M_init_33 0 rfl rfl ?_
  refine g_sipush (pc := 34) C (v := 200) d_M_init_34 (by decide) ?_
  refine g_newI (pc := 37) C (k' := 4) (z' := 401) (N := 200) d_M_init_37 (by decide) (by decide) (by decide) rfl rfl ⟨Nat.le_of_ble_eq_true rfl, Nat.le_of_ble_eq_true rfl⟩ (fun q3 => ?_)
  refine g_ws (ws' := [(h, .inr (6, [.ref q0, .ref q1, .ref q2, .int 0, .int (-1), .null, .int 0, .int 0, .int 0, .int 0, .int 0, .null, .int 0, .null, .int 0, .null, .null, .null, .null, .null, .null, .null, .int 0, .int 0, .int 0])), (q0, .inl ((xt X) 2, 67, .inl (fun _ => 0))), (q1, .inl ((xt X) 2, 67, .inl (fun _ => 0))), (q2, .inl ((xt X) 2, 67, .inl (fun _ => 0))), (q3, .inl ((xt X) 2, 200, .inl (fun _ => 0)))]) rfl ?_
  refine g_putF (pc := 39) C hin i_M (ci := 6) rfl ty_M ty_M_ok n_M 0 5 (Nat.le_of_ble_eq_true rfl) lk_M_23 rfl rfl rfl d_M_init_39 rfl rfl rfl (Nat.le_of_ble_eq_true rfl) (ws' := [(h, .inr (6, [.ref q0, .ref q1, .ref q2, .int 0, .int (-1), .ref q3, .int 0, .int 0, .int 0, .int 0, .int 0, .null, .int 0, .null, .int 0, .null, .null, .null, .null, .null, .null, .null, .int 0, .int 0, .int 0])), (q0, .inl ((xt X) 2, 67, .inl (fun _ => 0))), (q1, .inl ((xt X) 2, 67, .inl (fun _ => 0))), (q2, .inl ((xt X) 2, 67, .inl (fun _ => 0))), (q3, .inl ((xt X) 2, 200, .inl (fun _ => 0)))]) rfl ?_
  refine g_aload_n (pc := 42) C d_M_init_42 0 rfl rfl ?_
  refine g_sipush (pc := 43) C (v := 128) d_M_init_43 (by decide) ?_
  refine g_newC (pc := 46) C (k' := 5) (z' := 529) (N := 128) d_M_init_46 (by decide) (by decide) (by decide) rfl rfl ⟨Nat.le_of_ble_eq_true rfl, Nat.le_of_ble_eq_true rfl⟩ (fun q4 => ?_)
  refine g_ws (ws' := [(h, .inr (6, [.ref q0, .ref q1, .ref q2, .int 0, .int (-1), .ref q3, .int 0, .int 0, .int 0, .int 0, .int 0, .null, .int 0, .null, .int 0, .null, .null, .null, .null, .null, .null, .null, .int 0, .int 0, .int 0])), (q0, .inl ((xt X) 2, 67, .inl (fun _ => 0))), (q1, .inl ((xt X) 2, 67, .inl (fun _ => 0))), (q2, .inl ((xt X) 2, 67, .inl (fun _ => 0))), (q3, .inl ((xt X) 2, 200, .inl (fun _ => 0))), (q4, .inl ((xt X) 1, 128, .inl (fun _ => 0)))]) rfl ?_
  refine g_dup (pc := 48) C d_M_init_48 rfl ?_
  refine g_iconst (pc := 49) C (v := 0) d_M_init_49 (by decide) ?_
  refine g_bipush (pc := 50) C (v := 98) d_M_init_50 (by decide) ?_
  obtain ⟨f5, ef5⟩ : ∃ g : Nat → Int32, g = upd (fun _ => 0) 0 98 := ⟨_, rfl⟩
  refine g_castore (pc := 52) C 5 d_M_init_52 rfl (by unfold vp_in; decide) (ws' := [(h, .inr (6, [.ref q0, .ref q1, .ref q2, .int 0, .int (-1), .ref q3, .int 0, .int 0, .int 0, .int 0, .int 0, .null, .int 0, .null, .int 0, .null, .null, .null, .null, .null, .null, .null, .int 0, .int 0, .int 0])), (q0, .inl ((xt X) 2, 67, .inl (fun _ => 0))), (q1, .inl ((xt X) 2, 67, .inl (fun _ => 0))), (q2, .inl ((xt X) 2, 67, .inl (fun _ => 0))), (q3, .inl ((xt X) 2, 200, .inl (fun _ => 0))), (q4, .inl ((xt X) 1, 128, .inl (f5)))]) (by rw [ef5]; rfl) ?_
  refine g_dup (pc := 53) C d_M_init_53 rfl ?_
  refine g_iconst (pc := 54) C (v := 1) d_M_init_54 (by decide) ?_
  refine g_bipush (pc := 55) C (v := 97) d_M_init_55 (by decide) ?_
  obtain ⟨f6, ef6⟩ : ∃ g : Nat → Int32, g = upd (f5) 1 97 := ⟨_, rfl⟩
  refine g_castore (pc := 57) C 5 d_M_init_57 rfl (by unfold vp_in; decide) (ws' := [(h, .inr (6, [.ref q0, .ref q1, .ref q2, .int 0, .int (-1), .ref q3, .int 0, .int 0, .int 0, .int 0, .int 0, .null, .int 0, .null, .int 0, .null, .null, .null, .null, .null, .null, .null, .int 0, .int 0, .int 0])), (q0, .inl ((xt X) 2, 67, .inl (fun _ => 0))), (q1, .inl ((xt X) 2, 67, .inl (fun _ => 0))), (q2, .inl ((xt X) 2, 67, .inl (fun _ => 0))), (q3, .inl ((xt X) 2, 200, .inl (fun _ => 0))), (q4, .inl ((xt X) 1, 128, .inl (f6)))]) (by rw [ef6]; rfl) ?_
  refine g_dup (pc := 58) C d_M_init_58 rfl ?_
  refine g_iconst (pc := 59) C (v := 2) d_M_init_59 (by decide) ?_
  refine g_bipush (pc := 60) C (v := 114) d_M_init_60 (by decide) ?_
  obtain ⟨f7, ef7⟩ : ∃ g : Nat → Int32, g = upd (f6) 2 114 := ⟨_, rfl⟩
  refine g_castore (pc := 62) C 5 d_M_init_62 rfl (by unfold vp_in; decide) (ws' := [(h, .inr (6, [.ref q0, .ref q1, .ref q2, .int 0, .int (-1), .ref q3, .int 0, .int 0, .int 0, .int 0, .int 0, .null, .int 0, .null, .int 0, .null, .null, .null, .null, .null, .null, .null, .int 0, .int 0, .int 0])), (q0, .inl ((xt X) 2, 67, .inl (fun _ => 0))), (q1, .inl ((xt X) 2, 67, .inl (fun _ => 0))), (q2, .inl ((xt X) 2, 67, .inl (fun _ => 0))), (q3, .inl ((xt X) 2, 200, .inl (fun _ => 0))), (q4, .inl ((xt X) 1, 128, .inl (f7)))]) (by rw [ef7]; rfl) ?_
  refine g_dup (pc := 63) C d_M_init_63 rfl ?_
  refine g_iconst (pc := 64) C (v := 3) d_M_init_64 (by decide) ?_
  refine g_bipush (pc := 65) C (v := 103) d_M_init_65 (by decide) ?_
  obtain ⟨f8, ef8⟩ : ∃ g : Nat → Int32, g = upd (f7) 3 103 := ⟨_, rfl⟩
  refine g_castore (pc := 67) C 5 d_M_init_67 rfl (by unfold vp_in; decide) (ws' := [(h, .inr (6, [.ref q0, .ref q1, .ref q2, .int 0, .int (-1), .ref q3, .int 0, .int 0, .int 0, .int 0, .int 0, .null, .int 0, .null, .int 0, .null, .null, .null, .null, .null, .null, .null, .int 0, .int 0, .int 0])), (q0, .inl ((xt X) 2, 67, .inl (fun _ => 0))), (q1, .inl ((xt X) 2, 67, .inl (fun _ => 0))), (q2, .inl ((xt X) 2, 67, .inl (fun _ => 0))), (q3, .inl ((xt X) 2, 200, .inl (fun _ => 0))), (q4, .inl ((xt X) 1, 128, .inl (f8)))]) (by rw [ef8]; rfl) ?_
  refine g_dup (pc := 68) C d_M_init_68 rfl ?_
  refine g_iconst (pc := 69) C (v := 4) d_M_init_69 (by decide) ?_
  refine g_bipush (pc := 70) C (v := 101) d_M_init_70 (by decide) ?_
  obtain ⟨f9, ef9⟩ : ∃ g : Nat → Int32, g = upd (f8) 4 101 := ⟨_, rfl⟩
  refine g_castore (pc := 72) C 5 d_M_init_72 rfl (by unfold vp_in; decide) (ws' := [(h, .inr (6, [.ref q0, .ref q1, .ref q2, .int 0, .int (-1), .ref q3, .int 0, .int 0, .int 0, .int 0, .int 0, .null, .int 0, .null, .int 0, .null, .null, .null, .null, .null, .null, .null, .int 0, .int 0, .int 0])), (q0, .inl ((xt X) 2, 67, .inl (fun _ => 0))), (q1, .inl ((xt X) 2, 67, .inl (fun _ => 0))), (q2, .inl ((xt X) 2, 67, .inl (fun _ => 0))), (q3, .inl ((xt X) 2, 200, .inl (fun _ => 0))), (q4, .inl ((xt X) 1, 128, .inl (f9)))]) (by rw [ef9]; rfl) ?_
  refine g_dup (pc := 73) C d_M_init_73 rfl ?_
  refine g_iconst (pc := 74) C (v := 5) d_M_init_74 (by decide) ?_
  refine g_bipush (pc := 75) C (v := 32) d_M_init_75 (by decide) ?_
  obtain ⟨f10, ef10⟩ : ∃ g : Nat → Int32, g = upd (f9) 5 32 := ⟨_, rfl⟩
  refine g_castore (pc := 77) C 5 d_M_init_77 rfl (by unfold vp_in; decide) (ws' := [(h, .inr (6, [.ref q0, .ref q1, .ref q2, .int 0, .int (-1), .ref q3, .int 0, .int 0, .int 0, .int 0, .int 0, .null, .int 0, .null, .int 0, .null, .null, .null, .null, .null, .null, .null, .int 0, .int 0, .int 0])), (q0, .inl ((xt X) 2, 67, .inl (fun _ => 0))), (q1, .inl ((xt X) 2, 67, .inl (fun _ => 0))), (q2, .inl ((xt X) 2, 67, .inl (fun _ => 0))), (q3, .inl ((xt X) 2, 200, .inl (fun _ => 0))), (q4, .inl ((xt X) 1, 128, .inl (f10)))]) (by rw [ef10]; rfl) ?_
  refine g_dup (pc := 78) C d_M_init_78 rfl ?_
  refine g_bipush (pc := 79) C (v := 6) d_M_init_79 (by decide) ?_
  refine g_bipush (pc := 81) C (v := 32) d_M_init_81 (by decide) ?_
  obtain ⟨f11, ef11⟩ : ∃ g : Nat → Int32, g = upd (f10) 6 32 := ⟨_, rfl⟩
  refine g_castore (pc := 83) C 5 d_M_init_83 rfl (by unfold vp_in; decide) (ws' := [(h, .inr (6, [.ref q0, .ref q1, .ref q2, .int 0, .int (-1), .ref q3, .int 0, .int 0, .int 0, .int 0, .int 0, .null, .int 0, .null, .int 0, .null, .null, .null, .null, .null, .null, .null, .int 0, .int 0, .int 0])), (q0, .inl ((xt X) 2, 67, .inl (fun _ => 0))), (q1, .inl ((xt X) 2, 67, .inl (fun _ => 0))), (q2, .inl ((xt X) 2, 67, .inl (fun _ => 0))), (q3, .inl ((xt X) 2, 200, .inl (fun _ => 0))), (q4, .inl ((xt X) 1, 128, .inl (f11)))]) (by rw [ef11]; rfl) ?_
  refine g_dup (pc := 84) C d_M_init_84 rfl ?_
  refine g_bipush (pc := 85) C (v := 7) d_M_init_85 (by decide) ?_
  refine g_bipush (pc := 87) C (v := 32) d_M_init_87 (by decide) ?_
  obtain ⟨f12, ef12⟩ : ∃ g : Nat → Int32, g = upd (f11) 7 32 := ⟨_, rfl⟩
  refine g_castore (pc := 89) C 5 d_M_init_89 rfl (by unfold vp_in; decide) (ws' := [(h, .inr (6, [.ref q0, .ref q1, .ref q2, .int 0, .int (-1), .ref q3, .int 0, .int 0, .int 0, .int 0, .int 0, .null, .int 0, .null, .int 0, .null, .null, .null, .null, .null, .null, .null, .int 0, .int 0, .int 0])), (q0, .inl ((xt X) 2, 67, .inl (fun _ => 0))), (q1, .inl ((xt X) 2, 67, .inl (fun _ => 0))), (q2, .inl ((xt X) 2, 67, .inl (fun _ => 0))), (q3, .inl ((xt X) 2, 200, .inl (fun _ => 0))), (q4, .inl ((xt X) 1, 128, .inl (f12)))]) (by rw [ef12]; rfl) ?_
  refine g_dup (pc := 90) C d_M_init_90 rfl ?_
  refine g_bipush (pc := 91) C (v := 8) d_M_init_91 (by decide) ?_
  refine g_bipush (pc := 93) C (v := 109) d_M_init_93 (by decide) ?_
  obtain ⟨f13, ef13⟩ : ∃ g : Nat → Int32, g = upd (f12) 8 109 := ⟨_, rfl⟩
  refine g_castore (pc := 95) C 5 d_M_init_95 rfl (by unfold vp_in; decide) (ws' := [(h, .inr (6, [.ref q0, .ref q1, .ref q2, .int 0, .int (-1), .ref q3, .int 0, .int 0, .int 0, .int 0, .int 0, .null, .int 0, .null, .int 0, .null, .null, .null, .null, .null, .null, .null, .int 0, .int 0, .int 0])), (q0, .inl ((xt X) 2, 67, .inl (fun _ => 0))), (q1, .inl ((xt X) 2, 67, .inl (fun _ => 0))), (q2, .inl ((xt X) 2, 67, .inl (fun _ => 0))), (q3, .inl ((xt X) 2, 200, .inl (fun _ => 0))), (q4, .inl ((xt X) 1, 128, .inl (f13)))]) (by rw [ef13]; rfl) ?_
  refine g_dup (pc := 96) C d_M_init_96 rfl ?_
  refine g_bipush (pc := 97) C (v := 9) d_M_init_97 (by decide) ?_
  refine g_bipush (pc := 99) C (v := 117) d_M_init_99 (by decide) ?_
  obtain ⟨f14, ef14⟩ : ∃ g : Nat → Int32, g = upd (f13) 9 117 := ⟨_, rfl⟩
  refine g_castore (pc := 101) C 5 d_M_init_101 rfl (by unfold vp_in; decide) (ws' := [(h, .inr (6, [.ref q0, .ref q1, .ref q2, .int 0, .int (-1), .ref q3, .int 0, .int 0, .int 0, .int 0, .int 0, .null, .int 0, .null, .int 0, .null, .null, .null, .null, .null, .null, .null, .int 0, .int 0, .int 0])), (q0, .inl ((xt X) 2, 67, .inl (fun _ => 0))), (q1, .inl ((xt X) 2, 67, .inl (fun _ => 0))), (q2, .inl ((xt X) 2, 67, .inl (fun _ => 0))), (q3, .inl ((xt X) 2, 200, .inl (fun _ => 0))), (q4, .inl ((xt X) 1, 128, .inl (f14)))]) (by rw [ef14]; rfl) ?_
  refine g_dup (pc := 102) C d_M_init_102 rfl ?_
  refine g_bipush (pc := 103) C (v := 10) d_M_init_103 (by decide) ?_
  refine g_bipush (pc := 105) C (v := 116) d_M_init_105 (by decide) ?_
  obtain ⟨f15, ef15⟩ : ∃ g : Nat → Int32, g = upd (f14) 10 116 := ⟨_, rfl⟩
  refine g_castore (pc := 107) C 5 d_M_init_107 rfl (by unfold vp_in; decide) (ws' := [(h, .inr (6, [.ref q0, .ref q1, .ref q2, .int 0, .int (-1), .ref q3, .int 0, .int 0, .int 0, .int 0, .int 0, .null, .int 0, .null, .int 0, .null, .null, .null, .null, .null, .null, .null, .int 0, .int 0, .int 0])), (q0, .inl ((xt X) 2, 67, .inl (fun _ => 0))), (q1, .inl ((xt X) 2, 67, .inl (fun _ => 0))), (q2, .inl ((xt X) 2, 67, .inl (fun _ => 0))), (q3, .inl ((xt X) 2, 200, .inl (fun _ => 0))), (q4, .inl ((xt X) 1, 128, .inl (f15)))]) (by rw [ef15]; rfl) ?_
  refine g_dup (pc := 108) C d_M_init_108 rfl ?_
  refine g_bipush (pc := 109) C (v := 11) d_M_init_109 (by decide) ?_
  refine g_bipush (pc := 111) C (v := 101) d_M_init_111 (by decide) ?_
  obtain ⟨f16, ef16⟩ : ∃ g : Nat → Int32, g = upd (f15) 11 101 := ⟨_, rfl⟩
  refine g_castore (pc := 113) C 5 d_M_init_113 rfl (by unfold vp_in; decide) (ws' := [(h, .inr (6, [.ref q0, .ref q1, .ref q2, .int 0, .int (-1), .ref q3, .int 0, .int 0, .int 0, .int 0, .int 0, .null, .int 0, .null, .int 0, .null, .null, .null, .null, .null, .null, .null, .int 0, .int 0, .int 0])), (q0, .inl ((xt X) 2, 67, .inl (fun _ => 0))), (q1, .inl ((xt X) 2, 67, .inl (fun _ => 0))), (q2, .inl ((xt X) 2, 67, .inl (fun _ => 0))), (q3, .inl ((xt X) 2, 200, .inl (fun _ => 0))), (q4, .inl ((xt X) 1, 128, .inl (f16)))]) (by rw [ef16]; rfl) ?_
  refine g_dup (pc := 114) C d_M_init_114 rfl ?_
  refine g_bipush (pc := 115) C (v := 12) d_M_init_115 (by decide) ?_
  refine g_bipush (pc := 117) C (v := 32) d_M_init_117 (by decide) ?_
  obtain ⟨f17, ef17⟩ : ∃ g : Nat → Int32, g = upd (f16) 12 32 := ⟨_, rfl⟩
  refine g_castore (pc := 119) C 5 d_M_init_119 rfl (by unfold vp_in; decide) (ws' := [(h, .inr (6, [.ref q0, .ref q1, .ref q2, .int 0, .int (-1), .ref q3, .int 0, .int 0, .int 0, .int 0, .int 0, .null, .int 0, .null, .int 0, .null, .null, .null, .null, .null, .null, .null, .int 0, .int 0, .int 0])), (q0, .inl ((xt X) 2, 67, .inl (fun _ => 0))), (q1, .inl ((xt X) 2, 67, .inl (fun _ => 0))), (q2, .inl ((xt X) 2, 67, .inl (fun _ => 0))), (q3, .inl ((xt X) 2, 200, .inl (fun _ => 0))), (q4, .inl ((xt X) 1, 128, .inl (f17)))]) (by rw [ef17]; rfl) ?_
  refine g_dup (pc := 120) C d_M_init_120 rfl ?_
  refine g_bipush (pc := 121) C (v := 13) d_M_init_121 (by decide) ?_
  refine g_bipush (pc := 123) C (v := 32) d_M_init_123 (by decide) ?_
  obtain ⟨f18, ef18⟩ : ∃ g : Nat → Int32, g = upd (f17) 13 32 := ⟨_, rfl⟩
  refine g_castore (pc := 125) C 5 d_M_init_125 rfl (by unfold vp_in; decide) (ws' := [(h, .inr (6, [.ref q0, .ref q1, .ref q2, .int 0, .int (-1), .ref q3, .int 0, .int 0, .int 0, .int 0, .int 0, .null, .int 0, .null, .int 0, .null, .null, .null, .null, .null, .null, .null, .int 0, .int 0, .int 0])), (q0, .inl ((xt X) 2, 67, .inl (fun _ => 0))), (q1, .inl ((xt X) 2, 67, .inl (fun _ => 0))), (q2, .inl ((xt X) 2, 67, .inl (fun _ => 0))), (q3, .inl ((xt X) 2, 200, .inl (fun _ => 0))), (q4, .inl ((xt X) 1, 128, .inl (f18)))]) (by rw [ef18]; rfl) ?_
  refine g_dup (pc := 126) C d_M_init_126 rfl ?_
  refine g_bipush (pc := 127) C (v := 14) d_M_init_127 (by decide) ?_
  refine g_bipush (pc := 129) C (v := 32) d_M_init_129 (by decide) ?_
  obtain ⟨f19, ef19⟩ : ∃ g : Nat → Int32, g = upd (f18) 14 32 := ⟨_, rfl⟩
  refine g_castore (pc := 131) C 5 d_M_init_131 rfl (by unfold vp_in; decide) (ws' := [(h, .inr (6, [.ref q0, .ref q1, .ref q2, .int 0, .int (-1), .ref q3, .int 0, .int 0, .int 0, .int 0, .int 0, .null, .int 0, .null, .int 0, .null, .null, .null, .null, .null, .null, .null, .int 0, .int 0, .int 0])), (q0, .inl ((xt X) 2, 67, .inl (fun _ => 0))), (q1, .inl ((xt X) 2, 67, .inl (fun _ => 0))), (q2, .inl ((xt X) 2, 67, .inl (fun _ => 0))), (q3, .inl ((xt X) 2, 200, .inl (fun _ => 0))), (q4, .inl ((xt X) 1, 128, .inl (f19)))]) (by rw [ef19]; rfl) ?_
  refine g_dup (pc := 132) C d_M_init_132 rfl ?_
  refine g_bipush (pc := 133) C (v := 15) d_M_init_133 (by decide) ?_
  refine g_bipush (pc := 135) C (v := 32) d_M_init_135 (by decide) ?_
  obtain ⟨f20, ef20⟩ : ∃ g : Nat → Int32, g = upd (f19) 15 32 := ⟨_, rfl⟩
  refine g_castore (pc := 137) C 5 d_M_init_137 rfl (by unfold vp_in; decide) (ws' := [(h, .inr (6, [.ref q0, .ref q1, .ref q2, .int 0, .int (-1), .ref q3, .int 0, .int 0, .int 0, .int 0, .int 0, .null, .int 0, .null, .int 0, .null, .null, .null, .null, .null, .null, .null, .int 0, .int 0, .int 0])), (q0, .inl ((xt X) 2, 67, .inl (fun _ => 0))), (q1, .inl ((xt X) 2, 67, .inl (fun _ => 0))), (q2, .inl ((xt X) 2, 67, .inl (fun _ => 0))), (q3, .inl ((xt X) 2, 200, .inl (fun _ => 0))), (q4, .inl ((xt X) 1, 128, .inl (f20)))]) (by rw [ef20]; rfl) ?_
  refine g_dup (pc := 138) C d_M_init_138 rfl ?_
  refine g_bipush (pc := 139) C (v := 16) d_M_init_139 (by decide) ?_
  refine g_bipush (pc := 141) C (v := 108) d_M_init_141 (by decide) ?_
  obtain ⟨f21, ef21⟩ : ∃ g : Nat → Int32, g = upd (f20) 16 108 := ⟨_, rfl⟩
  refine g_castore (pc := 143) C 5 d_M_init_143 rfl (by unfold vp_in; decide) (ws' := [(h, .inr (6, [.ref q0, .ref q1, .ref q2, .int 0, .int (-1), .ref q3, .int 0, .int 0, .int 0, .int 0, .int 0, .null, .int 0, .null, .int 0, .null, .null, .null, .null, .null, .null, .null, .int 0, .int 0, .int 0])), (q0, .inl ((xt X) 2, 67, .inl (fun _ => 0))), (q1, .inl ((xt X) 2, 67, .inl (fun _ => 0))), (q2, .inl ((xt X) 2, 67, .inl (fun _ => 0))), (q3, .inl ((xt X) 2, 200, .inl (fun _ => 0))), (q4, .inl ((xt X) 1, 128, .inl (f21)))]) (by rw [ef21]; rfl) ?_
  refine g_dup (pc := 144) C d_M_init_144 rfl ?_
  refine g_bipush (pc := 145) C (v := 17) d_M_init_145 (by decide) ?_
  refine g_bipush (pc := 147) C (v := 111) d_M_init_147 (by decide) ?_
  obtain ⟨f22, ef22⟩ : ∃ g : Nat → Int32, g = upd (f21) 17 111 := ⟨_, rfl⟩
  refine g_castore (pc := 149) C 5 d_M_init_149 rfl (by unfold vp_in; decide) (ws' := [(h, .inr (6, [.ref q0, .ref q1, .ref q2, .int 0, .int (-1), .ref q3, .int 0, .int 0, .int 0, .int 0, .int 0, .null, .int 0, .null, .int 0, .null, .null, .null, .null, .null, .null, .null, .int 0, .int 0, .int 0])), (q0, .inl ((xt X) 2, 67, .inl (fun _ => 0))), (q1, .inl ((xt X) 2, 67, .inl (fun _ => 0))), (q2, .inl ((xt X) 2, 67, .inl (fun _ => 0))), (q3, .inl ((xt X) 2, 200, .inl (fun _ => 0))), (q4, .inl ((xt X) 1, 128, .inl (f22)))]) (by rw [ef22]; rfl) ?_
  refine g_dup (pc := 150) C d_M_init_150 rfl ?_
  refine g_bipush (pc := 151) C (v := 18) d_M_init_151 (by decide) ?_
  refine g_bipush (pc := 153) C (v := 118) d_M_init_153 (by decide) ?_
  obtain ⟨f23, ef23⟩ : ∃ g : Nat → Int32, g = upd (f22) 18 118 := ⟨_, rfl⟩
  refine g_castore (pc := 155) C 5 d_M_init_155 rfl (by unfold vp_in; decide) (ws' := [(h, .inr (6, [.ref q0, .ref q1, .ref q2, .int 0, .int (-1), .ref q3, .int 0, .int 0, .int 0, .int 0, .int 0, .null, .int 0, .null, .int 0, .null, .null, .null, .null, .null, .null, .null, .int 0, .int 0, .int 0])), (q0, .inl ((xt X) 2, 67, .inl (fun _ => 0))), (q1, .inl ((xt X) 2, 67, .inl (fun _ => 0))), (q2, .inl ((xt X) 2, 67, .inl (fun _ => 0))), (q3, .inl ((xt X) 2, 200, .inl (fun _ => 0))), (q4, .inl ((xt X) 1, 128, .inl (f23)))]) (by rw [ef23]; rfl) ?_
  refine g_dup (pc := 156) C d_M_init_156 rfl ?_
  refine g_bipush (pc := 157) C (v := 19) d_M_init_157 (by decide) ?_
  refine g_bipush (pc := 159) C (v := 101) d_M_init_159 (by decide) ?_
  obtain ⟨f24, ef24⟩ : ∃ g : Nat → Int32, g = upd (f23) 19 101 := ⟨_, rfl⟩
  refine g_castore (pc := 161) C 5 d_M_init_161 rfl (by unfold vp_in; decide) (ws' := [(h, .inr (6, [.ref q0, .ref q1, .ref q2, .int 0, .int (-1), .ref q3, .int 0, .int 0, .int 0, .int 0, .int 0, .null, .int 0, .null, .int 0, .null, .null, .null, .null, .null, .null, .null, .int 0, .int 0, .int 0])), (q0, .inl ((xt X) 2, 67, .inl (fun _ => 0))), (q1, .inl ((xt X) 2, 67, .inl (fun _ => 0))), (q2, .inl ((xt X) 2, 67, .inl (fun _ => 0))), (q3, .inl ((xt X) 2, 200, .inl (fun _ => 0))), (q4, .inl ((xt X) 1, 128, .inl (f24)))]) (by rw [ef24]; rfl) ?_
  refine g_dup (pc := 162) C d_M_init_162 rfl ?_
  refine g_bipush (pc := 163) C (v := 20) d_M_init_163 (by decide) ?_
  refine g_bipush (pc := 165) C (v := 114) d_M_init_165 (by decide) ?_
  obtain ⟨f25, ef25⟩ : ∃ g : Nat → Int32, g = upd (f24) 20 114 := ⟨_, rfl⟩
  refine g_castore (pc := 167) C 5 d_M_init_167 rfl (by unfold vp_in; decide) (ws' := [(h, .inr (6, [.ref q0, .ref q1, .ref q2, .int 0, .int (-1), .ref q3, .int 0, .int 0, .int 0, .int 0, .int 0, .null, .int 0, .null, .int 0, .null, .null, .null, .null, .null, .null, .null, .int 0, .int 0, .int 0])), (q0, .inl ((xt X) 2, 67, .inl (fun _ => 0))), (q1, .inl ((xt X) 2, 67, .inl (fun _ => 0))), (q2, .inl ((xt X) 2, 67, .inl (fun _ => 0))), (q3, .inl ((xt X) 2, 200, .inl (fun _ => 0))), (q4, .inl ((xt X) 1, 128, .inl (f25)))]) (by rw [ef25]; rfl) ?_
  refine g_dup (pc := 168) C d_M_init_168 rfl ?_
  refine g_bipush (pc := 169) C (v := 21) d_M_init_169 (by decide) ?_
  refine g_bipush (pc := 171) C (v := 32) d_M_init_171 (by decide) ?_
  obtain ⟨f26, ef26⟩ : ∃ g : Nat → Int32, g = upd (f25) 21 32 := ⟨_, rfl⟩
  refine g_castore (pc := 173) C 5 d_M_init_173 rfl (by unfold vp_in; decide) (ws' := [(h, .inr (6, [.ref q0, .ref q1, .ref q2, .int 0, .int (-1), .ref q3, .int 0, .int 0, .int 0, .int 0, .int 0, .null, .int 0, .null, .int 0, .null, .null, .null, .null, .null, .null, .null, .int 0, .int 0, .int 0])), (q0, .inl ((xt X) 2, 67, .inl (fun _ => 0))), (q1, .inl ((xt X) 2, 67, .inl (fun _ => 0))), (q2, .inl ((xt X) 2, 67, .inl (fun _ => 0))), (q3, .inl ((xt X) 2, 200, .inl (fun _ => 0))), (q4, .inl ((xt X) 1, 128, .inl (f26)))]) (by rw [ef26]; rfl) ?_
  refine g_dup (pc := 174) C d_M_init_174 rfl ?_
  refine g_bipush (pc := 175) C (v := 22) d_M_init_175 (by decide) ?_
  refine g_bipush (pc := 177) C (v := 32) d_M_init_177 (by decide) ?_
  obtain ⟨f27, ef27⟩ : ∃ g : Nat → Int32, g = upd (f26) 22 32 := ⟨_, rfl⟩
  refine g_castore (pc := 179) C 5 d_M_init_179 rfl (by unfold vp_in; decide) (ws' := [(h, .inr (6, [.ref q0, .ref q1, .ref q2, .int 0, .int (-1), .ref q3, .int 0, .int 0, .int 0, .int 0, .int 0, .null, .int 0, .null, .int 0, .null, .null, .null, .null, .null, .null, .null, .int 0, .int 0, .int 0])), (q0, .inl ((xt X) 2, 67, .inl (fun _ => 0))), (q1, .inl ((xt X) 2, 67, .inl (fun _ => 0))), (q2, .inl ((xt X) 2, 67, .inl (fun _ => 0))), (q3, .inl ((xt X) 2, 200, .inl (fun _ => 0))), (q4, .inl ((xt X) 1, 128, .inl (f27)))]) (by rw [ef27]; rfl) ?_
  refine g_dup (pc := 180) C d_M_init_180 rfl ?_
  refine g_bipush (pc := 181) C (v := 23) d_M_init_181 (by decide) ?_
  refine g_bipush (pc := 183) C (v := 32) d_M_init_183 (by decide) ?_
  obtain ⟨f28, ef28⟩ : ∃ g : Nat → Int32, g = upd (f27) 23 32 := ⟨_, rfl⟩
  refine g_castore (pc := 185) C 5 d_M_init_185 rfl (by unfold vp_in; decide) (ws' := [(h, .inr (6, [.ref q0, .ref q1, .ref q2, .int 0, .int (-1), .ref q3, .int 0, .int 0, .int 0, .int 0, .int 0, .null, .int 0, .null, .int 0, .null, .null, .null, .null, .null, .null, .null, .int 0, .int 0, .int 0])), (q0, .inl ((xt X) 2, 67, .inl (fun _ => 0))), (q1, .inl ((xt X) 2, 67, .inl (fun _ => 0))), (q2, .inl ((xt X) 2, 67, .inl (fun _ => 0))), (q3, .inl ((xt X) 2, 200, .inl (fun _ => 0))), (q4, .inl ((xt X) 1, 128, .inl (f28)))]) (by rw [ef28]; rfl) ?_
  refine g_dup (pc := 186) C d_M_init_186 rfl ?_
  refine g_bipush (pc := 187) C (v := 24) d_M_init_187 (by decide) ?_
  refine g_bipush (pc := 189) C (v := 98) d_M_init_189 (by decide) ?_
  obtain ⟨f29, ef29⟩ : ∃ g : Nat → Int32, g = upd (f28) 24 98 := ⟨_, rfl⟩
  refine g_castore (pc := 191) C 5 d_M_init_191 rfl (by unfold vp_in; decide) (ws' := [(h, .inr (6, [.ref q0, .ref q1, .ref q2, .int 0, .int (-1), .ref q3, .int 0, .int 0, .int 0, .int 0, .int 0, .null, .int 0, .null, .int 0, .null, .null, .null, .null, .null, .null, .null, .int 0, .int 0, .int 0])), (q0, .inl ((xt X) 2, 67, .inl (fun _ => 0))), (q1, .inl ((xt X) 2, 67, .inl (fun _ => 0))), (q2, .inl ((xt X) 2, 67, .inl (fun _ => 0))), (q3, .inl ((xt X) 2, 200, .inl (fun _ => 0))), (q4, .inl ((xt X) 1, 128, .inl (f29)))]) (by rw [ef29]; rfl) ?_
  refine g_dup (pc := 192) C d_M_init_192 rfl ?_
  refine g_bipush (pc := 193) C (v := 25) d_M_init_193 (by decide) ?_
  refine g_bipush (pc := 195) C (v := 105) d_M_init_195 (by decide) ?_
  obtain ⟨f30, ef30⟩ : ∃ g : Nat → Int32, g = upd (f29) 25 105 := ⟨_, rfl⟩
  refine g_castore (pc := 197) C 5 d_M_init_197 rfl (by unfold vp_in; decide) (ws' := [(h, .inr (6, [.ref q0, .ref q1, .ref q2, .int 0, .int (-1), .ref q3, .int 0, .int 0, .int 0, .int 0, .int 0, .null, .int 0, .null, .int 0, .null, .null, .null, .null, .null, .null, .null, .int 0, .int 0, .int 0])), (q0, .inl ((xt X) 2, 67, .inl (fun _ => 0))), (q1, .inl ((xt X) 2, 67, .inl (fun _ => 0))), (q2, .inl ((xt X) 2, 67, .inl (fun _ => 0))), (q3, .inl ((xt X) 2, 200, .inl (fun _ => 0))), (q4, .inl ((xt X) 1, 128, .inl (f30)))]) (by rw [ef30]; rfl) ?_
  refine g_dup (pc := 198) C d_M_init_198 rfl ?_
  refine g_bipush (pc := 199) C (v := 26) d_M_init_199 (by decide) ?_
  refine g_bipush (pc := 201) C (v := 115) d_M_init_201 (by decide) ?_
  obtain ⟨f31, ef31⟩ : ∃ g : Nat → Int32, g = upd (f30) 26 115 := ⟨_, rfl⟩
  refine g_castore (pc := 203) C 5 d_M_init_203 rfl (by unfold vp_in; decide) (ws' := [(h, .inr (6, [.ref q0, .ref q1, .ref q2, .int 0, .int (-1), .ref q3, .int 0, .int 0, .int 0, .int 0, .int 0, .null, .int 0, .null, .int 0, .null, .null, .null, .null, .null, .null, .null, .int 0, .int 0, .int 0])), (q0, .inl ((xt X) 2, 67, .inl (fun _ => 0))), (q1, .inl ((xt X) 2, 67, .inl (fun _ => 0))), (q2, .inl ((xt X) 2, 67, .inl (fun _ => 0))), (q3, .inl ((xt X) 2, 200, .inl (fun _ => 0))), (q4, .inl ((xt X) 1, 128, .inl (f31)))]) (by rw [ef31]; rfl) ?_
  refine g_dup (pc := 204) C d_M_init_204 rfl ?_
  refine g_bipush (pc := 205) C (v := 27) d_M_init_205 (by decide) ?_
  refine g_bipush (pc := 207) C (v := 104) d_M_init_207 (by decide) ?_
  obtain ⟨f32, ef32⟩ : ∃ g : Nat → Int32, g = upd (f31) 27 104 := ⟨_, rfl⟩
  refine g_castore (pc := 209) C 5 d_M_init_209 rfl (by unfold vp_in; decide) (ws' := [(h, .inr (6, [.ref q0, .ref q1, .ref q2, .int 0, .int (-1), .ref q3, .int 0, .int 0, .int 0, .int 0, .int 0, .null, .int 0, .null, .int 0, .null, .null, .null, .null, .null, .null, .null, .int 0, .int 0, .int 0])), (q0, .inl ((xt X) 2, 67, .inl (fun _ => 0))), (q1, .inl ((xt X) 2, 67, .inl (fun _ => 0))), (q2, .inl ((xt X) 2, 67, .inl (fun _ => 0))), (q3, .inl ((xt X) 2, 200, .inl (fun _ => 0))), (q4, .inl ((xt X) 1, 128, .inl (f32)))]) (by rw [ef32]; rfl) ?_
  refine g_dup (pc := 210) C d_M_init_210 rfl ?_
  refine g_bipush (pc := 211) C (v := 28) d_M_init_211 (by decide) ?_
  refine g_bipush (pc := 213) C (v := 111) d_M_init_213 (by decide) ?_
  obtain ⟨f33, ef33⟩ : ∃ g : Nat → Int32, g = upd (f32) 28 111 := ⟨_, rfl⟩
  refine g_castore (pc := 215) C 5 d_M_init_215 rfl (by unfold vp_in; decide) (ws' := [(h, .inr (6, [.ref q0, .ref q1, .ref q2, .int 0, .int (-1), .ref q3, .int 0, .int 0, .int 0, .int 0, .int 0, .null, .int 0, .null, .int 0, .null, .null, .null, .null, .null, .null, .null, .int 0, .int 0, .int 0])), (q0, .inl ((xt X) 2, 67, .inl (fun _ => 0))), (q1, .inl ((xt X) 2, 67, .inl (fun _ => 0))), (q2, .inl ((xt X) 2, 67, .inl (fun _ => 0))), (q3, .inl ((xt X) 2, 200, .inl (fun _ => 0))), (q4, .inl ((xt X) 1, 128, .inl (f33)))]) (by rw [ef33]; rfl) ?_
  refine g_dup (pc := 216) C d_M_init_216 rfl ?_
  refine g_bipush (pc := 217) C (v := 29) d_M_init_217 (by decide) ?_
  refine g_bipush (pc := 219) C (v := 112) d_M_init_219 (by decide) ?_
  obtain ⟨f34, ef34⟩ : ∃ g : Nat → Int32, g = upd (f33) 29 112 := ⟨_, rfl⟩
  refine g_castore (pc := 221) C 5 d_M_init_221 rfl (by unfold vp_in; decide) (ws' := [(h, .inr (6, [.ref q0, .ref q1, .ref q2, .int 0, .int (-1), .ref q3, .int 0, .int 0, .int 0, .int 0, .int 0, .null, .int 0, .null, .int 0, .null, .null, .null, .null, .null, .null, .null, .int 0, .int 0, .int 0])), (q0, .inl ((xt X) 2, 67, .inl (fun _ => 0))), (q1, .inl ((xt X) 2, 67, .inl (fun _ => 0))), (q2, .inl ((xt X) 2, 67, .inl (fun _ => 0))), (q3, .inl ((xt X) 2, 200, .inl (fun _ => 0))), (q4, .inl ((xt X) 1, 128, .inl (f34)))]) (by rw [ef34]; rfl) ?_
  refine g_dup (pc := 222) C d_M_init_222 rfl ?_
  refine g_bipush (pc := 223) C (v := 30) d_M_init_223 (by decide) ?_
  refine g_bipush (pc := 225) C (v := 32) d_M_init_225 (by decide) ?_
  obtain ⟨f35, ef35⟩ : ∃ g : Nat → Int32, g = upd (f34) 30 32 := ⟨_, rfl⟩
  refine g_castore (pc := 227) C 5 d_M_init_227 rfl (by unfold vp_in; decide) (ws' := [(h, .inr (6, [.ref q0, .ref q1, .ref q2, .int 0, .int (-1), .ref q3, .int 0, .int 0, .int 0, .int 0, .int 0, .null, .int 0, .null, .int 0, .null, .null, .null, .null, .null, .null, .null, .int 0, .int 0, .int 0])), (q0, .inl ((xt X) 2, 67, .inl (fun _ => 0))), (q1, .inl ((xt X) 2, 67, .inl (fun _ => 0))), (q2, .inl ((xt X) 2, 67, .inl (fun _ => 0))), (q3, .inl ((xt X) 2, 200, .inl (fun _ => 0))), (q4, .inl ((xt X) 1, 128, .inl (f35)))]) (by rw [ef35]; rfl) ?_
  refine g_dup (pc := 228) C d_M_init_228 rfl ?_
  refine g_bipush (pc := 229) C (v := 31) d_M_init_229 (by decide) ?_
  refine g_bipush (pc := 231) C (v := 32) d_M_init_231 (by decide) ?_
  obtain ⟨f36, ef36⟩ : ∃ g : Nat → Int32, g = upd (f35) 31 32 := ⟨_, rfl⟩
  refine g_castore (pc := 233) C 5 d_M_init_233 rfl (by unfold vp_in; decide) (ws' := [(h, .inr (6, [.ref q0, .ref q1, .ref q2, .int 0, .int (-1), .ref q3, .int 0, .int 0, .int 0, .int 0, .int 0, .null, .int 0, .null, .int 0, .null, .null, .null, .null, .null, .null, .null, .int 0, .int 0, .int 0])), (q0, .inl ((xt X) 2, 67, .inl (fun _ => 0))), (q1, .inl ((xt X) 2, 67, .inl (fun _ => 0))), (q2, .inl ((xt X) 2, 67, .inl (fun _ => 0))), (q3, .inl ((xt X) 2, 200, .inl (fun _ => 0))), (q4, .inl ((xt X) 1, 128, .inl (f36)))]) (by rw [ef36]; rfl) ?_
  refine g_dup (pc := 234) C d_M_init_234 rfl ?_
  refine g_bipush (pc := 235) C (v := 32) d_M_init_235 (by decide) ?_
  refine g_bipush (pc := 237) C (v := 109) d_M_init_237 (by decide) ?_
  obtain ⟨f37, ef37⟩ : ∃ g : Nat → Int32, g = upd (f36) 32 109 := ⟨_, rfl⟩
  refine g_castore (pc := 239) C 5 d_M_init_239 rfl (by unfold vp_in; decide) (ws' := [(h, .inr (6, [.ref q0, .ref q1, .ref q2, .int 0, .int (-1), .ref q3, .int 0, .int 0, .int 0, .int 0, .int 0, .null, .int 0, .null, .int 0, .null, .null, .null, .null, .null, .null, .null, .int 0, .int 0, .int 0])), (q0, .inl ((xt X) 2, 67, .inl (fun _ => 0))), (q1, .inl ((xt X) 2, 67, .inl (fun _ => 0))), (q2, .inl ((xt X) 2, 67, .inl (fun _ => 0))), (q3, .inl ((xt X) 2, 200, .inl (fun _ => 0))), (q4, .inl ((xt X) 1, 128, .inl (f37)))]) (by rw [ef37]; rfl) ?_
  refine g_dup (pc := 240) C d_M_init_240 rfl ?_
  refine g_bipush (pc := 241) C (v := 33) d_M_init_241 (by decide) ?_
  refine g_bipush (pc := 243) C (v := 105) d_M_init_243 (by decide) ?_
  obtain ⟨f38, ef38⟩ : ∃ g : Nat → Int32, g = upd (f37) 33 105 := ⟨_, rfl⟩
  refine g_castore (pc := 245) C 5 d_M_init_245 rfl (by unfold vp_in; decide) (ws' := [(h, .inr (6, [.ref q0, .ref q1, .ref q2, .int 0, .int (-1), .ref q3, .int 0, .int 0, .int 0, .int 0, .int 0, .null, .int 0, .null, .int 0, .null, .null, .null, .null, .null, .null, .null, .int 0, .int 0, .int 0])), (q0, .inl ((xt X) 2, 67, .inl (fun _ => 0))), (q1, .inl ((xt X) 2, 67, .inl (fun _ => 0))), (q2, .inl ((xt X) 2, 67, .inl (fun _ => 0))), (q3, .inl ((xt X) 2, 200, .inl (fun _ => 0))), (q4, .inl ((xt X) 1, 128, .inl (f38)))]) (by rw [ef38]; rfl) ?_
  refine g_dup (pc := 246) C d_M_init_246 rfl ?_
  refine g_bipush (pc := 247) C (v := 34) d_M_init_247 (by decide) ?_
  refine g_bipush (pc := 249) C (v := 108) d_M_init_249 (by decide) ?_
  obtain ⟨f39, ef39⟩ : ∃ g : Nat → Int32, g = upd (f38) 34 108 := ⟨_, rfl⟩
  refine g_castore (pc := 251) C 5 d_M_init_251 rfl (by unfold vp_in; decide) (ws' := [(h, .inr (6, [.ref q0, .ref q1, .ref q2, .int 0, .int (-1), .ref q3, .int 0, .int 0, .int 0, .int 0, .int 0, .null, .int 0, .null, .int 0, .null, .null, .null, .null, .null, .null, .null, .int 0, .int 0, .int 0])), (q0, .inl ((xt X) 2, 67, .inl (fun _ => 0))), (q1, .inl ((xt X) 2, 67, .inl (fun _ => 0))), (q2, .inl ((xt X) 2, 67, .inl (fun _ => 0))), (q3, .inl ((xt X) 2, 200, .inl (fun _ => 0))), (q4, .inl ((xt X) 1, 128, .inl (f39)))]) (by rw [ef39]; rfl) ?_
  refine g_dup (pc := 252) C d_M_init_252 rfl ?_
  refine g_bipush (pc := 253) C (v := 35) d_M_init_253 (by decide) ?_
  refine g_bipush (pc := 255) C (v := 108) d_M_init_255 (by decide) ?_
  obtain ⟨f40, ef40⟩ : ∃ g : Nat → Int32, g = upd (f39) 35 108 := ⟨_, rfl⟩
  refine g_castore (pc := 257) C 5 d_M_init_257 rfl (by unfold vp_in; decide) (ws' := [(h, .inr (6, [.ref q0, .ref q1, .ref q2, .int 0, .int (-1), .ref q3, .int 0, .int 0, .int 0, .int 0, .int 0, .null, .int 0, .null, .int 0, .null, .null, .null, .null, .null, .null, .null, .int 0, .int 0, .int 0])), (q0, .inl ((xt X) 2, 67, .inl (fun _ => 0))), (q1, .inl ((xt X) 2, 67, .inl (fun _ => 0))), (q2, .inl ((xt X) 2, 67, .inl (fun _ => 0))), (q3, .inl ((xt X) 2, 200, .inl (fun _ => 0))), (q4, .inl ((xt X) 1, 128, .inl (f40)))]) (by rw [ef40]; rfl) ?_
  refine g_dup (pc := 258) C d_M_init_258 rfl ?_
  refine g_bipush (pc := 259) C (v := 36) d_M_init_259 (by decide) ?_
  refine g_bipush (pc := 261) C (v := 101) d_M_init_261 (by decide) ?_
  obtain ⟨f41, ef41⟩ : ∃ g : Nat → Int32, g = upd (f40) 36 101 := ⟨_, rfl⟩
  refine g_castore (pc := 263) C 5 d_M_init_263 rfl (by unfold vp_in; decide) (ws' := [(h, .inr (6, [.ref q0, .ref q1, .ref q2, .int 0, .int (-1), .ref q3, .int 0, .int 0, .int 0, .int 0, .int 0, .null, .int 0, .null, .int 0, .null, .null, .null, .null, .null, .null, .null, .int 0, .int 0, .int 0])), (q0, .inl ((xt X) 2, 67, .inl (fun _ => 0))), (q1, .inl ((xt X) 2, 67, .inl (fun _ => 0))), (q2, .inl ((xt X) 2, 67, .inl (fun _ => 0))), (q3, .inl ((xt X) 2, 200, .inl (fun _ => 0))), (q4, .inl ((xt X) 1, 128, .inl (f41)))]) (by rw [ef41]; rfl) ?_
  refine g_dup (pc := 264) C d_M_init_264 rfl ?_
  refine g_bipush (pc := 265) C (v := 37) d_M_init_265 (by decide) ?_
  refine g_bipush (pc := 267) C (v := 114) d_M_init_267 (by decide) ?_
  obtain ⟨f42, ef42⟩ : ∃ g : Nat → Int32, g = upd (f41) 37 114 := ⟨_, rfl⟩
  refine g_castore (pc := 269) C 5 d_M_init_269 rfl (by unfold vp_in; decide) (ws' := [(h, .inr (6, [.ref q0, .ref q1, .ref q2, .int 0, .int (-1), .ref q3, .int 0, .int 0, .int 0, .int 0, .int 0, .null, .int 0, .null, .int 0, .null, .null, .null, .null, .null, .null, .null, .int 0, .int 0, .int 0])), (q0, .inl ((xt X) 2, 67, .inl (fun _ => 0))), (q1, .inl ((xt X) 2, 67, .inl (fun _ => 0))), (q2, .inl ((xt X) 2, 67, .inl (fun _ => 0))), (q3, .inl ((xt X) 2, 200, .inl (fun _ => 0))), (q4, .inl ((xt X) 1, 128, .inl (f42)))]) (by rw [ef42]; rfl) ?_
  refine g_dup (pc := 270) C d_M_init_270 rfl ?_
  refine g_bipush (pc := 271) C (v := 38) d_M_init_271 (by decide) ?_
  refine g_bipush (pc := 273) C (v := 32) d_M_init_273 (by decide) ?_
  obtain ⟨f43, ef43⟩ : ∃ g : Nat → Int32, g = upd (f42) 38 32 := ⟨_, rfl⟩
  refine g_castore (pc := 275) C 5 d_M_init_275 rfl (by unfold vp_in; decide) (ws' := [(h, .inr (6, [.ref q0, .ref q1, .ref q2, .int 0, .int (-1), .ref q3, .int 0, .int 0, .int 0, .int 0, .int 0, .null, .int 0, .null, .int 0, .null, .null, .null, .null, .null, .null, .null, .int 0, .int 0, .int 0])), (q0, .inl ((xt X) 2, 67, .inl (fun _ => 0))), (q1, .inl ((xt X) 2, 67, .inl (fun _ => 0))), (q2, .inl ((xt X) 2, 67, .inl (fun _ => 0))), (q3, .inl ((xt X) 2, 200, .inl (fun _ => 0))), (q4, .inl ((xt X) 1, 128, .inl (f43)))]) (by rw [ef43]; rfl) ?_
  refine g_dup (pc := 276) C d_M_init_276 rfl ?_
  refine g_bipush (pc := 277) C (v := 39) d_M_init_277 (by decide) ?_
  refine g_bipush (pc := 279) C (v := 32) d_M_init_279 (by decide) ?_
  obtain ⟨f44, ef44⟩ : ∃ g : Nat → Int32, g = upd (f43) 39 32 := ⟨_, rfl⟩
  refine g_castore (pc := 281) C 5 d_M_init_281 rfl (by unfold vp_in; decide) (ws' := [(h, .inr (6, [.ref q0, .ref q1, .ref q2, .int 0, .int (-1), .ref q3, .int 0, .int 0, .int 0, .int 0, .int 0, .null, .int 0, .null, .int 0, .null, .null, .null, .null, .null, .null, .null, .int 0, .int 0, .int 0])), (q0, .inl ((xt X) 2, 67, .inl (fun _ => 0))), (q1, .inl ((xt X) 2, 67, .inl (fun _ => 0))), (q2, .inl ((xt X) 2, 67, .inl (fun _ => 0))), (q3, .inl ((xt X) 2, 200, .inl (fun _ => 0))), (q4, .inl ((xt X) 1, 128, .inl (f44)))]) (by rw [ef44]; rfl) ?_
  refine g_dup (pc := 282) C d_M_init_282 rfl ?_
  refine g_bipush (pc := 283) C (v := 40) d_M_init_283 (by decide) ?_
  refine g_bipush (pc := 285) C (v := 100) d_M_init_285 (by decide) ?_
  obtain ⟨f45, ef45⟩ : ∃ g : Nat → Int32, g = upd (f44) 40 100 := ⟨_, rfl⟩
  refine g_castore (pc := 287) C 5 d_M_init_287 rfl (by unfold vp_in; decide) (ws' := [(h, .inr (6, [.ref q0, .ref q1, .ref q2, .int 0, .int (-1), .ref q3, .int 0, .int 0, .int 0, .int 0, .int 0, .null, .int 0, .null, .int 0, .null, .null, .null, .null, .null, .null, .null, .int 0, .int 0, .int 0])), (q0, .inl ((xt X) 2, 67, .inl (fun _ => 0))), (q1, .inl ((xt X) 2, 67, .inl (fun _ => 0))), (q2, .inl ((xt X) 2, 67, .inl (fun _ => 0))), (q3, .inl ((xt X) 2, 200, .inl (fun _ => 0))), (q4, .inl ((xt X) 1, 128, .inl (f45)))]) (by rw [ef45]; rfl) ?_
  refine g_dup (pc := 288) C d_M_init_288 rfl ?_
  refine g_bipush (pc := 289) C (v := 41) d_M_init_289 (by decide) ?_
  refine g_bipush (pc := 291) C (v := 101) d_M_init_291 (by decide) ?_
  obtain ⟨f46, ef46⟩ : ∃ g : Nat → Int32, g = upd (f45) 41 101 := ⟨_, rfl⟩
  refine g_castore (pc := 293) C 5 d_M_init_293 rfl (by unfold vp_in; decide) (ws' := [(h, .inr (6, [.ref q0, .ref q1, .ref q2, .int 0, .int (-1), .ref q3, .int 0, .int 0, .int 0, .int 0, .int 0, .null, .int 0, .null, .int 0, .null, .null, .null, .null, .null, .null, .null, .int 0, .int 0, .int 0])), (q0, .inl ((xt X) 2, 67, .inl (fun _ => 0))), (q1, .inl ((xt X) 2, 67, .inl (fun _ => 0))), (q2, .inl ((xt X) 2, 67, .inl (fun _ => 0))), (q3, .inl ((xt X) 2, 200, .inl (fun _ => 0))), (q4, .inl ((xt X) 1, 128, .inl (f46)))]) (by rw [ef46]; rfl) ?_
  refine g_dup (pc := 294) C d_M_init_294 rfl ?_
  refine g_bipush (pc := 295) C (v := 42) d_M_init_295 (by decide) ?_
  refine g_bipush (pc := 297) C (v := 97) d_M_init_297 (by decide) ?_
  obtain ⟨f47, ef47⟩ : ∃ g : Nat → Int32, g = upd (f46) 42 97 := ⟨_, rfl⟩
  refine g_castore (pc := 299) C 5 d_M_init_299 rfl (by unfold vp_in; decide) (ws' := [(h, .inr (6, [.ref q0, .ref q1, .ref q2, .int 0, .int (-1), .ref q3, .int 0, .int 0, .int 0, .int 0, .int 0, .null, .int 0, .null, .int 0, .null, .null, .null, .null, .null, .null, .null, .int 0, .int 0, .int 0])), (q0, .inl ((xt X) 2, 67, .inl (fun _ => 0))), (q1, .inl ((xt X) 2, 67, .inl (fun _ => 0))), (q2, .inl ((xt X) 2, 67, .inl (fun _ => 0))), (q3, .inl ((xt X) 2, 200, .inl (fun _ => 0))), (q4, .inl ((xt X) 1, 128, .inl (f47)))]) (by rw [ef47]; rfl) ?_
  refine g_dup (pc := 300) C d_M_init_300 rfl ?_
  refine g_bipush (pc := 301) C (v := 43) d_M_init_301 (by decide) ?_
  refine g_bipush (pc := 303) C (v := 108) d_M_init_303 (by decide) ?_
  obtain ⟨f48, ef48⟩ : ∃ g : Nat → Int32, g = upd (f47) 43 108 := ⟨_, rfl⟩
  refine g_castore (pc := 305) C 5 d_M_init_305 rfl (by unfold vp_in; decide) (ws' := [(h, .inr (6, [.ref q0, .ref q1, .ref q2, .int 0, .int (-1), .ref q3, .int 0, .int 0, .int 0, .int 0, .int 0, .null, .int 0, .null, .int 0, .null, .null, .null, .null, .null, .null, .null, .int 0, .int 0, .int 0])), (q0, .inl ((xt X) 2, 67, .inl (fun _ => 0))), (q1, .inl ((xt X) 2, 67, .inl (fun _ => 0))), (q2, .inl ((xt X) 2, 67, .inl (fun _ => 0))), (q3, .inl ((xt X) 2, 200, .inl (fun _ => 0))), (q4, .inl ((xt X) 1, 128, .inl (f48)))]) (by rw [ef48]; rfl) ?_
  refine g_dup (pc := 306) C d_M_init_306 rfl ?_
  refine g_bipush (pc := 307) C (v := 44) d_M_init_307 (by decide) ?_
  refine g_bipush (pc := 309) C (v := 101) d_M_init_309 (by decide) ?_
  obtain ⟨f49, ef49⟩ : ∃ g : Nat → Int32, g = upd (f48) 44 101 := ⟨_, rfl⟩
  refine g_castore (pc := 311) C 5 d_M_init_311 rfl (by unfold vp_in; decide) (ws' := [(h, .inr (6, [.ref q0, .ref q1, .ref q2, .int 0, .int (-1), .ref q3, .int 0, .int 0, .int 0, .int 0, .int 0, .null, .int 0, .null, .int 0, .null, .null, .null, .null, .null, .null, .null, .int 0, .int 0, .int 0])), (q0, .inl ((xt X) 2, 67, .inl (fun _ => 0))), (q1, .inl ((xt X) 2, 67, .inl (fun _ => 0))), (q2, .inl ((xt X) 2, 67, .inl (fun _ => 0))), (q3, .inl ((xt X) 2, 200, .inl (fun _ => 0))), (q4, .inl ((xt X) 1, 128, .inl (f49)))]) (by rw [ef49]; rfl) ?_
  refine g_dup (pc := 312) C d_M_init_312 rfl ?_
  refine g_bipush (pc := 313) C (v := 45) d_M_init_313 (by decide) ?_
  refine g_bipush (pc := 315) C (v := 114) d_M_init_315 (by decide) ?_
  obtain ⟨f50, ef50⟩ : ∃ g : Nat → Int32, g = upd (f49) 45 114 := ⟨_, rfl⟩
  refine g_castore (pc := 317) C 5 d_M_init_317 rfl (by unfold vp_in; decide) (ws' := [(h, .inr (6, [.ref q0, .ref q1, .ref q2, .int 0, .int (-1), .ref q3, .int 0, .int 0, .int 0, .int 0, .int 0, .null, .int 0, .null, .int 0, .null, .null, .null, .null, .null, .null, .null, .int 0, .int 0, .int 0])), (q0, .inl ((xt X) 2, 67, .inl (fun _ => 0))), (q1, .inl ((xt X) 2, 67, .inl (fun _ => 0))), (q2, .inl ((xt X) 2, 67, .inl (fun _ => 0))), (q3, .inl ((xt X) 2, 200, .inl (fun _ => 0))), (q4, .inl ((xt X) 1, 128, .inl (f50)))]) (by rw [ef50]; rfl) ?_
  refine g_dup (pc := 318) C d_M_init_318 rfl ?_
  refine g_bipush (pc := 319) C (v := 46) d_M_init_319 (by decide) ?_
  refine g_bipush (pc := 321) C (v := 32) d_M_init_321 (by decide) ?_
  obtain ⟨f51, ef51⟩ : ∃ g : Nat → Int32, g = upd (f50) 46 32 := ⟨_, rfl⟩
  refine g_castore (pc := 323) C 5 d_M_init_323 rfl (by unfold vp_in; decide) (ws' := [(h, .inr (6, [.ref q0, .ref q1, .ref q2, .int 0, .int (-1), .ref q3, .int 0, .int 0, .int 0, .int 0, .int 0, .null, .int 0, .null, .int 0, .null, .null, .null, .null, .null, .null, .null, .int 0, .int 0, .int 0])), (q0, .inl ((xt X) 2, 67, .inl (fun _ => 0))), (q1, .inl ((xt X) 2, 67, .inl (fun _ => 0))), (q2, .inl ((xt X) 2, 67, .inl (fun _ => 0))), (q3, .inl ((xt X) 2, 200, .inl (fun _ => 0))), (q4, .inl ((xt X) 1, 128, .inl (f51)))]) (by rw [ef51]; rfl) ?_
  refine g_dup (pc := 324) C d_M_init_324 rfl ?_
  refine g_bipush (pc := 325) C (v := 47) d_M_init_325 (by decide) ?_
  refine g_bipush (pc := 327) C (v := 32) d_M_init_327 (by decide) ?_
  obtain ⟨f52, ef52⟩ : ∃ g : Nat → Int32, g = upd (f51) 47 32 := ⟨_, rfl⟩
  refine g_castore (pc := 329) C 5 d_M_init_329 rfl (by unfold vp_in; decide) (ws' := [(h, .inr (6, [.ref q0, .ref q1, .ref q2, .int 0, .int (-1), .ref q3, .int 0, .int 0, .int 0, .int 0, .int 0, .null, .int 0, .null, .int 0, .null, .null, .null, .null, .null, .null, .null, .int 0, .int 0, .int 0])), (q0, .inl ((xt X) 2, 67, .inl (fun _ => 0))), (q1, .inl ((xt X) 2, 67, .inl (fun _ => 0))), (q2, .inl ((xt X) 2, 67, .inl (fun _ => 0))), (q3, .inl ((xt X) 2, 200, .inl (fun _ => 0))), (q4, .inl ((xt X) 1, 128, .inl (f52)))]) (by rw [ef52]; rfl) ?_
  refine g_dup (pc := 330) C d_M_init_330 rfl ?_
  refine g_bipush (pc := 331) C (v := 48) d_M_init_331 (by decide) ?_
  refine g_bipush (pc := 333) C (v := 97) d_M_init_333 (by decide) ?_
  obtain ⟨f53, ef53⟩ : ∃ g : Nat → Int32, g = upd (f52) 48 97 := ⟨_, rfl⟩
  refine g_castore (pc := 335) C 5 d_M_init_335 rfl (by unfold vp_in; decide) (ws' := [(h, .inr (6, [.ref q0, .ref q1, .ref q2, .int 0, .int (-1), .ref q3, .int 0, .int 0, .int 0, .int 0, .int 0, .null, .int 0, .null, .int 0, .null, .null, .null, .null, .null, .null, .null, .int 0, .int 0, .int 0])), (q0, .inl ((xt X) 2, 67, .inl (fun _ => 0))), (q1, .inl ((xt X) 2, 67, .inl (fun _ => 0))), (q2, .inl ((xt X) 2, 67, .inl (fun _ => 0))), (q3, .inl ((xt X) 2, 200, .inl (fun _ => 0))), (q4, .inl ((xt X) 1, 128, .inl (f53)))]) (by rw [ef53]; rfl) ?_
  refine g_dup (pc := 336) C d_M_init_336 rfl ?_
  refine g_bipush (pc := 337) C (v := 49) d_M_init_337 (by decide) ?_
  refine g_bipush (pc := 339) C (v := 116) d_M_init_339 (by decide) ?_
  obtain ⟨f54, ef54⟩ : ∃ g : Nat → Int32, g = upd (f53) 49 116 := ⟨_, rfl⟩
  refine g_castore (pc := 341) C 5 d_M_init_341 rfl (by unfold vp_in; decide) (ws' := [(h, .inr (6, [.ref q0, .ref q1, .ref q2, .int 0, .int (-1), .ref q3, .int 0, .int 0, .int 0, .int 0, .int 0, .null, .int 0, .null, .int 0, .null, .null, .null, .null, .null, .null, .null, .int 0, .int 0, .int 0])), (q0, .inl ((xt X) 2, 67, .inl (fun _ => 0))), (q1, .inl ((xt X) 2, 67, .inl (fun _ => 0))), (q2, .inl ((xt X) 2, 67, .inl (fun _ => 0))), (q3, .inl ((xt X) 2, 200, .inl (fun _ => 0))), (q4, .inl ((xt X) 1, 128, .inl (f54)))]) (by rw [ef54]; rfl) ?_
  refine g_dup (pc := 342) C d_M_init_342 rfl ?_
  refine g_bipush (pc := 343) C (v := 50) d_M_init_343 (by decide) ?_
  refine g_bipush (pc := 345) C (v := 32) d_M_init_345 (by decide) ?_
  obtain ⟨f55, ef55⟩ : ∃ g : Nat → Int32, g = upd (f54) 50 32 := ⟨_, rfl⟩
  refine g_castore (pc := 347) C 5 d_M_init_347 rfl (by unfold vp_in; decide) (ws' := [(h, .inr (6, [.ref q0, .ref q1, .ref q2, .int 0, .int (-1), .ref q3, .int 0, .int 0, .int 0, .int 0, .int 0, .null, .int 0, .null, .int 0, .null, .null, .null, .null, .null, .null, .null, .int 0, .int 0, .int 0])), (q0, .inl ((xt X) 2, 67, .inl (fun _ => 0))), (q1, .inl ((xt X) 2, 67, .inl (fun _ => 0))), (q2, .inl ((xt X) 2, 67, .inl (fun _ => 0))), (q3, .inl ((xt X) 2, 200, .inl (fun _ => 0))), (q4, .inl ((xt X) 1, 128, .inl (f55)))]) (by rw [ef55]; rfl) ?_
  refine g_dup (pc := 348) C d_M_init_348 rfl ?_
  refine g_bipush (pc := 349) C (v := 51) d_M_init_349 (by decide) ?_
  refine g_bipush (pc := 351) C (v := 32) d_M_init_351 (by decide) ?_
  obtain ⟨f56, ef56⟩ : ∃ g : Nat → Int32, g = upd (f55) 51 32 := ⟨_, rfl⟩
  refine g_castore (pc := 353) C 5 d_M_init_353 rfl (by unfold vp_in; decide) (ws' := [(h, .inr (6, [.ref q0, .ref q1, .ref q2, .int 0, .int (-1), .ref q3, .int 0, .int 0, .int 0, .int 0, .int 0, .null, .int 0, .null, .int 0, .null, .null, .null, .null, .null, .null, .null, .int 0, .int 0, .int 0])), (q0, .inl ((xt X) 2, 67, .inl (fun _ => 0))), (q1, .inl ((xt X) 2, 67, .inl (fun _ => 0))), (q2, .inl ((xt X) 2, 67, .inl (fun _ => 0))), (q3, .inl ((xt X) 2, 200, .inl (fun _ => 0))), (q4, .inl ((xt X) 1, 128, .inl (f56)))]) (by rw [ef56]; rfl) ?_
  refine g_dup (pc := 354) C d_M_init_354 rfl ?_
  refine g_bipush (pc := 355) C (v := 52) d_M_init_355 (by decide) ?_
  refine g_bipush (pc := 357) C (v := 32) d_M_init_357 (by decide) ?_
  obtain ⟨f57, ef57⟩ : ∃ g : Nat → Int32, g = upd (f56) 52 32 := ⟨_, rfl⟩
  refine g_castore (pc := 359) C 5 d_M_init_359 rfl (by unfold vp_in; decide) (ws' := [(h, .inr (6, [.ref q0, .ref q1, .ref q2, .int 0, .int (-1), .ref q3, .int 0, .int 0, .int 0, .int 0, .int 0, .null, .int 0, .null, .int 0, .null, .null, .null, .null, .null, .null, .null, .int 0, .int 0, .int 0])), (q0, .inl ((xt X) 2, 67, .inl (fun _ => 0))), (q1, .inl ((xt X) 2, 67, .inl (fun _ => 0))), (q2, .inl ((xt X) 2, 67, .inl (fun _ => 0))), (q3, .inl ((xt X) 2, 200, .inl (fun _ => 0))), (q4, .inl ((xt X) 1, 128, .inl (f57)))]) (by rw [ef57]; rfl) ?_
  refine g_dup (pc := 360) C d_M_init_360 rfl ?_
  refine g_bipush (pc := 361) C (v := 53) d_M_init_361 (by decide) ?_
  refine g_bipush (pc := 363) C (v := 32) d_M_init_363 (by decide) ?_
  obtain ⟨f58, ef58⟩ : ∃ g : Nat → Int32, g = upd (f57) 53 32 := ⟨_, rfl⟩
  refine g_castore (pc := 365) C 5 d_M_init_365 rfl (by unfold vp_in; decide) (ws' := [(h, .inr (6, [.ref q0, .ref q1, .ref q2, .int 0, .int (-1), .ref q3, .int 0, .int 0, .int 0, .int 0, .int 0, .null, .int 0, .null, .int 0, .null, .null, .null, .null, .null, .null, .null, .int 0, .int 0, .int 0])), (q0, .inl ((xt X) 2, 67, .inl (fun _ => 0))), (q1, .inl ((xt X) 2, 67, .inl (fun _ => 0))), (q2, .inl ((xt X) 2, 67, .inl (fun _ => 0))), (q3, .inl ((xt X) 2, 200, .inl (fun _ => 0))), (q4, .inl ((xt X) 1, 128, .inl (f58)))]) (by rw [ef58]; rfl) ?_
  refine g_dup (pc := 366) C d_M_init_366 rfl ?_
  refine g_bipush (pc := 367) C (v := 54) d_M_init_367 (by decide) ?_
  refine g_bipush (pc := 369) C (v := 32) d_M_init_369 (by decide) ?_
  obtain ⟨f59, ef59⟩ : ∃ g : Nat → Int32, g = upd (f58) 54 32 := ⟨_, rfl⟩
  refine g_castore (pc := 371) C 5 d_M_init_371 rfl (by unfold vp_in; decide) (ws' := [(h, .inr (6, [.ref q0, .ref q1, .ref q2, .int 0, .int (-1), .ref q3, .int 0, .int 0, .int 0, .int 0, .int 0, .null, .int 0, .null, .int 0, .null, .null, .null, .null, .null, .null, .null, .int 0, .int 0, .int 0])), (q0, .inl ((xt X) 2, 67, .inl (fun _ => 0))), (q1, .inl ((xt X) 2, 67, .inl (fun _ => 0))), (q2, .inl ((xt X) 2, 67, .inl (fun _ => 0))), (q3, .inl ((xt X) 2, 200, .inl (fun _ => 0))), (q4, .inl ((xt X) 1, 128, .inl (f59)))]) (by rw [ef59]; rfl) ?_
  refine g_dup (pc := 372) C d_M_init_372 rfl ?_
  refine g_bipush (pc := 373) C (v := 55) d_M_init_373 (by decide) ?_
  refine g_bipush (pc := 375) C (v := 32) d_M_init_375 (by decide) ?_
  obtain ⟨f60, ef60⟩ : ∃ g : Nat → Int32, g = upd (f59) 55 32 := ⟨_, rfl⟩
  refine g_castore (pc := 377) C 5 d_M_init_377 rfl (by unfold vp_in; decide) (ws' := [(h, .inr (6, [.ref q0, .ref q1, .ref q2, .int 0, .int (-1), .ref q3, .int 0, .int 0, .int 0, .int 0, .int 0, .null, .int 0, .null, .int 0, .null, .null, .null, .null, .null, .null, .null, .int 0, .int 0, .int 0])), (q0, .inl ((xt X) 2, 67, .inl (fun _ => 0))), (q1, .inl ((xt X) 2, 67, .inl (fun _ => 0))), (q2, .inl ((xt X) 2, 67, .inl (fun _ => 0))), (q3, .inl ((xt X) 2, 200, .inl (fun _ => 0))), (q4, .inl ((xt X) 1, 128, .inl (f60)))]) (by rw [ef60]; rfl) ?_
  refine g_dup (pc := 378) C d_M_init_378 rfl ?_
  refine g_bipush (pc := 379) C (v := 56) d_M_init_379 (by decide) ?_
  refine g_bipush (pc := 381) C (v := 102) d_M_init_381 (by decide) ?_
  obtain ⟨f61, ef61⟩ : ∃ g : Nat → Int32, g = upd (f60) 56 102 := ⟨_, rfl⟩
  refine g_castore (pc := 383) C 5 d_M_init_383 rfl (by unfold vp_in; decide) (ws' := [(h, .inr (6, [.ref q0, .ref q1, .ref q2, .int 0, .int (-1), .ref q3, .int 0, .int 0, .int 0, .int 0, .int 0, .null, .int 0, .null, .int 0, .null, .null, .null, .null, .null, .null, .null, .int 0, .int 0, .int 0])), (q0, .inl ((xt X) 2, 67, .inl (fun _ => 0))), (q1, .inl ((xt X) 2, 67, .inl (fun _ => 0))), (q2, .inl ((xt X) 2, 67, .inl (fun _ => 0))), (q3, .inl ((xt X) 2, 200, .inl (fun _ => 0))), (q4, .inl ((xt X) 1, 128, .inl (f61)))]) (by rw [ef61]; rfl) ?_
  refine g_dup (pc := 384) C d_M_init_384 rfl ?_
  refine g_bipush (pc := 385) C (v := 57) d_M_init_385 (by decide) ?_
  refine g_bipush (pc := 387) C (v := 111) d_M_init_387 (by decide) ?_
  obtain ⟨f62, ef62⟩ : ∃ g : Nat → Int32, g = upd (f61) 57 111 := ⟨_, rfl⟩
  refine g_castore (pc := 389) C 5 d_M_init_389 rfl (by unfold vp_in; decide) (ws' := [(h, .inr (6, [.ref q0, .ref q1, .ref q2, .int 0, .int (-1), .ref q3, .int 0, .int 0, .int 0, .int 0, .int 0, .null, .int 0, .null, .int 0, .null, .null, .null, .null, .null, .null, .null, .int 0, .int 0, .int 0])), (q0, .inl ((xt X) 2, 67, .inl (fun _ => 0))), (q1, .inl ((xt X) 2, 67, .inl (fun _ => 0))), (q2, .inl ((xt X) 2, 67, .inl (fun _ => 0))), (q3, .inl ((xt X) 2, 200, .inl (fun _ => 0))), (q4, .inl ((xt X) 1, 128, .inl (f62)))]) (by rw [ef62]; rfl) ?_
  refine g_dup (pc := 390) C d_M_init_390 rfl ?_
  refine g_bipush (pc := 391) C (v := 58) d_M_init_391 (by decide) ?_
  refine g_bipush (pc := 393) C (v := 114) d_M_init_393 (by decide) ?_
  obtain ⟨f63, ef63⟩ : ∃ g : Nat → Int32, g = upd (f62) 58 114 := ⟨_, rfl⟩
  refine g_castore (pc := 395) C 5 d_M_init_395 rfl (by unfold vp_in; decide) (ws' := [(h, .inr (6, [.ref q0, .ref q1, .ref q2, .int 0, .int (-1), .ref q3, .int 0, .int 0, .int 0, .int 0, .int 0, .null, .int 0, .null, .int 0, .null, .null, .null, .null, .null, .null, .null, .int 0, .int 0, .int 0])), (q0, .inl ((xt X) 2, 67, .inl (fun _ => 0))), (q1, .inl ((xt X) 2, 67, .inl (fun _ => 0))), (q2, .inl ((xt X) 2, 67, .inl (fun _ => 0))), (q3, .inl ((xt X) 2, 200, .inl (fun _ => 0))), (q4, .inl ((xt X) 1, 128, .inl (f63)))]) (by rw [ef63]; rfl) ?_
  refine g_dup (pc := 396) C d_M_init_396 rfl ?_
  refine g_bipush (pc := 397) C (v := 59) d_M_init_397 (by decide) ?_
  refine g_bipush (pc := 399) C (v := 32) d_M_init_399 (by decide) ?_
  obtain ⟨f64, ef64⟩ : ∃ g : Nat → Int32, g = upd (f63) 59 32 := ⟨_, rfl⟩
  refine g_castore (pc := 401) C 5 d_M_init_401 rfl (by unfold vp_in; decide) (ws' := [(h, .inr (6, [.ref q0, .ref q1, .ref q2, .int 0, .int (-1), .ref q3, .int 0, .int 0, .int 0, .int 0, .int 0, .null, .int 0, .null, .int 0, .null, .null, .null, .null, .null, .null, .null, .int 0, .int 0, .int 0])), (q0, .inl ((xt X) 2, 67, .inl (fun _ => 0))), (q1, .inl ((xt X) 2, 67, .inl (fun _ => 0))), (q2, .inl ((xt X) 2, 67, .inl (fun _ => 0))), (q3, .inl ((xt X) 2, 200, .inl (fun _ => 0))), (q4, .inl ((xt X) 1, 128, .inl (f64)))]) (by rw [ef64]; rfl) ?_
  refine g_dup (pc := 402) C d_M_init_402 rfl ?_
  refine g_bipush (pc := 403) C (v := 60) d_M_init_403 (by decide) ?_
  refine g_bipush (pc := 405) C (v := 32) d_M_init_405 (by decide) ?_
  obtain ⟨f65, ef65⟩ : ∃ g : Nat → Int32, g = upd (f64) 60 32 := ⟨_, rfl⟩
  refine g_castore (pc := 407) C 5 d_M_init_407 rfl (by unfold vp_in; decide) (ws' := [(h, .inr (6, [.ref q0, .ref q1, .ref q2, .int 0, .int (-1), .ref q3, .int 0, .int 0, .int 0, .int 0, .int 0, .null, .int 0, .null, .int 0, .null, .null, .null, .null, .null, .null, .null, .int 0, .int 0, .int 0])), (q0, .inl ((xt X) 2, 67, .inl (fun _ => 0))), (q1, .inl ((xt X) 2, 67, .inl (fun _ => 0))), (q2, .inl ((xt X) 2, 67, .inl (fun _ => 0))), (q3, .inl ((xt X) 2, 200, .inl (fun _ => 0))), (q4, .inl ((xt X) 1, 128, .inl (f65)))]) (by rw [ef65]; rfl) ?_
  refine g_dup (pc := 408) C d_M_init_408 rfl ?_
  refine g_bipush (pc := 409) C (v := 61) d_M_init_409 (by decide) ?_
  refine g_bipush (pc := 411) C (v := 32) d_M_init_411 (by decide) ?_
  obtain ⟨f66, ef66⟩ : ∃ g : Nat → Int32, g = upd (f65) 61 32 := ⟨_, rfl⟩
  refine g_castore (pc := 413) C 5 d_M_init_413 rfl (by unfold vp_in; decide) (ws' := [(h, .inr (6, [.ref q0, .ref q1, .ref q2, .int 0, .int (-1), .ref q3, .int 0, .int 0, .int 0, .int 0, .int 0, .null, .int 0, .null, .int 0, .null, .null, .null, .null, .null, .null, .null, .int 0, .int 0, .int 0])), (q0, .inl ((xt X) 2, 67, .inl (fun _ => 0))), (q1, .inl ((xt X) 2, 67, .inl (fun _ => 0))), (q2, .inl ((xt X) 2, 67, .inl (fun _ => 0))), (q3, .inl ((xt X) 2, 200, .inl (fun _ => 0))), (q4, .inl ((xt X) 1, 128, .inl (f66)))]) (by rw [ef66]; rfl) ?_
  refine g_dup (pc := 414) C d_M_init_414 rfl ?_
  refine g_bipush (pc := 415) C (v := 62) d_M_init_415 (by decide) ?_
  refine g_bipush (pc := 417) C (v := 32) d_M_init_417 (by decide) ?_
  obtain ⟨f67, ef67⟩ : ∃ g : Nat → Int32, g = upd (f66) 62 32 := ⟨_, rfl⟩
  refine g_castore (pc := 419) C 5 d_M_init_419 rfl (by unfold vp_in; decide) (ws' := [(h, .inr (6, [.ref q0, .ref q1, .ref q2, .int 0, .int (-1), .ref q3, .int 0, .int 0, .int 0, .int 0, .int 0, .null, .int 0, .null, .int 0, .null, .null, .null, .null, .null, .null, .null, .int 0, .int 0, .int 0])), (q0, .inl ((xt X) 2, 67, .inl (fun _ => 0))), (q1, .inl ((xt X) 2, 67, .inl (fun _ => 0))), (q2, .inl ((xt X) 2, 67, .inl (fun _ => 0))), (q3, .inl ((xt X) 2, 200, .inl (fun _ => 0))), (q4, .inl ((xt X) 1, 128, .inl (f67)))]) (by rw [ef67]; rfl) ?_
  refine g_dup (pc := 420) C d_M_init_420 rfl ?_
  refine g_bipush (pc := 421) C (v := 63) d_M_init_421 (by decide) ?_
  refine g_bipush (pc := 423) C (v := 32) d_M_init_423 (by decide) ?_
  obtain ⟨f68, ef68⟩ : ∃ g : Nat → Int32, g = upd (f67) 63 32 := ⟨_, rfl⟩
  refine g_castore (pc := 425) C 5 d_M_init_425 rfl (by unfold vp_in; decide) (ws' := [(h, .inr (6, [.ref q0, .ref q1, .ref q2, .int 0, .int (-1), .ref q3, .int 0, .int 0, .int 0, .int 0, .int 0, .null, .int 0, .null, .int 0, .null, .null, .null, .null, .null, .null, .null, .int 0, .int 0, .int 0])), (q0, .inl ((xt X) 2, 67, .inl (fun _ => 0))), (q1, .inl ((xt X) 2, 67, .inl (fun _ => 0))), (q2, .inl ((xt X) 2, 67, .inl (fun _ => 0))), (q3, .inl ((xt X) 2, 200, .inl (fun _ => 0))), (q4, .inl ((xt X) 1, 128, .inl (f68)))]) (by rw [ef68]; rfl) ?_
  refine g_dup (pc := 426) C d_M_init_426 rfl ?_
  refine g_bipush (pc := 427) C (v := 64) d_M_init_427 (by decide) ?_
  refine g_bipush (pc := 429) C (v := 108) d_M_init_429 (by decide) ?_
  obtain ⟨f69, ef69⟩ : ∃ g : Nat → Int32, g = upd (f68) 64 108 := ⟨_, rfl⟩
  refine g_castore (pc := 431) C 5 d_M_init_431 rfl (by unfold vp_in; decide) (ws' := [(h, .inr (6, [.ref q0, .ref q1, .ref q2, .int 0, .int (-1), .ref q3, .int 0, .int 0, .int 0, .int 0, .int 0, .null, .int 0, .null, .int 0, .null, .null, .null, .null, .null, .null, .null, .int 0, .int 0, .int 0])), (q0, .inl ((xt X) 2, 67, .inl (fun _ => 0))), (q1, .inl ((xt X) 2, 67, .inl (fun _ => 0))), (q2, .inl ((xt X) 2, 67, .inl (fun _ => 0))), (q3, .inl ((xt X) 2, 200, .inl (fun _ => 0))), (q4, .inl ((xt X) 1, 128, .inl (f69)))]) (by rw [ef69]; rfl) ?_
  refine g_dup (pc := 432) C d_M_init_432 rfl ?_
  refine g_bipush (pc := 433) C (v := 65) d_M_init_433 (by decide) ?_
  refine g_bipush (pc := 435) C (v := 111) d_M_init_435 (by decide) ?_
  obtain ⟨f70, ef70⟩ : ∃ g : Nat → Int32, g = upd (f69) 65 111 := ⟨_, rfl⟩
  refine g_castore (pc := 437) C 5 d_M_init_437 rfl (by unfold vp_in; decide) (ws' := [(h, .inr (6, [.ref q0, .ref q1, .ref q2, .int 0, .int (-1), .ref q3, .int 0, .int 0, .int 0, .int 0, .int 0, .null, .int 0, .null, .int 0, .null, .null, .null, .null, .null, .null, .null, .int 0, .int 0, .int 0])), (q0, .inl ((xt X) 2, 67, .inl (fun _ => 0))), (q1, .inl ((xt X) 2, 67, .inl (fun _ => 0))), (q2, .inl ((xt X) 2, 67, .inl (fun _ => 0))), (q3, .inl ((xt X) 2, 200, .inl (fun _ => 0))), (q4, .inl ((xt X) 1, 128, .inl (f70)))]) (by rw [ef70]; rfl) ?_
  refine g_dup (pc := 438) C d_M_init_438 rfl ?_
  refine g_bipush (pc := 439) C (v := 66) d_M_init_439 (by decide) ?_
  refine g_bipush (pc := 441) C (v := 97) d_M_init_441 (by decide) ?_
  obtain ⟨f71, ef71⟩ : ∃ g : Nat → Int32, g = upd (f70) 66 97 := ⟨_, rfl⟩
  refine g_castore (pc := 443) C 5 d_M_init_443 rfl (by unfold vp_in; decide) (ws' := [(h, .inr (6, [.ref q0, .ref q1, .ref q2, .int 0, .int (-1), .ref q3, .int 0, .int 0, .int 0, .int 0, .int 0, .null, .int 0, .null, .int 0, .null, .null, .null, .null, .null, .null, .null, .int 0, .int 0, .int 0])), (q0, .inl ((xt X) 2, 67, .inl (fun _ => 0))), (q1, .inl ((xt X) 2, 67, .inl (fun _ => 0))), (q2, .inl ((xt X) 2, 67, .inl (fun _ => 0))), (q3, .inl ((xt X) 2, 200, .inl (fun _ => 0))), (q4, .inl ((xt X) 1, 128, .inl (f71)))]) (by rw [ef71]; rfl) ?_
  refine g_dup (pc := 444) C d_M_init_444 rfl ?_
  refine g_bipush (pc := 445) C (v := 67) d_M_init_445 (by decide) ?_
  refine g_bipush (pc := 447) C (v := 100) d_M_init_447 (by decide) ?_
  obtain ⟨f72, ef72⟩ : ∃ g : Nat → Int32, g = upd (f71) 67 100 := ⟨_, rfl⟩
  refine g_castore (pc := 449) C 5 d_M_init_449 rfl (by unfold vp_in; decide) (ws' := [(h, .inr (6, [.ref q0, .ref q1, .ref q2, .int 0, .int (-1), .ref q3, .int 0, .int 0, .int 0, .int 0, .int 0, .null, .int 0, .null, .int 0, .null, .null, .null, .null, .null, .null, .null, .int 0, .int 0, .int 0])), (q0, .inl ((xt X) 2, 67, .inl (fun _ => 0))), (q1, .inl ((xt X) 2, 67, .inl (fun _ => 0))), (q2, .inl ((xt X) 2, 67, .inl (fun _ => 0))), (q3, .inl ((xt X) 2, 200, .inl (fun _ => 0))), (q4, .inl ((xt X) 1, 128, .inl (f72)))]) (by rw [ef72]; rfl) ?_
  refine g_dup (pc := 450) C d_M_init_450 rfl ?_
  refine g_bipush (pc := 451) C (v := 68) d_M_init_451 (by decide) ?_
  refine g_bipush (pc := 453) C (v := 32) d_M_init_453 (by decide) ?_
  obtain ⟨f73, ef73⟩ : ∃ g : Nat → Int32, g = upd (f72) 68 32 := ⟨_, rfl⟩
  refine g_castore (pc := 455) C 5 d_M_init_455 rfl (by unfold vp_in; decide) (ws' := [(h, .inr (6, [.ref q0, .ref q1, .ref q2, .int 0, .int (-1), .ref q3, .int 0, .int 0, .int 0, .int 0, .int 0, .null, .int 0, .null, .int 0, .null, .null, .null, .null, .null, .null, .null, .int 0, .int 0, .int 0])), (q0, .inl ((xt X) 2, 67, .inl (fun _ => 0))), (q1, .inl ((xt X) 2, 67, .inl (fun _ => 0))), (q2, .inl ((xt X) 2, 67, .inl (fun _ => 0))), (q3, .inl ((xt X) 2, 200, .inl (fun _ => 0))), (q4, .inl ((xt X) 1, 128, .inl (f73)))]) (by rw [ef73]; rfl) ?_
  refine g_dup (pc := 456) C d_M_init_456 rfl ?_
  refine g_bipush (pc := 457) C (v := 69) d_M_init_457 (by decide) ?_
  refine g_bipush (pc := 459) C (v := 32) d_M_init_459 (by decide) ?_
  obtain ⟨f74, ef74⟩ : ∃ g : Nat → Int32, g = upd (f73) 69 32 := ⟨_, rfl⟩
  refine g_castore (pc := 461) C 5 d_M_init_461 rfl (by unfold vp_in; decide) (ws' := [(h, .inr (6, [.ref q0, .ref q1, .ref q2, .int 0, .int (-1), .ref q3, .int 0, .int 0, .int 0, .int 0, .int 0, .null, .int 0, .null, .int 0, .null, .null, .null, .null, .null, .null, .null, .int 0, .int 0, .int 0])), (q0, .inl ((xt X) 2, 67, .inl (fun _ => 0))), (q1, .inl ((xt X) 2, 67, .inl (fun _ => 0))), (q2, .inl ((xt X) 2, 67, .inl (fun _ => 0))), (q3, .inl ((xt X) 2, 200, .inl (fun _ => 0))), (q4, .inl ((xt X) 1, 128, .inl (f74)))]) (by rw [ef74]; rfl) ?_
  refine g_dup (pc := 462) C d_M_init_462 rfl ?_
  refine g_bipush (pc := 463) C (v := 70) d_M_init_463 (by decide) ?_
  refine g_bipush (pc := 465) C (v := 32) d_M_init_465 (by decide) ?_
  obtain ⟨f75, ef75⟩ : ∃ g : Nat → Int32, g = upd (f74) 70 32 := ⟨_, rfl⟩
  refine g_castore (pc := 467) C 5 d_M_init_467 rfl (by unfold vp_in; decide) (ws' := [(h, .inr (6, [.ref q0, .ref q1, .ref q2, .int 0, .int (-1), .ref q3, .int 0, .int 0, .int 0, .int 0, .int 0, .null, .int 0, .null, .int 0, .null, .null, .null, .null, .null, .null, .null, .int 0, .int 0, .int 0])), (q0, .inl ((xt X) 2, 67, .inl (fun _ => 0))), (q1, .inl ((xt X) 2, 67, .inl (fun _ => 0))), (q2, .inl ((xt X) 2, 67, .inl (fun _ => 0))), (q3, .inl ((xt X) 2, 200, .inl (fun _ => 0))), (q4, .inl ((xt X) 1, 128, .inl (f75)))]) (by rw [ef75]; rfl) ?_
  refine g_dup (pc := 468) C d_M_init_468 rfl ?_
  refine g_bipush (pc := 469) C (v := 71) d_M_init_469 (by decide) ?_
  refine g_bipush (pc := 471) C (v := 32) d_M_init_471 (by decide) ?_
  obtain ⟨f76, ef76⟩ : ∃ g : Nat → Int32, g = upd (f75) 71 32 := ⟨_, rfl⟩
  refine g_castore (pc := 473) C 5 d_M_init_473 rfl (by unfold vp_in; decide) (ws' := [(h, .inr (6, [.ref q0, .ref q1, .ref q2, .int 0, .int (-1), .ref q3, .int 0, .int 0, .int 0, .int 0, .int 0, .null, .int 0, .null, .int 0, .null, .null, .null, .null, .null, .null, .null, .int 0, .int 0, .int 0])), (q0, .inl ((xt X) 2, 67, .inl (fun _ => 0))), (q1, .inl ((xt X) 2, 67, .inl (fun _ => 0))), (q2, .inl ((xt X) 2, 67, .inl (fun _ => 0))), (q3, .inl ((xt X) 2, 200, .inl (fun _ => 0))), (q4, .inl ((xt X) 1, 128, .inl (f76)))]) (by rw [ef76]; rfl) ?_
  refine g_dup (pc := 474) C d_M_init_474 rfl ?_
  refine g_bipush (pc := 475) C (v := 72) d_M_init_475 (by decide) ?_
  refine g_bipush (pc := 477) C (v := 111) d_M_init_477 (by decide) ?_
  obtain ⟨f77, ef77⟩ : ∃ g : Nat → Int32, g = upd (f76) 72 111 := ⟨_, rfl⟩
  refine g_castore (pc := 479) C 5 d_M_init_479 rfl (by unfold vp_in; decide) (ws' := [(h, .inr (6, [.ref q0, .ref q1, .ref q2, .int 0, .int (-1), .ref q3, .int 0, .int 0, .int 0, .int 0, .int 0, .null, .int 0, .null, .int 0, .null, .null, .null, .null, .null, .null, .null, .int 0, .int 0, .int 0])), (q0, .inl ((xt X) 2, 67, .inl (fun _ => 0))), (q1, .inl ((xt X) 2, 67, .inl (fun _ => 0))), (q2, .inl ((xt X) 2, 67, .inl (fun _ => 0))), (q3, .inl ((xt X) 2, 200, .inl (fun _ => 0))), (q4, .inl ((xt X) 1, 128, .inl (f77)))]) (by rw [ef77]; rfl) ?_
  refine g_dup (pc := 480) C d_M_init_480 rfl ?_
  refine g_bipush (pc := 481) C (v := 73) d_M_init_481 (by decide) ?_
  refine g_bipush (pc := 483) C (v := 116) d_M_init_483 (by decide) ?_
  obtain ⟨f78, ef78⟩ : ∃ g : Nat → Int32, g = upd (f77) 73 116 := ⟨_, rfl⟩
  refine g_castore (pc := 485) C 5 d_M_init_485 rfl (by unfold vp_in; decide) (ws' := [(h, .inr (6, [.ref q0, .ref q1, .ref q2, .int 0, .int (-1), .ref q3, .int 0, .int 0, .int 0, .int 0, .int 0, .null, .int 0, .null, .int 0, .null, .null, .null, .null, .null, .null, .null, .int 0, .int 0, .int 0])), (q0, .inl ((xt X) 2, 67, .inl (fun _ => 0))), (q1, .inl ((xt X) 2, 67, .inl (fun _ => 0))), (q2, .inl ((xt X) 2, 67, .inl (fun _ => 0))), (q3, .inl ((xt X) 2, 200, .inl (fun _ => 0))), (q4, .inl ((xt X) 1, 128, .inl (f78)))]) (by rw [ef78]; rfl) ?_
  refine g_dup (pc := 486) C d_M_init_486 rfl ?_
  refine g_bipush (pc := 487) C (v := 74) d_M_init_487 (by decide) ?_
  refine g_bipush (pc := 489) C (v := 104) d_M_init_489 (by decide) ?_
  obtain ⟨f79, ef79⟩ : ∃ g : Nat → Int32, g = upd (f78) 74 104 := ⟨_, rfl⟩
  refine g_castore (pc := 491) C 5 d_M_init_491 rfl (by unfold vp_in; decide) (ws' := [(h, .inr (6, [.ref q0, .ref q1, .ref q2, .int 0, .int (-1), .ref q3, .int 0, .int 0, .int 0, .int 0, .int 0, .null, .int 0, .null, .int 0, .null, .null, .null, .null, .null, .null, .null, .int 0, .int 0, .int 0])), (q0, .inl ((xt X) 2, 67, .inl (fun _ => 0))), (q1, .inl ((xt X) 2, 67, .inl (fun _ => 0))), (q2, .inl ((xt X) 2, 67, .inl (fun _ => 0))), (q3, .inl ((xt X) 2, 200, .inl (fun _ => 0))), (q4, .inl ((xt X) 1, 128, .inl (f79)))]) (by rw [ef79]; rfl) ?_
  refine g_dup (pc := 492) C d_M_init_492 rfl ?_
  refine g_bipush (pc := 493) C (v := 75) d_M_init_493 (by decide) ?_
  refine g_bipush (pc := 495) C (v := 101) d_M_init_495 (by decide) ?_
  obtain ⟨f80, ef80⟩ : ∃ g : Nat → Int32, g = upd (f79) 75 101 := ⟨_, rfl⟩
  refine g_castore (pc := 497) C 5 d_M_init_497 rfl (by unfold vp_in; decide) (ws' := [(h, .inr (6, [.ref q0, .ref q1, .ref q2, .int 0, .int (-1), .ref q3, .int 0, .int 0, .int 0, .int 0, .int 0, .null, .int 0, .null, .int 0, .null, .null, .null, .null, .null, .null, .null, .int 0, .int 0, .int 0])), (q0, .inl ((xt X) 2, 67, .inl (fun _ => 0))), (q1, .inl ((xt X) 2, 67, .inl (fun _ => 0))), (q2, .inl ((xt X) 2, 67, .inl (fun _ => 0))), (q3, .inl ((xt X) 2, 200, .inl (fun _ => 0))), (q4, .inl ((xt X) 1, 128, .inl (f80)))]) (by rw [ef80]; rfl) ?_
  refine g_dup (pc := 498) C d_M_init_498 rfl ?_
  refine g_bipush (pc := 499) C (v := 76) d_M_init_499 (by decide) ?_
  refine g_bipush (pc := 501) C (v := 114) d_M_init_501 (by decide) ?_
  obtain ⟨f81, ef81⟩ : ∃ g : Nat → Int32, g = upd (f80) 76 114 := ⟨_, rfl⟩
  refine g_castore (pc := 503) C 5 d_M_init_503 rfl (by unfold vp_in; decide) (ws' := [(h, .inr (6, [.ref q0, .ref q1, .ref q2, .int 0, .int (-1), .ref q3, .int 0, .int 0, .int 0, .int 0, .int 0, .null, .int 0, .null, .int 0, .null, .null, .null, .null, .null, .null, .null, .int 0, .int 0, .int 0])), (q0, .inl ((xt X) 2, 67, .inl (fun _ => 0))), (q1, .inl ((xt X) 2, 67, .inl (fun _ => 0))), (q2, .inl ((xt X) 2, 67, .inl (fun _ => 0))), (q3, .inl ((xt X) 2, 200, .inl (fun _ => 0))), (q4, .inl ((xt X) 1, 128, .inl (f81)))]) (by rw [ef81]; rfl) ?_
  refine g_dup (pc := 504) C d_M_init_504 rfl ?_
  refine g_bipush (pc := 505) C (v := 77) d_M_init_505 (by decide) ?_
  refine g_bipush (pc := 507) C (v := 32) d_M_init_507 (by decide) ?_
  obtain ⟨f82, ef82⟩ : ∃ g : Nat → Int32, g = upd (f81) 77 32 := ⟨_, rfl⟩
  refine g_castore (pc := 509) C 5 d_M_init_509 rfl (by unfold vp_in; decide) (ws' := [(h, .inr (6, [.ref q0, .ref q1, .ref q2, .int 0, .int (-1), .ref q3, .int 0, .int 0, .int 0, .int 0, .int 0, .null, .int 0, .null, .int 0, .null, .null, .null, .null, .null, .null, .null, .int 0, .int 0, .int 0])), (q0, .inl ((xt X) 2, 67, .inl (fun _ => 0))), (q1, .inl ((xt X) 2, 67, .inl (fun _ => 0))), (q2, .inl ((xt X) 2, 67, .inl (fun _ => 0))), (q3, .inl ((xt X) 2, 200, .inl (fun _ => 0))), (q4, .inl ((xt X) 1, 128, .inl (f82)))]) (by rw [ef82]; rfl) ?_
  refine g_dup (pc := 510) C d_M_init_510 rfl ?_
  refine g_bipush (pc := 511) C (v := 78) d_M_init_511 (by decide) ?_
  refine g_bipush (pc := 513) C (v := 32) d_M_init_513 (by decide) ?_
  obtain ⟨f83, ef83⟩ : ∃ g : Nat → Int32, g = upd (f82) 78 32 := ⟨_, rfl⟩
  refine g_castore (pc := 515) C 5 d_M_init_515 rfl (by unfold vp_in; decide) (ws' := [(h, .inr (6, [.ref q0, .ref q1, .ref q2, .int 0, .int (-1), .ref q3, .int 0, .int 0, .int 0, .int 0, .int 0, .null, .int 0, .null, .int 0, .null, .null, .null, .null, .null, .null, .null, .int 0, .int 0, .int 0])), (q0, .inl ((xt X) 2, 67, .inl (fun _ => 0))), (q1, .inl ((xt X) 2, 67, .inl (fun _ => 0))), (q2, .inl ((xt X) 2, 67, .inl (fun _ => 0))), (q3, .inl ((xt X) 2, 200, .inl (fun _ => 0))), (q4, .inl ((xt X) 1, 128, .inl (f83)))]) (by rw [ef83]; rfl) ?_
  refine g_dup (pc := 516) C d_M_init_516 rfl ?_
  refine g_bipush (pc := 517) C (v := 79) d_M_init_517 (by decide) ?_
  refine g_bipush (pc := 519) C (v := 32) d_M_init_519 (by decide) ?_
  obtain ⟨f84, ef84⟩ : ∃ g : Nat → Int32, g = upd (f83) 79 32 := ⟨_, rfl⟩
  refine g_castore (pc := 521) C 5 d_M_init_521 rfl (by unfold vp_in; decide) (ws' := [(h, .inr (6, [.ref q0, .ref q1, .ref q2, .int 0, .int (-1), .ref q3, .int 0, .int 0, .int 0, .int 0, .int 0, .null, .int 0, .null, .int 0, .null, .null, .null, .null, .null, .null, .null, .int 0, .int 0, .int 0])), (q0, .inl ((xt X) 2, 67, .inl (fun _ => 0))), (q1, .inl ((xt X) 2, 67, .inl (fun _ => 0))), (q2, .inl ((xt X) 2, 67, .inl (fun _ => 0))), (q3, .inl ((xt X) 2, 200, .inl (fun _ => 0))), (q4, .inl ((xt X) 1, 128, .inl (f84)))]) (by rw [ef84]; rfl) ?_
  refine g_dup (pc := 522) C d_M_init_522 rfl ?_
  refine g_bipush (pc := 523) C (v := 80) d_M_init_523 (by decide) ?_
  refine g_bipush (pc := 525) C (v := 105) d_M_init_525 (by decide) ?_
  obtain ⟨f85, ef85⟩ : ∃ g : Nat → Int32, g = upd (f84) 80 105 := ⟨_, rfl⟩
  refine g_castore (pc := 527) C 5 d_M_init_527 rfl (by unfold vp_in; decide) (ws' := [(h, .inr (6, [.ref q0, .ref q1, .ref q2, .int 0, .int (-1), .ref q3, .int 0, .int 0, .int 0, .int 0, .int 0, .null, .int 0, .null, .int 0, .null, .null, .null, .null, .null, .null, .null, .int 0, .int 0, .int 0])), (q0, .inl ((xt X) 2, 67, .inl (fun _ => 0))), (q1, .inl ((xt X) 2, 67, .inl (fun _ => 0))), (q2, .inl ((xt X) 2, 67, .inl (fun _ => 0))), (q3, .inl ((xt X) 2, 200, .inl (fun _ => 0))), (q4, .inl ((xt X) 1, 128, .inl (f85)))]) (by rw [ef85]; rfl) ?_
  refine g_dup (pc := 528) C d_M_init_528 rfl ?_
  refine g_bipush (pc := 529) C (v := 81) d_M_init_529 (by decide) ?_
  refine g_bipush (pc := 531) C (v := 115) d_M_init_531 (by decide) ?_
  obtain ⟨f86, ef86⟩ : ∃ g : Nat → Int32, g = upd (f85) 81 115 := ⟨_, rfl⟩
  refine g_castore (pc := 533) C 5 d_M_init_533 rfl (by unfold vp_in; decide) (ws' := [(h, .inr (6, [.ref q0, .ref q1, .ref q2, .int 0, .int (-1), .ref q3, .int 0, .int 0, .int 0, .int 0, .int 0, .null, .int 0, .null, .int 0, .null, .null, .null, .null, .null, .null, .null, .int 0, .int 0, .int 0])), (q0, .inl ((xt X) 2, 67, .inl (fun _ => 0))), (q1, .inl ((xt X) 2, 67, .inl (fun _ => 0))), (q2, .inl ((xt X) 2, 67, .inl (fun _ => 0))), (q3, .inl ((xt X) 2, 200, .inl (fun _ => 0))), (q4, .inl ((xt X) 1, 128, .inl (f86)))]) (by rw [ef86]; rfl) ?_
  refine g_dup (pc := 534) C d_M_init_534 rfl ?_
  refine g_bipush (pc := 535) C (v := 82) d_M_init_535 (by decide) ?_
  refine g_bipush (pc := 537) C (v := 32) d_M_init_537 (by decide) ?_
  obtain ⟨f87, ef87⟩ : ∃ g : Nat → Int32, g = upd (f86) 82 32 := ⟨_, rfl⟩
  refine g_castore (pc := 539) C 5 d_M_init_539 rfl (by unfold vp_in; decide) (ws' := [(h, .inr (6, [.ref q0, .ref q1, .ref q2, .int 0, .int (-1), .ref q3, .int 0, .int 0, .int 0, .int 0, .int 0, .null, .int 0, .null, .int 0, .null, .null, .null, .null, .null, .null, .null, .int 0, .int 0, .int 0])), (q0, .inl ((xt X) 2, 67, .inl (fun _ => 0))), (q1, .inl ((xt X) 2, 67, .inl (fun _ => 0))), (q2, .inl ((xt X) 2, 67, .inl (fun _ => 0))), (q3, .inl ((xt X) 2, 200, .inl (fun _ => 0))), (q4, .inl ((xt X) 1, 128, .inl (f87)))]) (by rw [ef87]; rfl) ?_
  refine g_dup (pc := 540) C d_M_init_540 rfl ?_
  refine g_bipush (pc := 541) C (v := 83) d_M_init_541 (by decide) ?_
  refine g_bipush (pc := 543) C (v := 32) d_M_init_543 (by decide) ?_
  obtain ⟨f88, ef88⟩ : ∃ g : Nat → Int32, g = upd (f87) 83 32 := ⟨_, rfl⟩
  refine g_castore (pc := 545) C 5 d_M_init_545 rfl (by unfold vp_in; decide) (ws' := [(h, .inr (6, [.ref q0, .ref q1, .ref q2, .int 0, .int (-1), .ref q3, .int 0, .int 0, .int 0, .int 0, .int 0, .null, .int 0, .null, .int 0, .null, .null, .null, .null, .null, .null, .null, .int 0, .int 0, .int 0])), (q0, .inl ((xt X) 2, 67, .inl (fun _ => 0))), (q1, .inl ((xt X) 2, 67, .inl (fun _ => 0))), (q2, .inl ((xt X) 2, 67, .inl (fun _ => 0))), (q3, .inl ((xt X) 2, 200, .inl (fun _ => 0))), (q4, .inl ((xt X) 1, 128, .inl (f88)))]) (by rw [ef88]; rfl) ?_
  refine g_dup (pc := 546) C d_M_init_546 rfl ?_
  refine g_bipush (pc := 547) C (v := 84) d_M_init_547 (by decide) ?_
  refine g_bipush (pc := 549) C (v := 32) d_M_init_549 (by decide) ?_
  obtain ⟨f89, ef89⟩ : ∃ g : Nat → Int32, g = upd (f88) 84 32 := ⟨_, rfl⟩
  refine g_castore (pc := 551) C 5 d_M_init_551 rfl (by unfold vp_in; decide) (ws' := [(h, .inr (6, [.ref q0, .ref q1, .ref q2, .int 0, .int (-1), .ref q3, .int 0, .int 0, .int 0, .int 0, .int 0, .null, .int 0, .null, .int 0, .null, .null, .null, .null, .null, .null, .null, .int 0, .int 0, .int 0])), (q0, .inl ((xt X) 2, 67, .inl (fun _ => 0))), (q1, .inl ((xt X) 2, 67, .inl (fun _ => 0))), (q2, .inl ((xt X) 2, 67, .inl (fun _ => 0))), (q3, .inl ((xt X) 2, 200, .inl (fun _ => 0))), (q4, .inl ((xt X) 1, 128, .inl (f89)))]) (by rw [ef89]; rfl) ?_
  refine g_dup (pc := 552) C d_M_init_552 rfl ?_
  refine g_bipush (pc := 553) C (v := 85) d_M_init_553 (by decide) ?_
  refine g_bipush (pc := 555) C (v := 32) d_M_init_555 (by decide) ?_
  obtain ⟨f90, ef90⟩ : ∃ g : Nat → Int32, g = upd (f89) 85 32 := ⟨_, rfl⟩
  refine g_castore (pc := 557) C 5 d_M_init_557 rfl (by unfold vp_in; decide) (ws' := [(h, .inr (6, [.ref q0, .ref q1, .ref q2, .int 0, .int (-1), .ref q3, .int 0, .int 0, .int 0, .int 0, .int 0, .null, .int 0, .null, .int 0, .null, .null, .null, .null, .null, .null, .null, .int 0, .int 0, .int 0])), (q0, .inl ((xt X) 2, 67, .inl (fun _ => 0))), (q1, .inl ((xt X) 2, 67, .inl (fun _ => 0))), (q2, .inl ((xt X) 2, 67, .inl (fun _ => 0))), (q3, .inl ((xt X) 2, 200, .inl (fun _ => 0))), (q4, .inl ((xt X) 1, 128, .inl (f90)))]) (by rw [ef90]; rfl) ?_
  refine g_dup (pc := 558) C d_M_init_558 rfl ?_
  refine g_bipush (pc := 559) C (v := 86) d_M_init_559 (by decide) ?_
  refine g_bipush (pc := 561) C (v := 32) d_M_init_561 (by decide) ?_
  obtain ⟨f91, ef91⟩ : ∃ g : Nat → Int32, g = upd (f90) 86 32 := ⟨_, rfl⟩
  refine g_castore (pc := 563) C 5 d_M_init_563 rfl (by unfold vp_in; decide) (ws' := [(h, .inr (6, [.ref q0, .ref q1, .ref q2, .int 0, .int (-1), .ref q3, .int 0, .int 0, .int 0, .int 0, .int 0, .null, .int 0, .null, .int 0, .null, .null, .null, .null, .null, .null, .null, .int 0, .int 0, .int 0])), (q0, .inl ((xt X) 2, 67, .inl (fun _ => 0))), (q1, .inl ((xt X) 2, 67, .inl (fun _ => 0))), (q2, .inl ((xt X) 2, 67, .inl (fun _ => 0))), (q3, .inl ((xt X) 2, 200, .inl (fun _ => 0))), (q4, .inl ((xt X) 1, 128, .inl (f91)))]) (by rw [ef91]; rfl) ?_
  refine g_dup (pc := 564) C d_M_init_564 rfl ?_
  refine g_bipush (pc := 565) C (v := 87) d_M_init_565 (by decide) ?_
  refine g_bipush (pc := 567) C (v := 32) d_M_init_567 (by decide) ?_
  obtain ⟨f92, ef92⟩ : ∃ g : Nat → Int32, g = upd (f91) 87 32 := ⟨_, rfl⟩
  refine g_castore (pc := 569) C 5 d_M_init_569 rfl (by unfold vp_in; decide) (ws' := [(h, .inr (6, [.ref q0, .ref q1, .ref q2, .int 0, .int (-1), .ref q3, .int 0, .int 0, .int 0, .int 0, .int 0, .null, .int 0, .null, .int 0, .null, .null, .null, .null, .null, .null, .null, .int 0, .int 0, .int 0])), (q0, .inl ((xt X) 2, 67, .inl (fun _ => 0))), (q1, .inl ((xt X) 2, 67, .inl (fun _ => 0))), (q2, .inl ((xt X) 2, 67, .inl (fun _ => 0))), (q3, .inl ((xt X) 2, 200, .inl (fun _ => 0))), (q4, .inl ((xt X) 1, 128, .inl (f92)))]) (by rw [ef92]; rfl) ?_
  refine g_dup (pc := 570) C d_M_init_570 rfl ?_
  refine g_bipush (pc := 571) C (v := 88) d_M_init_571 (by decide) ?_
  refine g_bipush (pc := 573) C (v := 110) d_M_init_573 (by decide) ?_
  obtain ⟨f93, ef93⟩ : ∃ g : Nat → Int32, g = upd (f92) 88 110 := ⟨_, rfl⟩
  refine g_castore (pc := 575) C 5 d_M_init_575 rfl (by unfold vp_in; decide) (ws' := [(h, .inr (6, [.ref q0, .ref q1, .ref q2, .int 0, .int (-1), .ref q3, .int 0, .int 0, .int 0, .int 0, .int 0, .null, .int 0, .null, .int 0, .null, .null, .null, .null, .null, .null, .null, .int 0, .int 0, .int 0])), (q0, .inl ((xt X) 2, 67, .inl (fun _ => 0))), (q1, .inl ((xt X) 2, 67, .inl (fun _ => 0))), (q2, .inl ((xt X) 2, 67, .inl (fun _ => 0))), (q3, .inl ((xt X) 2, 200, .inl (fun _ => 0))), (q4, .inl ((xt X) 1, 128, .inl (f93)))]) (by rw [ef93]; rfl) ?_
  refine g_dup (pc := 576) C d_M_init_576 rfl ?_
  refine g_bipush (pc := 577) C (v := 89) d_M_init_577 (by decide) ?_
  refine g_bipush (pc := 579) C (v := 111) d_M_init_579 (by decide) ?_
  obtain ⟨f94, ef94⟩ : ∃ g : Nat → Int32, g = upd (f93) 89 111 := ⟨_, rfl⟩
  refine g_castore (pc := 581) C 5 d_M_init_581 rfl (by unfold vp_in; decide) (ws' := [(h, .inr (6, [.ref q0, .ref q1, .ref q2, .int 0, .int (-1), .ref q3, .int 0, .int 0, .int 0, .int 0, .int 0, .null, .int 0, .null, .int 0, .null, .null, .null, .null, .null, .null, .null, .int 0, .int 0, .int 0])), (q0, .inl ((xt X) 2, 67, .inl (fun _ => 0))), (q1, .inl ((xt X) 2, 67, .inl (fun _ => 0))), (q2, .inl ((xt X) 2, 67, .inl (fun _ => 0))), (q3, .inl ((xt X) 2, 200, .inl (fun _ => 0))), (q4, .inl ((xt X) 1, 128, .inl (f94)))]) (by rw [ef94]; rfl) ?_
  refine g_dup (pc := 582) C d_M_init_582 rfl ?_
  refine g_bipush (pc := 583) C (v := 90) d_M_init_583 (by decide) ?_
  refine g_bipush (pc := 585) C (v := 105) d_M_init_585 (by decide) ?_
  obtain ⟨f95, ef95⟩ : ∃ g : Nat → Int32, g = upd (f94) 90 105 := ⟨_, rfl⟩
  refine g_castore (pc := 587) C 5 d_M_init_587 rfl (by unfold vp_in; decide) (ws' := [(h, .inr (6, [.ref q0, .ref q1, .ref q2, .int 0, .int (-1), .ref q3, .int 0, .int 0, .int 0, .int 0, .int 0, .null, .int 0, .null, .int 0, .null, .null, .null, .null, .null, .null, .null, .int 0, .int 0, .int 0])), (q0, .inl ((xt X) 2, 67, .inl (fun _ => 0))), (q1, .inl ((xt X) 2, 67, .inl (fun _ => 0))), (q2, .inl ((xt X) 2, 67, .inl (fun _ => 0))), (q3, .inl ((xt X) 2, 200, .inl (fun _ => 0))), (q4, .inl ((xt X) 1, 128, .inl (f95)))]) (by rw [ef95]; rfl) ?_
  refine g_dup (pc := 588) C d_M_init_588 rfl ?_
  refine g_bipush (pc := 589) C (v := 91) d_M_init_589 (by decide) ?_
  refine g_bipush (pc := 591) C (v := 115) d_M_init_591 (by decide) ?_
  obtain ⟨f96, ef96⟩ : ∃ g : Nat → Int32, g = upd (f95) 91 115 := ⟨_, rfl⟩
  refine g_castore (pc := 593) C 5 d_M_init_593 rfl (by unfold vp_in; decide) (ws' := [(h, .inr (6, [.ref q0, .ref q1, .ref q2, .int 0, .int (-1), .ref q3, .int 0, .int 0, .int 0, .int 0, .int 0, .null, .int 0, .null, .int 0, .null, .null, .null, .null, .null, .null, .null, .int 0, .int 0, .int 0])), (q0, .inl ((xt X) 2, 67, .inl (fun _ => 0))), (q1, .inl ((xt X) 2, 67, .inl (fun _ => 0))), (q2, .inl ((xt X) 2, 67, .inl (fun _ => 0))), (q3, .inl ((xt X) 2, 200, .inl (fun _ => 0))), (q4, .inl ((xt X) 1, 128, .inl (f96)))]) (by rw [ef96]; rfl) ?_
  refine g_dup (pc := 594) C d_M_init_594 rfl ?_
  refine g_bipush (pc := 595) C (v := 92) d_M_init_595 (by decide) ?_
  refine g_bipush (pc := 597) C (v := 101) d_M_init_597 (by decide) ?_
  obtain ⟨f97, ef97⟩ : ∃ g : Nat → Int32, g = upd (f96) 92 101 := ⟨_, rfl⟩
  refine g_castore (pc := 599) C 5 d_M_init_599 rfl (by unfold vp_in; decide) (ws' := [(h, .inr (6, [.ref q0, .ref q1, .ref q2, .int 0, .int (-1), .ref q3, .int 0, .int 0, .int 0, .int 0, .int 0, .null, .int 0, .null, .int 0, .null, .null, .null, .null, .null, .null, .null, .int 0, .int 0, .int 0])), (q0, .inl ((xt X) 2, 67, .inl (fun _ => 0))), (q1, .inl ((xt X) 2, 67, .inl (fun _ => 0))), (q2, .inl ((xt X) 2, 67, .inl (fun _ => 0))), (q3, .inl ((xt X) 2, 200, .inl (fun _ => 0))), (q4, .inl ((xt X) 1, 128, .inl (f97)))]) (by rw [ef97]; rfl) ?_
  refine g_dup (pc := 600) C d_M_init_600 rfl ?_
  refine g_bipush (pc := 601) C (v := 93) d_M_init_601 (by decide) ?_
  refine g_bipush (pc := 603) C (v := 32) d_M_init_603 (by decide) ?_
  obtain ⟨f98, ef98⟩ : ∃ g : Nat → Int32, g = upd (f97) 93 32 := ⟨_, rfl⟩
  refine g_castore (pc := 605) C 5 d_M_init_605 rfl (by unfold vp_in; decide) (ws' := [(h, .inr (6, [.ref q0, .ref q1, .ref q2, .int 0, .int (-1), .ref q3, .int 0, .int 0, .int 0, .int 0, .int 0, .null, .int 0, .null, .int 0, .null, .null, .null, .null, .null, .null, .null, .int 0, .int 0, .int 0])), (q0, .inl ((xt X) 2, 67, .inl (fun _ => 0))), (q1, .inl ((xt X) 2, 67, .inl (fun _ => 0))), (q2, .inl ((xt X) 2, 67, .inl (fun _ => 0))), (q3, .inl ((xt X) 2, 200, .inl (fun _ => 0))), (q4, .inl ((xt X) 1, 128, .inl (f98)))]) (by rw [ef98]; rfl) ?_
  refine g_dup (pc := 606) C d_M_init_606 rfl ?_
  refine g_bipush (pc := 607) C (v := 94) d_M_init_607 (by decide) ?_
  refine g_bipush (pc := 609) C (v := 32) d_M_init_609 (by decide) ?_
  obtain ⟨f99, ef99⟩ : ∃ g : Nat → Int32, g = upd (f98) 94 32 := ⟨_, rfl⟩
  refine g_castore (pc := 611) C 5 d_M_init_611 rfl (by unfold vp_in; decide) (ws' := [(h, .inr (6, [.ref q0, .ref q1, .ref q2, .int 0, .int (-1), .ref q3, .int 0, .int 0, .int 0, .int 0, .int 0, .null, .int 0, .null, .int 0, .null, .null, .null, .null, .null, .null, .null, .int 0, .int 0, .int 0])), (q0, .inl ((xt X) 2, 67, .inl (fun _ => 0))), (q1, .inl ((xt X) 2, 67, .inl (fun _ => 0))), (q2, .inl ((xt X) 2, 67, .inl (fun _ => 0))), (q3, .inl ((xt X) 2, 200, .inl (fun _ => 0))), (q4, .inl ((xt X) 1, 128, .inl (f99)))]) (by rw [ef99]; rfl) ?_
  refine g_dup (pc := 612) C d_M_init_612 rfl ?_
  refine g_bipush (pc := 613) C (v := 95) d_M_init_613 (by decide) ?_
  refine g_bipush (pc := 615) C (v := 32) d_M_init_615 (by decide) ?_
  obtain ⟨f100, ef100⟩ : ∃ g : Nat → Int32, g = upd (f99) 95 32 := ⟨_, rfl⟩
  refine g_castore (pc := 617) C 5 d_M_init_617 rfl (by unfold vp_in; decide) (ws' := [(h, .inr (6, [.ref q0, .ref q1, .ref q2, .int 0, .int (-1), .ref q3, .int 0, .int 0, .int 0, .int 0, .int 0, .null, .int 0, .null, .int 0, .null, .null, .null, .null, .null, .null, .null, .int 0, .int 0, .int 0])), (q0, .inl ((xt X) 2, 67, .inl (fun _ => 0))), (q1, .inl ((xt X) 2, 67, .inl (fun _ => 0))), (q2, .inl ((xt X) 2, 67, .inl (fun _ => 0))), (q3, .inl ((xt X) 2, 200, .inl (fun _ => 0))), (q4, .inl ((xt X) 1, 128, .inl (f100)))]) (by rw [ef100]; rfl) ?_
  refine g_dup (pc := 618) C d_M_init_618 rfl ?_
  refine g_bipush (pc := 619) C (v := 96) d_M_init_619 (by decide) ?_
  refine g_bipush (pc := 621) C (v := 101) d_M_init_621 (by decide) ?_
  obtain ⟨f101, ef101⟩ : ∃ g : Nat → Int32, g = upd (f100) 96 101 := ⟨_, rfl⟩
  refine g_castore (pc := 623) C 5 d_M_init_623 rfl (by unfold vp_in; decide) (ws' := [(h, .inr (6, [.ref q0, .ref q1, .ref q2, .int 0, .int (-1), .ref q3, .int 0, .int 0, .int 0, .int 0, .int 0, .null, .int 0, .null, .int 0, .null, .null, .null, .null, .null, .null, .null, .int 0, .int 0, .int 0])), (q0, .inl ((xt X) 2, 67, .inl (fun _ => 0))), (q1, .inl ((xt X) 2, 67, .inl (fun _ => 0))), (q2, .inl ((xt X) 2, 67, .inl (fun _ => 0))), (q3, .inl ((xt X) 2, 200, .inl (fun _ => 0))), (q4, .inl ((xt X) 1, 128, .inl (f101)))]) (by rw [ef101]; rfl) ?_
  refine g_dup (pc := 624) C d_M_init_624 rfl ?_
  refine g_bipush (pc := 625) C (v := 97) d_M_init_625 (by decide) ?_
  refine g_bipush (pc := 627) C (v := 99) d_M_init_627 (by decide) ?_
  obtain ⟨f102, ef102⟩ : ∃ g : Nat → Int32, g = upd (f101) 97 99 := ⟨_, rfl⟩
  refine g_castore (pc := 629) C 5 d_M_init_629 rfl (by unfold vp_in; decide) (ws' := [(h, .inr (6, [.ref q0, .ref q1, .ref q2, .int 0, .int (-1), .ref q3, .int 0, .int 0, .int 0, .int 0, .int 0, .null, .int 0, .null, .int 0, .null, .null, .null, .null, .null, .null, .null, .int 0, .int 0, .int 0])), (q0, .inl ((xt X) 2, 67, .inl (fun _ => 0))), (q1, .inl ((xt X) 2, 67, .inl (fun _ => 0))), (q2, .inl ((xt X) 2, 67, .inl (fun _ => 0))), (q3, .inl ((xt X) 2, 200, .inl (fun _ => 0))), (q4, .inl ((xt X) 1, 128, .inl (f102)))]) (by rw [ef102]; rfl) ?_
  refine g_dup (pc := 630) C d_M_init_630 rfl ?_
  refine g_bipush (pc := 631) C (v := 98) d_M_init_631 (by decide) ?_
  refine g_bipush (pc := 633) C (v := 104) d_M_init_633 (by decide) ?_
  obtain ⟨f103, ef103⟩ : ∃ g : Nat → Int32, g = upd (f102) 98 104 := ⟨_, rfl⟩
  refine g_castore (pc := 635) C 5 d_M_init_635 rfl (by unfold vp_in; decide) (ws' := [(h, .inr (6, [.ref q0, .ref q1, .ref q2, .int 0, .int (-1), .ref q3, .int 0, .int 0, .int 0, .int 0, .int 0, .null, .int 0, .null, .int 0, .null, .null, .null, .null, .null, .null, .null, .int 0, .int 0, .int 0])), (q0, .inl ((xt X) 2, 67, .inl (fun _ => 0))), (q1, .inl ((xt X) 2, 67, .inl (fun _ => 0))), (q2, .inl ((xt X) 2, 67, .inl (fun _ => 0))), (q3, .inl ((xt X) 2, 200, .inl (fun _ => 0))), (q4, .inl ((xt X) 1, 128, .inl (f103)))]) (by rw [ef103]; rfl) ?_
  refine g_dup (pc := 636) C d_M_init_636 rfl ?_
  refine g_bipush (pc := 637) C (v := 99) d_M_init_637 (by decide) ?_
  refine g_bipush (pc := 639) C (v := 111) d_M_init_639 (by decide) ?_
  obtain ⟨f104, ef104⟩ : ∃ g : Nat → Int32, g = upd (f103) 99 111 := ⟨_, rfl⟩
  refine g_castore (pc := 641) C 5 d_M_init_641 rfl (by unfold vp_in; decide) (ws' := [(h, .inr (6, [.ref q0, .ref q1, .ref q2, .int 0, .int (-1), .ref q3, .int 0, .int 0, .int 0, .int 0, .int 0, .null, .int 0, .null, .int 0, .null, .null, .null, .null, .null, .null, .null, .int 0, .int 0, .int 0])), (q0, .inl ((xt X) 2, 67, .inl (fun _ => 0))), (q1, .inl ((xt X) 2, 67, .inl (fun _ => 0))), (q2, .inl ((xt X) 2, 67, .inl (fun _ => 0))), (q3, .inl ((xt X) 2, 200, .inl (fun _ => 0))), (q4, .inl ((xt X) 1, 128, .inl (f104)))]) (by rw [ef104]; rfl) ?_
  refine g_dup (pc := 642) C d_M_init_642 rfl ?_
  refine g_bipush (pc := 643) C (v := 100) d_M_init_643 (by decide) ?_
  refine g_bipush (pc := 645) C (v := 32) d_M_init_645 (by decide) ?_
  obtain ⟨f105, ef105⟩ : ∃ g : Nat → Int32, g = upd (f104) 100 32 := ⟨_, rfl⟩
  refine g_castore (pc := 647) C 5 d_M_init_647 rfl (by unfold vp_in; decide) (ws' := [(h, .inr (6, [.ref q0, .ref q1, .ref q2, .int 0, .int (-1), .ref q3, .int 0, .int 0, .int 0, .int 0, .int 0, .null, .int 0, .null, .int 0, .null, .null, .null, .null, .null, .null, .null, .int 0, .int 0, .int 0])), (q0, .inl ((xt X) 2, 67, .inl (fun _ => 0))), (q1, .inl ((xt X) 2, 67, .inl (fun _ => 0))), (q2, .inl ((xt X) 2, 67, .inl (fun _ => 0))), (q3, .inl ((xt X) 2, 200, .inl (fun _ => 0))), (q4, .inl ((xt X) 1, 128, .inl (f105)))]) (by rw [ef105]; rfl) ?_
  refine g_dup (pc := 648) C d_M_init_648 rfl ?_
  refine g_bipush (pc := 649) C (v := 101) d_M_init_649 (by decide) ?_
  refine g_bipush (pc := 651) C (v := 32) d_M_init_651 (by decide) ?_
  obtain ⟨f106, ef106⟩ : ∃ g : Nat → Int32, g = upd (f105) 101 32 := ⟨_, rfl⟩
  refine g_castore (pc := 653) C 5 d_M_init_653 rfl (by unfold vp_in; decide) (ws' := [(h, .inr (6, [.ref q0, .ref q1, .ref q2, .int 0, .int (-1), .ref q3, .int 0, .int 0, .int 0, .int 0, .int 0, .null, .int 0, .null, .int 0, .null, .null, .null, .null, .null, .null, .null, .int 0, .int 0, .int 0])), (q0, .inl ((xt X) 2, 67, .inl (fun _ => 0))), (q1, .inl ((xt X) 2, 67, .inl (fun _ => 0))), (q2, .inl ((xt X) 2, 67, .inl (fun _ => 0))), (q3, .inl ((xt X) 2, 200, .inl (fun _ => 0))), (q4, .inl ((xt X) 1, 128, .inl (f106)))]) (by rw [ef106]; rfl) ?_
  refine g_dup (pc := 654) C d_M_init_654 rfl ?_
  refine g_bipush (pc := 655) C (v := 102) d_M_init_655 (by decide) ?_
  refine g_bipush (pc := 657) C (v := 32) d_M_init_657 (by decide) ?_
  obtain ⟨f107, ef107⟩ : ∃ g : Nat → Int32, g = upd (f106) 102 32 := ⟨_, rfl⟩
  refine g_castore (pc := 659) C 5 d_M_init_659 rfl (by unfold vp_in; decide) (ws' := [(h, .inr (6, [.ref q0, .ref q1, .ref q2, .int 0, .int (-1), .ref q3, .int 0, .int 0, .int 0, .int 0, .int 0, .null, .int 0, .null, .int 0, .null, .null, .null, .null, .null, .null, .null, .int 0, .int 0, .int 0])), (q0, .inl ((xt X) 2, 67, .inl (fun _ => 0))), (q1, .inl ((xt X) 2, 67, .inl (fun _ => 0))), (q2, .inl ((xt X) 2, 67, .inl (fun _ => 0))), (q3, .inl ((xt X) 2, 200, .inl (fun _ => 0))), (q4, .inl ((xt X) 1, 128, .inl (f107)))]) (by rw [ef107]; rfl) ?_
  refine g_dup (pc := 660) C d_M_init_660 rfl ?_
  refine g_bipush (pc := 661) C (v := 103) d_M_init_661 (by decide) ?_
  refine g_bipush (pc := 663) C (v := 32) d_M_init_663 (by decide) ?_
  obtain ⟨f108, ef108⟩ : ∃ g : Nat → Int32, g = upd (f107) 103 32 := ⟨_, rfl⟩
  refine g_castore (pc := 665) C 5 d_M_init_665 rfl (by unfold vp_in; decide) (ws' := [(h, .inr (6, [.ref q0, .ref q1, .ref q2, .int 0, .int (-1), .ref q3, .int 0, .int 0, .int 0, .int 0, .int 0, .null, .int 0, .null, .int 0, .null, .null, .null, .null, .null, .null, .null, .int 0, .int 0, .int 0])), (q0, .inl ((xt X) 2, 67, .inl (fun _ => 0))), (q1, .inl ((xt X) 2, 67, .inl (fun _ => 0))), (q2, .inl ((xt X) 2, 67, .inl (fun _ => 0))), (q3, .inl ((xt X) 2, 200, .inl (fun _ => 0))), (q4, .inl ((xt X) 1, 128, .inl (f108)))]) (by rw [ef108]; rfl) ?_
  refine g_dup (pc := 666) C d_M_init_666 rfl ?_
  refine g_bipush (pc := 667) C (v := 104) d_M_init_667 (by decide) ?_
  refine g_bipush (pc := 669) C (v := 104) d_M_init_669 (by decide) ?_
  obtain ⟨f109, ef109⟩ : ∃ g : Nat → Int32, g = upd (f108) 104 104 := ⟨_, rfl⟩
  refine g_castore (pc := 671) C 5 d_M_init_671 rfl (by unfold vp_in; decide) (ws' := [(h, .inr (6, [.ref q0, .ref q1, .ref q2, .int 0, .int (-1), .ref q3, .int 0, .int 0, .int 0, .int 0, .int 0, .null, .int 0, .null, .int 0, .null, .null, .null, .null, .null, .null, .null, .int 0, .int 0, .int 0])), (q0, .inl ((xt X) 2, 67, .inl (fun _ => 0))), (q1, .inl ((xt X) 2, 67, .inl (fun _ => 0))), (q2, .inl ((xt X) 2, 67, .inl (fun _ => 0))), (q3, .inl ((xt X) 2, 200, .inl (fun _ => 0))), (q4, .inl ((xt X) 1, 128, .inl (f109)))]) (by rw [ef109]; rfl) ?_
  refine g_dup (pc := 672) C d_M_init_672 rfl ?_
  refine g_bipush (pc := 673) C (v := 105) d_M_init_673 (by decide) ?_
  refine g_bipush (pc := 675) C (v := 117) d_M_init_675 (by decide) ?_
  obtain ⟨f110, ef110⟩ : ∃ g : Nat → Int32, g = upd (f109) 105 117 := ⟨_, rfl⟩
  refine g_castore (pc := 677) C 5 d_M_init_677 rfl (by unfold vp_in; decide) (ws' := [(h, .inr (6, [.ref q0, .ref q1, .ref q2, .int 0, .int (-1), .ref q3, .int 0, .int 0, .int 0, .int 0, .int 0, .null, .int 0, .null, .int 0, .null, .null, .null, .null, .null, .null, .null, .int 0, .int 0, .int 0])), (q0, .inl ((xt X) 2, 67, .inl (fun _ => 0))), (q1, .inl ((xt X) 2, 67, .inl (fun _ => 0))), (q2, .inl ((xt X) 2, 67, .inl (fun _ => 0))), (q3, .inl ((xt X) 2, 200, .inl (fun _ => 0))), (q4, .inl ((xt X) 1, 128, .inl (f110)))]) (by rw [ef110]; rfl) ?_
  refine g_dup (pc := 678) C d_M_init_678 rfl ?_
  refine g_bipush (pc := 679) C (v := 106) d_M_init_679 (by decide) ?_
  refine g_bipush (pc := 681) C (v := 115) d_M_init_681 (by decide) ?_
  obtain ⟨f111, ef111⟩ : ∃ g : Nat → Int32, g = upd (f110) 106 115 := ⟨_, rfl⟩
  refine g_castore (pc := 683) C 5 d_M_init_683 rfl (by unfold vp_in; decide) (ws' := [(h, .inr (6, [.ref q0, .ref q1, .ref q2, .int 0, .int (-1), .ref q3, .int 0, .int 0, .int 0, .int 0, .int 0, .null, .int 0, .null, .int 0, .null, .null, .null, .null, .null, .null, .null, .int 0, .int 0, .int 0])), (q0, .inl ((xt X) 2, 67, .inl (fun _ => 0))), (q1, .inl ((xt X) 2, 67, .inl (fun _ => 0))), (q2, .inl ((xt X) 2, 67, .inl (fun _ => 0))), (q3, .inl ((xt X) 2, 200, .inl (fun _ => 0))), (q4, .inl ((xt X) 1, 128, .inl (f111)))]) (by rw [ef111]; rfl) ?_
  refine g_dup (pc := 684) C d_M_init_684 rfl ?_
  refine g_bipush (pc := 685) C (v := 107) d_M_init_685 (by decide) ?_
  refine g_bipush (pc := 687) C (v := 104) d_M_init_687 (by decide) ?_
  obtain ⟨f112, ef112⟩ : ∃ g : Nat → Int32, g = upd (f111) 107 104 := ⟨_, rfl⟩
  refine g_castore (pc := 689) C 5 d_M_init_689 rfl (by unfold vp_in; decide) (ws' := [(h, .inr (6, [.ref q0, .ref q1, .ref q2, .int 0, .int (-1), .ref q3, .int 0, .int 0, .int 0, .int 0, .int 0, .null, .int 0, .null, .int 0, .null, .null, .null, .null, .null, .null, .null, .int 0, .int 0, .int 0])), (q0, .inl ((xt X) 2, 67, .inl (fun _ => 0))), (q1, .inl ((xt X) 2, 67, .inl (fun _ => 0))), (q2, .inl ((xt X) 2, 67, .inl (fun _ => 0))), (q3, .inl ((xt X) 2, 200, .inl (fun _ => 0))), (q4, .inl ((xt X) 1, 128, .inl (f112)))]) (by rw [ef112]; rfl) ?_
  refine g_dup (pc := 690) C d_M_init_690 rfl ?_
  refine g_bipush (pc := 691) C (v := 108) d_M_init_691 (by decide) ?_
  refine g_bipush (pc := 693) C (v := 32) d_M_init_693 (by decide) ?_
  obtain ⟨f113, ef113⟩ : ∃ g : Nat → Int32, g = upd (f112) 108 32 := ⟨_, rfl⟩
  refine g_castore (pc := 695) C 5 d_M_init_695 rfl (by unfold vp_in; decide) (ws' := [(h, .inr (6, [.ref q0, .ref q1, .ref q2, .int 0, .int (-1), .ref q3, .int 0, .int 0, .int 0, .int 0, .int 0, .null, .int 0, .null, .int 0, .null, .null, .null, .null, .null, .null, .null, .int 0, .int 0, .int 0])), (q0, .inl ((xt X) 2, 67, .inl (fun _ => 0))), (q1, .inl ((xt X) 2, 67, .inl (fun _ => 0))), (q2, .inl ((xt X) 2, 67, .inl (fun _ => 0))), (q3, .inl ((xt X) 2, 200, .inl (fun _ => 0))), (q4, .inl ((xt X) 1, 128, .inl (f113)))]) (by rw [ef113]; rfl) ?_
  refine g_dup (pc := 696) C d_M_init_696 rfl ?_
  refine g_bipush (pc := 697) C (v := 109) d_M_init_697 (by decide) ?_
  refine g_bipush (pc := 699) C (v := 32) d_M_init_699 (by decide) ?_
  obtain ⟨f114, ef114⟩ : ∃ g : Nat → Int32, g = upd (f113) 109 32 := ⟨_, rfl⟩
  refine g_castore (pc := 701) C 5 d_M_init_701 rfl (by unfold vp_in; decide) (ws' := [(h, .inr (6, [.ref q0, .ref q1, .ref q2, .int 0, .int (-1), .ref q3, .int 0, .int 0, .int 0, .int 0, .int 0, .null, .int 0, .null, .int 0, .null, .null, .null, .null, .null, .null, .null, .int 0, .int 0, .int 0])), (q0, .inl ((xt X) 2, 67, .inl (fun _ => 0))), (q1, .inl ((xt X) 2, 67, .inl (fun _ => 0))), (q2, .inl ((xt X) 2, 67, .inl (fun _ => 0))), (q3, .inl ((xt X) 2, 200, .inl (fun _ => 0))), (q4, .inl ((xt X) 1, 128, .inl (f114)))]) (by rw [ef114]; rfl) ?_
  refine g_dup (pc := 702) C d_M_init_702 rfl ?_
  refine g_bipush (pc := 703) C (v := 110) d_M_init_703 (by decide) ?_
  refine g_bipush (pc := 705) C (v := 32) d_M_init_705 (by decide) ?_
  obtain ⟨f115, ef115⟩ : ∃ g : Nat → Int32, g = upd (f114) 110 32 := ⟨_, rfl⟩
  refine g_castore (pc := 707) C 5 d_M_init_707 rfl (by unfold vp_in; decide) (ws' := [(h, .inr (6, [.ref q0, .ref q1, .ref q2, .int 0, .int (-1), .ref q3, .int 0, .int 0, .int 0, .int 0, .int 0, .null, .int 0, .null, .int 0, .null, .null, .null, .null, .null, .null, .null, .int 0, .int 0, .int 0])), (q0, .inl ((xt X) 2, 67, .inl (fun _ => 0))), (q1, .inl ((xt X) 2, 67, .inl (fun _ => 0))), (q2, .inl ((xt X) 2, 67, .inl (fun _ => 0))), (q3, .inl ((xt X) 2, 200, .inl (fun _ => 0))), (q4, .inl ((xt X) 1, 128, .inl (f115)))]) (by rw [ef115]; rfl) ?_
  refine g_dup (pc := 708) C d_M_init_708 rfl ?_
  refine g_bipush (pc := 709) C (v := 111) d_M_init_709 (by decide) ?_
  refine g_bipush (pc := 711) C (v := 32) d_M_init_711 (by decide) ?_
  obtain ⟨f116, ef116⟩ : ∃ g : Nat → Int32, g = upd (f115) 111 32 := ⟨_, rfl⟩
  refine g_castore (pc := 713) C 5 d_M_init_713 rfl (by unfold vp_in; decide) (ws' := [(h, .inr (6, [.ref q0, .ref q1, .ref q2, .int 0, .int (-1), .ref q3, .int 0, .int 0, .int 0, .int 0, .int 0, .null, .int 0, .null, .int 0, .null, .null, .null, .null, .null, .null, .null, .int 0, .int 0, .int 0])), (q0, .inl ((xt X) 2, 67, .inl (fun _ => 0))), (q1, .inl ((xt X) 2, 67, .inl (fun _ => 0))), (q2, .inl ((xt X) 2, 67, .inl (fun _ => 0))), (q3, .inl ((xt X) 2, 200, .inl (fun _ => 0))), (q4, .inl ((xt X) 1, 128, .inl (f116)))]) (by rw [ef116]; rfl) ?_
  refine g_dup (pc := 714) C d_M_init_714 rfl ?_
  refine g_bipush (pc := 715) C (v := 112) d_M_init_715 (by decide) ?_
  refine g_bipush (pc := 717) C (v := 119) d_M_init_717 (by decide) ?_
  obtain ⟨f117, ef117⟩ : ∃ g : Nat → Int32, g = upd (f116) 112 119 := ⟨_, rfl⟩
  refine g_castore (pc := 719) C 5 d_M_init_719 rfl (by unfold vp_in; decide) (ws' := [(h, .inr (6, [.ref q0, .ref q1, .ref q2, .int 0, .int (-1), .ref q3, .int 0, .int 0, .int 0, .int 0, .int 0, .null, .int 0, .null, .int 0, .null, .null, .null, .null, .null, .null, .null, .int 0, .int 0, .int 0])), (q0, .inl ((xt X) 2, 67, .inl (fun _ => 0))), (q1, .inl ((xt X) 2, 67, .inl (fun _ => 0))), (q2, .inl ((xt X) 2, 67, .inl (fun _ => 0))), (q3, .inl ((xt X) 2, 200, .inl (fun _ => 0))), (q4, .inl ((xt X) 1, 128, .inl (f117)))]) (by rw [ef117]; rfl) ?_
  refine g_dup (pc := 720) C d_M_init_720 rfl ?_
  refine g_bipush (pc := 721) C (v := 113) d_M_init_721 (by decide) ?_
  refine g_bipush (pc := 723) C (v := 105) d_M_init_723 (by decide) ?_
  obtain ⟨f118, ef118⟩ : ∃ g : Nat → Int32, g = upd (f117) 113 105 := ⟨_, rfl⟩
  refine g_castore (pc := 725) C 5 d_M_init_725 rfl (by unfold vp_in; decide) (ws' := [(h, .inr (6, [.ref q0, .ref q1, .ref q2, .int 0, .int (-1), .ref q3, .int 0, .int 0, .int 0, .int 0, .int 0, .null, .int 0, .null, .int 0, .null, .null, .null, .null, .null, .null, .null, .int 0, .int 0, .int 0])), (q0, .inl ((xt X) 2, 67, .inl (fun _ => 0))), (q1, .inl ((xt X) 2, 67, .inl (fun _ => 0))), (q2, .inl ((xt X) 2, 67, .inl (fun _ => 0))), (q3, .inl ((xt X) 2, 200, .inl (fun _ => 0))), (q4, .inl ((xt X) 1, 128, .inl (f118)))]) (by rw [ef118]; rfl) ?_
  refine g_dup (pc := 726) C d_M_init_726 rfl ?_
  refine g_bipush (pc := 727) C (v := 114) d_M_init_727 (by decide) ?_
  refine g_bipush (pc := 729) C (v := 110) d_M_init_729 (by decide) ?_
  obtain ⟨f119, ef119⟩ : ∃ g : Nat → Int32, g = upd (f118) 114 110 := ⟨_, rfl⟩
  refine g_castore (pc := 731) C 5 d_M_init_731 rfl (by unfold vp_in; decide) (ws' := [(h, .inr (6, [.ref q0, .ref q1, .ref q2, .int 0, .int (-1), .ref q3, .int 0, .int 0, .int 0, .int 0, .int 0, .null, .int 0, .null, .int 0, .null, .null, .null, .null, .null, .null, .null, .int 0, .int 0, .int 0])), (q0, .inl ((xt X) 2, 67, .inl (fun _ => 0))), (q1, .inl ((xt X) 2, 67, .inl (fun _ => 0))), (q2, .inl ((xt X) 2, 67, .inl (fun _ => 0))), (q3, .inl ((xt X) 2, 200, .inl (fun _ => 0))), (q4, .inl ((xt X) 1, 128, .inl (f119)))]) (by rw [ef119]; rfl) ?_
  refine g_dup (pc := 732) C d_M_init_732 rfl ?_
  refine g_bipush (pc := 733) C (v := 115) d_M_init_733 (by decide) ?_
  refine g_bipush (pc := 735) C (v := 100) d_M_init_735 (by decide) ?_
  obtain ⟨f120, ef120⟩ : ∃ g : Nat → Int32, g = upd (f119) 115 100 := ⟨_, rfl⟩
  refine g_castore (pc := 737) C 5 d_M_init_737 rfl (by unfold vp_in; decide) (ws' := [(h, .inr (6, [.ref q0, .ref q1, .ref q2, .int 0, .int (-1), .ref q3, .int 0, .int 0, .int 0, .int 0, .int 0, .null, .int 0, .null, .int 0, .null, .null, .null, .null, .null, .null, .null, .int 0, .int 0, .int 0])), (q0, .inl ((xt X) 2, 67, .inl (fun _ => 0))), (q1, .inl ((xt X) 2, 67, .inl (fun _ => 0))), (q2, .inl ((xt X) 2, 67, .inl (fun _ => 0))), (q3, .inl ((xt X) 2, 200, .inl (fun _ => 0))), (q4, .inl ((xt X) 1, 128, .inl (f120)))]) (by rw [ef120]; rfl) ?_
  refine g_dup (pc := 738) C d_M_init_738 rfl ?_
  refine g_bipush (pc := 739) C (v := 116) d_M_init_739 (by decide) ?_
  refine g_bipush (pc := 741) C (v := 32) d_M_init_741 (by decide) ?_
  obtain ⟨f121, ef121⟩ : ∃ g : Nat → Int32, g = upd (f120) 116 32 := ⟨_, rfl⟩
  refine g_castore (pc := 743) C 5 d_M_init_743 rfl (by unfold vp_in; decide) (ws' := [(h, .inr (6, [.ref q0, .ref q1, .ref q2, .int 0, .int (-1), .ref q3, .int 0, .int 0, .int 0, .int 0, .int 0, .null, .int 0, .null, .int 0, .null, .null, .null, .null, .null, .null, .null, .int 0, .int 0, .int 0])), (q0, .inl ((xt X) 2, 67, .inl (fun _ => 0))), (q1, .inl ((xt X) 2, 67, .inl (fun _ => 0))), (q2, .inl ((xt X) 2, 67, .inl (fun _ => 0))), (q3, .inl ((xt X) 2, 200, .inl (fun _ => 0))), (q4, .inl ((xt X) 1, 128, .inl (f121)))]) (by rw [ef121]; rfl) ?_
  refine g_dup (pc := 744) C d_M_init_744 rfl ?_
  refine g_bipush (pc := 745) C (v := 117) d_M_init_745 (by decide) ?_
  refine g_bipush (pc := 747) C (v := 32) d_M_init_747 (by decide) ?_
  obtain ⟨f122, ef122⟩ : ∃ g : Nat → Int32, g = upd (f121) 117 32 := ⟨_, rfl⟩
  refine g_castore (pc := 749) C 5 d_M_init_749 rfl (by unfold vp_in; decide) (ws' := [(h, .inr (6, [.ref q0, .ref q1, .ref q2, .int 0, .int (-1), .ref q3, .int 0, .int 0, .int 0, .int 0, .int 0, .null, .int 0, .null, .int 0, .null, .null, .null, .null, .null, .null, .null, .int 0, .int 0, .int 0])), (q0, .inl ((xt X) 2, 67, .inl (fun _ => 0))), (q1, .inl ((xt X) 2, 67, .inl (fun _ => 0))), (q2, .inl ((xt X) 2, 67, .inl (fun _ => 0))), (q3, .inl ((xt X) 2, 200, .inl (fun _ => 0))), (q4, .inl ((xt X) 1, 128, .inl (f122)))]) (by rw [ef122]; rfl) ?_
  refine g_dup (pc := 750) C d_M_init_750 rfl ?_
  refine g_bipush (pc := 751) C (v := 118) d_M_init_751 (by decide) ?_
  refine g_bipush (pc := 753) C (v := 32) d_M_init_753 (by decide) ?_
  obtain ⟨f123, ef123⟩ : ∃ g : Nat → Int32, g = upd (f122) 118 32 := ⟨_, rfl⟩
  refine g_castore (pc := 755) C 5 d_M_init_755 rfl (by unfold vp_in; decide) (ws' := [(h, .inr (6, [.ref q0, .ref q1, .ref q2, .int 0, .int (-1), .ref q3, .int 0, .int 0, .int 0, .int 0, .int 0, .null, .int 0, .null, .int 0, .null, .null, .null, .null, .null, .null, .null, .int 0, .int 0, .int 0])), (q0, .inl ((xt X) 2, 67, .inl (fun _ => 0))), (q1, .inl ((xt X) 2, 67, .inl (fun _ => 0))), (q2, .inl ((xt X) 2, 67, .inl (fun _ => 0))), (q3, .inl ((xt X) 2, 200, .inl (fun _ => 0))), (q4, .inl ((xt X) 1, 128, .inl (f123)))]) (by rw [ef123]; rfl) ?_
  refine g_dup (pc := 756) C d_M_init_756 rfl ?_
  refine g_bipush (pc := 757) C (v := 119) d_M_init_757 (by decide) ?_
  refine g_bipush (pc := 759) C (v := 32) d_M_init_759 (by decide) ?_
  obtain ⟨f124, ef124⟩ : ∃ g : Nat → Int32, g = upd (f123) 119 32 := ⟨_, rfl⟩
  refine g_castore (pc := 761) C 5 d_M_init_761 rfl (by unfold vp_in; decide) (ws' := [(h, .inr (6, [.ref q0, .ref q1, .ref q2, .int 0, .int (-1), .ref q3, .int 0, .int 0, .int 0, .int 0, .int 0, .null, .int 0, .null, .int 0, .null, .null, .null, .null, .null, .null, .null, .int 0, .int 0, .int 0])), (q0, .inl ((xt X) 2, 67, .inl (fun _ => 0))), (q1, .inl ((xt X) 2, 67, .inl (fun _ => 0))), (q2, .inl ((xt X) 2, 67, .inl (fun _ => 0))), (q3, .inl ((xt X) 2, 200, .inl (fun _ => 0))), (q4, .inl ((xt X) 1, 128, .inl (f124)))]) (by rw [ef124]; rfl) ?_
  refine g_dup (pc := 762) C d_M_init_762 rfl ?_
  refine g_bipush (pc := 763) C (v := 120) d_M_init_763 (by decide) ?_
  refine g_bipush (pc := 765) C (v := 108) d_M_init_765 (by decide) ?_
  obtain ⟨f125, ef125⟩ : ∃ g : Nat → Int32, g = upd (f124) 120 108 := ⟨_, rfl⟩
  refine g_castore (pc := 767) C 5 d_M_init_767 rfl (by unfold vp_in; decide) (ws' := [(h, .inr (6, [.ref q0, .ref q1, .ref q2, .int 0, .int (-1), .ref q3, .int 0, .int 0, .int 0, .int 0, .int 0, .null, .int 0, .null, .int 0, .null, .null, .null, .null, .null, .null, .null, .int 0, .int 0, .int 0])), (q0, .inl ((xt X) 2, 67, .inl (fun _ => 0))), (q1, .inl ((xt X) 2, 67, .inl (fun _ => 0))), (q2, .inl ((xt X) 2, 67, .inl (fun _ => 0))), (q3, .inl ((xt X) 2, 200, .inl (fun _ => 0))), (q4, .inl ((xt X) 1, 128, .inl (f125)))]) (by rw [ef125]; rfl) ?_
  refine g_dup (pc := 768) C d_M_init_768 rfl ?_
  refine g_bipush (pc := 769) C (v := 121) d_M_init_769 (by decide) ?_
  refine g_bipush (pc := 771) C (v := 97) d_M_init_771 (by decide) ?_
  obtain ⟨f126, ef126⟩ : ∃ g : Nat → Int32, g = upd (f125) 121 97 := ⟨_, rfl⟩
  refine g_castore (pc := 773) C 5 d_M_init_773 rfl (by unfold vp_in; decide) (ws' := [(h, .inr (6, [.ref q0, .ref q1, .ref q2, .int 0, .int (-1), .ref q3, .int 0, .int 0, .int 0, .int 0, .int 0, .null, .int 0, .null, .int 0, .null, .null, .null, .null, .null, .null, .null, .int 0, .int 0, .int 0])), (q0, .inl ((xt X) 2, 67, .inl (fun _ => 0))), (q1, .inl ((xt X) 2, 67, .inl (fun _ => 0))), (q2, .inl ((xt X) 2, 67, .inl (fun _ => 0))), (q3, .inl ((xt X) 2, 200, .inl (fun _ => 0))), (q4, .inl ((xt X) 1, 128, .inl (f126)))]) (by rw [ef126]; rfl) ?_
  refine g_dup (pc := 774) C d_M_init_774 rfl ?_
  refine g_bipush (pc := 775) C (v := 122) d_M_init_775 (by decide) ?_
  refine g_bipush (pc := 777) C (v := 117) d_M_init_777 (by decide) ?_
  obtain ⟨f127, ef127⟩ : ∃ g : Nat → Int32, g = upd (f126) 122 117 := ⟨_, rfl⟩
  refine g_castore (pc := 779) C 5 d_M_init_779 rfl (by unfold vp_in; decide) (ws' := [(h, .inr (6, [.ref q0, .ref q1, .ref q2, .int 0, .int (-1), .ref q3, .int 0, .int 0, .int 0, .int 0, .int 0, .null, .int 0, .null, .int 0, .null, .null, .null, .null, .null, .null, .null, .int 0, .int 0, .int 0])), (q0, .inl ((xt X) 2, 67, .inl (fun _ => 0))), (q1, .inl ((xt X) 2, 67, .inl (fun _ => 0))), (q2, .inl ((xt X) 2, 67, .inl (fun _ => 0))), (q3, .inl ((xt X) 2, 200, .inl (fun _ => 0))), (q4, .inl ((xt X) 1, 128, .inl (f127)))]) (by rw [ef127]; rfl) ?_
  refine g_dup (pc := 780) C d_M_init_780 rfl ?_
  refine g_bipush (pc := 781) C (v := 123) d_M_init_781 (by decide) ?_
  refine g_bipush (pc := 783) C (v := 103) d_M_init_783 (by decide) ?_
  obtain ⟨f128, ef128⟩ : ∃ g : Nat → Int32, g = upd (f127) 123 103 := ⟨_, rfl⟩
  refine g_castore (pc := 785) C 5 d_M_init_785 rfl (by unfold vp_in; decide) (ws' := [(h, .inr (6, [.ref q0, .ref q1, .ref q2, .int 0, .int (-1), .ref q3, .int 0, .int 0, .int 0, .int 0, .int 0, .null, .int 0, .null, .int 0, .null, .null, .null, .null, .null, .null, .null, .int 0, .int 0, .int 0])), (q0, .inl ((xt X) 2, 67, .inl (fun _ => 0))), (q1, .inl ((xt X) 2, 67, .inl (fun _ => 0))), (q2, .inl ((xt X) 2, 67, .inl (fun _ => 0))), (q3, .inl ((xt X) 2, 200, .inl (fun _ => 0))), (q4, .inl ((xt X) 1, 128, .inl (f128)))]) (by rw [ef128]; rfl) ?_
  refine g_dup (pc := 786) C d_M_init_786 rfl ?_
  refine g_bipush (pc := 787) C (v := 124) d_M_init_787 (by decide) ?_
  refine g_bipush (pc := 789) C (v := 104) d_M_init_789 (by decide) ?_
  obtain ⟨f129, ef129⟩ : ∃ g : Nat → Int32, g = upd (f128) 124 104 := ⟨_, rfl⟩
  refine g_castore (pc := 791) C 5 d_M_init_791 rfl (by unfold vp_in; decide) (ws' := [(h, .inr (6, [.ref q0, .ref q1, .ref q2, .int 0, .int (-1), .ref q3, .int 0, .int 0, .int 0, .int 0, .int 0, .null, .int 0, .null, .int 0, .null, .null, .null, .null, .null, .null, .null, .int 0, .int 0, .int 0])), (q0, .inl ((xt X) 2, 67, .inl (fun _ => 0))), (q1, .inl ((xt X) 2, 67, .inl (fun _ => 0))), (q2, .inl ((xt X) 2, 67, .inl (fun _ => 0))), (q3, .inl ((xt X) 2, 200, .inl (fun _ => 0))), (q4, .inl ((xt X) 1, 128, .inl (f129)))]) (by rw [ef129]; rfl) ?_
  refine g_dup (pc := 792) C d_M_init_792 rfl ?_
  refine g_bipush (pc := 793) C (v := 125) d_M_init_793 (by decide) ?_
  refine g_bipush (pc := 795) C (v := 32) d_M_init_795 (by decide) ?_
  obtain ⟨f130, ef130⟩ : ∃ g : Nat → Int32, g = upd (f129) 125 32 := ⟨_, rfl⟩
  refine g_castore (pc := 797) C 5 d_M_init_797 rfl (by unfold vp_in; decide) (ws' := [(h, .inr (6, [.ref q0, .ref q1, .ref q2, .int 0, .int (-1), .ref q3, .int 0, .int 0, .int 0, .int 0, .int 0, .null, .int 0, .null, .int 0, .null, .null, .null, .null, .null, .null, .null, .int 0, .int 0, .int 0])), (q0, .inl ((xt X) 2, 67, .inl (fun _ => 0))), (q1, .inl ((xt X) 2, 67, .inl (fun _ => 0))), (q2, .inl ((xt X) 2, 67, .inl (fun _ => 0))), (q3, .inl ((xt X) 2, 200, .inl (fun _ => 0))), (q4, .inl ((xt X) 1, 128, .inl (f130)))]) (by rw [ef130]; rfl) ?_
  refine g_dup (pc := 798) C d_M_init_798 rfl ?_
  refine g_bipush (pc := 799) C (v := 126) d_M_init_799 (by decide) ?_
  refine g_bipush (pc := 801) C (v := 32) d_M_init_801 (by decide) ?_
  obtain ⟨f131, ef131⟩ : ∃ g : Nat → Int32, g = upd (f130) 126 32 := ⟨_, rfl⟩
  refine g_castore (pc := 803) C 5 d_M_init_803 rfl (by unfold vp_in; decide) (ws' := [(h, .inr (6, [.ref q0, .ref q1, .ref q2, .int 0, .int (-1), .ref q3, .int 0, .int 0, .int 0, .int 0, .int 0, .null, .int 0, .null, .int 0, .null, .null, .null, .null, .null, .null, .null, .int 0, .int 0, .int 0])), (q0, .inl ((xt X) 2, 67, .inl (fun _ => 0))), (q1, .inl ((xt X) 2, 67, .inl (fun _ => 0))), (q2, .inl ((xt X) 2, 67, .inl (fun _ => 0))), (q3, .inl ((xt X) 2, 200, .inl (fun _ => 0))), (q4, .inl ((xt X) 1, 128, .inl (f131)))]) (by rw [ef131]; rfl) ?_
  refine g_dup (pc := 804) C d_M_init_804 rfl ?_
  refine g_bipush (pc := 805) C (v := 127) d_M_init_805 (by decide) ?_
  refine g_bipush (pc := 807) C (v := 32) d_M_init_807 (by decide) ?_
  obtain ⟨f132, ef132⟩ : ∃ g : Nat → Int32, g = upd (f131) 127 32 := ⟨_, rfl⟩
  refine g_castore (pc := 809) C 5 d_M_init_809 rfl (by unfold vp_in; decide) (ws' := [(h, .inr (6, [.ref q0, .ref q1, .ref q2, .int 0, .int (-1), .ref q3, .int 0, .int 0, .int 0, .int 0, .int 0, .null, .int 0, .null, .int 0, .null, .null, .null, .null, .null, .null, .null, .int 0, .int 0, .int 0])), (q0, .inl ((xt X) 2, 67, .inl (fun _ => 0))), (q1, .inl ((xt X) 2, 67, .inl (fun _ => 0))), (q2, .inl ((xt X) 2, 67, .inl (fun _ => 0))), (q3, .inl ((xt X) 2, 200, .inl (fun _ => 0))), (q4, .inl ((xt X) 1, 128, .inl (f132)))]) (by rw [ef132]; rfl) ?_
  refine g_putF (pc := 810) C hin i_M (ci := 6) rfl ty_M ty_M_ok n_M 0 11 (Nat.le_of_ble_eq_true rfl) lk_M_26 rfl rfl rfl d_M_init_810 rfl rfl rfl (Nat.le_of_ble_eq_true rfl) (ws' := [(h, .inr (6, [.ref q0, .ref q1, .ref q2, .int 0, .int (-1), .ref q3, .int 0, .int 0, .int 0, .int 0, .int 0, .ref q4, .int 0, .null, .int 0, .null, .null, .null, .null, .null, .null, .null, .int 0, .int 0, .int 0])), (q0, .inl ((xt X) 2, 67, .inl (fun _ => 0))), (q1, .inl ((xt X) 2, 67, .inl (fun _ => 0))), (q2, .inl ((xt X) 2, 67, .inl (fun _ => 0))), (q3, .inl ((xt X) 2, 200, .inl (fun _ => 0))), (q4, .inl ((xt X) 1, 128, .inl (f132)))]) rfl ?_
  refine g_aload_n (pc := 813) C d_M_init_813 0 rfl rfl ?_
  refine g_bipush (pc := 814) C (v := 30) d_M_init_814 (by decide) ?_
  refine g_newI (pc := 816) C (k' := 6) (z' := 559) (N := 30) d_M_init_816 (by decide) (by decide) (by decide) rfl rfl ⟨Nat.le_of_ble_eq_true rfl, Nat.le_of_ble_eq_true rfl⟩ (fun q133 => ?_)
  refine g_ws (ws' := [(h, .inr (6, [.ref q0, .ref q1, .ref q2, .int 0, .int (-1), .ref q3, .int 0, .int 0, .int 0, .int 0, .int 0, .ref q4, .int 0, .null, .int 0, .null, .null, .null, .null, .null, .null, .null, .int 0, .int 0, .int 0])), (q0, .inl ((xt X) 2, 67, .inl (fun _ => 0))), (q1, .inl ((xt X) 2, 67, .inl (fun _ => 0))), (q2, .inl ((xt X) 2, 67, .inl (fun _ => 0))), (q3, .inl ((xt X) 2, 200, .inl (fun _ => 0))), (q4, .inl ((xt X) 1, 128, .inl (f132))), (q133, .inl ((xt X) 2, 30, .inl (fun _ => 0)))]) rfl ?_
  refine g_putF (pc := 818) C hin i_M (ci := 6) rfl ty_M ty_M_ok n_M 0 13 (Nat.le_of_ble_eq_true rfl) lk_M_30 rfl rfl rfl d_M_init_818 rfl rfl rfl (Nat.le_of_ble_eq_true rfl) (ws' := [(h, .inr (6, [.ref q0, .ref q1, .ref q2, .int 0, .int (-1), .ref q3, .int 0, .int 0, .int 0, .int 0, .int 0, .ref q4, .int 0, .ref q133, .int 0, .null, .null, .null, .null, .null, .null, .null, .int 0, .int 0, .int 0])), (q0, .inl ((xt X) 2, 67, .inl (fun _ => 0))), (q1, .inl ((xt X) 2, 67, .inl (fun _ => 0))), (q2, .inl ((xt X) 2, 67, .inl (fun _ => 0))), (q3, .inl ((xt X) 2, 200, .inl (fun _ => 0))), (q4, .inl ((xt X) 1, 128, .inl (f132))), (q133, .inl ((xt X) 2, 30, .inl (fun _ => 0)))]) rfl ?_
  refine g_aload_n (pc := 821) C d_M_init_821 0 rfl rfl ?_
  refine g_iconst (pc := 822) C (v := 4) d_M_init_822 (by decide) ?_
  refine g_newI (pc := 823) C (k' := 7) (z' := 563) (N := 4) d_M_init_823 (by decide) (by decide) (by decide) rfl rfl ⟨Nat.le_of_ble_eq_true rfl, Nat.le_of_ble_eq_true rfl⟩ (fun q134 => ?_)
  refine g_ws (ws' := [(h, .inr (6, [.ref q0, .ref q1, .ref q2, .int 0, .int (-1), .ref q3, .int 0, .int 0, .int 0, .int 0, .int 0, .ref q4, .int 0, .ref q133, .int 0, .null, .null, .null, .null, .null, .null, .null, .int 0, .int 0, .int 0])), (q0, .inl ((xt X) 2, 67, .inl (fun _ => 0))), (q1, .inl ((xt X) 2, 67, .inl (fun _ => 0))), (q2, .inl ((xt X) 2, 67, .inl (fun _ => 0))), (q3, .inl ((xt X) 2, 200, .inl (fun _ => 0))), (q4, .inl ((xt X) 1, 128, .inl (f132))), (q133, .inl ((xt X) 2, 30, .inl (fun _ => 0))), (q134, .inl ((xt X) 2, 4, .inl (fun _ => 0)))]) rfl ?_
  refine g_putF (pc := 825) C hin i_M (ci := 6) rfl ty_M ty_M_ok n_M 0 15 (Nat.le_of_ble_eq_true rfl) lk_M_33 rfl rfl rfl d_M_init_825 rfl rfl rfl (Nat.le_of_ble_eq_true rfl) (ws' := [(h, .inr (6, [.ref q0, .ref q1, .ref q2, .int 0, .int (-1), .ref q3, .int 0, .int 0, .int 0, .int 0, .int 0, .ref q4, .int 0, .ref q133, .int 0, .ref q134, .null, .null, .null, .null, .null, .null, .int 0, .int 0, .int 0])), (q0, .inl ((xt X) 2, 67, .inl (fun _ => 0))), (q1, .inl ((xt X) 2, 67, .inl (fun _ => 0))), (q2, .inl ((xt X) 2, 67, .inl (fun _ => 0))), (q3, .inl ((xt X) 2, 200, .inl (fun _ => 0))), (q4, .inl ((xt X) 1, 128, .inl (f132))), (q133, .inl ((xt X) 2, 30, .inl (fun _ => 0))), (q134, .inl ((xt X) 2, 4, .inl (fun _ => 0)))]) rfl ?_
  refine g_aload_n (pc := 828) C d_M_init_828 0 rfl rfl ?_
  refine g_iconst (pc := 829) C (v := 4) d_M_init_829 (by decide) ?_
  refine g_newI (pc := 830) C (k' := 8) (z' := 567) (N := 4) d_M_init_830 (by decide) (by decide) (by decide) rfl rfl ⟨Nat.le_of_ble_eq_true rfl, Nat.le_of_ble_eq_true rfl⟩ (fun q135 => ?_)
  refine g_ws (ws' := [(h, .inr (6, [.ref q0, .ref q1, .ref q2, .int 0, .int (-1), .ref q3, .int 0, .int 0, .int 0, .int 0, .int 0, .ref q4, .int 0, .ref q133, .int 0, .ref q134, .null, .null, .null, .null, .null, .null, .int 0, .int 0, .int 0])), (q0, .inl ((xt X) 2, 67, .inl (fun _ => 0))), (q1, .inl ((xt X) 2, 67, .inl (fun _ => 0))), (q2, .inl ((xt X) 2, 67, .inl (fun _ => 0))), (q3, .inl ((xt X) 2, 200, .inl (fun _ => 0))), (q4, .inl ((xt X) 1, 128, .inl (f132))), (q133, .inl ((xt X) 2, 30, .inl (fun _ => 0))), (q134, .inl ((xt X) 2, 4, .inl (fun _ => 0))), (q135, .inl ((xt X) 2, 4, .inl (fun _ => 0)))]) rfl ?_
  refine g_putF (pc := 832) C hin i_M (ci := 6) rfl ty_M ty_M_ok n_M 0 16 (Nat.le_of_ble_eq_true rfl) lk_M_36 rfl rfl rfl d_M_init_832 rfl rfl rfl (Nat.le_of_ble_eq_true rfl) (ws' := [(h, .inr (6, [.ref q0, .ref q1, .ref q2, .int 0, .int (-1), .ref q3, .int 0, .int 0, .int 0, .int 0, .int 0, .ref q4, .int 0, .ref q133, .int 0, .ref q134, .ref q135, .null, .null, .null, .null, .null, .int 0, .int 0, .int 0])), (q0, .inl ((xt X) 2, 67, .inl (fun _ => 0))), (q1, .inl ((xt X) 2, 67, .inl (fun _ => 0))), (q2, .inl ((xt X) 2, 67, .inl (fun _ => 0))), (q3, .inl ((xt X) 2, 200, .inl (fun _ => 0))), (q4, .inl ((xt X) 1, 128, .inl (f132))), (q133, .inl ((xt X) 2, 30, .inl (fun _ => 0))), (q134, .inl ((xt X) 2, 4, .inl (fun _ => 0))), (q135, .inl ((xt X) 2, 4, .inl (fun _ => 0)))]) rfl ?_
  refine g_aload_n (pc := 835) C d_M_init_835 0 rfl rfl ?_
  refine g_sipush (pc := 836) C (v := 160) d_M_init_836 (by decide) ?_
  refine g_newL (pc := 839) C (k' := 9) (z' := 727) (N := 160) d_M_init_839 (by decide) (by decide) (by decide) rfl rfl ⟨Nat.le_of_ble_eq_true rfl, Nat.le_of_ble_eq_true rfl⟩ (fun q136 => ?_)
  refine g_ws (ws' := [(h, .inr (6, [.ref q0, .ref q1, .ref q2, .int 0, .int (-1), .ref q3, .int 0, .int 0, .int 0, .int 0, .int 0, .ref q4, .int 0, .ref q133, .int 0, .ref q134, .ref q135, .null, .null, .null, .null, .null, .int 0, .int 0, .int 0])), (q0, .inl ((xt X) 2, 67, .inl (fun _ => 0))), (q1, .inl ((xt X) 2, 67, .inl (fun _ => 0))), (q2, .inl ((xt X) 2, 67, .inl (fun _ => 0))), (q3, .inl ((xt X) 2, 200, .inl (fun _ => 0))), (q4, .inl ((xt X) 1, 128, .inl (f132))), (q133, .inl ((xt X) 2, 30, .inl (fun _ => 0))), (q134, .inl ((xt X) 2, 4, .inl (fun _ => 0))), (q135, .inl ((xt X) 2, 4, .inl (fun _ => 0))), (q136, .inl ((xt X) 3, 160, .inr (.inl (fun _ => 0))))]) rfl ?_
  refine g_putF (pc := 841) C hin i_M (ci := 6) rfl ty_M ty_M_ok n_M 0 17 (Nat.le_of_ble_eq_true rfl) lk_M_39 rfl rfl rfl d_M_init_841 rfl rfl rfl (Nat.le_of_ble_eq_true rfl) (ws' := [(h, .inr (6, [.ref q0, .ref q1, .ref q2, .int 0, .int (-1), .ref q3, .int 0, .int 0, .int 0, .int 0, .int 0, .ref q4, .int 0, .ref q133, .int 0, .ref q134, .ref q135, .ref q136, .null, .null, .null, .null, .int 0, .int 0, .int 0])), (q0, .inl ((xt X) 2, 67, .inl (fun _ => 0))), (q1, .inl ((xt X) 2, 67, .inl (fun _ => 0))), (q2, .inl ((xt X) 2, 67, .inl (fun _ => 0))), (q3, .inl ((xt X) 2, 200, .inl (fun _ => 0))), (q4, .inl ((xt X) 1, 128, .inl (f132))), (q133, .inl ((xt X) 2, 30, .inl (fun _ => 0))), (q134, .inl ((xt X) 2, 4, .inl (fun _ => 0))), (q135, .inl ((xt X) 2, 4, .inl (fun _ => 0))), (q136, .inl ((xt X) 3, 160, .inr (.inl (fun _ => 0))))]) rfl ?_
  refine g_aload_n (pc := 844) C d_M_init_844 0 rfl rfl ?_
  refine g_iconst (pc := 845) C (v := 4) d_M_init_845 (by decide) ?_
  refine g_newI (pc := 846) C (k' := 10) (z' := 731) (N := 4) d_M_init_846 (by decide) (by decide) (by decide) rfl rfl ⟨Nat.le_of_ble_eq_true rfl, Nat.le_of_ble_eq_true rfl⟩ (fun q137 => ?_)
  refine g_ws (ws' := [(h, .inr (6, [.ref q0, .ref q1, .ref q2, .int 0, .int (-1), .ref q3, .int 0, .int 0, .int 0, .int 0, .int 0, .ref q4, .int 0, .ref q133, .int 0, .ref q134, .ref q135, .ref q136, .null, .null, .null, .null, .int 0, .int 0, .int 0])), (q0, .inl ((xt X) 2, 67, .inl (fun _ => 0))), (q1, .inl ((xt X) 2, 67, .inl (fun _ => 0))), (q2, .inl ((xt X) 2, 67, .inl (fun _ => 0))), (q3, .inl ((xt X) 2, 200, .inl (fun _ => 0))), (q4, .inl ((xt X) 1, 128, .inl (f132))), (q133, .inl ((xt X) 2, 30, .inl (fun _ => 0))), (q134, .inl ((xt X) 2, 4, .inl (fun _ => 0))), (q135, .inl ((xt X) 2, 4, .inl (fun _ => 0))), (q136, .inl ((xt X) 3, 160, .inr (.inl (fun _ => 0)))), (q137, .inl ((xt X) 2, 4, .inl (fun _ => 0)))]) rfl ?_
  refine g_putF (pc := 848) C hin i_M (ci := 6) rfl ty_M ty_M_ok n_M 0 18 (Nat.le_of_ble_eq_true rfl) lk_M_43 rfl rfl rfl d_M_init_848 rfl rfl rfl (Nat.le_of_ble_eq_true rfl) (ws' := [(h, .inr (6, [.ref q0, .ref q1, .ref q2, .int 0, .int (-1), .ref q3, .int 0, .int 0, .int 0, .int 0, .int 0, .ref q4, .int 0, .ref q133, .int 0, .ref q134, .ref q135, .ref q136, .ref q137, .null, .null, .null, .int 0, .int 0, .int 0])), (q0, .inl ((xt X) 2, 67, .inl (fun _ => 0))), (q1, .inl ((xt X) 2, 67, .inl (fun _ => 0))), (q2, .inl ((xt X) 2, 67, .inl (fun _ => 0))), (q3, .inl ((xt X) 2, 200, .inl (fun _ => 0))), (q4, .inl ((xt X) 1, 128, .inl (f132))), (q133, .inl ((xt X) 2, 30, .inl (fun _ => 0))), (q134, .inl ((xt X) 2, 4, .inl (fun _ => 0))), (q135, .inl ((xt X) 2, 4, .inl (fun _ => 0))), (q136, .inl ((xt X) 3, 160, .inr (.inl (fun _ => 0)))), (q137, .inl ((xt X) 2, 4, .inl (fun _ => 0)))]) rfl ?_
  refine g_aload_n (pc := 851) C d_M_init_851 0 rfl rfl ?_
  refine g_iconst (pc := 852) C (v := 4) d_M_init_852 (by decide) ?_
  refine g_newI (pc := 853) C (k' := 11) (z' := 735) (N := 4) d_M_init_853 (by decide) (by decide) (by decide) rfl rfl ⟨Nat.le_of_ble_eq_true rfl, Nat.le_of_ble_eq_true rfl⟩ (fun q138 => ?_)
  refine g_ws (ws' := [(h, .inr (6, [.ref q0, .ref q1, .ref q2, .int 0, .int (-1), .ref q3, .int 0, .int 0, .int 0, .int 0, .int 0, .ref q4, .int 0, .ref q133, .int 0, .ref q134, .ref q135, .ref q136, .ref q137, .null, .null, .null, .int 0, .int 0, .int 0])), (q0, .inl ((xt X) 2, 67, .inl (fun _ => 0))), (q1, .inl ((xt X) 2, 67, .inl (fun _ => 0))), (q2, .inl ((xt X) 2, 67, .inl (fun _ => 0))), (q3, .inl ((xt X) 2, 200, .inl (fun _ => 0))), (q4, .inl ((xt X) 1, 128, .inl (f132))), (q133, .inl ((xt X) 2, 30, .inl (fun _ => 0))), (q134, .inl ((xt X) 2, 4, .inl (fun _ => 0))), (q135, .inl ((xt X) 2, 4, .inl (fun _ => 0))), (q136, .inl ((xt X) 3, 160, .inr (.inl (fun _ => 0)))), (q137, .inl ((xt X) 2, 4, .inl (fun _ => 0))), (q138, .inl ((xt X) 2, 4, .inl (fun _ => 0)))]) rfl ?_
  refine g_putF (pc := 855) C hin i_M (ci := 6) rfl ty_M ty_M_ok n_M 0 19 (Nat.le_of_ble_eq_true rfl) lk_M_46 rfl rfl rfl d_M_init_855 rfl rfl rfl (Nat.le_of_ble_eq_true rfl) (ws' := [(h, .inr (6, [.ref q0, .ref q1, .ref q2, .int 0, .int (-1), .ref q3, .int 0, .int 0, .int 0, .int 0, .int 0, .ref q4, .int 0, .ref q133, .int 0, .ref q134, .ref q135, .ref q136, .ref q137, .ref q138, .null, .null, .int 0, .int 0, .int 0])), (q0, .inl ((xt X) 2, 67, .inl (fun _ => 0))), (q1, .inl ((xt X) 2, 67, .inl (fun _ => 0))), (q2, .inl ((xt X) 2, 67, .inl (fun _ => 0))), (q3, .inl ((xt X) 2, 200, .inl (fun _ => 0))), (q4, .inl ((xt X) 1, 128, .inl (f132))), (q133, .inl ((xt X) 2, 30, .inl (fun _ => 0))), (q134, .inl ((xt X) 2, 4, .inl (fun _ => 0))), (q135, .inl ((xt X) 2, 4, .inl (fun _ => 0))), (q136, .inl ((xt X) 3, 160, .inr (.inl (fun _ => 0)))), (q137, .inl ((xt X) 2, 4, .inl (fun _ => 0))), (q138, .inl ((xt X) 2, 4, .inl (fun _ => 0)))]) rfl ?_
  refine g_aload_n (pc := 858) C d_M_init_858 0 rfl rfl ?_
  refine g_iconst (pc := 859) C (v := 4) d_M_init_859 (by decide) ?_
  refine g_newI (pc := 860) C (k' := 12) (z' := 739) (N := 4) d_M_init_860 (by decide) (by decide) (by decide) rfl rfl ⟨Nat.le_of_ble_eq_true rfl, Nat.le_of_ble_eq_true rfl⟩ (fun q139 => ?_)
  refine g_ws (ws' := [(h, .inr (6, [.ref q0, .ref q1, .ref q2, .int 0, .int (-1), .ref q3, .int 0, .int 0, .int 0, .int 0, .int 0, .ref q4, .int 0, .ref q133, .int 0, .ref q134, .ref q135, .ref q136, .ref q137, .ref q138, .null, .null, .int 0, .int 0, .int 0])), (q0, .inl ((xt X) 2, 67, .inl (fun _ => 0))), (q1, .inl ((xt X) 2, 67, .inl (fun _ => 0))), (q2, .inl ((xt X) 2, 67, .inl (fun _ => 0))), (q3, .inl ((xt X) 2, 200, .inl (fun _ => 0))), (q4, .inl ((xt X) 1, 128, .inl (f132))), (q133, .inl ((xt X) 2, 30, .inl (fun _ => 0))), (q134, .inl ((xt X) 2, 4, .inl (fun _ => 0))), (q135, .inl ((xt X) 2, 4, .inl (fun _ => 0))), (q136, .inl ((xt X) 3, 160, .inr (.inl (fun _ => 0)))), (q137, .inl ((xt X) 2, 4, .inl (fun _ => 0))), (q138, .inl ((xt X) 2, 4, .inl (fun _ => 0))), (q139, .inl ((xt X) 2, 4, .inl (fun _ => 0)))]) rfl ?_
  refine g_putF (pc := 862) C hin i_M (ci := 6) rfl ty_M ty_M_ok n_M 0 20 (Nat.le_of_ble_eq_true rfl) lk_M_49 rfl rfl rfl d_M_init_862 rfl rfl rfl (Nat.le_of_ble_eq_true rfl) (ws' := [(h, .inr (6, [.ref q0, .ref q1, .ref q2, .int 0, .int (-1), .ref q3, .int 0, .int 0, .int 0, .int 0, .int 0, .ref q4, .int 0, .ref q133, .int 0, .ref q134, .ref q135, .ref q136, .ref q137, .ref q138, .ref q139, .null, .int 0, .int 0, .int 0])), (q0, .inl ((xt X) 2, 67, .inl (fun _ => 0))), (q1, .inl ((xt X) 2, 67, .inl (fun _ => 0))), (q2, .inl ((xt X) 2, 67, .inl (fun _ => 0))), (q3, .inl ((xt X) 2, 200, .inl (fun _ => 0))), (q4, .inl ((xt X) 1, 128, .inl (f132))), (q133, .inl ((xt X) 2, 30, .inl (fun _ => 0))), (q134, .inl ((xt X) 2, 4, .inl (fun _ => 0))), (q135, .inl ((xt X) 2, 4, .inl (fun _ => 0))), (q136, .inl ((xt X) 3, 160, .inr (.inl (fun _ => 0)))), (q137, .inl ((xt X) 2, 4, .inl (fun _ => 0))), (q138, .inl ((xt X) 2, 4, .inl (fun _ => 0))), (q139, .inl ((xt X) 2, 4, .inl (fun _ => 0)))]) rfl ?_
  refine g_aload_n (pc := 865) C d_M_init_865 0 rfl rfl ?_
  refine g_bipush (pc := 866) C (v := 30) d_M_init_866 (by decide) ?_
  refine g_newI (pc := 868) C (k' := 13) (z' := 769) (N := 30) d_M_init_868 (by decide) (by decide) (by decide) rfl rfl ⟨Nat.le_of_ble_eq_true rfl, Nat.le_of_ble_eq_true rfl⟩ (fun q140 => ?_)
  refine g_ws (ws' := [(h, .inr (6, [.ref q0, .ref q1, .ref q2, .int 0, .int (-1), .ref q3, .int 0, .int 0, .int 0, .int 0, .int 0, .ref q4, .int 0, .ref q133, .int 0, .ref q134, .ref q135, .ref q136, .ref q137, .ref q138, .ref q139, .null, .int 0, .int 0, .int 0])), (q0, .inl ((xt X) 2, 67, .inl (fun _ => 0))), (q1, .inl ((xt X) 2, 67, .inl (fun _ => 0))), (q2, .inl ((xt X) 2, 67, .inl (fun _ => 0))), (q3, .inl ((xt X) 2, 200, .inl (fun _ => 0))), (q4, .inl ((xt X) 1, 128, .inl (f132))), (q133, .inl ((xt X) 2, 30, .inl (fun _ => 0))), (q134, .inl ((xt X) 2, 4, .inl (fun _ => 0))), (q135, .inl ((xt X) 2, 4, .inl (fun _ => 0))), (q136, .inl ((xt X) 3, 160, .inr (.inl (fun _ => 0)))), (q137, .inl ((xt X) 2, 4, .inl (fun _ => 0))), (q138, .inl ((xt X) 2, 4, .inl (fun _ => 0))), (q139, .inl ((xt X) 2, 4, .inl (fun _ => 0))), (q140, .inl ((xt X) 2, 30, .inl (fun _ => 0)))]) rfl ?_
  refine g_putF (pc := 870) C hin i_M (ci := 6) rfl ty_M ty_M_ok n_M 0 21 (Nat.le_of_ble_eq_true rfl) lk_M_52 rfl rfl rfl d_M_init_870 rfl rfl rfl (Nat.le_of_ble_eq_true rfl) (ws' := [(h, .inr (6, [.ref q0, .ref q1, .ref q2, .int 0, .int (-1), .ref q3, .int 0, .int 0, .int 0, .int 0, .int 0, .ref q4, .int 0, .ref q133, .int 0, .ref q134, .ref q135, .ref q136, .ref q137, .ref q138, .ref q139, .ref q140, .int 0, .int 0, .int 0])), (q0, .inl ((xt X) 2, 67, .inl (fun _ => 0))), (q1, .inl ((xt X) 2, 67, .inl (fun _ => 0))), (q2, .inl ((xt X) 2, 67, .inl (fun _ => 0))), (q3, .inl ((xt X) 2, 200, .inl (fun _ => 0))), (q4, .inl ((xt X) 1, 128, .inl (f132))), (q133, .inl ((xt X) 2, 30, .inl (fun _ => 0))), (q134, .inl ((xt X) 2, 4, .inl (fun _ => 0))), (q135, .inl ((xt X) 2, 4, .inl (fun _ => 0))), (q136, .inl ((xt X) 3, 160, .inr (.inl (fun _ => 0)))), (q137, .inl ((xt X) 2, 4, .inl (fun _ => 0))), (q138, .inl ((xt X) 2, 4, .inl (fun _ => 0))), (q139, .inl ((xt X) 2, 4, .inl (fun _ => 0))), (q140, .inl ((xt X) 2, 30, .inl (fun _ => 0)))]) rfl ?_
  refine g_aload_n (pc := 873) C d_M_init_873 0 rfl rfl ?_
  have ew : f132 = wordsF := by rw [ef132]; rw [ef131]; rw [ef130]; rw [ef129]; rw [ef128]; rw [ef127]; rw [ef126]; rw [ef125]; rw [ef124]; rw [ef123]; rw [ef122]; rw [ef121]; rw [ef120]; rw [ef119]; rw [ef118]; rw [ef117]; rw [ef116]; rw [ef115]; rw [ef114]; rw [ef113]; rw [ef112]; rw [ef111]; rw [ef110]; rw [ef109]; rw [ef108]; rw [ef107]; rw [ef106]; rw [ef105]; rw [ef104]; rw [ef103]; rw [ef102]; rw [ef101]; rw [ef100]; rw [ef99]; rw [ef98]; rw [ef97]; rw [ef96]; rw [ef95]; rw [ef94]; rw [ef93]; rw [ef92]; rw [ef91]; rw [ef90]; rw [ef89]; rw [ef88]; rw [ef87]; rw [ef86]; rw [ef85]; rw [ef84]; rw [ef83]; rw [ef82]; rw [ef81]; rw [ef80]; rw [ef79]; rw [ef78]; rw [ef77]; rw [ef76]; rw [ef75]; rw [ef74]; rw [ef73]; rw [ef72]; rw [ef71]; rw [ef70]; rw [ef69]; rw [ef68]; rw [ef67]; rw [ef66]; rw [ef65]; rw [ef64]; rw [ef63]; rw [ef62]; rw [ef61]; rw [ef60]; rw [ef59]; rw [ef58]; rw [ef57]; rw [ef56]; rw [ef55]; rw [ef54]; rw [ef53]; rw [ef52]; rw [ef51]; rw [ef50]; rw [ef49]; rw [ef48]; rw [ef47]; rw [ef46]; rw [ef45]; rw [ef44]; rw [ef43]; rw [ef42]; rw [ef41]; rw [ef40]; rw [ef39]; rw [ef38]; rw [ef37]; rw [ef36]; rw [ef35]; rw [ef34]; rw [ef33]; rw [ef32]; rw [ef31]; rw [ef30]; rw [ef29]; rw [ef28]; rw [ef27]; rw [ef26]; rw [ef25]; rw [ef24]; rw [ef23]; rw [ef22]; rw [ef21]; rw [ef20]; rw [ef19]; rw [ef18]; rw [ef17]; rw [ef16]; rw [ef15]; rw [ef14]; rw [ef13]; rw [ef12]; rw [ef11]; rw [ef10]; rw [ef9]; rw [ef8]; rw [ef7]; rw [ef6]; rw [ef5]; rfl
  rw [ew]
  refine g_ws (ws' := woM (xt X) (fun i => [h, q0, q1, q2, q3, q4, q133, q134, q135, q136, q137, q138, q139, q140].getD i 0) ini_M0) rfl ?_
  refine k_Va (pc := 874) (co_V C (c_M_first (xl X) (xD X) (xt X) (xv X) (fun i => [h, q0, q1, q2, q3, q4, q133, q134, q135, q136, q137, q138, q139, q140].getD i 0) ini_M0 _ hw) mw_M_first lk_M_55 d_M_init_874 (List.range _) (all_C _) (all_nd _) (rec_w C 0 6 rfl rfl) rfl rfl ⟨Nat.le_of_ble_eq_true rfl, Nat.le_of_ble_eq_true rfl⟩ ⟨Nat.le_of_ble_eq_true rfl, Nat.le_of_ble_eq_true rfl⟩ (rest := []) rfl rfl (Nat.le_of_ble_eq_true rfl)) (fun m1 hw => ?_)
  refine g_aload_n (pc := 877) C d_M_init_877 0 rfl rfl ?_
  refine fM_d (pc := 878) C lk_M_7 d_M_init_878 ?_
  refine g_bipush (pc := 881) C (v := 6) d_M_init_881 (by decide) ?_
  refine g_iconst (pc := 883) C (v := 1) d_M_init_883 (by decide) ?_
  refine sM_d (pc := 884) C d_M_init_884 (f := M_d m1) rfl (N0 := 6) (by decide) (by unfold vp_in; decide) ?_
  exact g_vret (pc := 885) C q d_M_init_885 ⟨rfl, (fun i => [h, q0, q1, q2, q3, q4, q133, q134, q135, q136, q137, q138, q139, q140].getD i 0), _, rfl, rfl, hw⟩
