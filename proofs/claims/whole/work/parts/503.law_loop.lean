theorem g_slenA {X : GX} {cc : ByteArray} {own : String} {n : Nat} {R : Room} {k z : Nat} {ws : va_W} {lv : List (Nat × Value)} {st : List Value} {pc : Nat} (C : GC X cc own n R) {b L : Nat} {ys : Nat → Int32} (hX : va_X b L ys (xs X) (xs X).heap ∧ b < (xs X).heap.size ∧ ¬ xA X b) (d : decode cc pc = .ok (.arraylength, 1)) (h : G X k z ws lv (.int (nI L) :: st) (pc + 1)) : G X k z ws lv (.ref b :: st) pc :=
  fun H locs ls hP hD hS hl => va_slen C.1 C.2.1 hX.1 hX.2.1 hX.2.2 hS d (h H locs ls hP hD hS hl)
/-- what each call must keep: the answers agree, the tie between class and reference holds on -/
def SIM (I : Nat → XSt → MSt → Prop) : Prop := ∀ (c : Nat) (x : XSt) (m : MSt), c < 512 → I c x m → I (c + 1) x m ∧ ∀ a1 a2 a3 a4 : Int32, wpl_feed x m a1 a2 a3 a4 (I (c + 1)) ∧ wpl_canal x m a1 a2 a3 a4 (I (c + 1)) ∧ wpl_set x m a1 a2 a3 a4 (I (c + 1)) ∧ wpl_lawOf x m a1 a2 a3 a4 (I (c + 1)) ∧ wpl_barge x m a1 a2 a3 a4 (I (c + 1)) ∧ wpl_of x m a1 a2 a3 a4 (I (c + 1)) ∧ wpl_does x m a1 a2 a3 a4 (I (c + 1)) ∧ wpl_mind x m a1 a2 a3 a4 (I (c + 1)) ∧ wpl_fill x m a1 a2 a3 a4 (I (c + 1)) ∧ wpl_bring x m a1 a2 a3 a4 (I (c + 1)) ∧ wpl_send x m a1 a2 a3 a4 (I (c + 1)) ∧ wpl_noise x m a1 a2 a3 a4 (I (c + 1)) ∧ wpl_lock x m a1 a2 a3 a4 (I (c + 1)) ∧ wpl_hours x m a1 a2 a3 a4 (I (c + 1)) ∧ wpl_seed x m a1 a2 a3 a4 (I (c + 1)) ∧ wpl_hour x m a1 a2 a3 a4 (I (c + 1)) ∧ wpl_spoilt x m a1 a2 a3 a4 (I (c + 1)) ∧ wpl_state x m a1 a2 a3 a4 (I (c + 1)) ∧ wpl_freight x m a1 a2 a3 a4 (I (c + 1)) ∧ wpl_lands x m a1 a2 a3 a4 (I (c + 1)) ∧ wpl_meets x m a1 a2 a3 a4 (I (c + 1)) ∧ wpl_quiet x m a1 a2 a3 a4 (I (c + 1)) ∧ wpl_cargo x m a1 a2 a3 a4 (I (c + 1)) ∧ wpl_stillFor x m a1 a2 a3 a4 (I (c + 1)) ∧ wpl_kindFor x m a1 a2 a3 a4 (I (c + 1)) ∧ wpl_loadFor x m a1 a2 a3 a4 (I (c + 1)) ∧ wpl_hushedFor x m a1 a2 a3 a4 (I (c + 1)) ∧ wpl_holdFor x m a1 a2 a3 a4 (I (c + 1)) ∧ wpl_fits x m a1 a2 a3 a4 (I (c + 1)) ∧ wpl_odds x m a1 a2 a3 a4 (I (c + 1)) ∧ wpl_hope x m a1 a2 a3 a4 (I (c + 1)) ∧ wpl_prove x m a1 a2 a3 a4 (I (c + 1)) ∧ wpl_row x m a1 a2 a3 a4 (I (c + 1)) ∧ wpl_alterRow x m a1 a2 a3 a4 (I (c + 1)) ∧ wpl_judge x m a1 a2 a3 a4 (I (c + 1)) ∧ wpl_minds x m a1 a2 a3 a4 (I (c + 1)) ∧ wpl_sheet x m a1 a2 a3 a4 (I (c + 1)) ∧ wpl_put x m a1 a2 a3 a4 (I (c + 1)) ∧ wpl_item x m a1 a2 a3 a4 (I (c + 1)) ∧ wpl_shelf x m a1 a2 a3 a4 (I (c + 1)) ∧ wpl_taken x m a1 a2 a3 a4 (I (c + 1)) ∧ wpl_act x m a1 a2 a3 a4 (I (c + 1)) ∧ wpl_trace x m a1 a2 a3 a4 (I (c + 1)) ∧ wpl_many x m a1 a2 a3 a4 (I (c + 1)) ∧ wpl_keep x m a1 a2 a3 a4 (I (c + 1)) ∧ wpl_again x m a1 a2 a3 a4 (I (c + 1))
set_option maxHeartbeats 4000000 in
set_option maxRecDepth 20000 in
theorem law_loop {X : GX} (C : GC X code "SilenceCanalLaw" 4 room_1) {b L : Nat} {ys : Nat → Int32} (hX : va_X b L ys (xs X) (xs X).heap ∧ b < (xs X).heap.size ∧ ¬ xA X b) (hL : L ≤ 2560) (aX aM : Nat → Nat) (I : Nat → XSt → MSt → Prop) (hI : SIM I) (hend : ∀ (ws : va_W) (lv : List (Nat × Value)), G X 61 1499 ws lv [.int 1] 1719) : ∀ (n c j : Nat) (x : XSt) (m : MSt), j = 5 * c → j ≤ L + 4 → L + 5 - j < n → I c x m → G X 61 1499 (woL (xt X) aX aM (x, m)) [(0, .ref b), (1, .ref (aX 0)), (2, .ref (aM 0)), (3, .int (nI j))] [] 18 := by
  intro n
  induction n with
  | zero => intro c j x m _ _ h; omega
  | succ n ih =>
    intro c j x m hc hjL hn hi
    refine g_iload_n (pc := 18) C d_L_18 3 rfl rfl ?_
    refine g_aload_n (pc := 19) C d_L_19 0 rfl rfl ?_
    refine g_slenA (pc := 20) C hX d_L_20 ?_
    refine g_iconst (pc := 21) C (v := 5) d_L_21 (by decide) ?_
    refine g_isub (pc := 22) C d_L_22 ?_
    have e5 : (nI L - 5).toInt = (L : Int) - 5 := pk_sub_toInt (a := L) (b := 5) (by omega) (by omega)
    have ej : (nI j).toInt = (j : Int) := nI_toInt (by omega)
    refine g_icmp_gt (pc := 23) (tgt := 1718) C d_L_23 (by decide) (fun h => ?_) (fun h => ?_)
    · refine g_iconst (pc := 1718) C (v := 1) d_L_1718 (by decide) ?_
      exact hend _ _
    · have hj : j + 5 ≤ L := by
        rcases Nat.lt_or_ge L (j + 5) with q | q
        · exact absurd (Int32.lt_iff_toInt_lt.mpr (by rw [ej]; show (nI L - 5).toInt < _; rw [e5]; omega)) h
        · exact q
      obtain ⟨hi2, hs⟩ := hI c x m (by omega) hi
      refine g_aload_n (pc := 26) C d_L_26 0 rfl rfl ?_
      refine g_iload_n (pc := 27) C d_L_27 3 rfl rfl ?_
      refine g_sld0 (pc := 28) C hX hL (by omega) d_L_28 ?_
      refine g_bipush (pc := 29) C (v := 63) d_L_29 (by decide) ?_
      refine g_iand (pc := 31) C d_L_31 ?_
      have hn : ∀ (x : XSt) (m : MSt), I (c + 1) x m → G X 61 1499 (woL (xt X) aX aM (x, m)) [(0, .ref b), (1, .ref (aX 0)), (2, .ref (aM 0)), (3, .int (nI j))] [] 1712 := by
        intro x m hi
        refine g_iinc (pc := 1712) C d_L_1712 3 rfl (v := nI (j + 5)) (nI_add j 5) (Nat.le_of_ble_eq_true rfl) (lv' := [(0, .ref b), (1, .ref (aX 0)), (2, .ref (aM 0)), (3, .int (nI (j + 5)))]) rfl ?_
        refine g_goto (pc := 1715) (tgt := 18) C d_L_1715 (by decide) ?_
        exact ih (c + 1) (j + 5) x m (by omega) (by omega) (by omega) hi
      obtain ⟨q, hq, e⟩ := pk_andE (ys j) (m := 63) 6 (by decide)
      rw [e]
      have hq : q < 64 := hq
      match q, hq with
      | 0, _ => exact g_tabIn (pc := 32) (tgt := 232) C d_L_32 (by decide) (by decide) (off := 200) (by decide) (by decide) (lc_feed C hX hL hj aX aM x m _ (hs (ys (j + 1)) (ys (j + 2)) (ys (j + 3)) (ys (j + 4))).1 hn)
      | 1, _ => exact g_tabIn (pc := 32) (tgt := 295) C d_L_32 (by decide) (by decide) (off := 263) (by decide) (by decide) (lc_canal C hX hL hj aX aM x m _ (hs (ys (j + 1)) (ys (j + 2)) (ys (j + 3)) (ys (j + 4))).2.1 hn)
      | 2, _ => exact g_tabIn (pc := 32) (tgt := 308) C d_L_32 (by decide) (by decide) (off := 276) (by decide) (by decide) (lc_set C hX hL hj aX aM x m _ (hs (ys (j + 1)) (ys (j + 2)) (ys (j + 3)) (ys (j + 4))).2.2.1 hn)
      | 3, _ => exact g_tabIn (pc := 32) (tgt := 341) C d_L_32 (by decide) (by decide) (off := 309) (by decide) (by decide) (lc_lawOf C hX hL hj aX aM x m _ (hs (ys (j + 1)) (ys (j + 2)) (ys (j + 3)) (ys (j + 4))).2.2.2.1 hn)
      | 4, _ => exact g_tabIn (pc := 32) (tgt := 364) C d_L_32 (by decide) (by decide) (off := 332) (by decide) (by decide) (lc_barge C hX hL hj aX aM x m _ (hs (ys (j + 1)) (ys (j + 2)) (ys (j + 3)) (ys (j + 4))).2.2.2.2.1 hn)
      | 5, _ => exact g_tabIn (pc := 32) (tgt := 417) C d_L_32 (by decide) (by decide) (off := 385) (by decide) (by decide) (lc_of C hX hL hj aX aM x m _ (hs (ys (j + 1)) (ys (j + 2)) (ys (j + 3)) (ys (j + 4))).2.2.2.2.2.1 hn)
      | 6, _ => exact g_tabIn (pc := 32) (tgt := 450) C d_L_32 (by decide) (by decide) (off := 418) (by decide) (by decide) (lc_does C hX hL hj aX aM x m _ (hs (ys (j + 1)) (ys (j + 2)) (ys (j + 3)) (ys (j + 4))).2.2.2.2.2.2.1 hn)
      | 7, _ => exact g_tabIn (pc := 32) (tgt := 483) C d_L_32 (by decide) (by decide) (off := 451) (by decide) (by decide) (lc_mind C hX hL hj aX aM x m _ (hs (ys (j + 1)) (ys (j + 2)) (ys (j + 3)) (ys (j + 4))).2.2.2.2.2.2.2.1 hn)
      | 8, _ => exact g_tabIn (pc := 32) (tgt := 526) C d_L_32 (by decide) (by decide) (off := 494) (by decide) (by decide) (lc_fill C hX hL hj aX aM x m _ (hs (ys (j + 1)) (ys (j + 2)) (ys (j + 3)) (ys (j + 4))).2.2.2.2.2.2.2.2.1 hn)
      | 9, _ => exact g_tabIn (pc := 32) (tgt := 559) C d_L_32 (by decide) (by decide) (off := 527) (by decide) (by decide) (lc_bring C hX hL hj aX aM x m _ (hs (ys (j + 1)) (ys (j + 2)) (ys (j + 3)) (ys (j + 4))).2.2.2.2.2.2.2.2.2.1 hn)
      | 10, _ => exact g_tabIn (pc := 32) (tgt := 592) C d_L_32 (by decide) (by decide) (off := 560) (by decide) (by decide) (lc_send C hX hL hj aX aM x m _ (hs (ys (j + 1)) (ys (j + 2)) (ys (j + 3)) (ys (j + 4))).2.2.2.2.2.2.2.2.2.2.1 hn)
      | 11, _ => exact g_tabIn (pc := 32) (tgt := 625) C d_L_32 (by decide) (by decide) (off := 593) (by decide) (by decide) (lc_noise C hX hL hj aX aM x m _ (hs (ys (j + 1)) (ys (j + 2)) (ys (j + 3)) (ys (j + 4))).2.2.2.2.2.2.2.2.2.2.2.1 hn)
      | 12, _ => exact g_tabIn (pc := 32) (tgt := 658) C d_L_32 (by decide) (by decide) (off := 626) (by decide) (by decide) (lc_lock C hX hL hj aX aM x m _ (hs (ys (j + 1)) (ys (j + 2)) (ys (j + 3)) (ys (j + 4))).2.2.2.2.2.2.2.2.2.2.2.2.1 hn)
      | 13, _ => exact g_tabIn (pc := 32) (tgt := 691) C d_L_32 (by decide) (by decide) (off := 659) (by decide) (by decide) (lc_hours C hX hL hj aX aM x m _ (hs (ys (j + 1)) (ys (j + 2)) (ys (j + 3)) (ys (j + 4))).2.2.2.2.2.2.2.2.2.2.2.2.2.1 hn)
      | 14, _ => exact g_tabIn (pc := 32) (tgt := 714) C d_L_32 (by decide) (by decide) (off := 682) (by decide) (by decide) (lc_seed C hX hL hj aX aM x m _ (hs (ys (j + 1)) (ys (j + 2)) (ys (j + 3)) (ys (j + 4))).2.2.2.2.2.2.2.2.2.2.2.2.2.2.1 hn)
      | 15, _ => exact g_tabIn (pc := 32) (tgt := 737) C d_L_32 (by decide) (by decide) (off := 705) (by decide) (by decide) (lc_hour C hX hL hj aX aM x m _ (hs (ys (j + 1)) (ys (j + 2)) (ys (j + 3)) (ys (j + 4))).2.2.2.2.2.2.2.2.2.2.2.2.2.2.2.1 hn)
      | 16, _ => exact g_tabIn (pc := 32) (tgt := 750) C d_L_32 (by decide) (by decide) (off := 718) (by decide) (by decide) (lc_spoilt C hX hL hj aX aM x m _ (hs (ys (j + 1)) (ys (j + 2)) (ys (j + 3)) (ys (j + 4))).2.2.2.2.2.2.2.2.2.2.2.2.2.2.2.2.1 hn)
      | 17, _ => exact g_tabIn (pc := 32) (tgt := 773) C d_L_32 (by decide) (by decide) (off := 741) (by decide) (by decide) (lc_state C hX hL hj aX aM x m _ (hs (ys (j + 1)) (ys (j + 2)) (ys (j + 3)) (ys (j + 4))).2.2.2.2.2.2.2.2.2.2.2.2.2.2.2.2.2.1 hn)
      | 18, _ => exact g_tabIn (pc := 32) (tgt := 796) C d_L_32 (by decide) (by decide) (off := 764) (by decide) (by decide) (lc_freight C hX hL hj aX aM x m _ (hs (ys (j + 1)) (ys (j + 2)) (ys (j + 3)) (ys (j + 4))).2.2.2.2.2.2.2.2.2.2.2.2.2.2.2.2.2.2.1 hn)
      | 19, _ => exact g_tabIn (pc := 32) (tgt := 829) C d_L_32 (by decide) (by decide) (off := 797) (by decide) (by decide) (lc_lands C hX hL hj aX aM x m _ (hs (ys (j + 1)) (ys (j + 2)) (ys (j + 3)) (ys (j + 4))).2.2.2.2.2.2.2.2.2.2.2.2.2.2.2.2.2.2.2.1 hn)
      | 20, _ => exact g_tabIn (pc := 32) (tgt := 852) C d_L_32 (by decide) (by decide) (off := 820) (by decide) (by decide) (lc_meets C hX hL hj aX aM x m _ (hs (ys (j + 1)) (ys (j + 2)) (ys (j + 3)) (ys (j + 4))).2.2.2.2.2.2.2.2.2.2.2.2.2.2.2.2.2.2.2.2.1 hn)
      | 21, _ => exact g_tabIn (pc := 32) (tgt := 885) C d_L_32 (by decide) (by decide) (off := 853) (by decide) (by decide) (lc_quiet C hX hL hj aX aM x m _ (hs (ys (j + 1)) (ys (j + 2)) (ys (j + 3)) (ys (j + 4))).2.2.2.2.2.2.2.2.2.2.2.2.2.2.2.2.2.2.2.2.2.1 hn)
      | 22, _ => exact g_tabIn (pc := 32) (tgt := 898) C d_L_32 (by decide) (by decide) (off := 866) (by decide) (by decide) (lc_cargo C hX hL hj aX aM x m _ (hs (ys (j + 1)) (ys (j + 2)) (ys (j + 3)) (ys (j + 4))).2.2.2.2.2.2.2.2.2.2.2.2.2.2.2.2.2.2.2.2.2.2.1 hn)
      | 23, _ => exact g_tabIn (pc := 32) (tgt := 921) C d_L_32 (by decide) (by decide) (off := 889) (by decide) (by decide) (lc_stillFor C hX hL hj aX aM x m _ (hs (ys (j + 1)) (ys (j + 2)) (ys (j + 3)) (ys (j + 4))).2.2.2.2.2.2.2.2.2.2.2.2.2.2.2.2.2.2.2.2.2.2.2.1 hn)
      | 24, _ => exact g_tabIn (pc := 32) (tgt := 954) C d_L_32 (by decide) (by decide) (off := 922) (by decide) (by decide) (lc_kindFor C hX hL hj aX aM x m _ (hs (ys (j + 1)) (ys (j + 2)) (ys (j + 3)) (ys (j + 4))).2.2.2.2.2.2.2.2.2.2.2.2.2.2.2.2.2.2.2.2.2.2.2.2.1 hn)
      | 25, _ => exact g_tabIn (pc := 32) (tgt := 987) C d_L_32 (by decide) (by decide) (off := 955) (by decide) (by decide) (lc_loadFor C hX hL hj aX aM x m _ (hs (ys (j + 1)) (ys (j + 2)) (ys (j + 3)) (ys (j + 4))).2.2.2.2.2.2.2.2.2.2.2.2.2.2.2.2.2.2.2.2.2.2.2.2.2.1 hn)
      | 26, _ => exact g_tabIn (pc := 32) (tgt := 1030) C d_L_32 (by decide) (by decide) (off := 998) (by decide) (by decide) (lc_hushedFor C hX hL hj aX aM x m _ (hs (ys (j + 1)) (ys (j + 2)) (ys (j + 3)) (ys (j + 4))).2.2.2.2.2.2.2.2.2.2.2.2.2.2.2.2.2.2.2.2.2.2.2.2.2.2.1 hn)
      | 27, _ => exact g_tabIn (pc := 32) (tgt := 1063) C d_L_32 (by decide) (by decide) (off := 1031) (by decide) (by decide) (lc_holdFor C hX hL hj aX aM x m _ (hs (ys (j + 1)) (ys (j + 2)) (ys (j + 3)) (ys (j + 4))).2.2.2.2.2.2.2.2.2.2.2.2.2.2.2.2.2.2.2.2.2.2.2.2.2.2.2.1 hn)
      | 28, _ => exact g_tabIn (pc := 32) (tgt := 1086) C d_L_32 (by decide) (by decide) (off := 1054) (by decide) (by decide) (lc_fits C hX hL hj aX aM x m _ (hs (ys (j + 1)) (ys (j + 2)) (ys (j + 3)) (ys (j + 4))).2.2.2.2.2.2.2.2.2.2.2.2.2.2.2.2.2.2.2.2.2.2.2.2.2.2.2.2.1 hn)
      | 29, _ => exact g_tabIn (pc := 32) (tgt := 1129) C d_L_32 (by decide) (by decide) (off := 1097) (by decide) (by decide) (lc_odds C hX hL hj aX aM x m _ (hs (ys (j + 1)) (ys (j + 2)) (ys (j + 3)) (ys (j + 4))).2.2.2.2.2.2.2.2.2.2.2.2.2.2.2.2.2.2.2.2.2.2.2.2.2.2.2.2.2.1 hn)
      | 30, _ => exact g_tabIn (pc := 32) (tgt := 1173) C d_L_32 (by decide) (by decide) (off := 1141) (by decide) (by decide) (lc_hope C hX hL hj aX aM x m _ (hs (ys (j + 1)) (ys (j + 2)) (ys (j + 3)) (ys (j + 4))).2.2.2.2.2.2.2.2.2.2.2.2.2.2.2.2.2.2.2.2.2.2.2.2.2.2.2.2.2.2.1 hn)
      | 31, _ => exact g_tabIn (pc := 32) (tgt := 1207) C d_L_32 (by decide) (by decide) (off := 1175) (by decide) (by decide) (lc_prove C hX hL hj aX aM x m _ (hs (ys (j + 1)) (ys (j + 2)) (ys (j + 3)) (ys (j + 4))).2.2.2.2.2.2.2.2.2.2.2.2.2.2.2.2.2.2.2.2.2.2.2.2.2.2.2.2.2.2.2.1 hn)
      | 32, _ => exact g_tabIn (pc := 32) (tgt := 1240) C d_L_32 (by decide) (by decide) (off := 1208) (by decide) (by decide) (lc_row C hX hL hj aX aM x m _ (hs (ys (j + 1)) (ys (j + 2)) (ys (j + 3)) (ys (j + 4))).2.2.2.2.2.2.2.2.2.2.2.2.2.2.2.2.2.2.2.2.2.2.2.2.2.2.2.2.2.2.2.2.1 hn)
      | 33, _ => exact g_tabIn (pc := 32) (tgt := 1273) C d_L_32 (by decide) (by decide) (off := 1241) (by decide) (by decide) (lc_alterRow C hX hL hj aX aM x m _ (hs (ys (j + 1)) (ys (j + 2)) (ys (j + 3)) (ys (j + 4))).2.2.2.2.2.2.2.2.2.2.2.2.2.2.2.2.2.2.2.2.2.2.2.2.2.2.2.2.2.2.2.2.2.1 hn)
      | 34, _ => exact g_tabIn (pc := 32) (tgt := 1316) C d_L_32 (by decide) (by decide) (off := 1284) (by decide) (by decide) (lc_judge C hX hL hj aX aM x m _ (hs (ys (j + 1)) (ys (j + 2)) (ys (j + 3)) (ys (j + 4))).2.2.2.2.2.2.2.2.2.2.2.2.2.2.2.2.2.2.2.2.2.2.2.2.2.2.2.2.2.2.2.2.2.2.1 hn)
      | 35, _ => exact g_tabIn (pc := 32) (tgt := 1339) C d_L_32 (by decide) (by decide) (off := 1307) (by decide) (by decide) (lc_minds C hX hL hj aX aM x m _ (hs (ys (j + 1)) (ys (j + 2)) (ys (j + 3)) (ys (j + 4))).2.2.2.2.2.2.2.2.2.2.2.2.2.2.2.2.2.2.2.2.2.2.2.2.2.2.2.2.2.2.2.2.2.2.2.1 hn)
      | 36, _ => exact g_tabIn (pc := 32) (tgt := 1392) C d_L_32 (by decide) (by decide) (off := 1360) (by decide) (by decide) (lc_sheet C hX hL hj aX aM x m _ (hs (ys (j + 1)) (ys (j + 2)) (ys (j + 3)) (ys (j + 4))).2.2.2.2.2.2.2.2.2.2.2.2.2.2.2.2.2.2.2.2.2.2.2.2.2.2.2.2.2.2.2.2.2.2.2.2.1 hn)
      | 37, _ => exact g_tabIn (pc := 32) (tgt := 1435) C d_L_32 (by decide) (by decide) (off := 1403) (by decide) (by decide) (lc_put C hX hL hj aX aM x m _ (hs (ys (j + 1)) (ys (j + 2)) (ys (j + 3)) (ys (j + 4))).2.2.2.2.2.2.2.2.2.2.2.2.2.2.2.2.2.2.2.2.2.2.2.2.2.2.2.2.2.2.2.2.2.2.2.2.2.1 hn)
      | 38, _ => exact g_tabIn (pc := 32) (tgt := 1478) C d_L_32 (by decide) (by decide) (off := 1446) (by decide) (by decide) (lc_item C hX hL hj aX aM x m _ (hs (ys (j + 1)) (ys (j + 2)) (ys (j + 3)) (ys (j + 4))).2.2.2.2.2.2.2.2.2.2.2.2.2.2.2.2.2.2.2.2.2.2.2.2.2.2.2.2.2.2.2.2.2.2.2.2.2.2.1 hn)
      | 39, _ => exact g_tabIn (pc := 32) (tgt := 1521) C d_L_32 (by decide) (by decide) (off := 1489) (by decide) (by decide) (lc_shelf C hX hL hj aX aM x m _ (hs (ys (j + 1)) (ys (j + 2)) (ys (j + 3)) (ys (j + 4))).2.2.2.2.2.2.2.2.2.2.2.2.2.2.2.2.2.2.2.2.2.2.2.2.2.2.2.2.2.2.2.2.2.2.2.2.2.2.2.1 hn)
      | 40, _ => exact g_tabIn (pc := 32) (tgt := 1564) C d_L_32 (by decide) (by decide) (off := 1532) (by decide) (by decide) (lc_taken C hX hL hj aX aM x m _ (hs (ys (j + 1)) (ys (j + 2)) (ys (j + 3)) (ys (j + 4))).2.2.2.2.2.2.2.2.2.2.2.2.2.2.2.2.2.2.2.2.2.2.2.2.2.2.2.2.2.2.2.2.2.2.2.2.2.2.2.2.1 hn)
      | 41, _ => exact g_tabIn (pc := 32) (tgt := 1597) C d_L_32 (by decide) (by decide) (off := 1565) (by decide) (by decide) (lc_act C hX hL hj aX aM x m _ (hs (ys (j + 1)) (ys (j + 2)) (ys (j + 3)) (ys (j + 4))).2.2.2.2.2.2.2.2.2.2.2.2.2.2.2.2.2.2.2.2.2.2.2.2.2.2.2.2.2.2.2.2.2.2.2.2.2.2.2.2.2.1 hn)
      | 42, _ => exact g_tabIn (pc := 32) (tgt := 1640) C d_L_32 (by decide) (by decide) (off := 1608) (by decide) (by decide) (lc_trace C hX hL hj aX aM x m _ (hs (ys (j + 1)) (ys (j + 2)) (ys (j + 3)) (ys (j + 4))).2.2.2.2.2.2.2.2.2.2.2.2.2.2.2.2.2.2.2.2.2.2.2.2.2.2.2.2.2.2.2.2.2.2.2.2.2.2.2.2.2.2.1 hn)
      | 43, _ => exact g_tabIn (pc := 32) (tgt := 1663) C d_L_32 (by decide) (by decide) (off := 1631) (by decide) (by decide) (lc_many C hX hL hj aX aM x m _ (hs (ys (j + 1)) (ys (j + 2)) (ys (j + 3)) (ys (j + 4))).2.2.2.2.2.2.2.2.2.2.2.2.2.2.2.2.2.2.2.2.2.2.2.2.2.2.2.2.2.2.2.2.2.2.2.2.2.2.2.2.2.2.2.1 hn)
      | 44, _ => exact g_tabIn (pc := 32) (tgt := 1686) C d_L_32 (by decide) (by decide) (off := 1654) (by decide) (by decide) (lc_keep C hX hL hj aX aM x m _ (hs (ys (j + 1)) (ys (j + 2)) (ys (j + 3)) (ys (j + 4))).2.2.2.2.2.2.2.2.2.2.2.2.2.2.2.2.2.2.2.2.2.2.2.2.2.2.2.2.2.2.2.2.2.2.2.2.2.2.2.2.2.2.2.2.1 hn)
      | 45, _ => exact g_tabIn (pc := 32) (tgt := 1699) C d_L_32 (by decide) (by decide) (off := 1667) (by decide) (by decide) (lc_again C hX hL hj aX aM x m _ (hs (ys (j + 1)) (ys (j + 2)) (ys (j + 3)) (ys (j + 4))).2.2.2.2.2.2.2.2.2.2.2.2.2.2.2.2.2.2.2.2.2.2.2.2.2.2.2.2.2.2.2.2.2.2.2.2.2.2.2.2.2.2.2.2.2 hn)
      | q + 46, hq =>
        have eq : (nI (q + 46)).toInt = ((q + 46 : Nat) : Int) := nI_toInt (by omega)
        exact g_tabOut (pc := 32) (tgt := 1712) C d_L_32 (by rw [eq]; omega) (by decide) (hn x m hi2)
