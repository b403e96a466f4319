def w_M_readsBarge_139  (post : Int32 → MSt → Prop)  (m : MSt) (x4 : Int32) (x5 : Int32) (s1 : Int32) (s2 : Int32) (s3 : Int32) : Prop :=
  wp_M_comes m s1 s2 s3 x4 x5 (fun v16 m_17 => (((M_token m_17) = 3) → (post 1 m_17)) ∧ ((¬ (M_token m_17) = 3) → (post 0 m_17)))
set_option maxRecDepth 20000 in
theorem j_M_readsBarge_139 {X : GX} (C : GC X b_M_readsBarge R_M 8 (rmd 4)) {Qp : Option Value → va_W → Prop} (q : RC X ((some .boolean)) Qp 0 0) (a : Nat → Nat)   (post : Int32 → MSt → Prop) (hq : ∀ v c1, post v c1 → Qp (some (.int v)) (woM (xt X) a c1)) : ∀ (m : MSt) (x4 : Int32) (x5 : Int32) (s1 : Int32) (s2 : Int32) (s3 : Int32), w_M_readsBarge_139  post  m x4 x5 s1 s2 s3 → G X 0 0 (woM (xt X) a m) [(0, .ref (a 0)), (4, .int x4), (5, .int x5)] [.int s3, .int s2, .int s1, .ref (a 0)] 139 := by
  intro m x4 x5 s1 s2 s3 hw
  unfold w_M_readsBarge_139 at hw
  refine g_iload (pc := 139) C d_M_readsBarge_139 1 rfl ?_
  refine g_iload (pc := 141) C d_M_readsBarge_141 2 rfl ?_
  refine k_Ia (pc := 143) (co_V C (c_M_comes (xl X) (xD X) (xt X) (xv X) a m s1 s2 s3 x4 x5 _ hw) mw_M_comes lk_M_114 d_M_readsBarge_143 (List.range _) (all_C _) (all_nd _) (rec_w C 0 6 rfl rfl) rfl rfl ⟨Nat.le_of_ble_eq_true rfl, Nat.le_of_ble_eq_true rfl⟩ ⟨Nat.le_of_ble_eq_true rfl, Nat.le_of_ble_eq_true rfl⟩ (rest := []) rfl rfl (Nat.le_of_ble_eq_true rfl)) (fun v16 m_17 hw => ?_)
  refine g_pop (pc := 146) C d_M_readsBarge_146 rfl ?_
  refine g_aload_n (pc := 147) C d_M_readsBarge_147 0 rfl rfl ?_
  refine fM_token (pc := 148) C lk_M_213 d_M_readsBarge_148 (v := M_token m_17) rfl ?_
  refine g_iconst (pc := 151) C (v := 3) d_M_readsBarge_151 (by decide) ?_
  refine g_icmp_ne (pc := 152) (tgt := 159) C d_M_readsBarge_152 (by decide) (fun h18 => ?_) (fun h18 => ?_)
  · replace hw := hw.2 h18
    refine g_iconst (pc := 159) C (v := 0) d_M_readsBarge_159 (by decide) ?_
    exact g_zret (pc := 160) C q d_M_readsBarge_160 (by decide) (hq _ _ hw)
  · replace hw := hw.1 h18
    refine g_iconst (pc := 155) C (v := 1) d_M_readsBarge_155 (by decide) ?_
    refine g_goto (pc := 156) (tgt := 160) C d_M_readsBarge_156 (by decide) ?_
    exact g_zret (pc := 160) C q d_M_readsBarge_160 (by decide) (hq _ _ hw)
def w_M_readsBarge_113  (post : Int32 → MSt → Prop)  (m : MSt) (x1 : Int32) (x3 : Int32) (x4 : Int32) (x5 : Int32) (x6 : Int32) (x7 : Int32) : Prop :=
  (((M_token m) = 3) → (((x3 = 0) → ((((M_token m) = 3) → (post 1 m)) ∧ ((¬ (M_token m) = 3) → (post 0 m)))) ∧ ((¬ x3 = 0) → (((x7 = 0) → (w_M_readsBarge_139  post  m x4 x5 x1 x6 0)) ∧ ((¬ x7 = 0) → (w_M_readsBarge_139  post  m x4 x5 x1 x6 1)))))) ∧ ((¬ (M_token m) = 3) → ((((M_token m) = 3) → (post 1 m)) ∧ ((¬ (M_token m) = 3) → (post 0 m))))
set_option maxRecDepth 20000 in
theorem j_M_readsBarge_113 {X : GX} (C : GC X b_M_readsBarge R_M 8 (rmd 4)) {Qp : Option Value → va_W → Prop} (q : RC X ((some .boolean)) Qp 0 0) (a : Nat → Nat)   (post : Int32 → MSt → Prop) (hq : ∀ v c1, post v c1 → Qp (some (.int v)) (woM (xt X) a c1)) : ∀ (m : MSt) (x1 : Int32) (x3 : Int32) (x4 : Int32) (x5 : Int32) (x6 : Int32) (x7 : Int32), w_M_readsBarge_113  post  m x1 x3 x4 x5 x6 x7 → G X 0 0 (woM (xt X) a m) [(0, .ref (a 0)), (1, .int x1), (3, .int x3), (4, .int x4), (5, .int x5), (6, .int x6), (7, .int x7)] [] 113 := by
  intro m x1 x3 x4 x5 x6 x7 hw
  unfold w_M_readsBarge_113 at hw
  refine g_aload_n (pc := 113) C d_M_readsBarge_113 0 rfl rfl ?_
  refine fM_token (pc := 114) C lk_M_213 d_M_readsBarge_114 (v := M_token m) rfl ?_
  refine g_iconst (pc := 117) C (v := 3) d_M_readsBarge_117 (by decide) ?_
  refine g_icmp_ne (pc := 118) (tgt := 147) C d_M_readsBarge_118 (by decide) (fun h21 => ?_) (fun h21 => ?_)
  · replace hw := hw.2 h21
    refine g_aload_n (pc := 147) C d_M_readsBarge_147 0 rfl rfl ?_
    refine fM_token (pc := 148) C lk_M_213 d_M_readsBarge_148 (v := M_token m) rfl ?_
    refine g_iconst (pc := 151) C (v := 3) d_M_readsBarge_151 (by decide) ?_
    refine g_icmp_ne (pc := 152) (tgt := 159) C d_M_readsBarge_152 (by decide) (fun h14 => ?_) (fun h14 => ?_)
    · replace hw := hw.2 h14
      refine g_iconst (pc := 159) C (v := 0) d_M_readsBarge_159 (by decide) ?_
      exact g_zret (pc := 160) C q d_M_readsBarge_160 (by decide) (hq _ _ hw)
    · replace hw := hw.1 h14
      refine g_iconst (pc := 155) C (v := 1) d_M_readsBarge_155 (by decide) ?_
      refine g_goto (pc := 156) (tgt := 160) C d_M_readsBarge_156 (by decide) ?_
      exact g_zret (pc := 160) C q d_M_readsBarge_160 (by decide) (hq _ _ hw)
  · replace hw := hw.1 h21
    refine g_iload_n (pc := 121) C d_M_readsBarge_121 2 rfl rfl ?_
    refine g_if_eq (pc := 122) (tgt := 147) C d_M_readsBarge_122 (by decide) (fun h20 => ?_) (fun h20 => ?_)
    · replace hw := hw.1 h20
      refine g_aload_n (pc := 147) C d_M_readsBarge_147 0 rfl rfl ?_
      refine fM_token (pc := 148) C lk_M_213 d_M_readsBarge_148 (v := M_token m) rfl ?_
      refine g_iconst (pc := 151) C (v := 3) d_M_readsBarge_151 (by decide) ?_
      refine g_icmp_ne (pc := 152) (tgt := 159) C d_M_readsBarge_152 (by decide) (fun h15 => ?_) (fun h15 => ?_)
      · replace hw := hw.2 h15
        refine g_iconst (pc := 159) C (v := 0) d_M_readsBarge_159 (by decide) ?_
        exact g_zret (pc := 160) C q d_M_readsBarge_160 (by decide) (hq _ _ hw)
      · replace hw := hw.1 h15
        refine g_iconst (pc := 155) C (v := 1) d_M_readsBarge_155 (by decide) ?_
        refine g_goto (pc := 156) (tgt := 160) C d_M_readsBarge_156 (by decide) ?_
        exact g_zret (pc := 160) C q d_M_readsBarge_160 (by decide) (hq _ _ hw)
    · replace hw := hw.2 h20
      refine g_aload_n (pc := 125) C d_M_readsBarge_125 0 rfl rfl ?_
      refine g_iload_n (pc := 126) C d_M_readsBarge_126 1 rfl rfl ?_
      refine g_iload (pc := 127) C d_M_readsBarge_127 5 rfl ?_
      refine g_iload (pc := 129) C d_M_readsBarge_129 6 rfl ?_
      refine g_if_eq (pc := 131) (tgt := 138) C d_M_readsBarge_131 (by decide) (fun h19 => ?_) (fun h19 => ?_)
      · replace hw := hw.1 h19
        refine g_iconst (pc := 138) C (v := 0) d_M_readsBarge_138 (by decide) ?_
        refine g_sub [0, 3, 4] (lv' := [(0, .ref (a 0)), (4, .int x4), (5, .int x5)]) rfl ?_
        exact j_M_readsBarge_139 C q a post hq  m x4 x5 x1 x6 0 hw
      · replace hw := hw.2 h19
        refine g_iconst (pc := 134) C (v := 1) d_M_readsBarge_134 (by decide) ?_
        refine g_goto (pc := 135) (tgt := 139) C d_M_readsBarge_135 (by decide) ?_
        refine g_sub [0, 3, 4] (lv' := [(0, .ref (a 0)), (4, .int x4), (5, .int x5)]) rfl ?_
        exact j_M_readsBarge_139 C q a post hq  m x4 x5 x1 x6 1 hw
def w_M_readsBarge_96  (post : Int32 → MSt → Prop)  (m : MSt) (x1 : Int32) (x3 : Int32) (x4 : Int32) (x5 : Int32) (x6 : Int32) : Prop :=
  wp_M_isWord m 9 (fun v12 m_13 => ((v12 = 0) → (w_M_readsBarge_113  post  m_13 x1 x3 x4 x5 x6 v12)) ∧ ((¬ v12 = 0) → (wp_M_next m_13 (fun m_22 => w_M_readsBarge_113  post  m_22 x1 x3 x4 x5 x6 v12))))
set_option maxRecDepth 20000 in
theorem j_M_readsBarge_96 {X : GX} (C : GC X b_M_readsBarge R_M 8 (rmd 4)) {Qp : Option Value → va_W → Prop} (q : RC X ((some .boolean)) Qp 0 0) (a : Nat → Nat)   (post : Int32 → MSt → Prop) (hq : ∀ v c1, post v c1 → Qp (some (.int v)) (woM (xt X) a c1)) : ∀ (m : MSt) (x1 : Int32) (x3 : Int32) (x4 : Int32) (x5 : Int32) (x6 : Int32), w_M_readsBarge_96  post  m x1 x3 x4 x5 x6 → G X 0 0 (woM (xt X) a m) [(0, .ref (a 0)), (1, .int x1), (3, .int x3), (4, .int x4), (5, .int x5), (6, .int x6)] [] 96 := by
  intro m x1 x3 x4 x5 x6 hw
  unfold w_M_readsBarge_96 at hw
  refine g_aload_n (pc := 96) C d_M_readsBarge_96 0 rfl rfl ?_
  refine g_bipush (pc := 97) C (v := 9) d_M_readsBarge_97 (by decide) ?_
  refine k_Ia (pc := 99) (co_V C (c_M_isWord (xl X) (xD X) (xt X) (xv X) a m 9 _ hw) mw_M_isWord lk_M_229 d_M_readsBarge_99 (List.range _) (all_C _) (all_nd _) (rec_w C 0 6 rfl rfl) rfl rfl ⟨Nat.le_of_ble_eq_true rfl, Nat.le_of_ble_eq_true rfl⟩ ⟨Nat.le_of_ble_eq_true rfl, Nat.le_of_ble_eq_true rfl⟩ (rest := []) rfl rfl (Nat.le_of_ble_eq_true rfl)) (fun v12 m_13 hw => ?_)
  refine g_istore (pc := 102) C d_M_readsBarge_102 (Nat.le_of_ble_eq_true rfl) (lv' := [(0, .ref (a 0)), (1, .int x1), (3, .int x3), (4, .int x4), (5, .int x5), (6, .int x6), (7, .int v12)]) rfl ?_
  refine g_iload (pc := 104) C d_M_readsBarge_104 6 rfl ?_
  refine g_if_eq (pc := 106) (tgt := 113) C d_M_readsBarge_106 (by decide) (fun h23 => ?_) (fun h23 => ?_)
  · replace hw := hw.1 h23
    exact j_M_readsBarge_113 C q a post hq  m_13 x1 x3 x4 x5 x6 v12 hw
  · replace hw := hw.2 h23
    refine g_aload_n (pc := 109) C d_M_readsBarge_109 0 rfl rfl ?_
    refine k_Va (pc := 110) (co_V C (c_M_next (xl X) (xD X) (xt X) (xv X) a m_13 _ hw) mw_M_next lk_M_223 d_M_readsBarge_110 (List.range _) (all_C _) (all_nd _) (rec_w C 0 6 rfl rfl) rfl rfl ⟨Nat.le_of_ble_eq_true rfl, Nat.le_of_ble_eq_true rfl⟩ ⟨Nat.le_of_ble_eq_true rfl, Nat.le_of_ble_eq_true rfl⟩ (rest := []) rfl rfl (Nat.le_of_ble_eq_true rfl)) (fun m_22 hw => ?_)
    exact j_M_readsBarge_113 C q a post hq  m_22 x1 x3 x4 x5 x6 v12 hw
def wp_M_readsBarge (m : MSt) (x1 : Int32) (x2 : Int32) (x3 : Int32) (post : Int32 → MSt → Prop) : Prop :=
  ((x2 = 8) → (post 0 m)) ∧ ((¬ x2 = 8) → (wp_M_readsWord m 6 (fun v1 m_2 => ((v1 = 0) → (post 0 m_2)) ∧ ((¬ v1 = 0) → (wp_M_reads m_2 9 (fun v3 m_4 => ((v3 = 0) → (post 0 m_4)) ∧ ((¬ v3 = 0) → (wp_M_readsWord m_4 7 (fun v5 m_6 => ((v5 = 0) → (post 0 m_6)) ∧ ((¬ v5 = 0) → (wp_M_reads m_6 9 (fun v7 m_8 => ((v7 = 0) → (post 0 m_8)) ∧ ((¬ v7 = 0) → (wp_M_next m_8 (fun m_9 => wp_M_isWord m_9 8 (fun v10 m_11 => ((v10 = 0) → (w_M_readsBarge_96  post  m_11 x1 x3 (M_told m_4) (M_told m_8) 50)) ∧ ((¬ v10 = 0) → (wp_M_reads m_11 99 (fun v24 m_25 => ((v24 = 0) → (post 0 m_25)) ∧ ((¬ v24 = 0) → (wp_M_next m_25 (fun m_26 => w_M_readsBarge_96  post  m_26 x1 x3 (M_told m_4) (M_told m_8) (M_told m_25)))))))))))))))))))))))
set_option maxRecDepth 20000 in
theorem g_M_readsBarge {X : GX} (C : GC X b_M_readsBarge R_M 8 (rmd 4)) {Qp : Option Value → va_W → Prop} (q : RC X ((some .boolean)) Qp 0 0) (a : Nat → Nat) (m : MSt) (x1 : Int32) (x2 : Int32) (x3 : Int32) (post : Int32 → MSt → Prop) (hq : ∀ v c1, post v c1 → Qp (some (.int v)) (woM (xt X) a c1)) (hw : wp_M_readsBarge m x1 x2 x3 post) : G X 0 0 (woM (xt X) a m) [(0, .ref (a 0)), (1, .int x1), (2, .int x2), (3, .int x3)] [] 0 := by
  unfold wp_M_readsBarge at hw
  refine g_iload_n (pc := 0) C d_M_readsBarge_0 2 rfl rfl ?_
  refine g_bipush (pc := 1) C (v := 8) d_M_readsBarge_1 (by decide) ?_
  refine g_icmp_eq (pc := 3) (tgt := 24) C d_M_readsBarge_3 (by decide) (fun h33 => ?_) (fun h33 => ?_)
  · replace hw := hw.1 h33
    refine g_iconst (pc := 24) C (v := 0) d_M_readsBarge_24 (by decide) ?_
    exact g_zret (pc := 25) C q d_M_readsBarge_25 (by decide) (hq _ _ hw)
  · replace hw := hw.2 h33
    refine g_aload_n (pc := 6) C d_M_readsBarge_6 0 rfl rfl ?_
    refine g_bipush (pc := 7) C (v := 6) d_M_readsBarge_7 (by decide) ?_
    refine k_Ia (pc := 9) (co_V C (c_M_readsWord (xl X) (xD X) (xt X) (xv X) a m 6 _ hw) mw_M_readsWord lk_M_232 d_M_readsBarge_9 (List.range _) (all_C _) (all_nd _) (rec_w C 0 6 rfl rfl) rfl rfl ⟨Nat.le_of_ble_eq_true rfl, Nat.le_of_ble_eq_true rfl⟩ ⟨Nat.le_of_ble_eq_true rfl, Nat.le_of_ble_eq_true rfl⟩ (rest := []) rfl rfl (Nat.le_of_ble_eq_true rfl)) (fun v1 m_2 hw => ?_)
    refine g_if_eq (pc := 12) (tgt := 24) C d_M_readsBarge_12 (by decide) (fun h32 => ?_) (fun h32 => ?_)
    · replace hw := hw.1 h32
      refine g_iconst (pc := 24) C (v := 0) d_M_readsBarge_24 (by decide) ?_
      exact g_zret (pc := 25) C q d_M_readsBarge_25 (by decide) (hq _ _ hw)
    · replace hw := hw.2 h32
      refine g_aload_n (pc := 15) C d_M_readsBarge_15 0 rfl rfl ?_
      refine g_bipush (pc := 16) C (v := 9) d_M_readsBarge_16 (by decide) ?_
      refine k_Ia (pc := 18) (co_V C (c_M_reads (xl X) (xD X) (xt X) (xv X) a m_2 9 _ hw) mw_M_reads lk_M_235 d_M_readsBarge_18 (List.range _) (all_C _) (all_nd _) (rec_w C 0 6 rfl rfl) rfl rfl ⟨Nat.le_of_ble_eq_true rfl, Nat.le_of_ble_eq_true rfl⟩ ⟨Nat.le_of_ble_eq_true rfl, Nat.le_of_ble_eq_true rfl⟩ (rest := []) rfl rfl (Nat.le_of_ble_eq_true rfl)) (fun v3 m_4 hw => ?_)
      refine g_if_ne (pc := 21) (tgt := 26) C d_M_readsBarge_21 (by decide) (fun h31 => ?_) (fun h31 => ?_)
      · replace hw := hw.2 h31
        refine g_aload_n (pc := 26) C d_M_readsBarge_26 0 rfl rfl ?_
        refine fM_told (pc := 27) C lk_M_226 d_M_readsBarge_27 (v := M_told m_4) rfl ?_
        refine g_istore (pc := 30) C d_M_readsBarge_30 (Nat.le_of_ble_eq_true rfl) (lv' := [(0, .ref (a 0)), (1, .int x1), (2, .int x2), (3, .int x3), (4, .int (M_told m_4))]) rfl ?_
        refine g_aload_n (pc := 32) C d_M_readsBarge_32 0 rfl rfl ?_
        refine g_bipush (pc := 33) C (v := 7) d_M_readsBarge_33 (by decide) ?_
        refine k_Ia (pc := 35) (co_V C (c_M_readsWord (xl X) (xD X) (xt X) (xv X) a m_4 7 _ hw) mw_M_readsWord lk_M_232 d_M_readsBarge_35 (List.range _) (all_C _) (all_nd _) (rec_w C 0 6 rfl rfl) rfl rfl ⟨Nat.le_of_ble_eq_true rfl, Nat.le_of_ble_eq_true rfl⟩ ⟨Nat.le_of_ble_eq_true rfl, Nat.le_of_ble_eq_true rfl⟩ (rest := []) rfl rfl (Nat.le_of_ble_eq_true rfl)) (fun v5 m_6 hw => ?_)
        refine g_if_eq (pc := 38) (tgt := 50) C d_M_readsBarge_38 (by decide) (fun h30 => ?_) (fun h30 => ?_)
        · replace hw := hw.1 h30
          refine g_iconst (pc := 50) C (v := 0) d_M_readsBarge_50 (by decide) ?_
          exact g_zret (pc := 51) C q d_M_readsBarge_51 (by decide) (hq _ _ hw)
        · replace hw := hw.2 h30
          refine g_aload_n (pc := 41) C d_M_readsBarge_41 0 rfl rfl ?_
          refine g_bipush (pc := 42) C (v := 9) d_M_readsBarge_42 (by decide) ?_
          refine k_Ia (pc := 44) (co_V C (c_M_reads (xl X) (xD X) (xt X) (xv X) a m_6 9 _ hw) mw_M_reads lk_M_235 d_M_readsBarge_44 (List.range _) (all_C _) (all_nd _) (rec_w C 0 6 rfl rfl) rfl rfl ⟨Nat.le_of_ble_eq_true rfl, Nat.le_of_ble_eq_true rfl⟩ ⟨Nat.le_of_ble_eq_true rfl, Nat.le_of_ble_eq_true rfl⟩ (rest := []) rfl rfl (Nat.le_of_ble_eq_true rfl)) (fun v7 m_8 hw => ?_)
          refine g_if_ne (pc := 47) (tgt := 52) C d_M_readsBarge_47 (by decide) (fun h29 => ?_) (fun h29 => ?_)
          · replace hw := hw.2 h29
            refine g_aload_n (pc := 52) C d_M_readsBarge_52 0 rfl rfl ?_
            refine fM_told (pc := 53) C lk_M_226 d_M_readsBarge_53 (v := M_told m_8) rfl ?_
            refine g_istore (pc := 56) C d_M_readsBarge_56 (Nat.le_of_ble_eq_true rfl) (lv' := [(0, .ref (a 0)), (1, .int x1), (2, .int x2), (3, .int x3), (4, .int (M_told m_4)), (5, .int (M_told m_8))]) rfl ?_
            refine g_bipush (pc := 58) C (v := 50) d_M_readsBarge_58 (by decide) ?_
            refine g_istore (pc := 60) C d_M_readsBarge_60 (Nat.le_of_ble_eq_true rfl) (lv' := [(0, .ref (a 0)), (1, .int x1), (2, .int x2), (3, .int x3), (4, .int (M_told m_4)), (5, .int (M_told m_8)), (6, .int 50)]) rfl ?_
            refine g_aload_n (pc := 62) C d_M_readsBarge_62 0 rfl rfl ?_
            refine k_Va (pc := 63) (co_V C (c_M_next (xl X) (xD X) (xt X) (xv X) a m_8 _ hw) mw_M_next lk_M_223 d_M_readsBarge_63 (List.range _) (all_C _) (all_nd _) (rec_w C 0 6 rfl rfl) rfl rfl ⟨Nat.le_of_ble_eq_true rfl, Nat.le_of_ble_eq_true rfl⟩ ⟨Nat.le_of_ble_eq_true rfl, Nat.le_of_ble_eq_true rfl⟩ (rest := []) rfl rfl (Nat.le_of_ble_eq_true rfl)) (fun m_9 hw => ?_)
            refine g_aload_n (pc := 66) C d_M_readsBarge_66 0 rfl rfl ?_
            refine g_bipush (pc := 67) C (v := 8) d_M_readsBarge_67 (by decide) ?_
            refine k_Ia (pc := 69) (co_V C (c_M_isWord (xl X) (xD X) (xt X) (xv X) a m_9 8 _ hw) mw_M_isWord lk_M_229 d_M_readsBarge_69 (List.range _) (all_C _) (all_nd _) (rec_w C 0 6 rfl rfl) rfl rfl ⟨Nat.le_of_ble_eq_true rfl, Nat.le_of_ble_eq_true rfl⟩ ⟨Nat.le_of_ble_eq_true rfl, Nat.le_of_ble_eq_true rfl⟩ (rest := []) rfl rfl (Nat.le_of_ble_eq_true rfl)) (fun v10 m_11 hw => ?_)
            refine g_if_eq (pc := 72) (tgt := 96) C d_M_readsBarge_72 (by decide) (fun h28 => ?_) (fun h28 => ?_)
            · replace hw := hw.1 h28
              refine g_sub [0, 1, 3, 4, 5, 6] (lv' := [(0, .ref (a 0)), (1, .int x1), (3, .int x3), (4, .int (M_told m_4)), (5, .int (M_told m_8)), (6, .int 50)]) rfl ?_
              exact j_M_readsBarge_96 C q a post hq  m_11 x1 x3 (M_told m_4) (M_told m_8) 50 hw
            · replace hw := hw.2 h28
              refine g_aload_n (pc := 75) C d_M_readsBarge_75 0 rfl rfl ?_
              refine g_bipush (pc := 76) C (v := 99) d_M_readsBarge_76 (by decide) ?_
              refine k_Ia (pc := 78) (co_V C (c_M_reads (xl X) (xD X) (xt X) (xv X) a m_11 99 _ hw) mw_M_reads lk_M_235 d_M_readsBarge_78 (List.range _) (all_C _) (all_nd _) (rec_w C 0 6 rfl rfl) rfl rfl ⟨Nat.le_of_ble_eq_true rfl, Nat.le_of_ble_eq_true rfl⟩ ⟨Nat.le_of_ble_eq_true rfl, Nat.le_of_ble_eq_true rfl⟩ (rest := []) rfl rfl (Nat.le_of_ble_eq_true rfl)) (fun v24 m_25 hw => ?_)
              refine g_if_ne (pc := 81) (tgt := 86) C d_M_readsBarge_81 (by decide) (fun h27 => ?_) (fun h27 => ?_)
              · replace hw := hw.2 h27
                refine g_aload_n (pc := 86) C d_M_readsBarge_86 0 rfl rfl ?_
                refine fM_told (pc := 87) C lk_M_226 d_M_readsBarge_87 (v := M_told m_25) rfl ?_
                refine g_istore (pc := 90) C d_M_readsBarge_90 (Nat.le_of_ble_eq_true rfl) (lv' := [(0, .ref (a 0)), (1, .int x1), (2, .int x2), (3, .int x3), (4, .int (M_told m_4)), (5, .int (M_told m_8)), (6, .int (M_told m_25))]) rfl ?_
                refine g_aload_n (pc := 92) C d_M_readsBarge_92 0 rfl rfl ?_
                refine k_Va (pc := 93) (co_V C (c_M_next (xl X) (xD X) (xt X) (xv X) a m_25 _ hw) mw_M_next lk_M_223 d_M_readsBarge_93 (List.range _) (all_C _) (all_nd _) (rec_w C 0 6 rfl rfl) rfl rfl ⟨Nat.le_of_ble_eq_true rfl, Nat.le_of_ble_eq_true rfl⟩ ⟨Nat.le_of_ble_eq_true rfl, Nat.le_of_ble_eq_true rfl⟩ (rest := []) rfl rfl (Nat.le_of_ble_eq_true rfl)) (fun m_26 hw => ?_)
                refine g_sub [0, 1, 3, 4, 5, 6] (lv' := [(0, .ref (a 0)), (1, .int x1), (3, .int x3), (4, .int (M_told m_4)), (5, .int (M_told m_8)), (6, .int (M_told m_25))]) rfl ?_
                exact j_M_readsBarge_96 C q a post hq  m_26 x1 x3 (M_told m_4) (M_told m_8) (M_told m_25) hw
              · replace hw := hw.1 h27
                refine g_iconst (pc := 84) C (v := 0) d_M_readsBarge_84 (by decide) ?_
                exact g_zret (pc := 85) C q d_M_readsBarge_85 (by decide) (hq _ _ hw)
          · replace hw := hw.1 h29
            refine g_iconst (pc := 50) C (v := 0) d_M_readsBarge_50 (by decide) ?_
            exact g_zret (pc := 51) C q d_M_readsBarge_51 (by decide) (hq _ _ hw)
      · replace hw := hw.1 h31
        refine g_iconst (pc := 24) C (v := 0) d_M_readsBarge_24 (by decide) ?_
        exact g_zret (pc := 25) C q d_M_readsBarge_25 (by decide) (hq _ _ hw)
set_option maxRecDepth 20000 in
theorem c_M_readsBarge (l : Launch) (D : va_G) (t : Nat → ClassId) (ev : Nat → Nat) (a : Nat → Nat) (m : MSt) (x1 : Int32) (x2 : Int32) (x3 : Int32) (post : Int32 → MSt → Prop) (hw : wp_M_readsBarge m x1 x2 x3 post) : Con l D t ev y_M_readsBarge b_M_readsBarge 8 ((some .boolean)) 4 (woM t a m) [.ref (a 0), .int x1, .int x2, .int x3] (qI (woM t a)  post) :=
  ConR.of (by decide +kernel) (Nat.le_of_ble_eq_true rfl) (fun X el eD et ee C q _ => by subst el; subst eD; subst et; subst ee; exact g_M_readsBarge C q a m x1 x2 x3 post (fun v c1 h => ⟨⟨v, c1, rfl, rfl, h⟩, rfl⟩) hw)
def wp_M_readsNoise (m : MSt) (x1 : Int32) (post : Int32 → MSt → Prop) : Prop :=
  wp_M_reads m 9 (fun v1 m_2 => ((v1 = 0) → (post 0 m_2)) ∧ ((¬ v1 = 0) → (wp_M_readsWord m_2 10 (fun v3 m_4 => ((v3 = 0) → (post 0 m_4)) ∧ ((¬ v3 = 0) → (wp_M_reads m_4 9 (fun v5 m_6 => ((v5 = 0) → (post 0 m_6)) ∧ ((¬ v5 = 0) → (wp_M_next m_6 (fun m_7 => (((M_token m_7) = 3) → (((x1 = 0) → ((((M_token m_7) = 3) → (post 1 m_7)) ∧ ((¬ (M_token m_7) = 3) → (post 0 m_7)))) ∧ ((¬ x1 = 0) → (∀ y10 : Int32, y10 = 7 + (M_told m_2) → (vp_in y10 67 ∧ ((((M_token m_7) = 3) → (post 1 (M_d_ m_7 (upd (M_d m_7) y10.toNatClampNeg (M_told m_6))))) ∧ ((¬ (M_token m_7) = 3) → (post 0 (M_d_ m_7 (upd (M_d m_7) y10.toNatClampNeg (M_told m_6))))))))))) ∧ ((¬ (M_token m_7) = 3) → ((((M_token m_7) = 3) → (post 1 m_7)) ∧ ((¬ (M_token m_7) = 3) → (post 0 m_7))))))))))))))
set_option maxRecDepth 20000 in
theorem g_M_readsNoise {X : GX} (C : GC X b_M_readsNoise R_M 4 (rmd 4)) {Qp : Option Value → va_W → Prop} (q : RC X ((some .boolean)) Qp 0 0) (a : Nat → Nat) (m : MSt) (x1 : Int32) (post : Int32 → MSt → Prop) (hq : ∀ v c1, post v c1 → Qp (some (.int v)) (woM (xt X) a c1)) (hw : wp_M_readsNoise m x1 post) : G X 0 0 (woM (xt X) a m) [(0, .ref (a 0)), (1, .int x1)] [] 0 := by
  unfold wp_M_readsNoise at hw
  refine g_aload_n (pc := 0) C d_M_readsNoise_0 0 rfl rfl ?_
  refine g_bipush (pc := 1) C (v := 9) d_M_readsNoise_1 (by decide) ?_
  refine k_Ia (pc := 3) (co_V C (c_M_reads (xl X) (xD X) (xt X) (xv X) a m 9 _ hw) mw_M_reads lk_M_235 d_M_readsNoise_3 (List.range _) (all_C _) (all_nd _) (rec_w C 0 6 rfl rfl) rfl rfl ⟨Nat.le_of_ble_eq_true rfl, Nat.le_of_ble_eq_true rfl⟩ ⟨Nat.le_of_ble_eq_true rfl, Nat.le_of_ble_eq_true rfl⟩ (rest := []) rfl rfl (Nat.le_of_ble_eq_true rfl)) (fun v1 m_2 hw => ?_)
  refine g_if_ne (pc := 6) (tgt := 11) C d_M_readsNoise_6 (by decide) (fun h17 => ?_) (fun h17 => ?_)
  · replace hw := hw.2 h17
    refine g_aload_n (pc := 11) C d_M_readsNoise_11 0 rfl rfl ?_
    refine fM_told (pc := 12) C lk_M_226 d_M_readsNoise_12 (v := M_told m_2) rfl ?_
    refine g_istore_n (pc := 15) C d_M_readsNoise_15 rfl (Nat.le_of_ble_eq_true rfl) (lv' := [(0, .ref (a 0)), (1, .int x1), (2, .int (M_told m_2))]) rfl ?_
    refine g_aload_n (pc := 16) C d_M_readsNoise_16 0 rfl rfl ?_
    refine g_bipush (pc := 17) C (v := 10) d_M_readsNoise_17 (by decide) ?_
    refine k_Ia (pc := 19) (co_V C (c_M_readsWord (xl X) (xD X) (xt X) (xv X) a m_2 10 _ hw) mw_M_readsWord lk_M_232 d_M_readsNoise_19 (List.range _) (all_C _) (all_nd _) (rec_w C 0 6 rfl rfl) rfl rfl ⟨Nat.le_of_ble_eq_true rfl, Nat.le_of_ble_eq_true rfl⟩ ⟨Nat.le_of_ble_eq_true rfl, Nat.le_of_ble_eq_true rfl⟩ (rest := []) rfl rfl (Nat.le_of_ble_eq_true rfl)) (fun v3 m_4 hw => ?_)
    refine g_if_eq (pc := 22) (tgt := 34) C d_M_readsNoise_22 (by decide) (fun h16 => ?_) (fun h16 => ?_)
    · replace hw := hw.1 h16
      refine g_iconst (pc := 34) C (v := 0) d_M_readsNoise_34 (by decide) ?_
      exact g_zret (pc := 35) C q d_M_readsNoise_35 (by decide) (hq _ _ hw)
    · replace hw := hw.2 h16
      refine g_aload_n (pc := 25) C d_M_readsNoise_25 0 rfl rfl ?_
      refine g_bipush (pc := 26) C (v := 9) d_M_readsNoise_26 (by decide) ?_
      refine k_Ia (pc := 28) (co_V C (c_M_reads (xl X) (xD X) (xt X) (xv X) a m_4 9 _ hw) mw_M_reads lk_M_235 d_M_readsNoise_28 (List.range _) (all_C _) (all_nd _) (rec_w C 0 6 rfl rfl) rfl rfl ⟨Nat.le_of_ble_eq_true rfl, Nat.le_of_ble_eq_true rfl⟩ ⟨Nat.le_of_ble_eq_true rfl, Nat.le_of_ble_eq_true rfl⟩ (rest := []) rfl rfl (Nat.le_of_ble_eq_true rfl)) (fun v5 m_6 hw => ?_)
      refine g_if_ne (pc := 31) (tgt := 36) C d_M_readsNoise_31 (by decide) (fun h15 => ?_) (fun h15 => ?_)
      · replace hw := hw.2 h15
        refine g_aload_n (pc := 36) C d_M_readsNoise_36 0 rfl rfl ?_
        refine fM_told (pc := 37) C lk_M_226 d_M_readsNoise_37 (v := M_told m_6) rfl ?_
        refine g_istore_n (pc := 40) C d_M_readsNoise_40 rfl (Nat.le_of_ble_eq_true rfl) (lv' := [(0, .ref (a 0)), (1, .int x1), (2, .int (M_told m_2)), (3, .int (M_told m_6))]) rfl ?_
        refine g_aload_n (pc := 41) C d_M_readsNoise_41 0 rfl rfl ?_
        refine k_Va (pc := 42) (co_V C (c_M_next (xl X) (xD X) (xt X) (xv X) a m_6 _ hw) mw_M_next lk_M_223 d_M_readsNoise_42 (List.range _) (all_C _) (all_nd _) (rec_w C 0 6 rfl rfl) rfl rfl ⟨Nat.le_of_ble_eq_true rfl, Nat.le_of_ble_eq_true rfl⟩ ⟨Nat.le_of_ble_eq_true rfl, Nat.le_of_ble_eq_true rfl⟩ (rest := []) rfl rfl (Nat.le_of_ble_eq_true rfl)) (fun m_7 hw => ?_)
        refine g_aload_n (pc := 45) C d_M_readsNoise_45 0 rfl rfl ?_
        refine fM_token (pc := 46) C lk_M_213 d_M_readsNoise_46 (v := M_token m_7) rfl ?_
        refine g_iconst (pc := 49) C (v := 3) d_M_readsNoise_49 (by decide) ?_
        refine g_icmp_ne (pc := 50) (tgt := 67) C d_M_readsNoise_50 (by decide) (fun h14 => ?_) (fun h14 => ?_)
        · replace hw := hw.2 h14
          refine g_aload_n (pc := 67) C d_M_readsNoise_67 0 rfl rfl ?_
          refine fM_token (pc := 68) C lk_M_213 d_M_readsNoise_68 (v := M_token m_7) rfl ?_
          refine g_iconst (pc := 71) C (v := 3) d_M_readsNoise_71 (by decide) ?_
          refine g_icmp_ne (pc := 72) (tgt := 79) C d_M_readsNoise_72 (by decide) (fun h8 => ?_) (fun h8 => ?_)
          · replace hw := hw.2 h8
            refine g_iconst (pc := 79) C (v := 0) d_M_readsNoise_79 (by decide) ?_
            exact g_zret (pc := 80) C q d_M_readsNoise_80 (by decide) (hq _ _ hw)
          · replace hw := hw.1 h8
            refine g_iconst (pc := 75) C (v := 1) d_M_readsNoise_75 (by decide) ?_
            refine g_goto (pc := 76) (tgt := 80) C d_M_readsNoise_76 (by decide) ?_
            exact g_zret (pc := 80) C q d_M_readsNoise_80 (by decide) (hq _ _ hw)
        · replace hw := hw.1 h14
          refine g_iload_n (pc := 53) C d_M_readsNoise_53 1 rfl rfl ?_
          refine g_if_eq (pc := 54) (tgt := 67) C d_M_readsNoise_54 (by decide) (fun h13 => ?_) (fun h13 => ?_)
          · replace hw := hw.1 h13
            refine g_aload_n (pc := 67) C d_M_readsNoise_67 0 rfl rfl ?_
            refine fM_token (pc := 68) C lk_M_213 d_M_readsNoise_68 (v := M_token m_7) rfl ?_
            refine g_iconst (pc := 71) C (v := 3) d_M_readsNoise_71 (by decide) ?_
            refine g_icmp_ne (pc := 72) (tgt := 79) C d_M_readsNoise_72 (by decide) (fun h9 => ?_) (fun h9 => ?_)
            · replace hw := hw.2 h9
              refine g_iconst (pc := 79) C (v := 0) d_M_readsNoise_79 (by decide) ?_
              exact g_zret (pc := 80) C q d_M_readsNoise_80 (by decide) (hq _ _ hw)
            · replace hw := hw.1 h9
              refine g_iconst (pc := 75) C (v := 1) d_M_readsNoise_75 (by decide) ?_
              refine g_goto (pc := 76) (tgt := 80) C d_M_readsNoise_76 (by decide) ?_
              exact g_zret (pc := 80) C q d_M_readsNoise_80 (by decide) (hq _ _ hw)
          · replace hw := hw.2 h13
            refine g_aload_n (pc := 57) C d_M_readsNoise_57 0 rfl rfl ?_
            refine fM_d (pc := 58) C lk_M_7 d_M_readsNoise_58 ?_
            refine g_bipush (pc := 61) C (v := 7) d_M_readsNoise_61 (by decide) ?_
            refine g_iload_n (pc := 63) C d_M_readsNoise_63 2 rfl rfl ?_
            refine g_iadd (pc := 64) C d_M_readsNoise_64 ?_
            refine g_topi (fun y10 ey10 => ?_)
            replace hw := hw y10 ey10
            refine g_iload_n (pc := 65) C d_M_readsNoise_65 3 rfl rfl ?_
            obtain ⟨h11, hw⟩ := hw
            refine sM_d (pc := 66) C d_M_readsNoise_66 (f := M_d m_7) rfl (N0 := y10.toNatClampNeg) rfl h11 ?_
            refine g_aload_n (pc := 67) C d_M_readsNoise_67 0 rfl rfl ?_
            refine fM_token (pc := 68) C lk_M_213 d_M_readsNoise_68 (v := M_token m_7) rfl ?_
            refine g_iconst (pc := 71) C (v := 3) d_M_readsNoise_71 (by decide) ?_
            refine g_icmp_ne (pc := 72) (tgt := 79) C d_M_readsNoise_72 (by decide) (fun h12 => ?_) (fun h12 => ?_)
            · replace hw := hw.2 h12
              refine g_iconst (pc := 79) C (v := 0) d_M_readsNoise_79 (by decide) ?_
              exact g_zret (pc := 80) C q d_M_readsNoise_80 (by decide) (hq _ _ hw)
            · replace hw := hw.1 h12
              refine g_iconst (pc := 75) C (v := 1) d_M_readsNoise_75 (by decide) ?_
              refine g_goto (pc := 76) (tgt := 80) C d_M_readsNoise_76 (by decide) ?_
              exact g_zret (pc := 80) C q d_M_readsNoise_80 (by decide) (hq _ _ hw)
      · replace hw := hw.1 h15
        refine g_iconst (pc := 34) C (v := 0) d_M_readsNoise_34 (by decide) ?_
        exact g_zret (pc := 35) C q d_M_readsNoise_35 (by decide) (hq _ _ hw)
  · replace hw := hw.1 h17
    refine g_iconst (pc := 9) C (v := 0) d_M_readsNoise_9 (by decide) ?_
    exact g_zret (pc := 10) C q d_M_readsNoise_10 (by decide) (hq _ _ hw)
set_option maxRecDepth 20000 in
theorem c_M_readsNoise (l : Launch) (D : va_G) (t : Nat → ClassId) (ev : Nat → Nat) (a : Nat → Nat) (m : MSt) (x1 : Int32) (post : Int32 → MSt → Prop) (hw : wp_M_readsNoise m x1 post) : Con l D t ev y_M_readsNoise b_M_readsNoise 4 ((some .boolean)) 4 (woM t a m) [.ref (a 0), .int x1] (qI (woM t a)  post) :=
  ConR.of (by decide +kernel) (Nat.le_of_ble_eq_true rfl) (fun X el eD et ee C q _ => by subst el; subst eD; subst et; subst ee; exact g_M_readsNoise C q a m x1 post (fun v c1 h => ⟨⟨v, c1, rfl, rfl, h⟩, rfl⟩) hw)
def w_M_readsLaw_13  (post : Int32 → MSt → Prop)  (m : MSt) (x1 : Int32) (x2 : Int32) (s1 : Int32) : Prop :=
  wp_M_reads m s1 (fun v1 m_2 => ((v1 = 0) → (post 0 m_2)) ∧ ((¬ v1 = 0) → (wp_M_next m_2 (fun m_3 => (((M_token m_3) = 3) → (((x2 = 0) → ((((M_token m_3) = 3) → (post 1 m_3)) ∧ ((¬ (M_token m_3) = 3) → (post 0 m_3)))) ∧ ((¬ x2 = 0) → (vp_in x1 67 ∧ ((((M_token m_3) = 3) → (post 1 (M_d_ m_3 (upd (M_d m_3) x1.toNatClampNeg (M_told m_2))))) ∧ ((¬ (M_token m_3) = 3) → (post 0 (M_d_ m_3 (upd (M_d m_3) x1.toNatClampNeg (M_told m_2)))))))))) ∧ ((¬ (M_token m_3) = 3) → ((((M_token m_3) = 3) → (post 1 m_3)) ∧ ((¬ (M_token m_3) = 3) → (post 0 m_3))))))))
set_option maxRecDepth 20000 in
theorem j_M_readsLaw_13 {X : GX} (C : GC X b_M_readsLaw R_M 4 (rmd 4)) {Qp : Option Value → va_W → Prop} (q : RC X ((some .boolean)) Qp 0 0) (a : Nat → Nat)   (post : Int32 → MSt → Prop) (hq : ∀ v c1, post v c1 → Qp (some (.int v)) (woM (xt X) a c1)) : ∀ (m : MSt) (x1 : Int32) (x2 : Int32) (s1 : Int32), w_M_readsLaw_13  post  m x1 x2 s1 → G X 0 0 (woM (xt X) a m) [(0, .ref (a 0)), (1, .int x1), (2, .int x2)] [.int s1, .ref (a 0)] 13 := by
  intro m x1 x2 s1 hw
  unfold w_M_readsLaw_13 at hw
  refine k_Ia (pc := 13) (co_V C (c_M_reads (xl X) (xD X) (xt X) (xv X) a m s1 _ hw) mw_M_reads lk_M_235 d_M_readsLaw_13 (List.range _) (all_C _) (all_nd _) (rec_w C 0 6 rfl rfl) rfl rfl ⟨Nat.le_of_ble_eq_true rfl, Nat.le_of_ble_eq_true rfl⟩ ⟨Nat.le_of_ble_eq_true rfl, Nat.le_of_ble_eq_true rfl⟩ (rest := []) rfl rfl (Nat.le_of_ble_eq_true rfl)) (fun v1 m_2 hw => ?_)
  refine g_if_ne (pc := 16) (tgt := 21) C d_M_readsLaw_16 (by decide) (fun h10 => ?_) (fun h10 => ?_)
  · replace hw := hw.2 h10
    refine g_aload_n (pc := 21) C d_M_readsLaw_21 0 rfl rfl ?_
    refine fM_told (pc := 22) C lk_M_226 d_M_readsLaw_22 (v := M_told m_2) rfl ?_
    refine g_istore_n (pc := 25) C d_M_readsLaw_25 rfl (Nat.le_of_ble_eq_true rfl) (lv' := [(0, .ref (a 0)), (1, .int x1), (2, .int x2), (3, .int (M_told m_2))]) rfl ?_
    refine g_aload_n (pc := 26) C d_M_readsLaw_26 0 rfl rfl ?_
    refine k_Va (pc := 27) (co_V C (c_M_next (xl X) (xD X) (xt X) (xv X) a m_2 _ hw) mw_M_next lk_M_223 d_M_readsLaw_27 (List.range _) (all_C _) (all_nd _) (rec_w C 0 6 rfl rfl) rfl rfl ⟨Nat.le_of_ble_eq_true rfl, Nat.le_of_ble_eq_true rfl⟩ ⟨Nat.le_of_ble_eq_true rfl, Nat.le_of_ble_eq_true rfl⟩ (rest := []) rfl rfl (Nat.le_of_ble_eq_true rfl)) (fun m_3 hw => ?_)
    refine g_aload_n (pc := 30) C d_M_readsLaw_30 0 rfl rfl ?_
    refine fM_token (pc := 31) C lk_M_213 d_M_readsLaw_31 (v := M_token m_3) rfl ?_
    refine g_iconst (pc := 34) C (v := 3) d_M_readsLaw_34 (by decide) ?_
    refine g_icmp_ne (pc := 35) (tgt := 49) C d_M_readsLaw_35 (by decide) (fun h9 => ?_) (fun h9 => ?_)
    · replace hw := hw.2 h9
      refine g_aload_n (pc := 49) C d_M_readsLaw_49 0 rfl rfl ?_
      refine fM_token (pc := 50) C lk_M_213 d_M_readsLaw_50 (v := M_token m_3) rfl ?_
      refine g_iconst (pc := 53) C (v := 3) d_M_readsLaw_53 (by decide) ?_
      refine g_icmp_ne (pc := 54) (tgt := 61) C d_M_readsLaw_54 (by decide) (fun h4 => ?_) (fun h4 => ?_)
      · replace hw := hw.2 h4
        refine g_iconst (pc := 61) C (v := 0) d_M_readsLaw_61 (by decide) ?_
        exact g_zret (pc := 62) C q d_M_readsLaw_62 (by decide) (hq _ _ hw)
      · replace hw := hw.1 h4
        refine g_iconst (pc := 57) C (v := 1) d_M_readsLaw_57 (by decide) ?_
        refine g_goto (pc := 58) (tgt := 62) C d_M_readsLaw_58 (by decide) ?_
        exact g_zret (pc := 62) C q d_M_readsLaw_62 (by decide) (hq _ _ hw)
    · replace hw := hw.1 h9
      refine g_iload_n (pc := 38) C d_M_readsLaw_38 2 rfl rfl ?_
      refine g_if_eq (pc := 39) (tgt := 49) C d_M_readsLaw_39 (by decide) (fun h8 => ?_) (fun h8 => ?_)
      · replace hw := hw.1 h8
        refine g_aload_n (pc := 49) C d_M_readsLaw_49 0 rfl rfl ?_
        refine fM_token (pc := 50) C lk_M_213 d_M_readsLaw_50 (v := M_token m_3) rfl ?_
        refine g_iconst (pc := 53) C (v := 3) d_M_readsLaw_53 (by decide) ?_
        refine g_icmp_ne (pc := 54) (tgt := 61) C d_M_readsLaw_54 (by decide) (fun h5 => ?_) (fun h5 => ?_)
        · replace hw := hw.2 h5
          refine g_iconst (pc := 61) C (v := 0) d_M_readsLaw_61 (by decide) ?_
          exact g_zret (pc := 62) C q d_M_readsLaw_62 (by decide) (hq _ _ hw)
        · replace hw := hw.1 h5
          refine g_iconst (pc := 57) C (v := 1) d_M_readsLaw_57 (by decide) ?_
          refine g_goto (pc := 58) (tgt := 62) C d_M_readsLaw_58 (by decide) ?_
          exact g_zret (pc := 62) C q d_M_readsLaw_62 (by decide) (hq _ _ hw)
      · replace hw := hw.2 h8
        refine g_aload_n (pc := 42) C d_M_readsLaw_42 0 rfl rfl ?_
        refine fM_d (pc := 43) C lk_M_7 d_M_readsLaw_43 ?_
        refine g_iload_n (pc := 46) C d_M_readsLaw_46 1 rfl rfl ?_
        refine g_iload_n (pc := 47) C d_M_readsLaw_47 3 rfl rfl ?_
        obtain ⟨h6, hw⟩ := hw
        refine sM_d (pc := 48) C d_M_readsLaw_48 (f := M_d m_3) rfl (N0 := x1.toNatClampNeg) rfl h6 ?_
        refine g_aload_n (pc := 49) C d_M_readsLaw_49 0 rfl rfl ?_
        refine fM_token (pc := 50) C lk_M_213 d_M_readsLaw_50 (v := M_token m_3) rfl ?_
        refine g_iconst (pc := 53) C (v := 3) d_M_readsLaw_53 (by decide) ?_
        refine g_icmp_ne (pc := 54) (tgt := 61) C d_M_readsLaw_54 (by decide) (fun h7 => ?_) (fun h7 => ?_)
        · replace hw := hw.2 h7
          refine g_iconst (pc := 61) C (v := 0) d_M_readsLaw_61 (by decide) ?_
          exact g_zret (pc := 62) C q d_M_readsLaw_62 (by decide) (hq _ _ hw)
        · replace hw := hw.1 h7
          refine g_iconst (pc := 57) C (v := 1) d_M_readsLaw_57 (by decide) ?_
          refine g_goto (pc := 58) (tgt := 62) C d_M_readsLaw_58 (by decide) ?_
          exact g_zret (pc := 62) C q d_M_readsLaw_62 (by decide) (hq _ _ hw)
  · replace hw := hw.1 h10
    refine g_iconst (pc := 19) C (v := 0) d_M_readsLaw_19 (by decide) ?_
    exact g_zret (pc := 20) C q d_M_readsLaw_20 (by decide) (hq _ _ hw)
def wp_M_readsLaw (m : MSt) (x1 : Int32) (x2 : Int32) (post : Int32 → MSt → Prop) : Prop :=
  ((x1 = 3) → (w_M_readsLaw_13  post  m x1 x2 99)) ∧ ((¬ x1 = 3) → (w_M_readsLaw_13  post  m x1 x2 9))
set_option maxRecDepth 20000 in
theorem g_M_readsLaw {X : GX} (C : GC X b_M_readsLaw R_M 4 (rmd 4)) {Qp : Option Value → va_W → Prop} (q : RC X ((some .boolean)) Qp 0 0) (a : Nat → Nat) (m : MSt) (x1 : Int32) (x2 : Int32) (post : Int32 → MSt → Prop) (hq : ∀ v c1, post v c1 → Qp (some (.int v)) (woM (xt X) a c1)) (hw : wp_M_readsLaw m x1 x2 post) : G X 0 0 (woM (xt X) a m) [(0, .ref (a 0)), (1, .int x1), (2, .int x2)] [] 0 := by
  unfold wp_M_readsLaw at hw
  refine g_aload_n (pc := 0) C d_M_readsLaw_0 0 rfl rfl ?_
  refine g_iload_n (pc := 1) C d_M_readsLaw_1 1 rfl rfl ?_
  refine g_iconst (pc := 2) C (v := 3) d_M_readsLaw_2 (by decide) ?_
  refine g_icmp_ne (pc := 3) (tgt := 11) C d_M_readsLaw_3 (by decide) (fun h11 => ?_) (fun h11 => ?_)
  · replace hw := hw.2 h11
    refine g_bipush (pc := 11) C (v := 9) d_M_readsLaw_11 (by decide) ?_
    exact j_M_readsLaw_13 C q a post hq  m x1 x2 9 hw
  · replace hw := hw.1 h11
    refine g_bipush (pc := 6) C (v := 99) d_M_readsLaw_6 (by decide) ?_
    refine g_goto (pc := 8) (tgt := 13) C d_M_readsLaw_8 (by decide) ?_
    exact j_M_readsLaw_13 C q a post hq  m x1 x2 99 hw
set_option maxRecDepth 20000 in
theorem c_M_readsLaw (l : Launch) (D : va_G) (t : Nat → ClassId) (ev : Nat → Nat) (a : Nat → Nat) (m : MSt) (x1 : Int32) (x2 : Int32) (post : Int32 → MSt → Prop) (hw : wp_M_readsLaw m x1 x2 post) : Con l D t ev y_M_readsLaw b_M_readsLaw 4 ((some .boolean)) 4 (woM t a m) [.ref (a 0), .int x1, .int x2] (qI (woM t a)  post) :=
  ConR.of (by decide +kernel) (Nat.le_of_ble_eq_true rfl) (fun X el eD et ee C q _ => by subst el; subst eD; subst et; subst ee; exact g_M_readsLaw C q a m x1 x2 post (fun v c1 h => ⟨⟨v, c1, rfl, rfl, h⟩, rfl⟩) hw)
def w_M_readsAll_42  (post : Int32 → MSt → Prop) (k9 : MSt → Int32 → Int32 → Int32 → Prop) (m : MSt) (x1 : Int32) (x2 : Int32) (s0 : Int32) : Prop :=
  ∀ y2 : Int64, y2 = s0.toInt64 → (wp_M_in y2 0 5 (fun v3 => ((v3 = 0) → (((s0 = 11) → (wp_M_readsNoise m x1 (fun v9 m_10 => k9 m_10 x1 x2 v9))) ∧ ((¬ s0 = 11) → (((s0 < 12) → (k9 m x1 x2 0)) ∧ ((¬ s0 < 12) → (∀ y4 : Int32, y4 = s0 - 12 → (wp_M_readsLaw m y4 x1 (fun v5 m_6 => ((v5 = 0) → (k9 m_6 x1 x2 0)) ∧ ((¬ v5 = 0) → (k9 m_6 x1 x2 1)))))))))) ∧ ((¬ v3 = 0) → (wp_M_readsBarge m s0 x2 x1 (fun v12 m_13 => ∀ y14 : Int32, y14 = x2 + 1 → (k9 m_13 x1 y14 v12))))))
set_option maxRecDepth 20000 in
theorem j_M_readsAll_42 {X : GX} (C : GC X b_M_readsAll R_M 5 (rmd 5)) {Qp : Option Value → va_W → Prop} (q : RC X ((some .boolean)) Qp 0 0) (a : Nat → Nat)   (post : Int32 → MSt → Prop) (hq : ∀ v c1, post v c1 → Qp (some (.int v)) (woM (xt X) a c1)) {k9 : MSt → Int32 → Int32 → Int32 → Prop} (hk9 : ∀ (m : MSt) (x1 : Int32) (x2 : Int32) (x3 : Int32), k9 m x1 x2 x3 → G X 0 0 (woM (xt X) a m) [(0, .ref (a 0)), (1, .int x1), (2, .int x2), (3, .int x3)] [] 9) : ∀ (m : MSt) (x1 : Int32) (x2 : Int32) (s0 : Int32), w_M_readsAll_42  post k9 m x1 x2 s0 → G X 0 0 (woM (xt X) a m) [(0, .ref (a 0)), (1, .int x1), (2, .int x2)] [.int s0] 42 := by
  intro m x1 x2 s0 hw
  unfold w_M_readsAll_42 at hw
  refine g_istore (pc := 42) C d_M_readsAll_42 (Nat.le_of_ble_eq_true rfl) (lv' := [(0, .ref (a 0)), (1, .int x1), (2, .int x2), (4, .int s0)]) rfl ?_
  refine g_iload (pc := 44) C d_M_readsAll_44 3 rfl ?_
  refine g_i2l (pc := 46) C d_M_readsAll_46 ?_
  refine g_topl (fun y2 ey2 => ?_)
  replace hw := hw y2 ey2
  refine g_lconst (pc := 47) C (v := 0) d_M_readsAll_47 (by decide) ?_
  refine g_ldc2_w (pc := 48) C (v := 5) d_M_readsAll_48 lk_M_109 ?_
  refine k_I0 (pc := 51) (co_S C (c_M_in (xl X) (xD X) (xt X) (xv X) y2 0 5 _ hw) mw_M_in lk_M_58 d_M_readsAll_51 [] rfl (by decide)  rfl rfl ⟨Nat.le_of_ble_eq_true rfl, Nat.le_of_ble_eq_true rfl⟩ ⟨Nat.le_of_ble_eq_true rfl, Nat.le_of_ble_eq_true rfl⟩ (rest := []) rfl rfl (Nat.le_of_ble_eq_true rfl)) (fun v3 hw => ?_)
  refine g_if_eq (pc := 54) (tgt := 72) C d_M_readsAll_54 (by decide) (fun h15 => ?_) (fun h15 => ?_)
  · replace hw := hw.1 h15
    refine g_iload (pc := 72) C d_M_readsAll_72 3 rfl ?_
    refine g_bipush (pc := 74) C (v := 11) d_M_readsAll_74 (by decide) ?_
    refine g_icmp_ne (pc := 76) (tgt := 88) C d_M_readsAll_76 (by decide) (fun h11 => ?_) (fun h11 => ?_)
    · replace hw := hw.2 h11
      refine g_iload (pc := 88) C d_M_readsAll_88 3 rfl ?_
      refine g_bipush (pc := 90) C (v := 12) d_M_readsAll_90 (by decide) ?_
      refine g_icmp_lt (pc := 92) (tgt := 112) C d_M_readsAll_92 (by decide) (fun h8 => ?_) (fun h8 => ?_)
      · replace hw := hw.1 h8
        refine g_iconst (pc := 112) C (v := 0) d_M_readsAll_112 (by decide) ?_
        refine g_istore_n (pc := 113) C d_M_readsAll_113 rfl (Nat.le_of_ble_eq_true rfl) (lv' := [(0, .ref (a 0)), (1, .int x1), (2, .int x2), (3, .int 0), (4, .int s0)]) rfl ?_
        refine g_goto (pc := 114) (tgt := 9) C d_M_readsAll_114 (by decide) ?_
        refine g_sub [0, 1, 2, 3] (lv' := [(0, .ref (a 0)), (1, .int x1), (2, .int x2), (3, .int 0)]) rfl ?_
        exact hk9 m x1 x2 0 hw
      · replace hw := hw.2 h8
        refine g_aload_n (pc := 95) C d_M_readsAll_95 0 rfl rfl ?_
        refine g_iload (pc := 96) C d_M_readsAll_96 3 rfl ?_
        refine g_bipush (pc := 98) C (v := 12) d_M_readsAll_98 (by decide) ?_
        refine g_isub (pc := 100) C d_M_readsAll_100 ?_
        refine g_topi (fun y4 ey4 => ?_)
        replace hw := hw y4 ey4
        refine g_iload_n (pc := 101) C d_M_readsAll_101 1 rfl rfl ?_
        refine k_Ia (pc := 102) (co_V C (c_M_readsLaw (xl X) (xD X) (xt X) (xv X) a m y4 x1 _ hw) mw_M_readsLaw lk_M_246 d_M_readsAll_102 (List.range _) (all_C _) (all_nd _) (rec_w C 0 6 rfl rfl) rfl rfl ⟨Nat.le_of_ble_eq_true rfl, Nat.le_of_ble_eq_true rfl⟩ ⟨Nat.le_of_ble_eq_true rfl, Nat.le_of_ble_eq_true rfl⟩ (rest := []) rfl rfl (Nat.le_of_ble_eq_true rfl)) (fun v5 m_6 hw => ?_)
        refine g_if_eq (pc := 105) (tgt := 112) C d_M_readsAll_105 (by decide) (fun h7 => ?_) (fun h7 => ?_)
        · replace hw := hw.1 h7
          refine g_iconst (pc := 112) C (v := 0) d_M_readsAll_112 (by decide) ?_
          refine g_istore_n (pc := 113) C d_M_readsAll_113 rfl (Nat.le_of_ble_eq_true rfl) (lv' := [(0, .ref (a 0)), (1, .int x1), (2, .int x2), (3, .int 0), (4, .int s0)]) rfl ?_
          refine g_goto (pc := 114) (tgt := 9) C d_M_readsAll_114 (by decide) ?_
          refine g_sub [0, 1, 2, 3] (lv' := [(0, .ref (a 0)), (1, .int x1), (2, .int x2), (3, .int 0)]) rfl ?_
          exact hk9 m_6 x1 x2 0 hw
        · replace hw := hw.2 h7
          refine g_iconst (pc := 108) C (v := 1) d_M_readsAll_108 (by decide) ?_
          refine g_goto (pc := 109) (tgt := 113) C d_M_readsAll_109 (by decide) ?_
          refine g_istore_n (pc := 113) C d_M_readsAll_113 rfl (Nat.le_of_ble_eq_true rfl) (lv' := [(0, .ref (a 0)), (1, .int x1), (2, .int x2), (3, .int 1), (4, .int s0)]) rfl ?_
          refine g_goto (pc := 114) (tgt := 9) C d_M_readsAll_114 (by decide) ?_
          refine g_sub [0, 1, 2, 3] (lv' := [(0, .ref (a 0)), (1, .int x1), (2, .int x2), (3, .int 1)]) rfl ?_
          exact hk9 m_6 x1 x2 1 hw
    · replace hw := hw.1 h11
      refine g_aload_n (pc := 79) C d_M_readsAll_79 0 rfl rfl ?_
      refine g_iload_n (pc := 80) C d_M_readsAll_80 1 rfl rfl ?_
      refine k_Ia (pc := 81) (co_V C (c_M_readsNoise (xl X) (xD X) (xt X) (xv X) a m x1 _ hw) mw_M_readsNoise lk_M_242 d_M_readsAll_81 (List.range _) (all_C _) (all_nd _) (rec_w C 0 6 rfl rfl) rfl rfl ⟨Nat.le_of_ble_eq_true rfl, Nat.le_of_ble_eq_true rfl⟩ ⟨Nat.le_of_ble_eq_true rfl, Nat.le_of_ble_eq_true rfl⟩ (rest := []) rfl rfl (Nat.le_of_ble_eq_true rfl)) (fun v9 m_10 hw => ?_)
      refine g_istore_n (pc := 84) C d_M_readsAll_84 rfl (Nat.le_of_ble_eq_true rfl) (lv' := [(0, .ref (a 0)), (1, .int x1), (2, .int x2), (3, .int v9), (4, .int s0)]) rfl ?_
      refine g_goto (pc := 85) (tgt := 114) C d_M_readsAll_85 (by decide) ?_
      refine g_goto (pc := 114) (tgt := 9) C d_M_readsAll_114 (by decide) ?_
      refine g_sub [0, 1, 2, 3] (lv' := [(0, .ref (a 0)), (1, .int x1), (2, .int x2), (3, .int v9)]) rfl ?_
      exact hk9 m_10 x1 x2 v9 hw
  · replace hw := hw.2 h15
    refine g_aload_n (pc := 57) C d_M_readsAll_57 0 rfl rfl ?_
    refine g_iload (pc := 58) C d_M_readsAll_58 3 rfl ?_
    refine g_iload_n (pc := 60) C d_M_readsAll_60 2 rfl rfl ?_
    refine g_iload_n (pc := 61) C d_M_readsAll_61 1 rfl rfl ?_
    refine k_Ia (pc := 62) (co_V C (c_M_readsBarge (xl X) (xD X) (xt X) (xv X) a m s0 x2 x1 _ hw) mw_M_readsBarge lk_M_238 d_M_readsAll_62 (List.range _) (all_C _) (all_nd _) (rec_w C 0 6 rfl rfl) rfl rfl ⟨Nat.le_of_ble_eq_true rfl, Nat.le_of_ble_eq_true rfl⟩ ⟨Nat.le_of_ble_eq_true rfl, Nat.le_of_ble_eq_true rfl⟩ (rest := []) rfl rfl (Nat.le_of_ble_eq_true rfl)) (fun v12 m_13 hw => ?_)
    refine g_istore_n (pc := 65) C d_M_readsAll_65 rfl (Nat.le_of_ble_eq_true rfl) (lv' := [(0, .ref (a 0)), (1, .int x1), (2, .int x2), (3, .int v12), (4, .int s0)]) rfl ?_
    obtain ⟨y14, ey14⟩ : ∃ w, w = x2 + 1 := ⟨_, rfl⟩
    replace hw := hw y14 ey14
    refine g_iinc (pc := 66) C d_M_readsAll_66 2 rfl (v := y14) (by rw [ey14]; rfl) (Nat.le_of_ble_eq_true rfl) (lv' := [(0, .ref (a 0)), (1, .int x1), (2, .int y14), (3, .int v12), (4, .int s0)]) rfl ?_
    refine g_goto (pc := 69) (tgt := 114) C d_M_readsAll_69 (by decide) ?_
    refine g_goto (pc := 114) (tgt := 9) C d_M_readsAll_114 (by decide) ?_
    refine g_sub [0, 1, 2, 3] (lv' := [(0, .ref (a 0)), (1, .int x1), (2, .int y14), (3, .int v12)]) rfl ?_
    exact hk9 m_13 x1 y14 v12 hw
def w_M_readsAll_9  (post : Int32 → MSt → Prop)  : Nat → MSt → Int32 → Int32 → Int32 → Prop
  | 0, _, _, _, _ => False
  | n + 1, m, x1, x2, x3 =>
    ((x3 = 0) → (post 0 m)) ∧ ((¬ x3 = 0) → (wp_M_next m (fun m_1 => (((M_token m_1) = 0) → (post 1 m_1)) ∧ ((¬ (M_token m_1) = 0) → ((((M_token m_1) = 1) → (w_M_readsAll_42  post (w_M_readsAll_9  post  n) m_1 x1 x2 (M_value m_1))) ∧ ((¬ (M_token m_1) = 1) → (w_M_readsAll_42  post (w_M_readsAll_9  post  n) m_1 x1 x2 (-1))))))))
set_option maxRecDepth 20000 in
theorem j_M_readsAll_9 {X : GX} (C : GC X b_M_readsAll R_M 5 (rmd 5)) {Qp : Option Value → va_W → Prop} (q : RC X ((some .boolean)) Qp 0 0) (a : Nat → Nat)   (post : Int32 → MSt → Prop) (hq : ∀ v c1, post v c1 → Qp (some (.int v)) (woM (xt X) a c1)) : ∀ (n : Nat) (m : MSt) (x1 : Int32) (x2 : Int32) (x3 : Int32), w_M_readsAll_9  post  n m x1 x2 x3 → G X 0 0 (woM (xt X) a m) [(0, .ref (a 0)), (1, .int x1), (2, .int x2), (3, .int x3)] [] 9 := by
  intro n
  induction n with
  | zero => intro m x1 x2 x3 hw; exact hw.elim
  | succ n ih =>
    intro m x1 x2 x3 hw
    rw [w_M_readsAll_9] at hw
    refine g_iload_n (pc := 9) C d_M_readsAll_9 3 rfl rfl ?_
    refine g_if_eq (pc := 10) (tgt := 117) C d_M_readsAll_10 (by decide) (fun h18 => ?_) (fun h18 => ?_)
    · replace hw := hw.1 h18
      refine g_iconst (pc := 117) C (v := 0) d_M_readsAll_117 (by decide) ?_
      exact g_zret (pc := 118) C q d_M_readsAll_118 (by decide) (hq _ _ hw)
    · replace hw := hw.2 h18
      refine g_aload_n (pc := 13) C d_M_readsAll_13 0 rfl rfl ?_
      refine k_Va (pc := 14) (co_V C (c_M_next (xl X) (xD X) (xt X) (xv X) a m _ hw) mw_M_next lk_M_223 d_M_readsAll_14 (List.range _) (all_C _) (all_nd _) (rec_w C 0 6 rfl rfl) rfl rfl ⟨Nat.le_of_ble_eq_true rfl, Nat.le_of_ble_eq_true rfl⟩ ⟨Nat.le_of_ble_eq_true rfl, Nat.le_of_ble_eq_true rfl⟩ (rest := []) rfl rfl (Nat.le_of_ble_eq_true rfl)) (fun m_1 hw => ?_)
      refine g_aload_n (pc := 17) C d_M_readsAll_17 0 rfl rfl ?_
      refine fM_token (pc := 18) C lk_M_213 d_M_readsAll_18 (v := M_token m_1) rfl ?_
      refine g_if_ne (pc := 21) (tgt := 26) C d_M_readsAll_21 (by decide) (fun h17 => ?_) (fun h17 => ?_)
      · replace hw := hw.2 h17
        refine g_aload_n (pc := 26) C d_M_readsAll_26 0 rfl rfl ?_
        refine fM_token (pc := 27) C lk_M_213 d_M_readsAll_27 (v := M_token m_1) rfl ?_
        refine g_iconst (pc := 30) C (v := 1) d_M_readsAll_30 (by decide) ?_
        refine g_icmp_ne (pc := 31) (tgt := 41) C d_M_readsAll_31 (by decide) (fun h16 => ?_) (fun h16 => ?_)
        · replace hw := hw.2 h16
          refine g_iconst (pc := 41) C (v := (-1)) d_M_readsAll_41 (by decide) ?_
          refine g_sub [0, 1, 2] (lv' := [(0, .ref (a 0)), (1, .int x1), (2, .int x2)]) rfl ?_
          exact j_M_readsAll_42 C q a post hq ih m_1 x1 x2 (-1) hw
        · replace hw := hw.1 h16
          refine g_aload_n (pc := 34) C d_M_readsAll_34 0 rfl rfl ?_
          refine fM_value (pc := 35) C lk_M_210 d_M_readsAll_35 (v := M_value m_1) rfl ?_
          refine g_goto (pc := 38) (tgt := 42) C d_M_readsAll_38 (by decide) ?_
          refine g_sub [0, 1, 2] (lv' := [(0, .ref (a 0)), (1, .int x1), (2, .int x2)]) rfl ?_
          exact j_M_readsAll_42 C q a post hq ih m_1 x1 x2 (M_value m_1) hw
      · replace hw := hw.1 h17
        refine g_iconst (pc := 24) C (v := 1) d_M_readsAll_24 (by decide) ?_
        exact g_zret (pc := 25) C q d_M_readsAll_25 (by decide) (hq _ _ hw)
def wp_M_readsAll (m : MSt) (x1 : Int32) (post : Int32 → MSt → Prop) : Prop :=
  w_M_readsAll_9  post  2000 (M_at_ m 0) x1 0 1
set_option maxRecDepth 20000 in
theorem g_M_readsAll {X : GX} (C : GC X b_M_readsAll R_M 5 (rmd 5)) {Qp : Option Value → va_W → Prop} (q : RC X ((some .boolean)) Qp 0 0) (a : Nat → Nat) (m : MSt) (x1 : Int32) (post : Int32 → MSt → Prop) (hq : ∀ v c1, post v c1 → Qp (some (.int v)) (woM (xt X) a c1)) (hw : wp_M_readsAll m x1 post) : G X 0 0 (woM (xt X) a m) [(0, .ref (a 0)), (1, .int x1)] [] 0 := by
  unfold wp_M_readsAll at hw
  refine g_aload_n (pc := 0) C d_M_readsAll_0 0 rfl rfl ?_
  refine g_iconst (pc := 1) C (v := 0) d_M_readsAll_1 (by decide) ?_
  refine pM_at (pc := 2) C lk_M_204 d_M_readsAll_2   ?_
  refine g_iconst (pc := 5) C (v := 0) d_M_readsAll_5 (by decide) ?_
  refine g_istore_n (pc := 6) C d_M_readsAll_6 rfl (Nat.le_of_ble_eq_true rfl) (lv' := [(0, .ref (a 0)), (1, .int x1), (2, .int 0)]) rfl ?_
  refine g_iconst (pc := 7) C (v := 1) d_M_readsAll_7 (by decide) ?_
  refine g_istore_n (pc := 8) C d_M_readsAll_8 rfl (Nat.le_of_ble_eq_true rfl) (lv' := [(0, .ref (a 0)), (1, .int x1), (2, .int 0), (3, .int 1)]) rfl ?_
  exact j_M_readsAll_9 C q a post hq  2000 (M_at_ m 0) x1 0 1 hw
set_option maxRecDepth 20000 in
theorem c_M_readsAll (l : Launch) (D : va_G) (t : Nat → ClassId) (ev : Nat → Nat) (a : Nat → Nat) (m : MSt) (x1 : Int32) (post : Int32 → MSt → Prop) (hw : wp_M_readsAll m x1 post) : Con l D t ev y_M_readsAll b_M_readsAll 5 ((some .boolean)) 5 (woM t a m) [.ref (a 0), .int x1] (qI (woM t a)  post) :=
  ConR.of (by decide +kernel) (Nat.le_of_ble_eq_true rfl) (fun X el eD et ee C q _ => by subst el; subst eD; subst et; subst ee; exact g_M_readsAll C q a m x1 post (fun v c1 h => ⟨⟨v, c1, rfl, rfl, h⟩, rfl⟩) hw)
def w_M_canal_30  (post : Int32 → MSt → Prop)  (m : MSt) (x1 : Int32) (x2 : Int32) : Prop :=
  ((x1 = 0) → (post ((-100) - x2) (M_taped_ m 0))) ∧ ((¬ x1 = 0) → (post ((M_d m) 4) (M_taped_ m 0)))
set_option maxRecDepth 20000 in
theorem j_M_canal_30 {X : GX} (C : GC X b_M_canal R_M 3 (rmd 6)) {Qp : Option Value → va_W → Prop} (q : RC X ((some .int)) Qp 0 0) (a : Nat → Nat)   (post : Int32 → MSt → Prop) (hq : ∀ v c1, post v c1 → Qp (some (.int v)) (woM (xt X) a c1)) : ∀ (m : MSt) (x1 : Int32) (x2 : Int32), w_M_canal_30  post  m x1 x2 → G X 0 0 (woM (xt X) a m) [(0, .ref (a 0)), (1, .int x1), (2, .int x2)] [] 30 := by
  intro m x1 x2 hw
  unfold w_M_canal_30 at hw
  refine g_aload_n (pc := 30) C d_M_canal_30 0 rfl rfl ?_
  refine g_iconst (pc := 31) C (v := 0) d_M_canal_31 (by decide) ?_
  refine pM_taped (pc := 32) C lk_M_199 d_M_canal_32   ?_
  refine g_iload_n (pc := 35) C d_M_canal_35 1 rfl rfl ?_
  refine g_if_eq (pc := 36) (tgt := 48) C d_M_canal_36 (by decide) (fun h3 => ?_) (fun h3 => ?_)
  · replace hw := hw.1 h3
    refine g_bipush (pc := 48) C (v := (-100)) d_M_canal_48 (by decide) ?_
    refine g_iload_n (pc := 50) C d_M_canal_50 2 rfl rfl ?_
    refine g_isub (pc := 51) C d_M_canal_51 ?_
    exact g_iret (pc := 52) C q d_M_canal_52 (hq _ _ hw)
  · replace hw := hw.2 h3
    refine g_aload_n (pc := 39) C d_M_canal_39 0 rfl rfl ?_
    refine fM_d (pc := 40) C lk_M_7 d_M_canal_40 ?_
    refine g_iconst (pc := 43) C (v := 4) d_M_canal_43 (by decide) ?_
    refine lM_d (pc := 44) C d_M_canal_44 (f := M_d m) rfl (N0 := 4) (by decide) (by unfold vp_in; decide) ?_
    refine g_goto (pc := 45) (tgt := 52) C d_M_canal_45 (by decide) ?_
    exact g_iret (pc := 52) C q d_M_canal_52 (hq _ _ hw)
def wp_M_canal (m : MSt) (post : Int32 → MSt → Prop) : Prop :=
  wp_M_readsAll m 0 (fun v1 m_2 => ((v1 = 0) → (w_M_canal_30  post  m_2 v1 (M_begun m_2))) ∧ ((¬ v1 = 0) → (wp_M_first m_2 (fun m_4 => wp_M_readsAll m_4 1 (fun v5 m_6 => w_M_canal_30  post  (M_rows_ m_6 0) v5 (M_begun m_2))))))
set_option maxRecDepth 20000 in
theorem g_M_canal {X : GX} (C : GC X b_M_canal R_M 3 (rmd 6)) {Qp : Option Value → va_W → Prop} (q : RC X ((some .int)) Qp 0 0) (a : Nat → Nat) (m : MSt) (post : Int32 → MSt → Prop) (hq : ∀ v c1, post v c1 → Qp (some (.int v)) (woM (xt X) a c1)) (hw : wp_M_canal m post) : G X 0 0 (woM (xt X) a m) [(0, .ref (a 0))] [] 0 := by
  unfold wp_M_canal at hw
  refine g_aload_n (pc := 0) C d_M_canal_0 0 rfl rfl ?_
  refine g_iconst (pc := 1) C (v := 0) d_M_canal_1 (by decide) ?_
  refine k_Ia (pc := 2) (co_V C (c_M_readsAll (xl X) (xD X) (xt X) (xv X) a m 0 _ hw) mw_M_readsAll lk_M_250 d_M_canal_2 (List.range _) (all_C _) (all_nd _) (rec_w C 0 6 rfl rfl) rfl rfl ⟨Nat.le_of_ble_eq_true rfl, Nat.le_of_ble_eq_true rfl⟩ ⟨Nat.le_of_ble_eq_true rfl, Nat.le_of_ble_eq_true rfl⟩ (rest := []) rfl rfl (Nat.le_of_ble_eq_true rfl)) (fun v1 m_2 hw => ?_)
  refine g_istore_n (pc := 5) C d_M_canal_5 rfl (Nat.le_of_ble_eq_true rfl) (lv' := [(0, .ref (a 0)), (1, .int v1)]) rfl ?_
  refine g_aload_n (pc := 6) C d_M_canal_6 0 rfl rfl ?_
  refine fM_begun (pc := 7) C lk_M_207 d_M_canal_7 (v := M_begun m_2) rfl ?_
  refine g_istore_n (pc := 10) C d_M_canal_10 rfl (Nat.le_of_ble_eq_true rfl) (lv' := [(0, .ref (a 0)), (1, .int v1), (2, .int (M_begun m_2))]) rfl ?_
  refine g_iload_n (pc := 11) C d_M_canal_11 1 rfl rfl ?_
  refine g_if_eq (pc := 12) (tgt := 30) C d_M_canal_12 (by decide) (fun h7 => ?_) (fun h7 => ?_)
  · replace hw := hw.1 h7
    exact j_M_canal_30 C q a post hq  m_2 v1 (M_begun m_2) hw
  · replace hw := hw.2 h7
    refine g_aload_n (pc := 15) C d_M_canal_15 0 rfl rfl ?_
    refine k_Va (pc := 16) (co_V C (c_M_first (xl X) (xD X) (xt X) (xv X) a m_2 _ hw) mw_M_first lk_M_55 d_M_canal_16 (List.range _) (all_C _) (all_nd _) (rec_w C 0 6 rfl rfl) rfl rfl ⟨Nat.le_of_ble_eq_true rfl, Nat.le_of_ble_eq_true rfl⟩ ⟨Nat.le_of_ble_eq_true rfl, Nat.le_of_ble_eq_true rfl⟩ (rest := []) rfl rfl (Nat.le_of_ble_eq_true rfl)) (fun m_4 hw => ?_)
    refine g_aload_n (pc := 19) C d_M_canal_19 0 rfl rfl ?_
    refine g_iconst (pc := 20) C (v := 1) d_M_canal_20 (by decide) ?_
    refine k_Ia (pc := 21) (co_V C (c_M_readsAll (xl X) (xD X) (xt X) (xv X) a m_4 1 _ hw) mw_M_readsAll lk_M_250 d_M_canal_21 (List.range _) (all_C _) (all_nd _) (rec_w C 0 6 rfl rfl) rfl rfl ⟨Nat.le_of_ble_eq_true rfl, Nat.le_of_ble_eq_true rfl⟩ ⟨Nat.le_of_ble_eq_true rfl, Nat.le_of_ble_eq_true rfl⟩ (rest := []) rfl rfl (Nat.le_of_ble_eq_true rfl)) (fun v5 m_6 hw => ?_)
    refine g_istore_n (pc := 24) C d_M_canal_24 rfl (Nat.le_of_ble_eq_true rfl) (lv' := [(0, .ref (a 0)), (1, .int v5), (2, .int (M_begun m_2))]) rfl ?_
    refine g_aload_n (pc := 25) C d_M_canal_25 0 rfl rfl ?_
    refine g_iconst (pc := 26) C (v := 0) d_M_canal_26 (by decide) ?_
    refine pM_rows (pc := 27) C lk_M_253 d_M_canal_27   ?_
    exact j_M_canal_30 C q a post hq  (M_rows_ m_6 0) v5 (M_begun m_2) hw
set_option maxRecDepth 20000 in
theorem c_M_canal (l : Launch) (D : va_G) (t : Nat → ClassId) (ev : Nat → Nat) (a : Nat → Nat) (m : MSt) (post : Int32 → MSt → Prop) (hw : wp_M_canal m post) : Con l D t ev y_M_canal b_M_canal 3 ((some .int)) 6 (woM t a m) [.ref (a 0)] (qI (woM t a)  post) :=
  ConR.of (by decide +kernel) (Nat.le_of_ble_eq_true rfl) (fun X el eD et ee C q _ => by subst el; subst eD; subst et; subst ee; exact g_M_canal C q a m post (fun v c1 h => ⟨⟨v, c1, rfl, rfl, h⟩, rfl⟩) hw)
def wp_M_mustBe (m : MSt) (x1 : Int32) (x2 : Int32) (post : Int32 → MSt → Prop) : Prop :=
  ((x2 = 0) → (wp_M_get m x1 3 (fun v6 m_7 => post v6 m_7))) ∧ ((¬ x2 = 0) → (((x2 = 1) → (wp_M_get m x1 1 (fun v3 m_4 => post v3 m_4))) ∧ ((¬ x2 = 1) → (wp_M_lostAll m (fun v1 m_2 => post v1 m_2)))))
set_option maxRecDepth 20000 in
theorem g_M_mustBe {X : GX} (C : GC X b_M_mustBe R_M 3 (rmd 1)) {Qp : Option Value → va_W → Prop} (q : RC X ((some .int)) Qp 0 0) (a : Nat → Nat) (m : MSt) (x1 : Int32) (x2 : Int32) (post : Int32 → MSt → Prop) (hq : ∀ v c1, post v c1 → Qp (some (.int v)) (woM (xt X) a c1)) (hw : wp_M_mustBe m x1 x2 post) : G X 0 0 (woM (xt X) a m) [(0, .ref (a 0)), (1, .int x1), (2, .int x2)] [] 0 := by
  unfold wp_M_mustBe at hw
  refine g_iload_n (pc := 0) C d_M_mustBe_0 2 rfl rfl ?_
  refine g_if_ne (pc := 1) (tgt := 13) C d_M_mustBe_1 (by decide) (fun h8 => ?_) (fun h8 => ?_)
  · replace hw := hw.2 h8
    refine g_iload_n (pc := 13) C d_M_mustBe_13 2 rfl rfl ?_
    refine g_iconst (pc := 14) C (v := 1) d_M_mustBe_14 (by decide) ?_
    refine g_icmp_ne (pc := 15) (tgt := 27) C d_M_mustBe_15 (by decide) (fun h5 => ?_) (fun h5 => ?_)
    · replace hw := hw.2 h5
      refine g_aload_n (pc := 27) C d_M_mustBe_27 0 rfl rfl ?_
      refine k_Ia (pc := 28) (co_V C (c_M_lostAll (xl X) (xD X) (xt X) (xv X) a m _ hw) mw_M_lostAll lk_M_150 d_M_mustBe_28 (List.range _) (all_C _) (all_nd _) (rec_w C 0 6 rfl rfl) rfl rfl ⟨Nat.le_of_ble_eq_true rfl, Nat.le_of_ble_eq_true rfl⟩ ⟨Nat.le_of_ble_eq_true rfl, Nat.le_of_ble_eq_true rfl⟩ (rest := []) rfl rfl (Nat.le_of_ble_eq_true rfl)) (fun v1 m_2 hw => ?_)
      exact g_iret (pc := 31) C q d_M_mustBe_31 (hq _ _ hw)
    · replace hw := hw.1 h5
      refine g_aload_n (pc := 18) C d_M_mustBe_18 0 rfl rfl ?_
      refine g_iload_n (pc := 19) C d_M_mustBe_19 1 rfl rfl ?_
      refine g_iconst (pc := 20) C (v := 1) d_M_mustBe_20 (by decide) ?_
      refine k_Ia (pc := 21) (co_V C (c_M_get (xl X) (xD X) (xt X) (xv X) a m x1 1 _ hw) mw_M_get lk_M_64 d_M_mustBe_21 (List.range _) (all_C _) (all_nd _) (rec_w C 0 6 rfl rfl) rfl rfl ⟨Nat.le_of_ble_eq_true rfl, Nat.le_of_ble_eq_true rfl⟩ ⟨Nat.le_of_ble_eq_true rfl, Nat.le_of_ble_eq_true rfl⟩ (rest := []) rfl rfl (Nat.le_of_ble_eq_true rfl)) (fun v3 m_4 hw => ?_)
      refine g_goto (pc := 24) (tgt := 31) C d_M_mustBe_24 (by decide) ?_
      exact g_iret (pc := 31) C q d_M_mustBe_31 (hq _ _ hw)
  · replace hw := hw.1 h8
    refine g_aload_n (pc := 4) C d_M_mustBe_4 0 rfl rfl ?_
    refine g_iload_n (pc := 5) C d_M_mustBe_5 1 rfl rfl ?_
    refine g_iconst (pc := 6) C (v := 3) d_M_mustBe_6 (by decide) ?_
    refine k_Ia (pc := 7) (co_V C (c_M_get (xl X) (xD X) (xt X) (xv X) a m x1 3 _ hw) mw_M_get lk_M_64 d_M_mustBe_7 (List.range _) (all_C _) (all_nd _) (rec_w C 0 6 rfl rfl) rfl rfl ⟨Nat.le_of_ble_eq_true rfl, Nat.le_of_ble_eq_true rfl⟩ ⟨Nat.le_of_ble_eq_true rfl, Nat.le_of_ble_eq_true rfl⟩ (rest := []) rfl rfl (Nat.le_of_ble_eq_true rfl)) (fun v6 m_7 hw => ?_)
    refine g_goto (pc := 10) (tgt := 31) C d_M_mustBe_10 (by decide) ?_
    exact g_iret (pc := 31) C q d_M_mustBe_31 (hq _ _ hw)
set_option maxRecDepth 20000 in
theorem c_M_mustBe (l : Launch) (D : va_G) (t : Nat → ClassId) (ev : Nat → Nat) (a : Nat → Nat) (m : MSt) (x1 : Int32) (x2 : Int32) (post : Int32 → MSt → Prop) (hw : wp_M_mustBe m x1 x2 post) : Con l D t ev y_M_mustBe b_M_mustBe 3 ((some .int)) 1 (woM t a m) [.ref (a 0), .int x1, .int x2] (qI (woM t a)  post) :=
  ConR.of (by decide +kernel) (Nat.le_of_ble_eq_true rfl) (fun X el eD et ee C q _ => by subst el; subst eD; subst et; subst ee; exact g_M_mustBe C q a m x1 x2 post (fun v c1 h => ⟨⟨v, c1, rfl, rfl, h⟩, rfl⟩) hw)
def w_M_prove_45  (post : Int32 → MSt → Prop) (k33 : MSt → Int32 → Int32 → Int32 → Prop) : Nat → MSt → Int32 → Int32 → Int32 → Int32 → Prop
  | 0, _, _, _, _, _ => False
  | n + 1, m, x1, x2, x3, x4 =>
    ((3 ≤ x4) → (∀ y8 : Int32, y8 = x3 + 1 → (k33 m x1 x2 y8))) ∧ ((¬ 3 ≤ x4) → (∀ y9 : Int32, y9 = 3 * x3 → (∀ y10 : Int32, y10 = y9 + x4 → (wp_M_mustBe m x1 x4 (fun v11 m_12 => vp_in y10 30 ∧ (∀ y14 : Int32, y14 = x4 + 1 → (w_M_prove_45  post k33 n (M_row_ m_12 (upd (M_row m_12) y10.toNatClampNeg v11)) x1 x2 x3 y14)))))))
set_option maxRecDepth 20000 in
theorem j_M_prove_45 {X : GX} (C : GC X b_M_prove R_M 5 (rmd 4)) {Qp : Option Value → va_W → Prop} (q : RC X ((some .int)) Qp 0 0) (a : Nat → Nat)   (post : Int32 → MSt → Prop) (hq : ∀ v c1, post v c1 → Qp (some (.int v)) (woM (xt X) a c1)) {k33 : MSt → Int32 → Int32 → Int32 → Prop} (hk33 : ∀ (m : MSt) (x1 : Int32) (x2 : Int32) (x3 : Int32), k33 m x1 x2 x3 → G X 0 0 (woM (xt X) a m) [(0, .ref (a 0)), (1, .int x1), (2, .int x2), (3, .int x3)] [] 33) : ∀ (n : Nat) (m : MSt) (x1 : Int32) (x2 : Int32) (x3 : Int32) (x4 : Int32), w_M_prove_45  post k33 n m x1 x2 x3 x4 → G X 0 0 (woM (xt X) a m) [(0, .ref (a 0)), (1, .int x1), (2, .int x2), (3, .int x3), (4, .int x4)] [] 45 := by
  intro n
  induction n with
  | zero => intro m x1 x2 x3 x4 hw; exact hw.elim
  | succ n ih =>
    intro m x1 x2 x3 x4 hw
    rw [w_M_prove_45] at hw
    refine g_iload (pc := 45) C d_M_prove_45 4 rfl ?_
    refine g_iconst (pc := 47) C (v := 3) d_M_prove_47 (by decide) ?_
    refine g_icmp_ge (pc := 48) (tgt := 75) C d_M_prove_48 (by decide) (fun h15 => ?_) (fun h15 => ?_)
    · replace hw := hw.1 h15
      obtain ⟨y8, ey8⟩ : ∃ w, w = x3 + 1 := ⟨_, rfl⟩
      replace hw := hw y8 ey8
      refine g_iinc (pc := 75) C d_M_prove_75 3 rfl (v := y8) (by rw [ey8]; rfl) (Nat.le_of_ble_eq_true rfl) (lv' := [(0, .ref (a 0)), (1, .int x1), (2, .int x2), (3, .int y8), (4, .int x4)]) rfl ?_
      refine g_goto (pc := 78) (tgt := 33) C d_M_prove_78 (by decide) ?_
      refine g_sub [0, 1, 2, 3] (lv' := [(0, .ref (a 0)), (1, .int x1), (2, .int x2), (3, .int y8)]) rfl ?_
      exact hk33 m x1 x2 y8 hw
    · replace hw := hw.2 h15
      refine g_aload_n (pc := 51) C d_M_prove_51 0 rfl rfl ?_
      refine fM_row (pc := 52) C lk_M_30 d_M_prove_52 ?_
      refine g_iconst (pc := 55) C (v := 3) d_M_prove_55 (by decide) ?_
      refine g_iload_n (pc := 56) C d_M_prove_56 3 rfl rfl ?_
      refine g_imul (pc := 57) C d_M_prove_57 ?_
      refine g_topi (fun y9 ey9 => ?_)
      replace hw := hw y9 ey9
      refine g_iload (pc := 58) C d_M_prove_58 4 rfl ?_
      refine g_iadd (pc := 60) C d_M_prove_60 ?_
      refine g_topi (fun y10 ey10 => ?_)
      replace hw := hw y10 ey10
      refine g_aload_n (pc := 61) C d_M_prove_61 0 rfl rfl ?_
      refine g_iload_n (pc := 62) C d_M_prove_62 1 rfl rfl ?_
      refine g_iload (pc := 63) C d_M_prove_63 4 rfl ?_
      refine k_Ia (pc := 65) (co_V C (c_M_mustBe (xl X) (xD X) (xt X) (xv X) a m x1 x4 _ hw) mw_M_mustBe lk_M_258 d_M_prove_65 (List.range _) (all_C _) (all_nd _) (rec_w C 0 6 rfl rfl) rfl rfl ⟨Nat.le_of_ble_eq_true rfl, Nat.le_of_ble_eq_true rfl⟩ ⟨Nat.le_of_ble_eq_true rfl, Nat.le_of_ble_eq_true rfl⟩ (rest := [.int y10, .ref (a 6)]) rfl rfl (Nat.le_of_ble_eq_true rfl)) (fun v11 m_12 hw => ?_)
      obtain ⟨h13, hw⟩ := hw
      refine sM_row (pc := 68) C d_M_prove_68 (f := M_row m_12) rfl (N0 := y10.toNatClampNeg) rfl h13 ?_
      obtain ⟨y14, ey14⟩ : ∃ w, w = x4 + 1 := ⟨_, rfl⟩
      replace hw := hw y14 ey14
      refine g_iinc (pc := 69) C d_M_prove_69 4 rfl (v := y14) (by rw [ey14]; rfl) (Nat.le_of_ble_eq_true rfl) (lv' := [(0, .ref (a 0)), (1, .int x1), (2, .int x2), (3, .int x3), (4, .int y14)]) rfl ?_
      refine g_goto (pc := 72) (tgt := 45) C d_M_prove_72 (by decide) ?_
      exact ih (M_row_ m_12 (upd (M_row m_12) y10.toNatClampNeg v11)) x1 x2 x3 y14 hw
def w_M_prove_33  (post : Int32 → MSt → Prop)  : Nat → MSt → Int32 → Int32 → Int32 → Prop
  | 0, _, _, _, _ => False
  | n + 1, m, x1, x2, x3 =>
    ((x2 ≤ x3) → (wp_M_putBack m (fun m_6 => post x2 m_6))) ∧ ((¬ x2 ≤ x3) → (wp_M_hourGoes m (fun m_7 => w_M_prove_45  post (w_M_prove_33  post  n) 2000 m_7 x1 x2 x3 0)))
set_option maxRecDepth 20000 in
theorem j_M_prove_33 {X : GX} (C : GC X b_M_prove R_M 5 (rmd 4)) {Qp : Option Value → va_W → Prop} (q : RC X ((some .int)) Qp 0 0) (a : Nat → Nat)   (post : Int32 → MSt → Prop) (hq : ∀ v c1, post v c1 → Qp (some (.int v)) (woM (xt X) a c1)) : ∀ (n : Nat) (m : MSt) (x1 : Int32) (x2 : Int32) (x3 : Int32), w_M_prove_33  post  n m x1 x2 x3 → G X 0 0 (woM (xt X) a m) [(0, .ref (a 0)), (1, .int x1), (2, .int x2), (3, .int x3)] [] 33 := by
  intro n
  induction n with
  | zero => intro m x1 x2 x3 hw; exact hw.elim
  | succ n ih =>
    intro m x1 x2 x3 hw
    rw [w_M_prove_33] at hw
    refine g_iload_n (pc := 33) C d_M_prove_33 3 rfl rfl ?_
    refine g_iload_n (pc := 34) C d_M_prove_34 2 rfl rfl ?_
    refine g_icmp_ge (pc := 35) (tgt := 81) C d_M_prove_35 (by decide) (fun h16 => ?_) (fun h16 => ?_)
    · replace hw := hw.1 h16
      refine g_aload_n (pc := 81) C d_M_prove_81 0 rfl rfl ?_
      refine k_Va (pc := 82) (co_V C (c_M_putBack (xl X) (xD X) (xt X) (xv X) a m _ hw) mw_M_putBack lk_M_147 d_M_prove_82 (List.range _) (all_C _) (all_nd _) (rec_w C 0 6 rfl rfl) rfl rfl ⟨Nat.le_of_ble_eq_true rfl, Nat.le_of_ble_eq_true rfl⟩ ⟨Nat.le_of_ble_eq_true rfl, Nat.le_of_ble_eq_true rfl⟩ (rest := []) rfl rfl (Nat.le_of_ble_eq_true rfl)) (fun m_6 hw => ?_)
      refine g_iload_n (pc := 85) C d_M_prove_85 2 rfl rfl ?_
      exact g_iret (pc := 86) C q d_M_prove_86 (hq _ _ hw)
    · replace hw := hw.2 h16
      refine g_aload_n (pc := 38) C d_M_prove_38 0 rfl rfl ?_
      refine k_Va (pc := 39) (co_V C (c_M_hourGoes (xl X) (xD X) (xt X) (xv X) a m _ hw) mw_M_hourGoes lk_M_95 d_M_prove_39 (List.range _) (all_C _) (all_nd _) (rec_w C 0 6 rfl rfl) rfl rfl ⟨Nat.le_of_ble_eq_true rfl, Nat.le_of_ble_eq_true rfl⟩ ⟨Nat.le_of_ble_eq_true rfl, Nat.le_of_ble_eq_true rfl⟩ (rest := []) rfl rfl (Nat.le_of_ble_eq_true rfl)) (fun m_7 hw => ?_)
      refine g_iconst (pc := 42) C (v := 0) d_M_prove_42 (by decide) ?_
      refine g_istore (pc := 43) C d_M_prove_43 (Nat.le_of_ble_eq_true rfl) (lv' := [(0, .ref (a 0)), (1, .int x1), (2, .int x2), (3, .int x3), (4, .int 0)]) rfl ?_
      exact j_M_prove_45 C q a post hq ih 2000 m_7 x1 x2 x3 0 hw
def wp_M_prove (m : MSt) (x1 : Int32) (x2 : Int32) (post : Int32 → MSt → Prop) : Prop :=
  wp_M_isBarge m x1 (fun v1 m_2 => ((v1 = 0) → (post (-1) m_2)) ∧ ((¬ v1 = 0) → (∀ y3 : Int64, y3 = x2.toInt64 → (wp_M_in y3 1 10 (fun v4 => ((v4 = 0) → (post (-1) m_2)) ∧ ((¬ v4 = 0) → (wp_M_keepAside m_2 (fun m_5 => w_M_prove_33  post  2000 (M_rows_ m_5 x2) x1 x2 0))))))))
set_option maxRecDepth 20000 in
theorem g_M_prove {X : GX} (C : GC X b_M_prove R_M 5 (rmd 4)) {Qp : Option Value → va_W → Prop} (q : RC X ((some .int)) Qp 0 0) (a : Nat → Nat) (m : MSt) (x1 : Int32) (x2 : Int32) (post : Int32 → MSt → Prop) (hq : ∀ v c1, post v c1 → Qp (some (.int v)) (woM (xt X) a c1)) (hw : wp_M_prove m x1 x2 post) : G X 0 0 (woM (xt X) a m) [(0, .ref (a 0)), (1, .int x1), (2, .int x2)] [] 0 := by
  unfold wp_M_prove at hw
  refine g_aload_n (pc := 0) C d_M_prove_0 0 rfl rfl ?_
  refine g_iload_n (pc := 1) C d_M_prove_1 1 rfl rfl ?_
  refine k_Ia (pc := 2) (co_V C (c_M_isBarge (xl X) (xD X) (xt X) (xv X) a m x1 _ hw) mw_M_isBarge lk_M_118 d_M_prove_2 (List.range _) (all_C _) (all_nd _) (rec_w C 0 6 rfl rfl) rfl rfl ⟨Nat.le_of_ble_eq_true rfl, Nat.le_of_ble_eq_true rfl⟩ ⟨Nat.le_of_ble_eq_true rfl, Nat.le_of_ble_eq_true rfl⟩ (rest := []) rfl rfl (Nat.le_of_ble_eq_true rfl)) (fun v1 m_2 hw => ?_)
  refine g_if_eq (pc := 5) (tgt := 20) C d_M_prove_5 (by decide) (fun h18 => ?_) (fun h18 => ?_)
  · replace hw := hw.1 h18
    refine g_iconst (pc := 20) C (v := (-1)) d_M_prove_20 (by decide) ?_
    exact g_iret (pc := 21) C q d_M_prove_21 (hq _ _ hw)
  · replace hw := hw.2 h18
    refine g_iload_n (pc := 8) C d_M_prove_8 2 rfl rfl ?_
    refine g_i2l (pc := 9) C d_M_prove_9 ?_
    refine g_topl (fun y3 ey3 => ?_)
    replace hw := hw y3 ey3
    refine g_lconst (pc := 10) C (v := 1) d_M_prove_10 (by decide) ?_
    refine g_ldc2_w (pc := 11) C (v := 10) d_M_prove_11 lk_M_256 ?_
    refine k_I0 (pc := 14) (co_S C (c_M_in (xl X) (xD X) (xt X) (xv X) y3 1 10 _ hw) mw_M_in lk_M_58 d_M_prove_14 [] rfl (by decide)  rfl rfl ⟨Nat.le_of_ble_eq_true rfl, Nat.le_of_ble_eq_true rfl⟩ ⟨Nat.le_of_ble_eq_true rfl, Nat.le_of_ble_eq_true rfl⟩ (rest := []) rfl rfl (Nat.le_of_ble_eq_true rfl)) (fun v4 hw => ?_)
    refine g_if_ne (pc := 17) (tgt := 22) C d_M_prove_17 (by decide) (fun h17 => ?_) (fun h17 => ?_)
    · replace hw := hw.2 h17
      refine g_aload_n (pc := 22) C d_M_prove_22 0 rfl rfl ?_
      refine k_Va (pc := 23) (co_V C (c_M_keepAside (xl X) (xD X) (xt X) (xv X) a m_2 _ hw) mw_M_keepAside lk_M_138 d_M_prove_23 (List.range _) (all_C _) (all_nd _) (rec_w C 0 6 rfl rfl) rfl rfl ⟨Nat.le_of_ble_eq_true rfl, Nat.le_of_ble_eq_true rfl⟩ ⟨Nat.le_of_ble_eq_true rfl, Nat.le_of_ble_eq_true rfl⟩ (rest := []) rfl rfl (Nat.le_of_ble_eq_true rfl)) (fun m_5 hw => ?_)
      refine g_aload_n (pc := 26) C d_M_prove_26 0 rfl rfl ?_
      refine g_iload_n (pc := 27) C d_M_prove_27 2 rfl rfl ?_
      refine pM_rows (pc := 28) C lk_M_253 d_M_prove_28   ?_
      refine g_iconst (pc := 31) C (v := 0) d_M_prove_31 (by decide) ?_
      refine g_istore_n (pc := 32) C d_M_prove_32 rfl (Nat.le_of_ble_eq_true rfl) (lv' := [(0, .ref (a 0)), (1, .int x1), (2, .int x2), (3, .int 0)]) rfl ?_
      exact j_M_prove_33 C q a post hq  2000 (M_rows_ m_5 x2) x1 x2 0 hw
    · replace hw := hw.1 h17
      refine g_iconst (pc := 20) C (v := (-1)) d_M_prove_20 (by decide) ?_
      exact g_iret (pc := 21) C q d_M_prove_21 (hq _ _ hw)
set_option maxRecDepth 20000 in
theorem c_M_prove (l : Launch) (D : va_G) (t : Nat → ClassId) (ev : Nat → Nat) (a : Nat → Nat) (m : MSt) (x1 : Int32) (x2 : Int32) (post : Int32 → MSt → Prop) (hw : wp_M_prove m x1 x2 post) : Con l D t ev y_M_prove b_M_prove 5 ((some .int)) 4 (woM t a m) [.ref (a 0), .int x1, .int x2] (qI (woM t a)  post) :=
  ConR.of (by decide +kernel) (Nat.le_of_ble_eq_true rfl) (fun X el eD et ee C q _ => by subst el; subst eD; subst et; subst ee; exact g_M_prove C q a m x1 x2 post (fun v c1 h => ⟨⟨v, c1, rfl, rfl, h⟩, rfl⟩) hw)
def wp_M_row (m : MSt) (x1 : Int32) (x2 : Int32) (post : Int32 → MSt → Prop) : Prop :=
  ∀ y1 : Int64, y1 = x1.toInt64 → (∀ y2 : Int64, y2 = ((M_rows m) - 1).toInt64 → (wp_M_in y1 0 y2 (fun v3 => ((v3 = 0) → (post (-9) m)) ∧ ((¬ v3 = 0) → (∀ y4 : Int64, y4 = x2.toInt64 → (wp_M_in y4 0 2 (fun v5 => ((v5 = 0) → (post (-9) m)) ∧ ((¬ v5 = 0) → (∀ y6 : Int32, y6 = 3 * x1 → (∀ y7 : Int32, y7 = y6 + x2 → (vp_in y7 30 ∧ (post ((M_row m) y7.toNatClampNeg) m))))))))))))
set_option maxRecDepth 20000 in
theorem g_M_row {X : GX} (C : GC X b_M_row R_M 3 (rmd 1)) {Qp : Option Value → va_W → Prop} (q : RC X ((some .int)) Qp 0 0) (a : Nat → Nat) (m : MSt) (x1 : Int32) (x2 : Int32) (post : Int32 → MSt → Prop) (hq : ∀ v c1, post v c1 → Qp (some (.int v)) (woM (xt X) a c1)) (hw : wp_M_row m x1 x2 post) : G X 0 0 (woM (xt X) a m) [(0, .ref (a 0)), (1, .int x1), (2, .int x2)] [] 0 := by
  unfold wp_M_row at hw
  refine g_iload_n (pc := 0) C d_M_row_0 1 rfl rfl ?_
  refine g_i2l (pc := 1) C d_M_row_1 ?_
  refine g_topl (fun y1 ey1 => ?_)
  replace hw := hw y1 ey1
  refine g_lconst (pc := 2) C (v := 0) d_M_row_2 (by decide) ?_
  refine g_aload_n (pc := 3) C d_M_row_3 0 rfl rfl ?_
  refine fM_rows (pc := 4) C lk_M_253 d_M_row_4 (v := M_rows m) rfl ?_
  refine g_iconst (pc := 7) C (v := 1) d_M_row_7 (by decide) ?_
  refine g_isub (pc := 8) C d_M_row_8 ?_
  refine g_i2l (pc := 9) C d_M_row_9 ?_
  refine g_topl (fun y2 ey2 => ?_)
  replace hw := hw y2 ey2
  refine k_I0 (pc := 10) (co_S C (c_M_in (xl X) (xD X) (xt X) (xv X) y1 0 y2 _ hw) mw_M_in lk_M_58 d_M_row_10 [] rfl (by decide)  rfl rfl ⟨Nat.le_of_ble_eq_true rfl, Nat.le_of_ble_eq_true rfl⟩ ⟨Nat.le_of_ble_eq_true rfl, Nat.le_of_ble_eq_true rfl⟩ (rest := []) rfl rfl (Nat.le_of_ble_eq_true rfl)) (fun v3 hw => ?_)
  refine g_if_eq (pc := 13) (tgt := 41) C d_M_row_13 (by decide) (fun h10 => ?_) (fun h10 => ?_)
  · replace hw := hw.1 h10
    refine g_bipush (pc := 41) C (v := (-9)) d_M_row_41 (by decide) ?_
    exact g_iret (pc := 43) C q d_M_row_43 (hq _ _ hw)
  · replace hw := hw.2 h10
    refine g_iload_n (pc := 16) C d_M_row_16 2 rfl rfl ?_
    refine g_i2l (pc := 17) C d_M_row_17 ?_
    refine g_topl (fun y4 ey4 => ?_)
    replace hw := hw y4 ey4
    refine g_lconst (pc := 18) C (v := 0) d_M_row_18 (by decide) ?_
    refine g_ldc2_w (pc := 19) C (v := 2) d_M_row_19 lk_M_121 ?_
    refine k_I0 (pc := 22) (co_S C (c_M_in (xl X) (xD X) (xt X) (xv X) y4 0 2 _ hw) mw_M_in lk_M_58 d_M_row_22 [] rfl (by decide)  rfl rfl ⟨Nat.le_of_ble_eq_true rfl, Nat.le_of_ble_eq_true rfl⟩ ⟨Nat.le_of_ble_eq_true rfl, Nat.le_of_ble_eq_true rfl⟩ (rest := []) rfl rfl (Nat.le_of_ble_eq_true rfl)) (fun v5 hw => ?_)
    refine g_if_eq (pc := 25) (tgt := 41) C d_M_row_25 (by decide) (fun h9 => ?_) (fun h9 => ?_)
    · replace hw := hw.1 h9
      refine g_bipush (pc := 41) C (v := (-9)) d_M_row_41 (by decide) ?_
      exact g_iret (pc := 43) C q d_M_row_43 (hq _ _ hw)
    · replace hw := hw.2 h9
      refine g_aload_n (pc := 28) C d_M_row_28 0 rfl rfl ?_
      refine fM_row (pc := 29) C lk_M_30 d_M_row_29 ?_
      refine g_iconst (pc := 32) C (v := 3) d_M_row_32 (by decide) ?_
      refine g_iload_n (pc := 33) C d_M_row_33 1 rfl rfl ?_
      refine g_imul (pc := 34) C d_M_row_34 ?_
      refine g_topi (fun y6 ey6 => ?_)
      replace hw := hw y6 ey6
      refine g_iload_n (pc := 35) C d_M_row_35 2 rfl rfl ?_
      refine g_iadd (pc := 36) C d_M_row_36 ?_
      refine g_topi (fun y7 ey7 => ?_)
      replace hw := hw y7 ey7
      obtain ⟨h8, hw⟩ := hw
      refine lM_row (pc := 37) C d_M_row_37 (f := M_row m) rfl (N0 := y7.toNatClampNeg) rfl h8 ?_
      refine g_goto (pc := 38) (tgt := 43) C d_M_row_38 (by decide) ?_
      exact g_iret (pc := 43) C q d_M_row_43 (hq _ _ hw)
set_option maxRecDepth 20000 in
theorem c_M_row (l : Launch) (D : va_G) (t : Nat → ClassId) (ev : Nat → Nat) (a : Nat → Nat) (m : MSt) (x1 : Int32) (x2 : Int32) (post : Int32 → MSt → Prop) (hw : wp_M_row m x1 x2 post) : Con l D t ev y_M_row b_M_row 3 ((some .int)) 1 (woM t a m) [.ref (a 0), .int x1, .int x2] (qI (woM t a)  post) :=
  ConR.of (by decide +kernel) (Nat.le_of_ble_eq_true rfl) (fun X el eD et ee C q _ => by subst el; subst eD; subst et; subst ee; exact g_M_row C q a m x1 x2 post (fun v c1 h => ⟨⟨v, c1, rfl, rfl, h⟩, rfl⟩) hw)
def wp_M_alterRow (m : MSt) (x1 : Int32) (x2 : Int32) (x3 : Int32) (post : Int32 → MSt → Prop) : Prop :=
  ∀ y1 : Int64, y1 = x1.toInt64 → (∀ y2 : Int64, y2 = ((M_rows m) - 1).toInt64 → (wp_M_in y1 0 y2 (fun v3 => ((v3 = 0) → (post (-9) m)) ∧ ((¬ v3 = 0) → (∀ y4 : Int64, y4 = x2.toInt64 → (wp_M_in y4 0 2 (fun v5 => ((v5 = 0) → (post (-9) m)) ∧ ((¬ v5 = 0) → (∀ y6 : Int32, y6 = 3 * x1 → (∀ y7 : Int32, y7 = y6 + x2 → (vp_in y7 30 ∧ (∀ y9 : Int32, y9 = 3 * x1 → (∀ y10 : Int32, y10 = y9 + x2 → (vp_in y10 30 ∧ (post ((M_row m) y7.toNatClampNeg) (M_row_ m (upd (M_row m) y10.toNatClampNeg x3)))))))))))))))))
set_option maxRecDepth 20000 in
theorem g_M_alterRow {X : GX} (C : GC X b_M_alterRow R_M 5 (rmd 1)) {Qp : Option Value → va_W → Prop} (q : RC X ((some .int)) Qp 0 0) (a : Nat → Nat) (m : MSt) (x1 : Int32) (x2 : Int32) (x3 : Int32) (post : Int32 → MSt → Prop) (hq : ∀ v c1, post v c1 → Qp (some (.int v)) (woM (xt X) a c1)) (hw : wp_M_alterRow m x1 x2 x3 post) : G X 0 0 (woM (xt X) a m) [(0, .ref (a 0)), (1, .int x1), (2, .int x2), (3, .int x3)] [] 0 := by
  unfold wp_M_alterRow at hw
  refine g_iload_n (pc := 0) C d_M_alterRow_0 1 rfl rfl ?_
  refine g_i2l (pc := 1) C d_M_alterRow_1 ?_
  refine g_topl (fun y1 ey1 => ?_)
  replace hw := hw y1 ey1
  refine g_lconst (pc := 2) C (v := 0) d_M_alterRow_2 (by decide) ?_
  refine g_aload_n (pc := 3) C d_M_alterRow_3 0 rfl rfl ?_
  refine fM_rows (pc := 4) C lk_M_253 d_M_alterRow_4 (v := M_rows m) rfl ?_
  refine g_iconst (pc := 7) C (v := 1) d_M_alterRow_7 (by decide) ?_
  refine g_isub (pc := 8) C d_M_alterRow_8 ?_
  refine g_i2l (pc := 9) C d_M_alterRow_9 ?_
  refine g_topl (fun y2 ey2 => ?_)
  replace hw := hw y2 ey2
  refine k_I0 (pc := 10) (co_S C (c_M_in (xl X) (xD X) (xt X) (xv X) y1 0 y2 _ hw) mw_M_in lk_M_58 d_M_alterRow_10 [] rfl (by decide)  rfl rfl ⟨Nat.le_of_ble_eq_true rfl, Nat.le_of_ble_eq_true rfl⟩ ⟨Nat.le_of_ble_eq_true rfl, Nat.le_of_ble_eq_true rfl⟩ (rest := []) rfl rfl (Nat.le_of_ble_eq_true rfl)) (fun v3 hw => ?_)
  refine g_if_eq (pc := 13) (tgt := 28) C d_M_alterRow_13 (by decide) (fun h13 => ?_) (fun h13 => ?_)
  · replace hw := hw.1 h13
    refine g_bipush (pc := 28) C (v := (-9)) d_M_alterRow_28 (by decide) ?_
    exact g_iret (pc := 30) C q d_M_alterRow_30 (hq _ _ hw)
  · replace hw := hw.2 h13
    refine g_iload_n (pc := 16) C d_M_alterRow_16 2 rfl rfl ?_
    refine g_i2l (pc := 17) C d_M_alterRow_17 ?_
    refine g_topl (fun y4 ey4 => ?_)
    replace hw := hw y4 ey4
    refine g_lconst (pc := 18) C (v := 0) d_M_alterRow_18 (by decide) ?_
    refine g_ldc2_w (pc := 19) C (v := 2) d_M_alterRow_19 lk_M_121 ?_
    refine k_I0 (pc := 22) (co_S C (c_M_in (xl X) (xD X) (xt X) (xv X) y4 0 2 _ hw) mw_M_in lk_M_58 d_M_alterRow_22 [] rfl (by decide)  rfl rfl ⟨Nat.le_of_ble_eq_true rfl, Nat.le_of_ble_eq_true rfl⟩ ⟨Nat.le_of_ble_eq_true rfl, Nat.le_of_ble_eq_true rfl⟩ (rest := []) rfl rfl (Nat.le_of_ble_eq_true rfl)) (fun v5 hw => ?_)
    refine g_if_ne (pc := 25) (tgt := 31) C d_M_alterRow_25 (by decide) (fun h12 => ?_) (fun h12 => ?_)
    · replace hw := hw.2 h12
      refine g_aload_n (pc := 31) C d_M_alterRow_31 0 rfl rfl ?_
      refine fM_row (pc := 32) C lk_M_30 d_M_alterRow_32 ?_
      refine g_iconst (pc := 35) C (v := 3) d_M_alterRow_35 (by decide) ?_
      refine g_iload_n (pc := 36) C d_M_alterRow_36 1 rfl rfl ?_
      refine g_imul (pc := 37) C d_M_alterRow_37 ?_
      refine g_topi (fun y6 ey6 => ?_)
      replace hw := hw y6 ey6
      refine g_iload_n (pc := 38) C d_M_alterRow_38 2 rfl rfl ?_
      refine g_iadd (pc := 39) C d_M_alterRow_39 ?_
      refine g_topi (fun y7 ey7 => ?_)
      replace hw := hw y7 ey7
      obtain ⟨h8, hw⟩ := hw
      refine lM_row (pc := 40) C d_M_alterRow_40 (f := M_row m) rfl (N0 := y7.toNatClampNeg) rfl h8 ?_
      refine g_istore (pc := 41) C d_M_alterRow_41 (Nat.le_of_ble_eq_true rfl) (lv' := [(0, .ref (a 0)), (1, .int x1), (2, .int x2), (3, .int x3), (4, .int ((M_row m) y7.toNatClampNeg))]) rfl ?_
      refine g_aload_n (pc := 43) C d_M_alterRow_43 0 rfl rfl ?_
      refine fM_row (pc := 44) C lk_M_30 d_M_alterRow_44 ?_
      refine g_iconst (pc := 47) C (v := 3) d_M_alterRow_47 (by decide) ?_
      refine g_iload_n (pc := 48) C d_M_alterRow_48 1 rfl rfl ?_
      refine g_imul (pc := 49) C d_M_alterRow_49 ?_
      refine g_topi (fun y9 ey9 => ?_)
      replace hw := hw y9 ey9
      refine g_iload_n (pc := 50) C d_M_alterRow_50 2 rfl rfl ?_
      refine g_iadd (pc := 51) C d_M_alterRow_51 ?_
      refine g_topi (fun y10 ey10 => ?_)
      replace hw := hw y10 ey10
      refine g_iload_n (pc := 52) C d_M_alterRow_52 3 rfl rfl ?_
      obtain ⟨h11, hw⟩ := hw
      refine sM_row (pc := 53) C d_M_alterRow_53 (f := M_row m) rfl (N0 := y10.toNatClampNeg) rfl h11 ?_
      refine g_iload (pc := 54) C d_M_alterRow_54 4 rfl ?_
      exact g_iret (pc := 56) C q d_M_alterRow_56 (hq _ _ hw)
    · replace hw := hw.1 h12
      refine g_bipush (pc := 28) C (v := (-9)) d_M_alterRow_28 (by decide) ?_
      exact g_iret (pc := 30) C q d_M_alterRow_30 (hq _ _ hw)
set_option maxRecDepth 20000 in
theorem c_M_alterRow (l : Launch) (D : va_G) (t : Nat → ClassId) (ev : Nat → Nat) (a : Nat → Nat) (m : MSt) (x1 : Int32) (x2 : Int32) (x3 : Int32) (post : Int32 → MSt → Prop) (hw : wp_M_alterRow m x1 x2 x3 post) : Con l D t ev y_M_alterRow b_M_alterRow 5 ((some .int)) 1 (woM t a m) [.ref (a 0), .int x1, .int x2, .int x3] (qI (woM t a)  post) :=
  ConR.of (by decide +kernel) (Nat.le_of_ble_eq_true rfl) (fun X el eD et ee C q _ => by subst el; subst eD; subst et; subst ee; exact g_M_alterRow C q a m x1 x2 x3 post (fun v c1 h => ⟨⟨v, c1, rfl, rfl, h⟩, rfl⟩) hw)
def w_M_judge_37  (post : Int32 → MSt → Prop) (k18 : MSt → Int32 → Int32 → Int32 → Prop) : Nat → MSt → Int32 → Int32 → Int32 → Int32 → Prop
  | 0, _, _, _, _, _ => False
  | n + 1, m, x1, x2, x3, x4 =>
    ((3 ≤ x4) → (∀ y7 : Int32, y7 = x3 + 1 → (k18 m x1 x2 y7))) ∧ ((¬ 3 ≤ x4) → (∀ y8 : Int32, y8 = 3 * x3 → (∀ y9 : Int32, y9 = y8 + x4 → (vp_in y9 30 ∧ (wp_M_mustBe m x1 x4 (fun v11 m_12 => ((((M_row m) y9.toNatClampNeg) = v11) → (∀ y15 : Int32, y15 = x4 + 1 → (w_M_judge_37  post k18 n m_12 x1 x2 x3 y15))) ∧ ((¬ ((M_row m) y9.toNatClampNeg) = v11) → (∀ y13 : Int32, y13 = x3 + 1 → (∀ y14 : Int32, y14 = x4 + 1 → (w_M_judge_37  post k18 n m_12 x1 y13 x3 y14))))))))))
set_option maxRecDepth 20000 in
theorem j_M_judge_37 {X : GX} (C : GC X b_M_judge R_M 5 (rmd 4)) {Qp : Option Value → va_W → Prop} (q : RC X ((some .int)) Qp 0 0) (a : Nat → Nat)   (post : Int32 → MSt → Prop) (hq : ∀ v c1, post v c1 → Qp (some (.int v)) (woM (xt X) a c1)) {k18 : MSt → Int32 → Int32 → Int32 → Prop} (hk18 : ∀ (m : MSt) (x1 : Int32) (x2 : Int32) (x3 : Int32), k18 m x1 x2 x3 → G X 0 0 (woM (xt X) a m) [(0, .ref (a 0)), (1, .int x1), (2, .int x2), (3, .int x3)] [] 18) : ∀ (n : Nat) (m : MSt) (x1 : Int32) (x2 : Int32) (x3 : Int32) (x4 : Int32), w_M_judge_37  post k18 n m x1 x2 x3 x4 → G X 0 0 (woM (xt X) a m) [(0, .ref (a 0)), (1, .int x1), (2, .int x2), (3, .int x3), (4, .int x4)] [] 37 := by
  intro n
  induction n with
  | zero => intro m x1 x2 x3 x4 hw; exact hw.elim
  | succ n ih =>
    intro m x1 x2 x3 x4 hw
    rw [w_M_judge_37] at hw
    refine g_iload (pc := 37) C d_M_judge_37 4 rfl ?_
    refine g_iconst (pc := 39) C (v := 3) d_M_judge_39 (by decide) ?_
    refine g_icmp_ge (pc := 40) (tgt := 78) C d_M_judge_40 (by decide) (fun h17 => ?_) (fun h17 => ?_)
    · replace hw := hw.1 h17
      obtain ⟨y7, ey7⟩ : ∃ w, w = x3 + 1 := ⟨_, rfl⟩
      replace hw := hw y7 ey7
      refine g_iinc (pc := 78) C d_M_judge_78 3 rfl (v := y7) (by rw [ey7]; rfl) (Nat.le_of_ble_eq_true rfl) (lv' := [(0, .ref (a 0)), (1, .int x1), (2, .int x2), (3, .int y7), (4, .int x4)]) rfl ?_
      refine g_goto (pc := 81) (tgt := 18) C d_M_judge_81 (by decide) ?_
      refine g_sub [0, 1, 2, 3] (lv' := [(0, .ref (a 0)), (1, .int x1), (2, .int x2), (3, .int y7)]) rfl ?_
      exact hk18 m x1 x2 y7 hw
    · replace hw := hw.2 h17
      refine g_aload_n (pc := 43) C d_M_judge_43 0 rfl rfl ?_
      refine fM_row (pc := 44) C lk_M_30 d_M_judge_44 ?_
      refine g_iconst (pc := 47) C (v := 3) d_M_judge_47 (by decide) ?_
      refine g_iload_n (pc := 48) C d_M_judge_48 3 rfl rfl ?_
      refine g_imul (pc := 49) C d_M_judge_49 ?_
      refine g_topi (fun y8 ey8 => ?_)
      replace hw := hw y8 ey8
      refine g_iload (pc := 50) C d_M_judge_50 4 rfl ?_
      refine g_iadd (pc := 52) C d_M_judge_52 ?_
      refine g_topi (fun y9 ey9 => ?_)
      replace hw := hw y9 ey9
      obtain ⟨h10, hw⟩ := hw
      refine lM_row (pc := 53) C d_M_judge_53 (f := M_row m) rfl (N0 := y9.toNatClampNeg) rfl h10 ?_
      refine g_aload_n (pc := 54) C d_M_judge_54 0 rfl rfl ?_
      refine g_iload_n (pc := 55) C d_M_judge_55 1 rfl rfl ?_
      refine g_iload (pc := 56) C d_M_judge_56 4 rfl ?_
      refine k_Ia (pc := 58) (co_V C (c_M_mustBe (xl X) (xD X) (xt X) (xv X) a m x1 x4 _ hw) mw_M_mustBe lk_M_258 d_M_judge_58 (List.range _) (all_C _) (all_nd _) (rec_w C 0 6 rfl rfl) rfl rfl ⟨Nat.le_of_ble_eq_true rfl, Nat.le_of_ble_eq_true rfl⟩ ⟨Nat.le_of_ble_eq_true rfl, Nat.le_of_ble_eq_true rfl⟩ (rest := [.int ((M_row m) y9.toNatClampNeg)]) rfl rfl (Nat.le_of_ble_eq_true rfl)) (fun v11 m_12 hw => ?_)
      refine g_icmp_ne (pc := 61) (tgt := 68) C d_M_judge_61 (by decide) (fun h16 => ?_) (fun h16 => ?_)
      · replace hw := hw.2 h16
        refine g_iload_n (pc := 68) C d_M_judge_68 3 rfl rfl ?_
        refine g_iconst (pc := 69) C (v := 1) d_M_judge_69 (by decide) ?_
        refine g_iadd (pc := 70) C d_M_judge_70 ?_
        refine g_topi (fun y13 ey13 => ?_)
        replace hw := hw y13 ey13
        refine g_istore_n (pc := 71) C d_M_judge_71 rfl (Nat.le_of_ble_eq_true rfl) (lv' := [(0, .ref (a 0)), (1, .int x1), (2, .int y13), (3, .int x3), (4, .int x4)]) rfl ?_
        obtain ⟨y14, ey14⟩ : ∃ w, w = x4 + 1 := ⟨_, rfl⟩
        replace hw := hw y14 ey14
        refine g_iinc (pc := 72) C d_M_judge_72 4 rfl (v := y14) (by rw [ey14]; rfl) (Nat.le_of_ble_eq_true rfl) (lv' := [(0, .ref (a 0)), (1, .int x1), (2, .int y13), (3, .int x3), (4, .int y14)]) rfl ?_
        refine g_goto (pc := 75) (tgt := 37) C d_M_judge_75 (by decide) ?_
        exact ih m_12 x1 y13 x3 y14 hw
      · replace hw := hw.1 h16
        refine g_iload_n (pc := 64) C d_M_judge_64 2 rfl rfl ?_
        refine g_goto (pc := 65) (tgt := 71) C d_M_judge_65 (by decide) ?_
        refine g_istore_n (pc := 71) C d_M_judge_71 rfl (Nat.le_of_ble_eq_true rfl) (lv' := [(0, .ref (a 0)), (1, .int x1), (2, .int x2), (3, .int x3), (4, .int x4)]) rfl ?_
        obtain ⟨y15, ey15⟩ : ∃ w, w = x4 + 1 := ⟨_, rfl⟩
        replace hw := hw y15 ey15
        refine g_iinc (pc := 72) C d_M_judge_72 4 rfl (v := y15) (by rw [ey15]; rfl) (Nat.le_of_ble_eq_true rfl) (lv' := [(0, .ref (a 0)), (1, .int x1), (2, .int x2), (3, .int x3), (4, .int y15)]) rfl ?_
        refine g_goto (pc := 75) (tgt := 37) C d_M_judge_75 (by decide) ?_
        exact ih m_12 x1 x2 x3 y15 hw
def w_M_judge_18  (post : Int32 → MSt → Prop)  : Nat → MSt → Int32 → Int32 → Int32 → Prop
  | 0, _, _, _, _ => False
  | n + 1, m, x1, x2, x3 =>
    (((M_rows m) ≤ x3) → (wp_M_putBack m (fun m_4 => post x2 m_4))) ∧ ((¬ (M_rows m) ≤ x3) → (((x2 = 0) → (wp_M_hourGoes m (fun m_6 => w_M_judge_37  post (w_M_judge_18  post  n) 2000 m_6 x1 x2 x3 0))) ∧ ((¬ x2 = 0) → (wp_M_putBack m (fun m_5 => post x2 m_5)))))
set_option maxRecDepth 20000 in
theorem j_M_judge_18 {X : GX} (C : GC X b_M_judge R_M 5 (rmd 4)) {Qp : Option Value → va_W → Prop} (q : RC X ((some .int)) Qp 0 0) (a : Nat → Nat)   (post : Int32 → MSt → Prop) (hq : ∀ v c1, post v c1 → Qp (some (.int v)) (woM (xt X) a c1)) : ∀ (n : Nat) (m : MSt) (x1 : Int32) (x2 : Int32) (x3 : Int32), w_M_judge_18  post  n m x1 x2 x3 → G X 0 0 (woM (xt X) a m) [(0, .ref (a 0)), (1, .int x1), (2, .int x2), (3, .int x3)] [] 18 := by
  intro n
  induction n with
  | zero => intro m x1 x2 x3 hw; exact hw.elim
  | succ n ih =>
    intro m x1 x2 x3 hw
    rw [w_M_judge_18] at hw
    refine g_iload_n (pc := 18) C d_M_judge_18 3 rfl rfl ?_
    refine g_aload_n (pc := 19) C d_M_judge_19 0 rfl rfl ?_
    refine fM_rows (pc := 20) C lk_M_253 d_M_judge_20 (v := M_rows m) rfl ?_
    refine g_icmp_ge (pc := 23) (tgt := 84) C d_M_judge_23 (by decide) (fun h19 => ?_) (fun h19 => ?_)
    · replace hw := hw.1 h19
      refine g_aload_n (pc := 84) C d_M_judge_84 0 rfl rfl ?_
      refine k_Va (pc := 85) (co_V C (c_M_putBack (xl X) (xD X) (xt X) (xv X) a m _ hw) mw_M_putBack lk_M_147 d_M_judge_85 (List.range _) (all_C _) (all_nd _) (rec_w C 0 6 rfl rfl) rfl rfl ⟨Nat.le_of_ble_eq_true rfl, Nat.le_of_ble_eq_true rfl⟩ ⟨Nat.le_of_ble_eq_true rfl, Nat.le_of_ble_eq_true rfl⟩ (rest := []) rfl rfl (Nat.le_of_ble_eq_true rfl)) (fun m_4 hw => ?_)
      refine g_iload_n (pc := 88) C d_M_judge_88 2 rfl rfl ?_
      exact g_iret (pc := 89) C q d_M_judge_89 (hq _ _ hw)
    · replace hw := hw.2 h19
      refine g_iload_n (pc := 26) C d_M_judge_26 2 rfl rfl ?_
      refine g_if_ne (pc := 27) (tgt := 84) C d_M_judge_27 (by decide) (fun h18 => ?_) (fun h18 => ?_)
      · replace hw := hw.2 h18
        refine g_aload_n (pc := 84) C d_M_judge_84 0 rfl rfl ?_
        refine k_Va (pc := 85) (co_V C (c_M_putBack (xl X) (xD X) (xt X) (xv X) a m _ hw) mw_M_putBack lk_M_147 d_M_judge_85 (List.range _) (all_C _) (all_nd _) (rec_w C 0 6 rfl rfl) rfl rfl ⟨Nat.le_of_ble_eq_true rfl, Nat.le_of_ble_eq_true rfl⟩ ⟨Nat.le_of_ble_eq_true rfl, Nat.le_of_ble_eq_true rfl⟩ (rest := []) rfl rfl (Nat.le_of_ble_eq_true rfl)) (fun m_5 hw => ?_)
        refine g_iload_n (pc := 88) C d_M_judge_88 2 rfl rfl ?_
        exact g_iret (pc := 89) C q d_M_judge_89 (hq _ _ hw)
      · replace hw := hw.1 h18
        refine g_aload_n (pc := 30) C d_M_judge_30 0 rfl rfl ?_
        refine k_Va (pc := 31) (co_V C (c_M_hourGoes (xl X) (xD X) (xt X) (xv X) a m _ hw) mw_M_hourGoes lk_M_95 d_M_judge_31 (List.range _) (all_C _) (all_nd _) (rec_w C 0 6 rfl rfl) rfl rfl ⟨Nat.le_of_ble_eq_true rfl, Nat.le_of_ble_eq_true rfl⟩ ⟨Nat.le_of_ble_eq_true rfl, Nat.le_of_ble_eq_true rfl⟩ (rest := []) rfl rfl (Nat.le_of_ble_eq_true rfl)) (fun m_6 hw => ?_)
        refine g_iconst (pc := 34) C (v := 0) d_M_judge_34 (by decide) ?_
        refine g_istore (pc := 35) C d_M_judge_35 (Nat.le_of_ble_eq_true rfl) (lv' := [(0, .ref (a 0)), (1, .int x1), (2, .int x2), (3, .int x3), (4, .int 0)]) rfl ?_
        exact j_M_judge_37 C q a post hq ih 2000 m_6 x1 x2 x3 0 hw
def wp_M_judge (m : MSt) (x1 : Int32) (post : Int32 → MSt → Prop) : Prop :=
  wp_M_isBarge m x1 (fun v1 m_2 => ((v1 = 0) → (post (-1) m_2)) ∧ ((¬ v1 = 0) → (wp_M_keepAside m_2 (fun m_3 => w_M_judge_18  post  2000 m_3 x1 0 0))))
set_option maxRecDepth 20000 in
theorem g_M_judge {X : GX} (C : GC X b_M_judge R_M 5 (rmd 4)) {Qp : Option Value → va_W → Prop} (q : RC X ((some .int)) Qp 0 0) (a : Nat → Nat) (m : MSt) (x1 : Int32) (post : Int32 → MSt → Prop) (hq : ∀ v c1, post v c1 → Qp (some (.int v)) (woM (xt X) a c1)) (hw : wp_M_judge m x1 post) : G X 0 0 (woM (xt X) a m) [(0, .ref (a 0)), (1, .int x1)] [] 0 := by
  unfold wp_M_judge at hw
  refine g_aload_n (pc := 0) C d_M_judge_0 0 rfl rfl ?_
  refine g_iload_n (pc := 1) C d_M_judge_1 1 rfl rfl ?_
  refine k_Ia (pc := 2) (co_V C (c_M_isBarge (xl X) (xD X) (xt X) (xv X) a m x1 _ hw) mw_M_isBarge lk_M_118 d_M_judge_2 (List.range _) (all_C _) (all_nd _) (rec_w C 0 6 rfl rfl) rfl rfl ⟨Nat.le_of_ble_eq_true rfl, Nat.le_of_ble_eq_true rfl⟩ ⟨Nat.le_of_ble_eq_true rfl, Nat.le_of_ble_eq_true rfl⟩ (rest := []) rfl rfl (Nat.le_of_ble_eq_true rfl)) (fun v1 m_2 hw => ?_)
  refine g_if_ne (pc := 5) (tgt := 10) C d_M_judge_5 (by decide) (fun h20 => ?_) (fun h20 => ?_)
  · replace hw := hw.2 h20
    refine g_aload_n (pc := 10) C d_M_judge_10 0 rfl rfl ?_
    refine k_Va (pc := 11) (co_V C (c_M_keepAside (xl X) (xD X) (xt X) (xv X) a m_2 _ hw) mw_M_keepAside lk_M_138 d_M_judge_11 (List.range _) (all_C _) (all_nd _) (rec_w C 0 6 rfl rfl) rfl rfl ⟨Nat.le_of_ble_eq_true rfl, Nat.le_of_ble_eq_true rfl⟩ ⟨Nat.le_of_ble_eq_true rfl, Nat.le_of_ble_eq_true rfl⟩ (rest := []) rfl rfl (Nat.le_of_ble_eq_true rfl)) (fun m_3 hw => ?_)
    refine g_iconst (pc := 14) C (v := 0) d_M_judge_14 (by decide) ?_
    refine g_istore_n (pc := 15) C d_M_judge_15 rfl (Nat.le_of_ble_eq_true rfl) (lv' := [(0, .ref (a 0)), (1, .int x1), (2, .int 0)]) rfl ?_
    refine g_iconst (pc := 16) C (v := 0) d_M_judge_16 (by decide) ?_
    refine g_istore_n (pc := 17) C d_M_judge_17 rfl (Nat.le_of_ble_eq_true rfl) (lv' := [(0, .ref (a 0)), (1, .int x1), (2, .int 0), (3, .int 0)]) rfl ?_
    exact j_M_judge_18 C q a post hq  2000 m_3 x1 0 0 hw
  · replace hw := hw.1 h20
    refine g_iconst (pc := 8) C (v := (-1)) d_M_judge_8 (by decide) ?_
    exact g_iret (pc := 9) C q d_M_judge_9 (hq _ _ hw)
set_option maxRecDepth 20000 in
theorem c_M_judge (l : Launch) (D : va_G) (t : Nat → ClassId) (ev : Nat → Nat) (a : Nat → Nat) (m : MSt) (x1 : Int32) (post : Int32 → MSt → Prop) (hw : wp_M_judge m x1 post) : Con l D t ev y_M_judge b_M_judge 5 ((some .int)) 4 (woM t a m) [.ref (a 0), .int x1] (qI (woM t a)  post) :=
  ConR.of (by decide +kernel) (Nat.le_of_ble_eq_true rfl) (fun X el eD et ee C q _ => by subst el; subst eD; subst et; subst ee; exact g_M_judge C q a m x1 post (fun v c1 h => ⟨⟨v, c1, rfl, rfl, h⟩, rfl⟩) hw)
def w_M_minds_103  (post : Int32 → MSt → Prop)  : Nat → MSt → Int32 → Int32 → Int32 → Int32 → Int32 → Prop
  | 0, _, _, _, _, _, _ => False
  | n + 1, m, x1, x2, x3, x4, x5 =>
    ((x4 ≤ x5) → (post x4 m)) ∧ ((¬ x4 ≤ x5) → (∀ y13 : Int32, y13 = x3 + x5 → (∀ y14 : Int32, y14 = 40 * x1 → (∀ y15 : Int32, y15 = y14 + x2 → (∀ y16 : Int32, y16 = y15 + x5 → (vp_in y16 160 ∧ (∀ y18 : Int32, y18 = ((M_item m) y16.toNatClampNeg).toInt32 → (wp_M_held y18 0 99 (fun v19 => wp_M_puts m y13 1 v19 (fun m_20 => ∀ y21 : Int32, y21 = x5 + 1 → (w_M_minds_103  post  n m_20 x1 x2 x3 x4 y21)))))))))))
set_option maxRecDepth 20000 in
theorem j_M_minds_103 {X : GX} (C : GC X b_M_minds R_M 6 (rmd 2)) {Qp : Option Value → va_W → Prop} (q : RC X ((some .int)) Qp 0 0) (a : Nat → Nat)   (post : Int32 → MSt → Prop) (hq : ∀ v c1, post v c1 → Qp (some (.int v)) (woM (xt X) a c1)) : ∀ (n : Nat) (m : MSt) (x1 : Int32) (x2 : Int32) (x3 : Int32) (x4 : Int32) (x5 : Int32), w_M_minds_103  post  n m x1 x2 x3 x4 x5 → G X 0 0 (woM (xt X) a m) [(0, .ref (a 0)), (1, .int x1), (2, .int x2), (3, .int x3), (4, .int x4), (5, .int x5)] [] 103 := by
  intro n
  induction n with
  | zero => intro m x1 x2 x3 x4 x5 hw; exact hw.elim
  | succ n ih =>
    intro m x1 x2 x3 x4 x5 hw
    rw [w_M_minds_103] at hw
    refine g_iload (pc := 103) C d_M_minds_103 5 rfl ?_
    refine g_iload (pc := 105) C d_M_minds_105 4 rfl ?_
    refine g_icmp_ge (pc := 107) (tgt := 146) C d_M_minds_107 (by decide) (fun h22 => ?_) (fun h22 => ?_)
    · replace hw := hw.1 h22
      refine g_iload (pc := 146) C d_M_minds_146 4 rfl ?_
      exact g_iret (pc := 148) C q d_M_minds_148 (hq _ _ hw)
    · replace hw := hw.2 h22
      refine g_aload_n (pc := 110) C d_M_minds_110 0 rfl rfl ?_
      refine g_iload_n (pc := 111) C d_M_minds_111 3 rfl rfl ?_
      refine g_iload (pc := 112) C d_M_minds_112 5 rfl ?_
      refine g_iadd (pc := 114) C d_M_minds_114 ?_
      refine g_topi (fun y13 ey13 => ?_)
      replace hw := hw y13 ey13
      refine g_iconst (pc := 115) C (v := 1) d_M_minds_115 (by decide) ?_
      refine g_aload_n (pc := 116) C d_M_minds_116 0 rfl rfl ?_
      refine fM_item (pc := 117) C lk_M_39 d_M_minds_117 ?_
      refine g_bipush (pc := 120) C (v := 40) d_M_minds_120 (by decide) ?_
      refine g_iload_n (pc := 122) C d_M_minds_122 1 rfl rfl ?_
      refine g_imul (pc := 123) C d_M_minds_123 ?_
      refine g_topi (fun y14 ey14 => ?_)
      replace hw := hw y14 ey14
      refine g_iload_n (pc := 124) C d_M_minds_124 2 rfl rfl ?_
      refine g_iadd (pc := 125) C d_M_minds_125 ?_
      refine g_topi (fun y15 ey15 => ?_)
      replace hw := hw y15 ey15
      refine g_iload (pc := 126) C d_M_minds_126 5 rfl ?_
      refine g_iadd (pc := 128) C d_M_minds_128 ?_
      refine g_topi (fun y16 ey16 => ?_)
      replace hw := hw y16 ey16
      obtain ⟨h17, hw⟩ := hw
      refine lM_item (pc := 129) C d_M_minds_129 (f := M_item m) rfl (N0 := y16.toNatClampNeg) rfl h17 ?_
      refine g_l2i (pc := 130) C d_M_minds_130 ?_
      refine g_topi (fun y18 ey18 => ?_)
      replace hw := hw y18 ey18
      refine g_iconst (pc := 131) C (v := 0) d_M_minds_131 (by decide) ?_
      refine g_bipush (pc := 132) C (v := 99) d_M_minds_132 (by decide) ?_
      refine k_I0 (pc := 134) (co_S C (c_M_held (xl X) (xD X) (xt X) (xv X) y18 0 99 _ hw) mw_M_held lk_M_68 d_M_minds_134 [] rfl (by decide)  rfl rfl ⟨Nat.le_of_ble_eq_true rfl, Nat.le_of_ble_eq_true rfl⟩ ⟨Nat.le_of_ble_eq_true rfl, Nat.le_of_ble_eq_true rfl⟩ (rest := [.int 1, .int y13, .ref (a 0)]) rfl rfl (Nat.le_of_ble_eq_true rfl)) (fun v19 hw => ?_)
      refine k_Va (pc := 137) (co_V C (c_M_puts (xl X) (xD X) (xt X) (xv X) a m y13 1 v19 _ hw) mw_M_puts lk_M_72 d_M_minds_137 (List.range _) (all_C _) (all_nd _) (rec_w C 0 6 rfl rfl) rfl rfl ⟨Nat.le_of_ble_eq_true rfl, Nat.le_of_ble_eq_true rfl⟩ ⟨Nat.le_of_ble_eq_true rfl, Nat.le_of_ble_eq_true rfl⟩ (rest := []) rfl rfl (Nat.le_of_ble_eq_true rfl)) (fun m_20 hw => ?_)
      obtain ⟨y21, ey21⟩ : ∃ w, w = x5 + 1 := ⟨_, rfl⟩
      replace hw := hw y21 ey21
      refine g_iinc (pc := 140) C d_M_minds_140 5 rfl (v := y21) (by rw [ey21]; rfl) (Nat.le_of_ble_eq_true rfl) (lv' := [(0, .ref (a 0)), (1, .int x1), (2, .int x2), (3, .int x3), (4, .int x4), (5, .int y21)]) rfl ?_
      refine g_goto (pc := 143) (tgt := 103) C d_M_minds_143 (by decide) ?_
      exact ih m_20 x1 x2 x3 x4 y21 hw
def wp_M_minds (m : MSt) (x1 : Int32) (x2 : Int32) (x3 : Int32) (x4 : Int32) (post : Int32 → MSt → Prop) : Prop :=
  wp_M_isSheet x1 (fun v1 => ((v1 = 0) → (post (-1) m)) ∧ ((¬ v1 = 0) → (wp_M_isBarge m x3 (fun v2 m_3 => ((v2 = 0) → (post (-1) m_3)) ∧ ((¬ v2 = 0) → (∀ y4 : Int64, y4 = x4.toInt64 → (wp_M_in y4 0 8 (fun v5 => ((v5 = 0) → (post (-1) m_3)) ∧ ((¬ v5 = 0) → (((x4 ≤ (((M_d m_3) 4) - x3)) → (vp_in x1 4 ∧ (((((M_sortOf m_3) x1.toNatClampNeg) = 0) → (post (-11) m_3)) ∧ ((¬ ((M_sortOf m_3) x1.toNatClampNeg) = 0) → (vp_in x1 4 ∧ (((((M_sortOf m_3) x1.toNatClampNeg) = 1) → (∀ y8 : Int64, y8 = x2.toInt64 → (vp_in x1 4 ∧ (∀ y10 : Int64, y10 = ((M_sizeOf m_3) x1.toNatClampNeg).toInt64 → (wp_M_in y8 0 y10 (fun v11 => ((v11 = 0) → (post (-12) m_3)) ∧ ((¬ v11 = 0) → (vp_in x1 4 ∧ (((x4 ≤ (((M_sizeOf m_3) x1.toNatClampNeg) - x2)) → (w_M_minds_103  post  2000 m_3 x1 x2 x3 x4 0)) ∧ ((¬ x4 ≤ (((M_sizeOf m_3) x1.toNatClampNeg) - x2)) → (post (-12) m_3))))))))))) ∧ ((¬ ((M_sortOf m_3) x1.toNatClampNeg) = 1) → (post (-13) m_3)))))))) ∧ ((¬ x4 ≤ (((M_d m_3) 4) - x3)) → (post (-1) m_3))))))))))))
set_option maxRecDepth 20000 in
theorem g_M_minds {X : GX} (C : GC X b_M_minds R_M 6 (rmd 2)) {Qp : Option Value → va_W → Prop} (q : RC X ((some .int)) Qp 0 0) (a : Nat → Nat) (m : MSt) (x1 : Int32) (x2 : Int32) (x3 : Int32) (x4 : Int32) (post : Int32 → MSt → Prop) (hq : ∀ v c1, post v c1 → Qp (some (.int v)) (woM (xt X) a c1)) (hw : wp_M_minds m x1 x2 x3 x4 post) : G X 0 0 (woM (xt X) a m) [(0, .ref (a 0)), (1, .int x1), (2, .int x2), (3, .int x3), (4, .int x4)] [] 0 := by
  unfold wp_M_minds at hw
  refine g_iload_n (pc := 0) C d_M_minds_0 1 rfl rfl ?_
  refine k_I0 (pc := 1) (co_S C (c_M_isSheet (xl X) (xD X) (xt X) (xv X) x1 _ hw) mw_M_isSheet lk_M_178 d_M_minds_1 [] rfl (by decide)  rfl rfl ⟨Nat.le_of_ble_eq_true rfl, Nat.le_of_ble_eq_true rfl⟩ ⟨Nat.le_of_ble_eq_true rfl, Nat.le_of_ble_eq_true rfl⟩ (rest := []) rfl rfl (Nat.le_of_ble_eq_true rfl)) (fun v1 hw => ?_)
  refine g_if_eq (pc := 4) (tgt := 41) C d_M_minds_4 (by decide) (fun h30 => ?_) (fun h30 => ?_)
  · replace hw := hw.1 h30
    refine g_iconst (pc := 41) C (v := (-1)) d_M_minds_41 (by decide) ?_
    exact g_iret (pc := 42) C q d_M_minds_42 (hq _ _ hw)
  · replace hw := hw.2 h30
    refine g_aload_n (pc := 7) C d_M_minds_7 0 rfl rfl ?_
    refine g_iload_n (pc := 8) C d_M_minds_8 3 rfl rfl ?_
    refine k_Ia (pc := 9) (co_V C (c_M_isBarge (xl X) (xD X) (xt X) (xv X) a m x3 _ hw) mw_M_isBarge lk_M_118 d_M_minds_9 (List.range _) (all_C _) (all_nd _) (rec_w C 0 6 rfl rfl) rfl rfl ⟨Nat.le_of_ble_eq_true rfl, Nat.le_of_ble_eq_true rfl⟩ ⟨Nat.le_of_ble_eq_true rfl, Nat.le_of_ble_eq_true rfl⟩ (rest := []) rfl rfl (Nat.le_of_ble_eq_true rfl)) (fun v2 m_3 hw => ?_)
    refine g_if_eq (pc := 12) (tgt := 41) C d_M_minds_12 (by decide) (fun h29 => ?_) (fun h29 => ?_)
    · replace hw := hw.1 h29
      refine g_iconst (pc := 41) C (v := (-1)) d_M_minds_41 (by decide) ?_
      exact g_iret (pc := 42) C q d_M_minds_42 (hq _ _ hw)
    · replace hw := hw.2 h29
      refine g_iload (pc := 15) C d_M_minds_15 4 rfl ?_
      refine g_i2l (pc := 17) C d_M_minds_17 ?_
      refine g_topl (fun y4 ey4 => ?_)
      replace hw := hw y4 ey4
      refine g_lconst (pc := 18) C (v := 0) d_M_minds_18 (by decide) ?_
      refine g_ldc2_w (pc := 19) C (v := 8) d_M_minds_19 lk_M_187 ?_
      refine k_I0 (pc := 22) (co_S C (c_M_in (xl X) (xD X) (xt X) (xv X) y4 0 8 _ hw) mw_M_in lk_M_58 d_M_minds_22 [] rfl (by decide)  rfl rfl ⟨Nat.le_of_ble_eq_true rfl, Nat.le_of_ble_eq_true rfl⟩ ⟨Nat.le_of_ble_eq_true rfl, Nat.le_of_ble_eq_true rfl⟩ (rest := []) rfl rfl (Nat.le_of_ble_eq_true rfl)) (fun v5 hw => ?_)
      refine g_if_eq (pc := 25) (tgt := 41) C d_M_minds_25 (by decide) (fun h28 => ?_) (fun h28 => ?_)
      · replace hw := hw.1 h28
        refine g_iconst (pc := 41) C (v := (-1)) d_M_minds_41 (by decide) ?_
        exact g_iret (pc := 42) C q d_M_minds_42 (hq _ _ hw)
      · replace hw := hw.2 h28
        refine g_iload (pc := 28) C d_M_minds_28 4 rfl ?_
        refine g_aload_n (pc := 30) C d_M_minds_30 0 rfl rfl ?_
        refine fM_d (pc := 31) C lk_M_7 d_M_minds_31 ?_
        refine g_iconst (pc := 34) C (v := 4) d_M_minds_34 (by decide) ?_
        refine lM_d (pc := 35) C d_M_minds_35 (f := M_d m_3) rfl (N0 := 4) (by decide) (by unfold vp_in; decide) ?_
        refine g_iload_n (pc := 36) C d_M_minds_36 3 rfl rfl ?_
        refine g_isub (pc := 37) C d_M_minds_37 ?_
        refine g_icmp_le (pc := 38) (tgt := 43) C d_M_minds_38 (by decide) (fun h27 => ?_) (fun h27 => ?_)
        · replace hw := hw.1 h27
          refine g_aload_n (pc := 43) C d_M_minds_43 0 rfl rfl ?_
          refine fM_sortOf (pc := 44) C lk_M_33 d_M_minds_44 ?_
          refine g_iload_n (pc := 47) C d_M_minds_47 1 rfl rfl ?_
          obtain ⟨h6, hw⟩ := hw
          refine lM_sortOf (pc := 48) C d_M_minds_48 (f := M_sortOf m_3) rfl (N0 := x1.toNatClampNeg) rfl h6 ?_
          refine g_if_ne (pc := 49) (tgt := 55) C d_M_minds_49 (by decide) (fun h26 => ?_) (fun h26 => ?_)
          · replace hw := hw.2 h26
            refine g_aload_n (pc := 55) C d_M_minds_55 0 rfl rfl ?_
            refine fM_sortOf (pc := 56) C lk_M_33 d_M_minds_56 ?_
            refine g_iload_n (pc := 59) C d_M_minds_59 1 rfl rfl ?_
            obtain ⟨h7, hw⟩ := hw
            refine lM_sortOf (pc := 60) C d_M_minds_60 (f := M_sortOf m_3) rfl (N0 := x1.toNatClampNeg) rfl h7 ?_
            refine g_iconst (pc := 61) C (v := 1) d_M_minds_61 (by decide) ?_
            refine g_icmp_eq (pc := 62) (tgt := 68) C d_M_minds_62 (by decide) (fun h25 => ?_) (fun h25 => ?_)
            · replace hw := hw.1 h25
              refine g_iload_n (pc := 68) C d_M_minds_68 2 rfl rfl ?_
              refine g_i2l (pc := 69) C d_M_minds_69 ?_
              refine g_topl (fun y8 ey8 => ?_)
              replace hw := hw y8 ey8
              refine g_lconst (pc := 70) C (v := 0) d_M_minds_70 (by decide) ?_
              refine g_aload_n (pc := 71) C d_M_minds_71 0 rfl rfl ?_
              refine fM_sizeOf (pc := 72) C lk_M_36 d_M_minds_72 ?_
              refine g_iload_n (pc := 75) C d_M_minds_75 1 rfl rfl ?_
              obtain ⟨h9, hw⟩ := hw
              refine lM_sizeOf (pc := 76) C d_M_minds_76 (f := M_sizeOf m_3) rfl (N0 := x1.toNatClampNeg) rfl h9 ?_
              refine g_i2l (pc := 77) C d_M_minds_77 ?_
              refine g_topl (fun y10 ey10 => ?_)
              replace hw := hw y10 ey10
              refine k_I0 (pc := 78) (co_S C (c_M_in (xl X) (xD X) (xt X) (xv X) y8 0 y10 _ hw) mw_M_in lk_M_58 d_M_minds_78 [] rfl (by decide)  rfl rfl ⟨Nat.le_of_ble_eq_true rfl, Nat.le_of_ble_eq_true rfl⟩ ⟨Nat.le_of_ble_eq_true rfl, Nat.le_of_ble_eq_true rfl⟩ (rest := []) rfl rfl (Nat.le_of_ble_eq_true rfl)) (fun v11 hw => ?_)
              refine g_if_eq (pc := 81) (tgt := 97) C d_M_minds_81 (by decide) (fun h24 => ?_) (fun h24 => ?_)
              · replace hw := hw.1 h24
                refine g_bipush (pc := 97) C (v := (-12)) d_M_minds_97 (by decide) ?_
                exact g_iret (pc := 99) C q d_M_minds_99 (hq _ _ hw)
              · replace hw := hw.2 h24
                refine g_iload (pc := 84) C d_M_minds_84 4 rfl ?_
                refine g_aload_n (pc := 86) C d_M_minds_86 0 rfl rfl ?_
                refine fM_sizeOf (pc := 87) C lk_M_36 d_M_minds_87 ?_
                refine g_iload_n (pc := 90) C d_M_minds_90 1 rfl rfl ?_
                obtain ⟨h12, hw⟩ := hw
                refine lM_sizeOf (pc := 91) C d_M_minds_91 (f := M_sizeOf m_3) rfl (N0 := x1.toNatClampNeg) rfl h12 ?_
                refine g_iload_n (pc := 92) C d_M_minds_92 2 rfl rfl ?_
                refine g_isub (pc := 93) C d_M_minds_93 ?_
                refine g_icmp_le (pc := 94) (tgt := 100) C d_M_minds_94 (by decide) (fun h23 => ?_) (fun h23 => ?_)
                · replace hw := hw.1 h23
                  refine g_iconst (pc := 100) C (v := 0) d_M_minds_100 (by decide) ?_
                  refine g_istore (pc := 101) C d_M_minds_101 (Nat.le_of_ble_eq_true rfl) (lv' := [(0, .ref (a 0)), (1, .int x1), (2, .int x2), (3, .int x3), (4, .int x4), (5, .int 0)]) rfl ?_
                  exact j_M_minds_103 C q a post hq  2000 m_3 x1 x2 x3 x4 0 hw
                · replace hw := hw.2 h23
                  refine g_bipush (pc := 97) C (v := (-12)) d_M_minds_97 (by decide) ?_
                  exact g_iret (pc := 99) C q d_M_minds_99 (hq _ _ hw)
            · replace hw := hw.2 h25
              refine g_bipush (pc := 65) C (v := (-13)) d_M_minds_65 (by decide) ?_
              exact g_iret (pc := 67) C q d_M_minds_67 (hq _ _ hw)
          · replace hw := hw.1 h26
            refine g_bipush (pc := 52) C (v := (-11)) d_M_minds_52 (by decide) ?_
            exact g_iret (pc := 54) C q d_M_minds_54 (hq _ _ hw)
        · replace hw := hw.2 h27
          refine g_iconst (pc := 41) C (v := (-1)) d_M_minds_41 (by decide) ?_
          exact g_iret (pc := 42) C q d_M_minds_42 (hq _ _ hw)
set_option maxRecDepth 20000 in
theorem c_M_minds (l : Launch) (D : va_G) (t : Nat → ClassId) (ev : Nat → Nat) (a : Nat → Nat) (m : MSt) (x1 : Int32) (x2 : Int32) (x3 : Int32) (x4 : Int32) (post : Int32 → MSt → Prop) (hw : wp_M_minds m x1 x2 x3 x4 post) : Con l D t ev y_M_minds b_M_minds 6 ((some .int)) 2 (woM t a m) [.ref (a 0), .int x1, .int x2, .int x3, .int x4] (qI (woM t a)  post) :=
  ConR.of (by decide +kernel) (Nat.le_of_ble_eq_true rfl) (fun X el eD et ee C q _ => by subst el; subst eD; subst et; subst ee; exact g_M_minds C q a m x1 x2 x3 x4 post (fun v c1 h => ⟨⟨v, c1, rfl, rfl, h⟩, rfl⟩) hw)
def w_M_sheet_71  (post : Int32 → MSt → Prop)  : Nat → MSt → Int32 → Int32 → Prop
  | 0, _, _, _ => False
  | n + 1, m, x1, x4 =>
    ((40 ≤ x4) → (post 1 m)) ∧ ((¬ 40 ≤ x4) → (∀ y7 : Int32, y7 = 40 * x1 → (∀ y8 : Int32, y8 = y7 + x4 → (vp_in y8 160 ∧ (∀ y10 : Int32, y10 = x4 + 1 → (w_M_sheet_71  post  n (M_item_ m (vp_updL (M_item m) y8.toNatClampNeg 0)) x1 y10))))))
set_option maxRecDepth 20000 in
theorem j_M_sheet_71 {X : GX} (C : GC X b_M_sheet R_M 5 (rmd 2)) {Qp : Option Value → va_W → Prop} (q : RC X ((some .int)) Qp 0 0) (a : Nat → Nat)   (post : Int32 → MSt → Prop) (hq : ∀ v c1, post v c1 → Qp (some (.int v)) (woM (xt X) a c1)) : ∀ (n : Nat) (m : MSt) (x1 : Int32) (x4 : Int32), w_M_sheet_71  post  n m x1 x4 → G X 0 0 (woM (xt X) a m) [(0, .ref (a 0)), (1, .int x1), (4, .int x4)] [] 71 := by
  intro n
  induction n with
  | zero => intro m x1 x4 hw; exact hw.elim
  | succ n ih =>
    intro m x1 x4 hw
    rw [w_M_sheet_71] at hw
    refine g_iload (pc := 71) C d_M_sheet_71 2 rfl ?_
    refine g_bipush (pc := 73) C (v := 40) d_M_sheet_73 (by decide) ?_
    refine g_icmp_ge (pc := 75) (tgt := 97) C d_M_sheet_75 (by decide) (fun h11 => ?_) (fun h11 => ?_)
    · replace hw := hw.1 h11
      refine g_iconst (pc := 97) C (v := 1) d_M_sheet_97 (by decide) ?_
      exact g_iret (pc := 98) C q d_M_sheet_98 (hq _ _ hw)
    · replace hw := hw.2 h11
      refine g_aload_n (pc := 78) C d_M_sheet_78 0 rfl rfl ?_
      refine fM_item (pc := 79) C lk_M_39 d_M_sheet_79 ?_
      refine g_bipush (pc := 82) C (v := 40) d_M_sheet_82 (by decide) ?_
      refine g_iload_n (pc := 84) C d_M_sheet_84 1 rfl rfl ?_
      refine g_imul (pc := 85) C d_M_sheet_85 ?_
      refine g_topi (fun y7 ey7 => ?_)
      replace hw := hw y7 ey7
      refine g_iload (pc := 86) C d_M_sheet_86 2 rfl ?_
      refine g_iadd (pc := 88) C d_M_sheet_88 ?_
      refine g_topi (fun y8 ey8 => ?_)
      replace hw := hw y8 ey8
      refine g_lconst (pc := 89) C (v := 0) d_M_sheet_89 (by decide) ?_
      obtain ⟨h9, hw⟩ := hw
      refine sM_item (pc := 90) C d_M_sheet_90 (f := M_item m) rfl (N0 := y8.toNatClampNeg) rfl h9 ?_
      obtain ⟨y10, ey10⟩ : ∃ w, w = x4 + 1 := ⟨_, rfl⟩
      replace hw := hw y10 ey10
      refine g_iinc (pc := 91) C d_M_sheet_91 2 rfl (v := y10) (by rw [ey10]; rfl) (Nat.le_of_ble_eq_true rfl) (lv' := [(0, .ref (a 0)), (1, .int x1), (4, .int y10)]) rfl ?_
      refine g_goto (pc := 94) (tgt := 71) C d_M_sheet_94 (by decide) ?_
      exact ih (M_item_ m (vp_updL (M_item m) y8.toNatClampNeg 0)) x1 y10 hw
def w_M_sheet_44  (post : Int32 → MSt → Prop)  (m : MSt) (x1 : Int32) (x2 : Int32) (x3 : Int32) : Prop :=
  ∀ y4 : Int32, y4 = x2 + 1 → (vp_in x1 4 ∧ (((0 ≤ x2) → (vp_in x1 4 ∧ (w_M_sheet_71  post  2000 (M_sizeOf_ (M_sortOf_ m (upd (M_sortOf m) x1.toNatClampNeg y4)) (upd (M_sizeOf m) x1.toNatClampNeg x3)) x1 0))) ∧ ((¬ 0 ≤ x2) → (vp_in x1 4 ∧ (w_M_sheet_71  post  2000 (M_sizeOf_ (M_sortOf_ m (upd (M_sortOf m) x1.toNatClampNeg y4)) (upd (M_sizeOf m) x1.toNatClampNeg 0)) x1 0)))))
set_option maxRecDepth 20000 in
theorem j_M_sheet_44 {X : GX} (C : GC X b_M_sheet R_M 5 (rmd 2)) {Qp : Option Value → va_W → Prop} (q : RC X ((some .int)) Qp 0 0) (a : Nat → Nat)   (post : Int32 → MSt → Prop) (hq : ∀ v c1, post v c1 → Qp (some (.int v)) (woM (xt X) a c1)) : ∀ (m : MSt) (x1 : Int32) (x2 : Int32) (x3 : Int32), w_M_sheet_44  post  m x1 x2 x3 → G X 0 0 (woM (xt X) a m) [(0, .ref (a 0)), (1, .int x1), (2, .int x2), (3, .int x3)] [] 44 := by
  intro m x1 x2 x3 hw
  unfold w_M_sheet_44 at hw
  refine g_aload_n (pc := 44) C d_M_sheet_44 0 rfl rfl ?_
  refine fM_sortOf (pc := 45) C lk_M_33 d_M_sheet_45 ?_
  refine g_iload_n (pc := 48) C d_M_sheet_48 1 rfl rfl ?_
  refine g_iload_n (pc := 49) C d_M_sheet_49 2 rfl rfl ?_
  refine g_iconst (pc := 50) C (v := 1) d_M_sheet_50 (by decide) ?_
  refine g_iadd (pc := 51) C d_M_sheet_51 ?_
  refine g_topi (fun y4 ey4 => ?_)
  replace hw := hw y4 ey4
  obtain ⟨h5, hw⟩ := hw
  refine sM_sortOf (pc := 52) C d_M_sheet_52 (f := M_sortOf m) rfl (N0 := x1.toNatClampNeg) rfl h5 ?_
  refine g_aload_n (pc := 53) C d_M_sheet_53 0 rfl rfl ?_
  refine fM_sizeOf (pc := 54) C lk_M_36 d_M_sheet_54 ?_
  refine g_iload_n (pc := 57) C d_M_sheet_57 1 rfl rfl ?_
  refine g_iload_n (pc := 58) C d_M_sheet_58 2 rfl rfl ?_
  refine g_if_ge (pc := 59) (tgt := 66) C d_M_sheet_59 (by decide) (fun h13 => ?_) (fun h13 => ?_)
  · replace hw := hw.1 h13
    refine g_iload_n (pc := 66) C d_M_sheet_66 3 rfl rfl ?_
    obtain ⟨h6, hw⟩ := hw
    refine sM_sizeOf (pc := 67) C d_M_sheet_67 (f := M_sizeOf m) rfl (N0 := x1.toNatClampNeg) rfl h6 ?_
    refine g_iconst (pc := 68) C (v := 0) d_M_sheet_68 (by decide) ?_
    refine g_istore (pc := 69) C d_M_sheet_69 (Nat.le_of_ble_eq_true rfl) (lv' := [(0, .ref (a 0)), (1, .int x1), (2, .int x2), (3, .int x3), (4, .int 0)]) rfl ?_
    refine g_sub [0, 1, 4] (lv' := [(0, .ref (a 0)), (1, .int x1), (4, .int 0)]) rfl ?_
    exact j_M_sheet_71 C q a post hq  2000 (M_sizeOf_ (M_sortOf_ m (upd (M_sortOf m) x1.toNatClampNeg y4)) (upd (M_sizeOf m) x1.toNatClampNeg x3)) x1 0 hw
  · replace hw := hw.2 h13
    refine g_iconst (pc := 62) C (v := 0) d_M_sheet_62 (by decide) ?_
    refine g_goto (pc := 63) (tgt := 67) C d_M_sheet_63 (by decide) ?_
    obtain ⟨h12, hw⟩ := hw
    refine sM_sizeOf (pc := 67) C d_M_sheet_67 (f := M_sizeOf m) rfl (N0 := x1.toNatClampNeg) rfl h12 ?_
    refine g_iconst (pc := 68) C (v := 0) d_M_sheet_68 (by decide) ?_
    refine g_istore (pc := 69) C d_M_sheet_69 (Nat.le_of_ble_eq_true rfl) (lv' := [(0, .ref (a 0)), (1, .int x1), (2, .int x2), (3, .int x3), (4, .int 0)]) rfl ?_
    refine g_sub [0, 1, 4] (lv' := [(0, .ref (a 0)), (1, .int x1), (4, .int 0)]) rfl ?_
    exact j_M_sheet_71 C q a post hq  2000 (M_sizeOf_ (M_sortOf_ m (upd (M_sortOf m) x1.toNatClampNeg y4)) (upd (M_sizeOf m) x1.toNatClampNeg 0)) x1 0 hw
def wp_M_sheet (m : MSt) (x1 : Int32) (x2 : Int32) (x3 : Int32) (post : Int32 → MSt → Prop) : Prop :=
  wp_M_isSheet x1 (fun v1 => ((v1 = 0) → (post (-1) m)) ∧ ((¬ v1 = 0) → (∀ y2 : Int64, y2 = x2.toInt64 → (wp_M_in y2 (-1) 3 (fun v3 => ((v3 = 0) → (post (-1) m)) ∧ ((¬ v3 = 0) → (((x2 < 0) → (((x2 < 0) → (w_M_sheet_44  post  m x1 x2 x3)) ∧ ((¬ x2 < 0) → (((0 ≤ x3) → (w_M_sheet_44  post  m x1 x2 x3)) ∧ ((¬ 0 ≤ x3) → (post (-14) m)))))) ∧ ((¬ x2 < 0) → (((x3 ≤ 40) → (((x2 < 0) → (w_M_sheet_44  post  m x1 x2 x3)) ∧ ((¬ x2 < 0) → (((0 ≤ x3) → (w_M_sheet_44  post  m x1 x2 x3)) ∧ ((¬ 0 ≤ x3) → (post (-14) m)))))) ∧ ((¬ x3 ≤ 40) → (post (-1) m)))))))))))
set_option maxRecDepth 20000 in
theorem g_M_sheet {X : GX} (C : GC X b_M_sheet R_M 5 (rmd 2)) {Qp : Option Value → va_W → Prop} (q : RC X ((some .int)) Qp 0 0) (a : Nat → Nat) (m : MSt) (x1 : Int32) (x2 : Int32) (x3 : Int32) (post : Int32 → MSt → Prop) (hq : ∀ v c1, post v c1 → Qp (some (.int v)) (woM (xt X) a c1)) (hw : wp_M_sheet m x1 x2 x3 post) : G X 0 0 (woM (xt X) a m) [(0, .ref (a 0)), (1, .int x1), (2, .int x2), (3, .int x3)] [] 0 := by
  unfold wp_M_sheet at hw
  refine g_iload_n (pc := 0) C d_M_sheet_0 1 rfl rfl ?_
  refine k_I0 (pc := 1) (co_S C (c_M_isSheet (xl X) (xD X) (xt X) (xv X) x1 _ hw) mw_M_isSheet lk_M_178 d_M_sheet_1 [] rfl (by decide)  rfl rfl ⟨Nat.le_of_ble_eq_true rfl, Nat.le_of_ble_eq_true rfl⟩ ⟨Nat.le_of_ble_eq_true rfl, Nat.le_of_ble_eq_true rfl⟩ (rest := []) rfl rfl (Nat.le_of_ble_eq_true rfl)) (fun v1 hw => ?_)
  refine g_if_eq (pc := 4) (tgt := 31) C d_M_sheet_4 (by decide) (fun h21 => ?_) (fun h21 => ?_)
  · replace hw := hw.1 h21
    refine g_iconst (pc := 31) C (v := (-1)) d_M_sheet_31 (by decide) ?_
    exact g_iret (pc := 32) C q d_M_sheet_32 (hq _ _ hw)
  · replace hw := hw.2 h21
    refine g_iload_n (pc := 7) C d_M_sheet_7 2 rfl rfl ?_
    refine g_i2l (pc := 8) C d_M_sheet_8 ?_
    refine g_topl (fun y2 ey2 => ?_)
    replace hw := hw y2 ey2
    refine g_ldc2_w (pc := 9) C (v := (-1)) d_M_sheet_9 lk_M_181 ?_
    refine g_ldc2_w (pc := 12) C (v := 3) d_M_sheet_12 lk_M_98 ?_
    refine k_I0 (pc := 15) (co_S C (c_M_in (xl X) (xD X) (xt X) (xv X) y2 (-1) 3 _ hw) mw_M_in lk_M_58 d_M_sheet_15 [] rfl (by decide)  rfl rfl ⟨Nat.le_of_ble_eq_true rfl, Nat.le_of_ble_eq_true rfl⟩ ⟨Nat.le_of_ble_eq_true rfl, Nat.le_of_ble_eq_true rfl⟩ (rest := []) rfl rfl (Nat.le_of_ble_eq_true rfl)) (fun v3 hw => ?_)
    refine g_if_eq (pc := 18) (tgt := 31) C d_M_sheet_18 (by decide) (fun h20 => ?_) (fun h20 => ?_)
    · replace hw := hw.1 h20
      refine g_iconst (pc := 31) C (v := (-1)) d_M_sheet_31 (by decide) ?_
      exact g_iret (pc := 32) C q d_M_sheet_32 (hq _ _ hw)
    · replace hw := hw.2 h20
      refine g_iload_n (pc := 21) C d_M_sheet_21 2 rfl rfl ?_
      refine g_if_lt (pc := 22) (tgt := 33) C d_M_sheet_22 (by decide) (fun h19 => ?_) (fun h19 => ?_)
      · replace hw := hw.1 h19
        refine g_iload_n (pc := 33) C d_M_sheet_33 2 rfl rfl ?_
        refine g_if_lt (pc := 34) (tgt := 44) C d_M_sheet_34 (by decide) (fun h15 => ?_) (fun h15 => ?_)
        · replace hw := hw.1 h15
          exact j_M_sheet_44 C q a post hq  m x1 x2 x3 hw
        · replace hw := hw.2 h15
          refine g_iload_n (pc := 37) C d_M_sheet_37 3 rfl rfl ?_
          refine g_if_ge (pc := 38) (tgt := 44) C d_M_sheet_38 (by decide) (fun h14 => ?_) (fun h14 => ?_)
          · replace hw := hw.1 h14
            exact j_M_sheet_44 C q a post hq  m x1 x2 x3 hw
          · replace hw := hw.2 h14
            refine g_bipush (pc := 41) C (v := (-14)) d_M_sheet_41 (by decide) ?_
            exact g_iret (pc := 43) C q d_M_sheet_43 (hq _ _ hw)
      · replace hw := hw.2 h19
        refine g_iload_n (pc := 25) C d_M_sheet_25 3 rfl rfl ?_
        refine g_bipush (pc := 26) C (v := 40) d_M_sheet_26 (by decide) ?_
        refine g_icmp_le (pc := 28) (tgt := 33) C d_M_sheet_28 (by decide) (fun h18 => ?_) (fun h18 => ?_)
        · replace hw := hw.1 h18
          refine g_iload_n (pc := 33) C d_M_sheet_33 2 rfl rfl ?_
          refine g_if_lt (pc := 34) (tgt := 44) C d_M_sheet_34 (by decide) (fun h17 => ?_) (fun h17 => ?_)
          · replace hw := hw.1 h17
            exact j_M_sheet_44 C q a post hq  m x1 x2 x3 hw
          · replace hw := hw.2 h17
            refine g_iload_n (pc := 37) C d_M_sheet_37 3 rfl rfl ?_
            refine g_if_ge (pc := 38) (tgt := 44) C d_M_sheet_38 (by decide) (fun h16 => ?_) (fun h16 => ?_)
            · replace hw := hw.1 h16
              exact j_M_sheet_44 C q a post hq  m x1 x2 x3 hw
            · replace hw := hw.2 h16
              refine g_bipush (pc := 41) C (v := (-14)) d_M_sheet_41 (by decide) ?_
              exact g_iret (pc := 43) C q d_M_sheet_43 (hq _ _ hw)
        · replace hw := hw.2 h18
          refine g_iconst (pc := 31) C (v := (-1)) d_M_sheet_31 (by decide) ?_
          exact g_iret (pc := 32) C q d_M_sheet_32 (hq _ _ hw)
set_option maxRecDepth 20000 in
theorem c_M_sheet (l : Launch) (D : va_G) (t : Nat → ClassId) (ev : Nat → Nat) (a : Nat → Nat) (m : MSt) (x1 : Int32) (x2 : Int32) (x3 : Int32) (post : Int32 → MSt → Prop) (hw : wp_M_sheet m x1 x2 x3 post) : Con l D t ev y_M_sheet b_M_sheet 5 ((some .int)) 2 (woM t a m) [.ref (a 0), .int x1, .int x2, .int x3] (qI (woM t a)  post) :=
  ConR.of (by decide +kernel) (Nat.le_of_ble_eq_true rfl) (fun X el eD et ee C q _ => by subst el; subst eD; subst et; subst ee; exact g_M_sheet C q a m x1 x2 x3 post (fun v c1 h => ⟨⟨v, c1, rfl, rfl, h⟩, rfl⟩) hw)
def wp_M_put (m : MSt) (x1 : Int32) (x2 : Int32) (x3 : Int32) (post : Int32 → MSt → Prop) : Prop :=
  wp_M_isSheet x1 (fun v1 => ((v1 = 0) → (post (-1) m)) ∧ ((¬ v1 = 0) → (vp_in x1 4 ∧ (((((M_sortOf m) x1.toNatClampNeg) = 0) → (post (-11) m)) ∧ ((¬ ((M_sortOf m) x1.toNatClampNeg) = 0) → (∀ y3 : Int64, y3 = x2.toInt64 → (vp_in x1 4 ∧ (∀ y5 : Int64, y5 = (((M_sizeOf m) x1.toNatClampNeg) - 1).toInt64 → (wp_M_in y3 0 y5 (fun v6 => ((v6 = 0) → (post (-12) m)) ∧ ((¬ v6 = 0) → (∀ y7 : Int32, y7 = 40 * x1 → (∀ y8 : Int32, y8 = y7 + x2 → (vp_in x1 4 ∧ (((((M_sortOf m) x1.toNatClampNeg) = 1) → (∀ y16 : Int64, y16 = x3.toInt8.toInt32.toInt64 → (vp_in y8 160 ∧ (post 1 (M_item_ m (vp_updL (M_item m) y8.toNatClampNeg y16)))))) ∧ ((¬ ((M_sortOf m) x1.toNatClampNeg) = 1) → (vp_in x1 4 ∧ (((((M_sortOf m) x1.toNatClampNeg) = 2) → (∀ y13 : Int64, y13 = x3.toInt16.toInt32.toInt64 → (vp_in y8 160 ∧ (post 1 (M_item_ m (vp_updL (M_item m) y8.toNatClampNeg y13)))))) ∧ ((¬ ((M_sortOf m) x1.toNatClampNeg) = 2) → (∀ y11 : Int64, y11 = x3.toInt64 → (vp_in y8 160 ∧ (post 1 (M_item_ m (vp_updL (M_item m) y8.toNatClampNeg y11))))))))))))))))))))))))
set_option maxRecDepth 20000 in
theorem g_M_put {X : GX} (C : GC X b_M_put R_M 4 (rmd 2)) {Qp : Option Value → va_W → Prop} (q : RC X ((some .int)) Qp 0 0) (a : Nat → Nat) (m : MSt) (x1 : Int32) (x2 : Int32) (x3 : Int32) (post : Int32 → MSt → Prop) (hq : ∀ v c1, post v c1 → Qp (some (.int v)) (woM (xt X) a c1)) (hw : wp_M_put m x1 x2 x3 post) : G X 0 0 (woM (xt X) a m) [(0, .ref (a 0)), (1, .int x1), (2, .int x2), (3, .int x3)] [] 0 := by
  unfold wp_M_put at hw
  refine g_iload_n (pc := 0) C d_M_put_0 1 rfl rfl ?_
  refine k_I0 (pc := 1) (co_S C (c_M_isSheet (xl X) (xD X) (xt X) (xv X) x1 _ hw) mw_M_isSheet lk_M_178 d_M_put_1 [] rfl (by decide)  rfl rfl ⟨Nat.le_of_ble_eq_true rfl, Nat.le_of_ble_eq_true rfl⟩ ⟨Nat.le_of_ble_eq_true rfl, Nat.le_of_ble_eq_true rfl⟩ (rest := []) rfl rfl (Nat.le_of_ble_eq_true rfl)) (fun v1 hw => ?_)
  refine g_if_ne (pc := 4) (tgt := 9) C d_M_put_4 (by decide) (fun h21 => ?_) (fun h21 => ?_)
  · replace hw := hw.2 h21
    refine g_aload_n (pc := 9) C d_M_put_9 0 rfl rfl ?_
    refine fM_sortOf (pc := 10) C lk_M_33 d_M_put_10 ?_
    refine g_iload_n (pc := 13) C d_M_put_13 1 rfl rfl ?_
    obtain ⟨h2, hw⟩ := hw
    refine lM_sortOf (pc := 14) C d_M_put_14 (f := M_sortOf m) rfl (N0 := x1.toNatClampNeg) rfl h2 ?_
    refine g_if_ne (pc := 15) (tgt := 21) C d_M_put_15 (by decide) (fun h20 => ?_) (fun h20 => ?_)
    · replace hw := hw.2 h20
      refine g_iload_n (pc := 21) C d_M_put_21 2 rfl rfl ?_
      refine g_i2l (pc := 22) C d_M_put_22 ?_
      refine g_topl (fun y3 ey3 => ?_)
      replace hw := hw y3 ey3
      refine g_lconst (pc := 23) C (v := 0) d_M_put_23 (by decide) ?_
      refine g_aload_n (pc := 24) C d_M_put_24 0 rfl rfl ?_
      refine fM_sizeOf (pc := 25) C lk_M_36 d_M_put_25 ?_
      refine g_iload_n (pc := 28) C d_M_put_28 1 rfl rfl ?_
      obtain ⟨h4, hw⟩ := hw
      refine lM_sizeOf (pc := 29) C d_M_put_29 (f := M_sizeOf m) rfl (N0 := x1.toNatClampNeg) rfl h4 ?_
      refine g_iconst (pc := 30) C (v := 1) d_M_put_30 (by decide) ?_
      refine g_isub (pc := 31) C d_M_put_31 ?_
      refine g_i2l (pc := 32) C d_M_put_32 ?_
      refine g_topl (fun y5 ey5 => ?_)
      replace hw := hw y5 ey5
      refine k_I0 (pc := 33) (co_S C (c_M_in (xl X) (xD X) (xt X) (xv X) y3 0 y5 _ hw) mw_M_in lk_M_58 d_M_put_33 [] rfl (by decide)  rfl rfl ⟨Nat.le_of_ble_eq_true rfl, Nat.le_of_ble_eq_true rfl⟩ ⟨Nat.le_of_ble_eq_true rfl, Nat.le_of_ble_eq_true rfl⟩ (rest := []) rfl rfl (Nat.le_of_ble_eq_true rfl)) (fun v6 hw => ?_)
      refine g_if_ne (pc := 36) (tgt := 42) C d_M_put_36 (by decide) (fun h19 => ?_) (fun h19 => ?_)
      · replace hw := hw.2 h19
        refine g_aload_n (pc := 42) C d_M_put_42 0 rfl rfl ?_
        refine fM_item (pc := 43) C lk_M_39 d_M_put_43 ?_
        refine g_bipush (pc := 46) C (v := 40) d_M_put_46 (by decide) ?_
        refine g_iload_n (pc := 48) C d_M_put_48 1 rfl rfl ?_
        refine g_imul (pc := 49) C d_M_put_49 ?_
        refine g_topi (fun y7 ey7 => ?_)
        replace hw := hw y7 ey7
        refine g_iload_n (pc := 50) C d_M_put_50 2 rfl rfl ?_
        refine g_iadd (pc := 51) C d_M_put_51 ?_
        refine g_topi (fun y8 ey8 => ?_)
        replace hw := hw y8 ey8
        refine g_aload_n (pc := 52) C d_M_put_52 0 rfl rfl ?_
        refine fM_sortOf (pc := 53) C lk_M_33 d_M_put_53 ?_
        refine g_iload_n (pc := 56) C d_M_put_56 1 rfl rfl ?_
        obtain ⟨h9, hw⟩ := hw
        refine lM_sortOf (pc := 57) C d_M_put_57 (f := M_sortOf m) rfl (N0 := x1.toNatClampNeg) rfl h9 ?_
        refine g_iconst (pc := 58) C (v := 1) d_M_put_58 (by decide) ?_
        refine g_icmp_ne (pc := 59) (tgt := 68) C d_M_put_59 (by decide) (fun h18 => ?_) (fun h18 => ?_)
        · replace hw := hw.2 h18
          refine g_aload_n (pc := 68) C d_M_put_68 0 rfl rfl ?_
          refine fM_sortOf (pc := 69) C lk_M_33 d_M_put_69 ?_
          refine g_iload_n (pc := 72) C d_M_put_72 1 rfl rfl ?_
          obtain ⟨h10, hw⟩ := hw
          refine lM_sortOf (pc := 73) C d_M_put_73 (f := M_sortOf m) rfl (N0 := x1.toNatClampNeg) rfl h10 ?_
          refine g_iconst (pc := 74) C (v := 2) d_M_put_74 (by decide) ?_
          refine g_icmp_ne (pc := 75) (tgt := 84) C d_M_put_75 (by decide) (fun h15 => ?_) (fun h15 => ?_)
          · replace hw := hw.2 h15
            refine g_iload_n (pc := 84) C d_M_put_84 3 rfl rfl ?_
            refine g_i2l (pc := 85) C d_M_put_85 ?_
            refine g_topl (fun y11 ey11 => ?_)
            replace hw := hw y11 ey11
            obtain ⟨h12, hw⟩ := hw
            refine sM_item (pc := 86) C d_M_put_86 (f := M_item m) rfl (N0 := y8.toNatClampNeg) rfl h12 ?_
            refine g_iconst (pc := 87) C (v := 1) d_M_put_87 (by decide) ?_
            exact g_iret (pc := 88) C q d_M_put_88 (hq _ _ hw)
          · replace hw := hw.1 h15
            refine g_iload_n (pc := 78) C d_M_put_78 3 rfl rfl ?_
            refine g_i2s (pc := 79) C d_M_put_79 ?_
            refine g_i2l (pc := 80) C d_M_put_80 ?_
            refine g_topl (fun y13 ey13 => ?_)
            replace hw := hw y13 ey13
            refine g_goto (pc := 81) (tgt := 86) C d_M_put_81 (by decide) ?_
            obtain ⟨h14, hw⟩ := hw
            refine sM_item (pc := 86) C d_M_put_86 (f := M_item m) rfl (N0 := y8.toNatClampNeg) rfl h14 ?_
            refine g_iconst (pc := 87) C (v := 1) d_M_put_87 (by decide) ?_
            exact g_iret (pc := 88) C q d_M_put_88 (hq _ _ hw)
        · replace hw := hw.1 h18
          refine g_iload_n (pc := 62) C d_M_put_62 3 rfl rfl ?_
          refine g_i2b (pc := 63) C d_M_put_63 ?_
          refine g_i2l (pc := 64) C d_M_put_64 ?_
          refine g_topl (fun y16 ey16 => ?_)
          replace hw := hw y16 ey16
          refine g_goto (pc := 65) (tgt := 86) C d_M_put_65 (by decide) ?_
          obtain ⟨h17, hw⟩ := hw
          refine sM_item (pc := 86) C d_M_put_86 (f := M_item m) rfl (N0 := y8.toNatClampNeg) rfl h17 ?_
          refine g_iconst (pc := 87) C (v := 1) d_M_put_87 (by decide) ?_
          exact g_iret (pc := 88) C q d_M_put_88 (hq _ _ hw)
      · replace hw := hw.1 h19
        refine g_bipush (pc := 39) C (v := (-12)) d_M_put_39 (by decide) ?_
        exact g_iret (pc := 41) C q d_M_put_41 (hq _ _ hw)
    · replace hw := hw.1 h20
      refine g_bipush (pc := 18) C (v := (-11)) d_M_put_18 (by decide) ?_
      exact g_iret (pc := 20) C q d_M_put_20 (hq _ _ hw)
  · replace hw := hw.1 h21
    refine g_iconst (pc := 7) C (v := (-1)) d_M_put_7 (by decide) ?_
    exact g_iret (pc := 8) C q d_M_put_8 (hq _ _ hw)
set_option maxRecDepth 20000 in
theorem c_M_put (l : Launch) (D : va_G) (t : Nat → ClassId) (ev : Nat → Nat) (a : Nat → Nat) (m : MSt) (x1 : Int32) (x2 : Int32) (x3 : Int32) (post : Int32 → MSt → Prop) (hw : wp_M_put m x1 x2 x3 post) : Con l D t ev y_M_put b_M_put 4 ((some .int)) 2 (woM t a m) [.ref (a 0), .int x1, .int x2, .int x3] (qI (woM t a)  post) :=
  ConR.of (by decide +kernel) (Nat.le_of_ble_eq_true rfl) (fun X el eD et ee C q _ => by subst el; subst eD; subst et; subst ee; exact g_M_put C q a m x1 x2 x3 post (fun v c1 h => ⟨⟨v, c1, rfl, rfl, h⟩, rfl⟩) hw)
def wp_M_item (m : MSt) (x1 : Int32) (x2 : Int32) (x3 : Int32) (post : Int32 → MSt → Prop) : Prop :=
  wp_M_isSheet x1 (fun v1 => ((v1 = 0) → (post (-1) m)) ∧ ((¬ v1 = 0) → (∀ y2 : Int64, y2 = x2.toInt64 → (wp_M_in y2 0 3 (fun v3 => ((v3 = 0) → (post (-1) m)) ∧ ((¬ v3 = 0) → (vp_in x1 4 ∧ (((((M_sortOf m) x1.toNatClampNeg) = 0) → (post (-11) m)) ∧ ((¬ ((M_sortOf m) x1.toNatClampNeg) = 0) → (vp_in x1 4 ∧ (((((M_sortOf m) x1.toNatClampNeg) = (x2 + 1)) → (∀ y6 : Int64, y6 = x3.toInt64 → (vp_in x1 4 ∧ (∀ y8 : Int64, y8 = (((M_sizeOf m) x1.toNatClampNeg) - 1).toInt64 → (wp_M_in y6 0 y8 (fun v9 => ((v9 = 0) → (post (-12) m)) ∧ ((¬ v9 = 0) → (∀ y10 : Int32, y10 = 40 * x1 → (∀ y11 : Int32, y11 = y10 + x3 → (vp_in y11 160 ∧ (∀ y13 : Int32, y13 = ((M_item m) y11.toNatClampNeg).toInt32 → (post y13 m)))))))))))) ∧ ((¬ ((M_sortOf m) x1.toNatClampNeg) = (x2 + 1)) → (post (-13) m)))))))))))))
set_option maxRecDepth 20000 in
theorem g_M_item {X : GX} (C : GC X b_M_item R_M 4 (rmd 2)) {Qp : Option Value → va_W → Prop} (q : RC X ((some .int)) Qp 0 0) (a : Nat → Nat) (m : MSt) (x1 : Int32) (x2 : Int32) (x3 : Int32) (post : Int32 → MSt → Prop) (hq : ∀ v c1, post v c1 → Qp (some (.int v)) (woM (xt X) a c1)) (hw : wp_M_item m x1 x2 x3 post) : G X 0 0 (woM (xt X) a m) [(0, .ref (a 0)), (1, .int x1), (2, .int x2), (3, .int x3)] [] 0 := by
  unfold wp_M_item at hw
  refine g_iload_n (pc := 0) C d_M_item_0 1 rfl rfl ?_
  refine k_I0 (pc := 1) (co_S C (c_M_isSheet (xl X) (xD X) (xt X) (xv X) x1 _ hw) mw_M_isSheet lk_M_178 d_M_item_1 [] rfl (by decide)  rfl rfl ⟨Nat.le_of_ble_eq_true rfl, Nat.le_of_ble_eq_true rfl⟩ ⟨Nat.le_of_ble_eq_true rfl, Nat.le_of_ble_eq_true rfl⟩ (rest := []) rfl rfl (Nat.le_of_ble_eq_true rfl)) (fun v1 hw => ?_)
  refine g_if_eq (pc := 4) (tgt := 19) C d_M_item_4 (by decide) (fun h18 => ?_) (fun h18 => ?_)
  · replace hw := hw.1 h18
    refine g_iconst (pc := 19) C (v := (-1)) d_M_item_19 (by decide) ?_
    exact g_iret (pc := 20) C q d_M_item_20 (hq _ _ hw)
  · replace hw := hw.2 h18
    refine g_iload_n (pc := 7) C d_M_item_7 2 rfl rfl ?_
    refine g_i2l (pc := 8) C d_M_item_8 ?_
    refine g_topl (fun y2 ey2 => ?_)
    replace hw := hw y2 ey2
    refine g_lconst (pc := 9) C (v := 0) d_M_item_9 (by decide) ?_
    refine g_ldc2_w (pc := 10) C (v := 3) d_M_item_10 lk_M_98 ?_
    refine k_I0 (pc := 13) (co_S C (c_M_in (xl X) (xD X) (xt X) (xv X) y2 0 3 _ hw) mw_M_in lk_M_58 d_M_item_13 [] rfl (by decide)  rfl rfl ⟨Nat.le_of_ble_eq_true rfl, Nat.le_of_ble_eq_true rfl⟩ ⟨Nat.le_of_ble_eq_true rfl, Nat.le_of_ble_eq_true rfl⟩ (rest := []) rfl rfl (Nat.le_of_ble_eq_true rfl)) (fun v3 hw => ?_)
    refine g_if_ne (pc := 16) (tgt := 21) C d_M_item_16 (by decide) (fun h17 => ?_) (fun h17 => ?_)
    · replace hw := hw.2 h17
      refine g_aload_n (pc := 21) C d_M_item_21 0 rfl rfl ?_
      refine fM_sortOf (pc := 22) C lk_M_33 d_M_item_22 ?_
      refine g_iload_n (pc := 25) C d_M_item_25 1 rfl rfl ?_
      obtain ⟨h4, hw⟩ := hw
      refine lM_sortOf (pc := 26) C d_M_item_26 (f := M_sortOf m) rfl (N0 := x1.toNatClampNeg) rfl h4 ?_
      refine g_if_ne (pc := 27) (tgt := 33) C d_M_item_27 (by decide) (fun h16 => ?_) (fun h16 => ?_)
      · replace hw := hw.2 h16
        refine g_aload_n (pc := 33) C d_M_item_33 0 rfl rfl ?_
        refine fM_sortOf (pc := 34) C lk_M_33 d_M_item_34 ?_
        refine g_iload_n (pc := 37) C d_M_item_37 1 rfl rfl ?_
        obtain ⟨h5, hw⟩ := hw
        refine lM_sortOf (pc := 38) C d_M_item_38 (f := M_sortOf m) rfl (N0 := x1.toNatClampNeg) rfl h5 ?_
        refine g_iload_n (pc := 39) C d_M_item_39 2 rfl rfl ?_
        refine g_iconst (pc := 40) C (v := 1) d_M_item_40 (by decide) ?_
        refine g_iadd (pc := 41) C d_M_item_41 ?_
        refine g_icmp_eq (pc := 42) (tgt := 48) C d_M_item_42 (by decide) (fun h15 => ?_) (fun h15 => ?_)
        · replace hw := hw.1 h15
          refine g_iload_n (pc := 48) C d_M_item_48 3 rfl rfl ?_
          refine g_i2l (pc := 49) C d_M_item_49 ?_
          refine g_topl (fun y6 ey6 => ?_)
          replace hw := hw y6 ey6
          refine g_lconst (pc := 50) C (v := 0) d_M_item_50 (by decide) ?_
          refine g_aload_n (pc := 51) C d_M_item_51 0 rfl rfl ?_
          refine fM_sizeOf (pc := 52) C lk_M_36 d_M_item_52 ?_
          refine g_iload_n (pc := 55) C d_M_item_55 1 rfl rfl ?_
          obtain ⟨h7, hw⟩ := hw
          refine lM_sizeOf (pc := 56) C d_M_item_56 (f := M_sizeOf m) rfl (N0 := x1.toNatClampNeg) rfl h7 ?_
          refine g_iconst (pc := 57) C (v := 1) d_M_item_57 (by decide) ?_
          refine g_isub (pc := 58) C d_M_item_58 ?_
          refine g_i2l (pc := 59) C d_M_item_59 ?_
          refine g_topl (fun y8 ey8 => ?_)
          replace hw := hw y8 ey8
          refine k_I0 (pc := 60) (co_S C (c_M_in (xl X) (xD X) (xt X) (xv X) y6 0 y8 _ hw) mw_M_in lk_M_58 d_M_item_60 [] rfl (by decide)  rfl rfl ⟨Nat.le_of_ble_eq_true rfl, Nat.le_of_ble_eq_true rfl⟩ ⟨Nat.le_of_ble_eq_true rfl, Nat.le_of_ble_eq_true rfl⟩ (rest := []) rfl rfl (Nat.le_of_ble_eq_true rfl)) (fun v9 hw => ?_)
          refine g_if_eq (pc := 63) (tgt := 81) C d_M_item_63 (by decide) (fun h14 => ?_) (fun h14 => ?_)
          · replace hw := hw.1 h14
            refine g_bipush (pc := 81) C (v := (-12)) d_M_item_81 (by decide) ?_
            exact g_iret (pc := 83) C q d_M_item_83 (hq _ _ hw)
          · replace hw := hw.2 h14
            refine g_aload_n (pc := 66) C d_M_item_66 0 rfl rfl ?_
            refine fM_item (pc := 67) C lk_M_39 d_M_item_67 ?_
            refine g_bipush (pc := 70) C (v := 40) d_M_item_70 (by decide) ?_
            refine g_iload_n (pc := 72) C d_M_item_72 1 rfl rfl ?_
            refine g_imul (pc := 73) C d_M_item_73 ?_
            refine g_topi (fun y10 ey10 => ?_)
            replace hw := hw y10 ey10
            refine g_iload_n (pc := 74) C d_M_item_74 3 rfl rfl ?_
            refine g_iadd (pc := 75) C d_M_item_75 ?_
            refine g_topi (fun y11 ey11 => ?_)
            replace hw := hw y11 ey11
            obtain ⟨h12, hw⟩ := hw
            refine lM_item (pc := 76) C d_M_item_76 (f := M_item m) rfl (N0 := y11.toNatClampNeg) rfl h12 ?_
            refine g_l2i (pc := 77) C d_M_item_77 ?_
            refine g_topi (fun y13 ey13 => ?_)
            replace hw := hw y13 ey13
            refine g_goto (pc := 78) (tgt := 83) C d_M_item_78 (by decide) ?_
            exact g_iret (pc := 83) C q d_M_item_83 (hq _ _ hw)
        · replace hw := hw.2 h15
          refine g_bipush (pc := 45) C (v := (-13)) d_M_item_45 (by decide) ?_
          exact g_iret (pc := 47) C q d_M_item_47 (hq _ _ hw)
      · replace hw := hw.1 h16
        refine g_bipush (pc := 30) C (v := (-11)) d_M_item_30 (by decide) ?_
        exact g_iret (pc := 32) C q d_M_item_32 (hq _ _ hw)
    · replace hw := hw.1 h17
      refine g_iconst (pc := 19) C (v := (-1)) d_M_item_19 (by decide) ?_
      exact g_iret (pc := 20) C q d_M_item_20 (hq _ _ hw)
set_option maxRecDepth 20000 in
theorem c_M_item (l : Launch) (D : va_G) (t : Nat → ClassId) (ev : Nat → Nat) (a : Nat → Nat) (m : MSt) (x1 : Int32) (x2 : Int32) (x3 : Int32) (post : Int32 → MSt → Prop) (hw : wp_M_item m x1 x2 x3 post) : Con l D t ev y_M_item b_M_item 4 ((some .int)) 2 (woM t a m) [.ref (a 0), .int x1, .int x2, .int x3] (qI (woM t a)  post) :=
  ConR.of (by decide +kernel) (Nat.le_of_ble_eq_true rfl) (fun X el eD et ee C q _ => by subst el; subst eD; subst et; subst ee; exact g_M_item C q a m x1 x2 x3 post (fun v c1 h => ⟨⟨v, c1, rfl, rfl, h⟩, rfl⟩) hw)
