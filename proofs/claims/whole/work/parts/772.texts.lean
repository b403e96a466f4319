/-! ===== the class's reader of tokens ===== -/
def TP (b : Nat → Int32) (z : Nat) (tp : Nat → Int) : Prop := z ≤ 200 ∧ ∀ j, j < z → (0 ≤ tp j ∧ tp j ≤ 255) ∧ b j = iI (sg (tp j))
def tS (b : Nat → Int32) (z : Nat) (tp : Nat → Int) (s : Nat) : TSt := (b, nI z, nI (if ty tp z s = 4 then 3 else ty tp z s), nI s, nI (en tp z s))
def bv (tp : Nat → Int) (z i : Nat) : Int := if i < z then sg (tp i) else -1
theorem sg_b {v : Int} (h : 0 ≤ v ∧ v ≤ 255) : -128 ≤ sg v ∧ sg v ≤ 127 := by
  unfold sg; split <;> omega
theorem bv_b {b : Nat → Int32} {z : Nat} {tp : Nat → Int} (H : TP b z tp) (i : Nat) : -128 ≤ bv tp z i ∧ bv tp z i ≤ 127 := by
  unfold bv
  by_cases c : i < z
  · rw [if_pos c]; exact sg_b (H.2 i c).1
  · rw [if_neg c]; omega
theorem sg_eq {v k : Int} (h : 0 ≤ v ∧ v ≤ 255) (hk : 0 ≤ k ∧ k ≤ 127) : sg v = k ↔ v = k := by
  unfold sg
  split
  · exact Iff.rfl
  · constructor <;> intro _ <;> omega
theorem bL_sg {v : Int} (h : 0 ≤ v ∧ v ≤ 255) : bL (sg v) = bL v := by
  rw [Bool.eq_iff_iff, bL_t, bL_t]
  unfold sg
  split
  · exact Iff.rfl
  · constructor <;> intro _ <;> omega
theorem bD_sg {v : Int} (h : 0 ≤ v ∧ v ≤ 255) : bD (sg v) = bD v := by
  rw [Bool.eq_iff_iff, bD_t, bD_t]
  unfold sg
  split
  · exact Iff.rfl
  · constructor <;> intro _ <;> omega
theorem T_byteAt_ok {b : Nat → Int32} {z : Nat} {tp : Nat → Int} (H : TP b z tp) {c : TSt} {i : Nat} {post : Int32 → TSt → Prop} (hi : i ≤ 1000) (hb : T_bytes c = b) (hs : T_size c = nI z) (hp : post (iI (bv tp z i)) c) : wp_T_byteAt c (nI i) post := by
  unfold wp_T_byteAt
  have hz := H.1
  unfold bv at hp
  refine t_lt (a := i) (b := 0) rfl rfl (fun q => by omega) (fun _ => ?_)
  refine t_le (a := z) (b := i) hs rfl (fun q => ?_) (fun q => ?_)
  · rw [if_neg (by omega)] at hp
    exact hp
  · refine t_le (a := 200) (b := i) rfl rfl (fun q2 => by omega) (fun _ => ?_)
    refine ⟨vp_in_nI (by omega) (by omega), ?_⟩
    rw [if_pos (by omega)] at hp
    rw [nI_clamp (by omega), hb, (H.2 i (by omega)).2]
    exact hp
theorem T_isL_ok {v : Int} {post : Int32 → Prop} (hv : -128 ≤ v ∧ v ≤ 127) (hp : post (bI (bL v))) : wp_T_isLetter (iI v) post := by
  unfold wp_T_isLetter
  have no : ¬ (97 ≤ v ∧ v ≤ 122) → post 0 := by
    intro P
    have : bL v = false := by
      cases q : bL v with
      | false => rfl
      | true => exact absurd (bL_t.mp q) P
    rw [this] at hp
    exact hp
  refine t_lt (a := v) (b := 97) rfl rfl (fun q => no (by omega)) (fun q => ?_)
  refine t_lt (a := 122) (b := v) rfl rfl (fun q2 => no (by omega)) (fun q2 => ?_)
  rw [bL_t.mpr ⟨q, q2⟩] at hp
  exact hp
theorem T_isD_ok {v : Int} {post : Int32 → Prop} (hv : -128 ≤ v ∧ v ≤ 127) (hp : post (bI (bD v))) : wp_T_isDigit (iI v) post := by
  unfold wp_T_isDigit
  have no : ¬ (48 ≤ v ∧ v ≤ 57) → post 0 := by
    intro P
    have : bD v = false := by
      cases q : bD v with
      | false => rfl
      | true => exact absurd (bD_t.mp q) P
    rw [this] at hp
    exact hp
  refine t_lt (a := v) (b := 48) rfl rfl (fun q => no (by omega)) (fun q => ?_)
  refine t_lt (a := 57) (b := v) rfl rfl (fun q2 => no (by omega)) (fun q2 => ?_)
  rw [bD_t.mpr ⟨q, q2⟩] at hp
  exact hp
theorem T_step72 {b : Nat → Int32} {z : Nat} {tp : Nat → Int} (H : TP b z tp) {so st : Int32} {post : TSt → Prop} : ∀ (n q : Nat), q ≤ z → z - q < n → post (b, nI z, so, st, nI (rn tp z bL q)) → w_T_step_72 post n (b, nI z, so, st, nI q) := by
  intro n
  have hz := H.1
  induction n with
  | zero => intro q _ h; omega
  | succ n ih =>
    intro q hq hn hp
    rw [w_T_step_72]
    refine t_le (a := z) (b := q) rfl rfl (fun u => ?_) (fun u => ?_)
    · rw [rn_0 (by omega)] at hp
      exact hp
    refine T_byteAt_ok (i := q) H (by omega) rfl rfl ?_
    refine T_isL_ok (bv_b H q) ?_
    have e1 : bv tp z q = sg (tp q) := by unfold bv; rw [if_pos (by omega)]
    rw [e1, bL_sg (H.2 q (by omega)).1]
    cases qq : bL (tp q) with
    | true =>
      refine if1 ?_
      intro y hy
      rw [rn_1 (by omega) qq] at hp
      have hy2 : y = nI (q + 1) := by rw [hy]; exact nI_1 q
      rw [hy2]
      exact ih (q + 1) (by omega) (by omega) hp
    | false =>
      rw [rn_0 (Or.inr qq)] at hp
      exact if0 hp
theorem T_step129 {b : Nat → Int32} {z : Nat} {tp : Nat → Int} (H : TP b z tp) {so st : Int32} {post : TSt → Prop} : ∀ (n q : Nat), q ≤ z → z - q < n → post (b, nI z, so, st, nI (rn tp z bD q)) → w_T_step_129 post n (b, nI z, so, st, nI q) := by
  intro n
  have hz := H.1
  induction n with
  | zero => intro q _ h; omega
  | succ n ih =>
    intro q hq hn hp
    rw [w_T_step_129]
    refine t_le (a := z) (b := q) rfl rfl (fun u => ?_) (fun u => ?_)
    · rw [rn_0 (by omega)] at hp
      exact hp
    refine T_byteAt_ok (i := q) H (by omega) rfl rfl ?_
    refine T_isD_ok (bv_b H q) ?_
    have e1 : bv tp z q = sg (tp q) := by unfold bv; rw [if_pos (by omega)]
    rw [e1, bD_sg (H.2 q (by omega)).1]
    cases qq : bD (tp q) with
    | true =>
      refine if1 ?_
      intro y hy
      rw [rn_1 (by omega) qq] at hp
      have hy2 : y = nI (q + 1) := by rw [hy]; exact nI_1 q
      rw [hy2]
      exact ih (q + 1) (by omega) (by omega) hp
    | false =>
      rw [rn_0 (Or.inr qq)] at hp
      exact if0 hp
theorem T_step45 {b : Nat → Int32} {z : Nat} {tp : Nat → Int} (H : TP b z tp) {so e0 : Int32} {s : Nat} {post : TSt → Prop} (hs : s ≤ z) (hp : post (tS b z tp s)) : w_T_step_45 post (b, nI z, so, nI s, e0) := by
  have hz := H.1
  unfold w_T_step_45
  show wp_T_byteAt (b, nI z, so, nI s, nI s) (nI s) _
  refine T_byteAt_ok (i := s) H (by omega) rfl rfl ?_
  refine T_isL_ok (bv_b H s) ?_
  unfold tS at hp
  by_cases c : z ≤ s
  · have e1 : bv tp z s = -1 := by unfold bv; rw [if_neg (by omega)]
    rw [e1]
    refine if0 ?_
    show wp_T_byteAt (b, nI z, so, nI s, nI s) (nI s) _
    refine T_byteAt_ok (i := s) H (by omega) rfl rfl ?_
    rw [e1]
    refine T_isD_ok (by omega) (if0 ?_)
    refine t_le (a := z) (b := s) rfl rfl (fun _ => ?_) (fun u => by omega)
    have e2 : ty tp z s = 0 := ty_0.mpr c
    have e3 : en tp z s = s := by unfold en; rw [if_pos c]
    rw [e2, e3] at hp
    exact hp
  · have ht := (H.2 s (by omega)).1
    have e1 : bv tp z s = sg (tp s) := by unfold bv; rw [if_pos (by omega)]
    rw [e1, bL_sg ht]
    cases qL : bL (tp s) with
    | true =>
      refine if1 ?_
      have e2 : ty tp z s = 1 := ty_1.mpr ⟨by omega, qL⟩
      have e3 : en tp z s = rn tp z bL s := by unfold en; rw [if_neg c, if_pos qL]
      rw [e2, e3] at hp
      exact T_step72 H 2000 s hs (by omega) hp
    | false =>
      refine if0 ?_
      show wp_T_byteAt (b, nI z, so, nI s, nI s) (nI s) _
      refine T_byteAt_ok (i := s) H (by omega) rfl rfl ?_
      rw [e1]
      refine T_isD_ok (sg_b ht) ?_
      rw [bD_sg ht]
      cases qD : bD (tp s) with
      | true =>
        refine if1 ?_
        have e2 : ty tp z s = 2 := ty_2.mpr ⟨by omega, by rw [qL]; decide, qD⟩
        have e3 : en tp z s = rn tp z bD s := by unfold en; rw [if_neg c, if_neg (by rw [qL]; decide), if_pos qD]
        rw [e2, e3] at hp
        exact T_step129 H 2000 s hs (by omega) hp
      | false =>
        refine if0 ?_
        refine t_le (a := z) (b := s) rfl rfl (fun u => by omega) (fun _ => ?_)
        intro y hy
        have hy2 : y = nI (s + 1) := by rw [hy]; exact nI_1 s
        have e3 : en tp z s = s + 1 := by unfold en; rw [if_neg c, if_neg (by rw [qL]; decide), if_neg (by rw [qD]; decide)]
        have n0 : ¬ ty tp z s = 0 := fun q => c (ty_0.mp q)
        have n1 : ¬ ty tp z s = 1 := fun q => by have := (ty_1.mp q).2; rw [qL] at this; exact absurd this (by decide)
        have n2 : ¬ ty tp z s = 2 := fun q => by have := (ty_2.mp q).2.2; rw [qD] at this; exact absurd this (by decide)
        have nl := ty_le tp z s
        have e2 : (if ty tp z s = 4 then 3 else ty tp z s) = 3 := by
          split <;> omega
        rw [e2, e3] at hp
        rw [hy2]
        exact hp
theorem T_step8 {b : Nat → Int32} {z : Nat} {tp : Nat → Int} (H : TP b z tp) {so e0 : Int32} {post : TSt → Prop} : ∀ (n p : Nat), p ≤ z → z - p < n → post (tS b z tp (rn tp z bS p)) → w_T_step_8 post n (b, nI z, so, nI p, e0) := by
  intro n
  have hz := H.1
  induction n with
  | zero => intro p _ h; omega
  | succ n ih =>
    intro p hq hn hp
    rw [w_T_step_8]
    refine t_le (a := z) (b := p) rfl rfl (fun u => ?_) (fun u => ?_)
    · rw [rn_0 (by omega)] at hp
      exact T_step45 H hq hp
    refine T_byteAt_ok (i := p) H (by omega) rfl rfl ?_
    have ht := (H.2 p (by omega)).1
    have e1 : bv tp z p = sg (tp p) := by unfold bv; rw [if_pos (by omega)]
    rw [e1]
    have sb := sg_b ht
    refine t_eq (a := sg (tp p)) (b := 32) rfl rfl (fun u2 => ?_) (fun u2 => ?_)
    · have t32 : tp p = 32 := (sg_eq ht (by omega)).mp u2
      intro y hy
      have hy2 : y = nI (p + 1) := by rw [hy]; exact nI_1 p
      rw [hy2]
      rw [rn_1 (by omega) (bS_t.mpr t32)] at hp
      exact ih (p + 1) (by omega) (by omega) hp
    · have n32 : bS (tp p) = false := by
        cases q : bS (tp p) with
        | false => rfl
        | true => exact absurd ((sg_eq ht (by omega)).mpr (bS_t.mp q)) u2
      rw [rn_0 (Or.inr n32)] at hp
      exact T_step45 H hq hp
theorem T_step_ok {b : Nat → Int32} {z : Nat} {tp : Nat → Int} (H : TP b z tp) {s : Nat} {post : TSt → Prop} (hs : s ≤ z) (hp : post (tS b z tp (nx tp z s))) : wp_T_step (tS b z tp s) post := by
  unfold wp_T_step
  have hz := H.1
  exact T_step8 H 2000 (en tp z s) (en_le hs).2.1 (by omega) hp
/-! names -/
theorem tx_1 : ∀ k, k < 16 → 2 ≤ txLen.getD k 0 ∧ txLen.getD k 0 ≤ 6 := by decide +kernel
theorem tx_2 : ∀ k, k < 16 → ∀ c, c < 8 → c < txLen.getD k 0 → txc k c = wordsF (8 * k + c) := by decide +kernel
theorem tx_3 : ∀ k, k < 16 → ∀ c, c < 8 → ¬ c < txLen.getD k 0 → wordsF (8 * k + c) = 32 := by decide +kernel
theorem tx_4 : ∀ k, k < 16 → ∀ c, c < 8 → c < txLen.getD k 0 → ¬ wordsF (8 * k + c) = 32 := by decide +kernel
theorem mt_len {b : Nat → Int32} {z : Nat} {tp : Nat → Int} (H : TP b z tp) {s k : Nat} (hk : k < 16) (h1 : ty tp z s = 1) : mt tp z s k ↔ (en tp z s - s = txLen.getD k 0 ∧ ∀ c, c < txLen.getD k 0 → iI (tp (s + c)) = txc k c) := by
  obtain ⟨hs, hl⟩ := ty_1.mp h1
  have tl := tx_1 k hk
  have e3 : en tp z s = rn tp z bL s := by unfold en; rw [if_neg (by omega), if_pos hl]
  obtain ⟨n1, n2, n3, n4⟩ := rn_ok (tp := tp) (z := z) (P := bL) (p := s) (by omega)
  rw [← e3] at n1 n2 n3
  have lt : ∀ j, s ≤ j → j < en tp z s → ¬ iI (tp j) = 32 := by
    intro j j1 j2 q
    have := bL_t.mp (n3 j j1 j2)
    have := (iI_eq (a := tp j) (b := 32) (by omega) (by omega)).mp q
    omega
  constructor
  · intro ⟨m1, m2⟩
    have c1 : ∀ c, c < txLen.getD k 0 → s + c < en tp z s := by
      intro c hc
      by_cases q : s + c < en tp z s
      · exact q
      · have := m2 c (by omega)
        rw [if_neg q] at this
        exact absurd this (tx_4 k hk c (by omega) hc)
    have c2 : ¬ s + txLen.getD k 0 < en tp z s := by
      intro q
      have := m2 (txLen.getD k 0) (by omega)
      rw [if_pos q, tx_3 k hk _ (by omega) (by omega)] at this
      exact lt _ (by omega) q this.symm
    have c3 := c1 (txLen.getD k 0 - 1) (by omega)
    refine ⟨by omega, fun c hc => ?_⟩
    have := m2 c (by omega)
    rw [if_pos (c1 c hc)] at this
    rw [tx_2 k hk c (by omega) hc]
    exact this.symm
  · intro ⟨m1, m2⟩
    refine ⟨by omega, fun c hc => ?_⟩
    by_cases q : c < txLen.getD k 0
    · rw [if_pos (by omega), m2 c q, tx_2 k hk c hc q]
    · rw [if_neg (by omega), tx_3 k hk c hc q]
theorem T_isName_ok {b : Nat → Int32} {z : Nat} {tp : Nat → Int} (H : TP b z tp) {s k : Nat} {post : Int32 → TSt → Prop} (hs : s ≤ z) (hk : k < 16) (h1 : ty tp z s = 1 → wd tp z s = k → post 1 (tS b z tp s)) (h0 : ¬ (ty tp z s = 1 ∧ wd tp z s = k) → post 0 (tS b z tp s)) : wp_T_isName (tS b z tp s) k post := by
  have hz := H.1
  have tyl := ty_le tp z s
  have tl := tx_1 k hk
  obtain ⟨el, ez, _⟩ := en_le (tp := tp) hs
  unfold wp_T_isName
  have so : T_sort (tS b z tp s) = nI (if ty tp z s = 4 then 3 else ty tp z s) := rfl
  rw [so]
  refine t_eq (a := ((if ty tp z s = 4 then 3 else ty tp z s : Nat) : Int)) (b := 1) rfl rfl (fun u => ?_) (fun u => ?_) (by split <;> omega)
  rotate_left
  · refine h0 (fun q => u ?_)
    rw [q.1]
    rfl
  have t1 : ty tp z s = 1 := by
    split at u <;> omega
  intro y1 hy1
  have e1 : y1 = nI (en tp z s - s) := by rw [hy1]; exact pk_sub el
  refine ⟨hk, hk, ?_⟩
  rw [e1]
  have ml := mt_len H hk t1
  have wi := wd_iff (tp := tp) (z := z) (s := s) hk
  refine t_eq (a := ((en tp z s - s : Nat) : Int)) (b := ((txLen.getD k 0 : Nat) : Int)) rfl rfl (fun u2 => ?_) (fun u2 => ?_)
  rotate_left
  · exact h0 (fun q => u2 (by have := (ml.mp (wi.mp q.2)).1; omega))
  have e3 : en tp z s - s = txLen.getD k 0 := by omega
  obtain ⟨_, hl⟩ := ty_1.mp t1
  have e4 : en tp z s = rn tp z bL s := by unfold en; rw [if_neg (by have := (ty_1.mp t1).1; omega), if_pos hl]
  obtain ⟨n1, n2, n3, n4⟩ := rn_ok (tp := tp) (z := z) (P := bL) (p := s) hs
  rw [← e4] at n1 n2 n3
  have key : ∀ (n i : Nat), i ≤ txLen.getD k 0 → txLen.getD k 0 - i < n → (∀ c, c < i → iI (tp (s + c)) = txc k c) → w_T_isName_28 post n (tS b z tp s) k (nI i) := by
    intro n
    induction n with
    | zero => intro i _ h; omega
    | succ n ih =>
      intro i hi hn hq
      rw [w_T_isName_28]
      refine ⟨hk, hk, ?_⟩
      refine t_le (a := ((txLen.getD k 0 : Nat) : Int)) (b := i) rfl rfl (fun u3 => ?_) (fun u3 => ?_)
      · refine h1 t1 (wi.mpr (ml.mpr ⟨e3, fun c hc => hq c (by omega)⟩))
      intro y6 h6
      have e6 : y6 = nI (s + i) := by rw [h6]; exact nI_add s i
      rw [e6]
      refine T_byteAt_ok (i := s + i) H (by omega) rfl rfl ?_
      have lv := bL_t.mp (n3 (s + i) (by omega) (by omega))
      have e7 : bv tp z (s + i) = tp (s + i) := by
        unfold bv sg
        rw [if_pos (by omega), if_pos (by omega)]
      rw [e7]
      refine ⟨hk, hk, vp_in_nI (by omega) (by omega), ?_⟩
      rw [nI_clamp (by omega)]
      refine ⟨fun u4 => ?_, fun u4 => ?_⟩
      · intro y hy
        rw [hy, nI_1]
        refine ih (i + 1) (by omega) (by omega) (fun c hc => ?_)
        by_cases g : c = i
        · subst g; exact u4
        · exact hq c (by omega)
      · exact h0 (fun q => u4 ((ml.mp (wi.mp q.2)).2 i (by omega)))
  exact key 2000 0 (by omega) (by omega) (fun c hc => by omega)
theorem T_take_ok {b : Nat → Int32} {z : Nat} {tp : Nat → Int} (H : TP b z tp) {s k : Nat} {post : Int32 → TSt → Prop} (hs : s ≤ z) (hk : k < 16) (h1 : ty tp z s = 1 → wd tp z s = k → post 1 (tS b z tp (nx tp z s))) (h0 : ¬ (ty tp z s = 1 ∧ wd tp z s = k) → post 0 (tS b z tp s)) : wp_T_takeName (tS b z tp s) k post := by
  unfold wp_T_takeName
  exact T_isName_ok H hs hk (fun a b => if1 (T_step_ok H hs (h1 a b))) (fun a => if0 (h0 a))
/-! numbers -/
theorem nv_b {tp : Nat → Int} {s : Nat} : ∀ (f i : Nat) (v M : Int), (∀ j, i ≤ j → j < i + f → 48 ≤ tp j ∧ tp j ≤ 57) → f ≤ 3 → 0 ≤ v ∧ v ≤ M → f + (i - s) ≤ 3 → s ≤ i → (f = 0 → M ≤ 999) → (f = 1 → M ≤ 99) → (f = 2 → M ≤ 9) → (f = 3 → M ≤ 0) → 0 ≤ nvF tp s f i v ∧ nvF tp s f i v ≤ 999 := by
  intro f
  induction f with
  | zero =>
    intro i v M _ _ hv _ _ h0 _ _ _
    have := h0 rfl
    show 0 ≤ v ∧ v ≤ 999
    omega
  | succ f ih =>
    intro i v M hd hf hv hfi hsi h0 h1 h2 h3
    rw [nvF, if_pos (by omega)]
    have d := hd i (by omega) (by omega)
    refine ih (i + 1) _ (10 * M + 9) (fun j j1 j2 => hd j (by omega) (by omega)) (by omega) (by omega) (by omega) (by omega) (fun q => ?_) (fun q => ?_) (fun q => ?_) (fun q => by omega)
    · have := h1 (by omega); omega
    · have := h2 (by omega); omega
    · have := h3 (by omega); omega
theorem dg_of {tp : Nat → Int} {z s : Nat} (h2 : ty tp z s = 2) : s < z ∧ s < en tp z s ∧ en tp z s ≤ z ∧ en tp z s = rn tp z bD s ∧ ∀ j, s ≤ j → j < en tp z s → 48 ≤ tp j ∧ tp j ≤ 57 := by
  obtain ⟨hs, hl, hd⟩ := ty_2.mp h2
  have e3 : en tp z s = rn tp z bD s := by unfold en; rw [if_neg (by omega), if_neg hl, if_pos hd]
  obtain ⟨n1, n2, n3, n4⟩ := rn_ok (tp := tp) (z := z) (P := bD) (p := s) (by omega)
  rw [← e3] at n1 n2 n3
  have := (en_le (tp := tp) (show s ≤ z by omega)).2.2 hs
  exact ⟨hs, this, n2, e3, fun j j1 j2 => bD_t.mp (n3 j j1 j2)⟩
theorem nm_b {tp : Nat → Int} {z s : Nat} (h2 : ty tp z s = 2) : 0 ≤ nm tp z s ∧ nm tp z s ≤ 1000 ∧ (3 < en tp z s - s → nm tp z s = 1000) := by
  obtain ⟨hs, hl, hz, _, hd⟩ := dg_of h2
  unfold nm
  by_cases q : 3 < en tp z s - s
  · have e1 : nvF tp s (en tp z s - s) s 0 = 1000 := nv_big _ s 0 (by omega) (by omega) (by omega)
    rw [e1]
    exact ⟨by omega, by omega, fun _ => rfl⟩
  · have := nv_b (tp := tp) (s := s) (en tp z s - s) s 0 0 (fun j j1 j2 => hd j j1 (by omega)) (by omega) (by omega) (by omega) (by omega) (by omega) (by omega) (by omega) (by omega)
    exact ⟨this.1, by omega, fun h => absurd h q⟩
theorem T_num_ok {b : Nat → Int32} {z : Nat} {tp : Nat → Int} (H : TP b z tp) {s : Nat} {most : Int} {post : Int32 → TSt → Prop} (hs : s ≤ z) (hm : 0 ≤ most ∧ most ≤ 99) (h1 : ty tp z s = 2 → nm tp z s ≤ most → post (iI (nm tp z s)) (tS b z tp (nx tp z s))) (h0 : ¬ (ty tp z s = 2 ∧ nm tp z s ≤ most) → post (-1) (tS b z tp s)) : wp_T_takeNumber (tS b z tp s) (iI most) post := by
  have hz := H.1
  have tyl := ty_le tp z s
  obtain ⟨el, ez, _⟩ := en_le (tp := tp) hs
  unfold wp_T_takeNumber
  have so : T_sort (tS b z tp s) = nI (if ty tp z s = 4 then 3 else ty tp z s) := rfl
  rw [so]
  refine t_eq (a := ((if ty tp z s = 4 then 3 else ty tp z s : Nat) : Int)) (b := 2) rfl rfl (fun u => ?_) (fun u => ?_) (by split <;> omega)
  rotate_left
  · refine h0 (fun q => u ?_)
    rw [q.1]
    rfl
  have t2 : ty tp z s = 2 := by
    split at u <;> omega
  obtain ⟨d1, d2, d3, d4, d5⟩ := dg_of t2
  obtain ⟨b1, b2, b3⟩ := nm_b t2
  intro y1 hy1
  have e1 : y1 = nI (en tp z s - s) := by rw [hy1]; exact pk_sub el
  rw [e1]
  refine t_le (a := ((en tp z s - s : Nat) : Int)) (b := 3) rfl rfl (fun u2 => ?_) (fun u2 => ?_)
  rotate_left
  · exact h0 (fun q => by have := b3 (by omega); omega)
  have key : ∀ (n i : Nat) (v : Int), s ≤ i → i ≤ en tp z s → en tp z s - i < n → nvF tp s (en tp z s - i) i v = nm tp z s → w_T_takeNumber_30 post n (tS b z tp s) (iI most) (iI v) (nI i) := by
    intro n
    induction n with
    | zero => intro i v _ _ h; omega
    | succ n ih =>
      intro i v hi hi2 hn hv
      rw [w_T_takeNumber_30]
      have ee : T_end (tS b z tp s) = nI (en tp z s) := rfl
      rw [ee]
      refine t_le (a := en tp z s) (b := i) rfl rfl (fun u3 => ?_) (fun u3 => ?_)
      · have e2 : v = nm tp z s := by
          rw [show en tp z s - i = 0 by omega] at hv
          exact hv
        rw [e2]
        refine t_le (a := nm tp z s) (b := most) rfl rfl (fun u4 => ?_) (fun u4 => h0 (by omega))
        exact T_step_ok H hs (h1 t2 u4)
      intro y4 h4
      refine T_byteAt_ok (i := i) H (by omega) rfl rfl ?_
      have dv := d5 i hi (by omega)
      have e7 : bv tp z i = tp i := by
        unfold bv sg
        rw [if_pos (by omega), if_pos (by omega)]
      rw [e7]
      intro y7 h7 y8 h8 y9 h9
      obtain ⟨f, hf⟩ : ∃ f, en tp z s - i = f + 1 := ⟨en tp z s - i - 1, by omega⟩
      rw [hf, nvF, if_pos (by omega)] at hv
      have e8 : y8 = iI (10 * v + tp i - 48) := by
        rw [h8, h7, h4, show (10 : Int32) = iI 10 from rfl, show (48 : Int32) = iI 48 from rfl, iI_mul, iI_add, iI_sub, Int.mul_comm]
      rw [e8, h9, nI_1]
      refine ih (i + 1) _ (by omega) (by omega) (by omega) ?_
      rw [show en tp z s - (i + 1) = f by omega]
      exact hv
  exact key 2000 s 0 (by omega) (by omega) (by omega) rfl
theorem T_eol_ok {b : Nat → Int32} {z : Nat} {tp : Nat → Int} (H : TP b z tp) {s : Nat} {post : Int32 → TSt → Prop} (hs : s ≤ z) (h1 : ty tp z s = 3 → post 1 (tS b z tp (nx tp z s))) (h0 : ¬ ty tp z s = 3 → post 0 (tS b z tp s)) : wp_T_takeEndOfLine (tS b z tp s) post := by
  have hz := H.1
  have tyl := ty_le tp z s
  unfold wp_T_takeEndOfLine
  have so : T_sort (tS b z tp s) = nI (if ty tp z s = 4 then 3 else ty tp z s) := rfl
  rw [so]
  refine t_eq (a := ((if ty tp z s = 4 then 3 else ty tp z s : Nat) : Int)) (b := 3) rfl rfl (fun u => ?_) (fun u => ?_) (by split <;> omega)
  rotate_left
  · refine h0 (fun q => u ?_)
    rw [q]
    rfl
  have sz : s < z := by
    by_cases q : z ≤ s
    · have := (ty_0 (tp := tp)).mpr q
      rw [this] at u
      simp at u
    · omega
  have st : T_start (tS b z tp s) = nI s := rfl
  rw [st]
  refine T_byteAt_ok (i := s) H (by omega) rfl rfl ?_
  have ht := (H.2 s sz).1
  have e1 : bv tp z s = sg (tp s) := by unfold bv; rw [if_pos sz]
  have sb := sg_b ht
  rw [e1]
  refine t_eq (a := sg (tp s)) (b := 59) rfl rfl (fun u2 => ?_) (fun u2 => ?_)
  · exact T_step_ok H hs (h1 (ty_3.mpr ⟨sz, (sg_eq ht (by omega)).mp u2⟩))
  · exact h0 (fun q => u2 ((sg_eq ht (by omega)).mpr (ty_3.mp q).2))
