/-! ===== the reference's reader of tokens ===== -/
def mT (m : MSt) (a b t v w : Int32) : MSt := M_told_ (M_value_ (M_token_ (M_begun_ (M_at_ m a) b) t) v) w
theorem mT_at_ (m : MSt) (a b t v w u : Int32) : M_at_ (mT m a b t v w) u = mT m u b t v w := by
  unfold mT
  dsimp only [M_at_, M_begun_, M_token_, M_value_, M_told_]
theorem mT_at (m : MSt) (a b t v w : Int32) : M_at (mT m a b t v w) = a := by
  unfold mT
  dsimp only [M_at, M_at_, M_begun_, M_token_, M_value_, M_told_]
theorem mT_begun_ (m : MSt) (a b t v w u : Int32) : M_begun_ (mT m a b t v w) u = mT m a u t v w := by
  unfold mT
  dsimp only [M_at_, M_begun_, M_token_, M_value_, M_told_]
theorem mT_begun (m : MSt) (a b t v w : Int32) : M_begun (mT m a b t v w) = b := by
  unfold mT
  dsimp only [M_begun, M_at_, M_begun_, M_token_, M_value_, M_told_]
theorem mT_token_ (m : MSt) (a b t v w u : Int32) : M_token_ (mT m a b t v w) u = mT m a b u v w := by
  unfold mT
  dsimp only [M_at_, M_begun_, M_token_, M_value_, M_told_]
theorem mT_token (m : MSt) (a b t v w : Int32) : M_token (mT m a b t v w) = t := by
  unfold mT
  dsimp only [M_token, M_at_, M_begun_, M_token_, M_value_, M_told_]
theorem mT_value_ (m : MSt) (a b t v w u : Int32) : M_value_ (mT m a b t v w) u = mT m a b t u w := by
  unfold mT
  dsimp only [M_at_, M_begun_, M_token_, M_value_, M_told_]
theorem mT_value (m : MSt) (a b t v w : Int32) : M_value (mT m a b t v w) = v := by
  unfold mT
  dsimp only [M_value, M_at_, M_begun_, M_token_, M_value_, M_told_]
theorem mT_told_ (m : MSt) (a b t v w u : Int32) : M_told_ (mT m a b t v w) u = mT m a b t v u := by
  unfold mT
  dsimp only [M_at_, M_begun_, M_token_, M_value_, M_told_]
theorem mT_told (m : MSt) (a b t v w : Int32) : M_told (mT m a b t v w) = w := by
  unfold mT
  dsimp only [M_told, M_at_, M_begun_, M_token_, M_value_, M_told_]
theorem mT_tape (m : MSt) (a b t v w : Int32) : M_tape (mT m a b t v w) = M_tape m := by
  unfold mT
  dsimp only [M_tape, M_at_, M_begun_, M_token_, M_value_, M_told_]
theorem mT_taped (m : MSt) (a b t v w : Int32) : M_taped (mT m a b t v w) = M_taped m := by
  unfold mT
  dsimp only [M_taped, M_at_, M_begun_, M_token_, M_value_, M_told_]
theorem mT_words (m : MSt) (a b t v w : Int32) : M_words (mT m a b t v w) = M_words m := by
  unfold mT
  dsimp only [M_words, M_at_, M_begun_, M_token_, M_value_, M_told_]
theorem mT_d (m : MSt) (a b t v w : Int32) : M_d (mT m a b t v w) = M_d m := by
  unfold mT
  dsimp only [M_d, M_at_, M_begun_, M_token_, M_value_, M_told_]
theorem mT_aside (m : MSt) (a b t v w : Int32) : M_aside (mT m a b t v w) = M_aside m := by
  unfold mT
  dsimp only [M_aside, M_at_, M_begun_, M_token_, M_value_, M_told_]
theorem mT_still (m : MSt) (a b t v w : Int32) : M_still (mT m a b t v w) = M_still m := by
  unfold mT
  dsimp only [M_still, M_at_, M_begun_, M_token_, M_value_, M_told_]
theorem mT_rows (m : MSt) (a b t v w : Int32) : M_rows (mT m a b t v w) = M_rows m := by
  unfold mT
  dsimp only [M_rows, M_at_, M_begun_, M_token_, M_value_, M_told_]
theorem mT_row (m : MSt) (a b t v w : Int32) : M_row (mT m a b t v w) = M_row m := by
  unfold mT
  dsimp only [M_row, M_at_, M_begun_, M_token_, M_value_, M_told_]
theorem mT_d_ (m : MSt) (a b t v w : Int32) (u : Nat → Int32) : M_d_ (mT m a b t v w) u = mT (M_d_ m u) a b t v w := by
  unfold mT
  dsimp only [M_d_, M_at_, M_begun_, M_token_, M_value_, M_told_]
theorem mT_rows_ (m : MSt) (a b t v w : Int32) (u : Int32) : M_rows_ (mT m a b t v w) u = mT (M_rows_ m u) a b t v w := by
  unfold mT
  dsimp only [M_rows_, M_at_, M_begun_, M_token_, M_value_, M_told_]
theorem mT_taped_ (m : MSt) (a b t v w : Int32) (u : Int32) : M_taped_ (mT m a b t v w) u = mT (M_taped_ m u) a b t v w := by
  unfold mT
  dsimp only [M_taped_, M_at_, M_begun_, M_token_, M_value_, M_told_]
theorem mT_id (m : MSt) : mT m (M_at m) (M_begun m) (M_token m) (M_value m) (M_told m) = m := by
  unfold mT
  dsimp only [M_at, M_begun, M_token, M_value, M_told, M_at_, M_begun_, M_token_, M_value_, M_told_]
def MP (m : MSt) (z : Nat) (tp : Nat → Int) : Prop := z ≤ 200 ∧ M_taped m = nI z ∧ M_words m = wordsF ∧ ∀ j, j < z → (0 ≤ tp j ∧ tp j ≤ 255) ∧ M_tape m j = iI (tp j)
def mK (m : MSt) (z : Nat) (tp : Nat → Int) (s : Nat) (w : Int32) : MSt := mT m (nI (en tp z s)) (nI s) (nI (ty tp z s)) (iI (vl tp z s)) w
theorem M_isRow_ok {m : MSt} {z : Nat} {tp : Nat → Int} (H : MP m z tp) {p : Nat} {b t v w : Int32} {lo hi : Int} {x1 x2 : Int32} {post : Int32 → MSt → Prop} (hx1 : x1.toInt = lo) (hx2 : x2.toInt = hi) (hpz : p ≤ z) (h1 : p < z → lo ≤ tp p ∧ tp p ≤ hi → post 1 (mT m (nI p) b t v w)) (h0 : ¬ (p < z ∧ (lo ≤ tp p ∧ tp p ≤ hi)) → post 0 (mT m (nI p) b t v w)) : wp_M_isRow (mT m (nI p) b t v w) x1 x2 post := by
  obtain ⟨hz, h2, _, h3⟩ := H
  unfold wp_M_isRow
  rw [mT_taped, mT_at, mT_tape, h2]
  refine t_le (a := z) (b := p) rfl rfl (fun q => h0 (by omega)) (fun q => ?_)
  refine ⟨vp_in_nI (by omega) (by omega), ?_⟩
  rw [nI_clamp (by omega)]
  obtain ⟨tb, te⟩ := h3 p (by omega)
  rw [te]
  intro y2 f2 y3 f3 y4 f4
  have e3 : y3.toInt = lo := by rw [f3, Int32.toInt_toInt64, hx1]
  have e4 : y4.toInt = hi := by rw [f4, Int32.toInt_toInt64, hx2]
  have et : (iI (tp p)).toInt = tp p := iI_toInt (by omega) (by omega)
  refine I_in (a := iI (tp p)) (lo := y3) (hi := y4) (fun u => if1 (h1 (by omega) ?_)) (fun u => if0 (h0 (fun v => u ?_))) y2 f2
  · rw [e3, e4, et] at u
    exact u
  · rw [e3, e4, et]
    exact v.2
theorem M_word30 {m : MSt} {z : Nat} {tp : Nat → Int} (H : MP m z tp) {s k : Nat} {t v w : Int32} {post : Int32 → MSt → Prop} {k2 : MSt → Int32 → Prop} (hk : k < 16) (hs : s ≤ z) (g1 : mt tp z s k → post (nI k) (mT m (nI (en tp z s)) (nI s) t v w)) (g0 : ¬ mt tp z s k → k2 (mT m (nI (en tp z s)) (nI s) t v w) (nI (k + 1))) : ∀ (n c : Nat) (like : Bool), c ≤ 8 → 8 - c < n → (like = true → (en tp z s - s ≤ 8 ∧ ∀ i, i < c → wordsF (8 * k + i) = if s + i < en tp z s then iI (tp (s + i)) else 32)) → (like = false → ¬ mt tp z s k) → w_M_wordThere_30 post k2 n (mT m (nI (en tp z s)) (nI s) t v w) (nI k) (bI like) (nI c) := by
  obtain ⟨hz, h2, h3, h4⟩ := H
  obtain ⟨el, ez, _⟩ := en_le (tp := tp) hs
  intro n
  induction n with
  | zero => intro c like _ h; omega
  | succ n ih =>
    intro c like hc hn l1 l0
    rw [w_M_wordThere_30]
    have nxt : ∀ y : Int32, y = nI k + 1 → like = false → k2 (mT m (nI (en tp z s)) (nI s) t v w) y := by
      intro y hy q
      rw [hy, nI_1]
      exact g0 (l0 q)
    refine t_le (a := 8) (b := c) rfl rfl (fun u => ?_) (fun u => ?_)
    · cases like with
      | true => exact if1 (g1 ⟨(l1 rfl).1, fun i hi => (l1 rfl).2 i (by omega)⟩)
      | false => exact if0 (fun y hy => nxt y hy rfl)
    cases like with
    | false => exact if0 (if0 (fun y hy => nxt y hy rfl))
    | true =>
      refine if1 ?_
      intro y6 f6 y7 f7
      have e7 : y7 = nI (8 * k + c) := by rw [f7, f6, show (8 : Int32) = nI 8 from rfl, nI_mul, nI_add]
      rw [e7]
      refine ⟨vp_in_nI (by omega) (by omega), ?_⟩
      intro y9 f9
      rw [mT_begun, nI_add] at f9
      rw [nI_clamp (by omega), mT_words, h3, mT_at]
      have fin : ∀ s1 : Int32, s1 = (if s + c < en tp z s then iI (tp (s + c)) else 32) → w_M_wordThere_80 post k2 (w_M_wordThere_30 post k2 n) (mT m (nI (en tp z s)) (nI s) t v w) (nI k) (nI c) (wordsF (8 * k + c)) s1 := by
        intro s1 hs1
        unfold w_M_wordThere_80
        refine ⟨fun q y hy => ?_, fun q y hy => ?_⟩
        · rw [hy, nI_1]
          refine ih (c + 1) true (by omega) (by omega) (fun _ => ⟨(l1 rfl).1, fun i hi => ?_⟩) (fun z => absurd z (by decide))
          by_cases e : i = c
          · subst e; rw [q, hs1]
          · exact (l1 rfl).2 i (by omega)
        · rw [hy, nI_1]
          exact ih (c + 1) false (by omega) (by omega) (fun z => absurd z (by decide)) (fun _ mm => q (by rw [hs1]; exact mm.2 c (by omega)))
      refine t_le (a := en tp z s) (b := ((s + c : Nat) : Int)) rfl f9 (fun q => fin 32 (by rw [if_neg (by omega)])) (fun q => ?_)
      intro y13 f13
      rw [mT_begun, nI_add] at f13
      rw [f13]
      refine ⟨vp_in_nI (by omega) (by omega), ?_⟩
      rw [mT_tape, nI_clamp (by omega), (h4 (s + c) (by omega)).2]
      exact fin _ (by rw [if_pos (by omega)])
theorem M_word_ok {m : MSt} {z : Nat} {tp : Nat → Int} (H : MP m z tp) {s : Nat} {t v w : Int32} {post : Int32 → MSt → Prop} (hs : s ≤ z) (hp : post (iI (wd tp z s)) (mT m (nI (en tp z s)) (nI s) t v w)) : wp_M_wordThere (mT m (nI (en tp z s)) (nI s) t v w) post := by
  have hz := H.1
  obtain ⟨el, ez, _⟩ := en_le (tp := tp) hs
  have key : ∀ (n f k : Nat), f + k = 16 → f < n → wdF tp z s f k = wd tp z s → w_M_wordThere_2 post n (mT m (nI (en tp z s)) (nI s) t v w) (nI k) := by
    intro n
    induction n with
    | zero => intro f k _ h; omega
    | succ n ih =>
      intro f k hf hn hw
      rw [w_M_wordThere_2]
      refine t_le (a := 16) (b := k) rfl rfl (fun u => ?_) (fun u => ?_)
      · have : f = 0 := by omega
        subst this
        rw [← hw] at hp
        exact hp
      obtain ⟨f, rfl⟩ : ∃ g, f = g + 1 := ⟨f - 1, by omega⟩
      rw [wdF] at hw
      intro y1 h1
      rw [mT_at, mT_begun, pk_sub el] at h1
      have g1 : mt tp z s k → post (nI k) (mT m (nI (en tp z s)) (nI s) t v w) := by
        intro q
        rw [if_pos q] at hw
        rw [← hw] at hp
        exact hp
      have g0 : ¬ mt tp z s k → w_M_wordThere_2 post n (mT m (nI (en tp z s)) (nI s) t v w) (nI (k + 1)) := by
        intro q
        rw [if_neg q] at hw
        exact ih f (k + 1) (by omega) (by omega) hw
      refine t_lt (a := 8) (b := ((en tp z s - s : Nat) : Int)) rfl h1 (fun q => ?_) (fun q => ?_)
      · exact M_word30 H (by omega) hs g1 g0 2000 0 false (by omega) (by omega) (fun z => absurd z (by decide)) (fun _ mm => by have := mm.1; omega)
      · exact M_word30 H (by omega) hs g1 g0 2000 0 true (by omega) (by omega) (fun _ => ⟨by omega, fun i hi => by omega⟩) (fun z => absurd z (by decide))
  unfold wp_M_wordThere
  exact key 2000 16 0 (by omega) (by omega) rfl
theorem M_next86 {m : MSt} {z : Nat} {tp : Nat → Int} (H : MP m z tp) {b t v w : Int32} {post : MSt → Prop} {E : Nat} (hE : E ≤ z) (hp : wp_M_wordThere (mT m (nI E) b t v w) (fun v23 m_24 => post (M_value_ m_24 v23))) : ∀ (n q : Nat), q ≤ z → z - q < n → rn tp z bL q = E → w_M_next_86 post n (mT m (nI q) b t v w) := by
  have hz := H.1
  intro n
  induction n with
  | zero => intro q _ h; omega
  | succ n ih =>
    intro q hq hn he
    rw [w_M_next_86]
    refine M_isRow_ok H (lo := 97) (hi := 122) rfl rfl hq (fun u u2 => if1 ?_) (fun u => if0 ?_)
    · intro y hy
      rw [mT_at, nI_1] at hy
      rw [hy, mT_at_]
      rw [rn_1 u (bL_t.mpr u2)] at he
      exact ih (q + 1) (by omega) (by omega) he
    · have e0 : rn tp z bL q = q := by
        refine rn_0 ?_
        by_cases c : z ≤ q
        · exact Or.inl c
        · refine Or.inr ?_
          cases qq : bL (tp q) with
          | false => rfl
          | true => exact absurd ⟨by omega, bL_t.mp qq⟩ u
      rw [e0] at he
      rw [he]
      exact hp
theorem M_next137 {m : MSt} {z : Nat} {tp : Nat → Int} (H : MP m z tp) {s : Nat} {t w : Int32} {post : MSt → Prop} {E : Nat} {V : Int} (hE : E ≤ z) (hp : post (mT m (nI E) (nI s) t (iI V) w)) : ∀ (n q : Nat) (v : Int), s ≤ q → q ≤ z → z - q < n → rn tp z bD q = E → nvF tp s (E - q) q v = V → w_M_next_137 post n (mT m (nI q) (nI s) t (iI v) w) := by
  have hz := H.1
  intro n
  induction n with
  | zero => intro q v _ _ h; omega
  | succ n ih =>
    intro q v hsq hq hn he hv
    rw [w_M_next_137]
    refine M_isRow_ok H (lo := 48) (hi := 57) rfl rfl hq (fun u u2 => if1 ?_) (fun u => if0 ?_)
    · have e1 : rn tp z bD q = rn tp z bD (q + 1) := rn_1 u (bD_t.mpr u2)
      have eb := (rn_ok (tp := tp) (z := z) (P := bD) (p := q + 1) (by omega)).1
      obtain ⟨f, hf⟩ : ∃ f, E - q = f + 1 := ⟨E - q - 1, by omega⟩
      rw [hf, nvF] at hv
      have hv2 : E - (q + 1) = f := by omega
      intro y11 f11
      rw [mT_at, mT_begun, pk_sub hsq] at f11
      refine t_le (a := 3) (b := ((q - s : Nat) : Int)) rfl f11 (fun c => ?_) (fun c => ?_)
      · intro y12 f12
        rw [mT_at, nI_1] at f12
        rw [f12, mT_value_, mT_at_, show (1000 : Int32) = iI 1000 from rfl]
        rw [if_neg (by omega)] at hv
        exact ih (q + 1) 1000 (by omega) (by omega) (by omega) (by rw [← e1]; exact he) (by rw [hv2]; exact hv)
      · intro y13 f13
        rw [mT_at]
        refine ⟨vp_in_nI (by omega) (by omega), ?_⟩
        rw [nI_clamp (by omega), mT_tape, (H.2.2.2 q u).2]
        intro y15 f15 y16 f16 y17 f17
        have e16 : y16 = iI (10 * v + tp q - 48) := by
          rw [f16, f15, f13, mT_value, show (10 : Int32) = iI 10 from rfl, show (48 : Int32) = iI 48 from rfl, iI_mul, iI_add, iI_sub]
        rw [nI_1] at f17
        rw [f17, e16, mT_value_, mT_at_]
        rw [if_pos (by omega)] at hv
        exact ih (q + 1) _ (by omega) (by omega) (by omega) (by rw [← e1]; exact he) (by rw [hv2]; exact hv)
    · have e0 : rn tp z bD q = q := by
        refine rn_0 ?_
        by_cases c : z ≤ q
        · exact Or.inl c
        · refine Or.inr ?_
          cases qq : bD (tp q) with
          | false => rfl
          | true => exact absurd ⟨by omega, bD_t.mp qq⟩ u
      rw [e0] at he
      subst he
      rw [show q - q = 0 by omega] at hv
      have : v = V := hv
      subst this
      exact hp
theorem M_next38 {m : MSt} {z : Nat} {tp : Nat → Int} (H : MP m z tp) {s : Nat} {b t v w : Int32} {post : MSt → Prop} (hs : s ≤ z) (hp : post (mK m z tp s w)) : w_M_next_38 post (mT m (nI s) b t v w) := by
  have hz := H.1
  unfold w_M_next_38
  rw [mT_at, mT_taped, H.2.1, mT_begun_, mT_value_]
  unfold mK at hp
  refine t_eq (a := s) (b := z) rfl rfl (fun u => ?_) (fun u => ?_)
  · rw [mT_token_]
    have e0 : ty tp z s = 0 := ty_0.mpr (by omega)
    have e1 : en tp z s = s := by unfold en; rw [if_pos (by omega)]
    have e2 : vl tp z s = 0 := by unfold vl; rw [e0, if_neg (by decide), if_neg (by decide)]
    rw [e0, e1, e2] at hp
    exact hp
  have sz : s < z := by omega
  refine M_isRow_ok H (lo := 97) (hi := 122) rfl rfl hs (fun _ u2 => if1 ?_) (fun u2 => if0 ?_)
  · have e0 : ty tp z s = 1 := ty_1.mpr ⟨sz, bL_t.mpr u2⟩
    have e1 : en tp z s = rn tp z bL s := by unfold en; rw [if_neg (by omega), if_pos (bL_t.mpr u2)]
    have e2 : vl tp z s = wd tp z s := by unfold vl; rw [if_pos e0]
    rw [e0, e2] at hp
    rw [mT_token_]
    refine M_next86 H (E := en tp z s) (en_le hs).2.1 ?_ 2000 s hs (by omega) e1.symm
    refine M_word_ok H hs ?_
    rw [mT_value_]
    exact hp
  have nl : ¬ bL (tp s) = true := fun q => u2 ⟨sz, bL_t.mp q⟩
  refine M_isRow_ok H (lo := 48) (hi := 57) rfl rfl hs (fun _ u3 => if1 ?_) (fun u3 => if0 ?_)
  · have e0 : ty tp z s = 2 := ty_2.mpr ⟨sz, nl, bD_t.mpr u3⟩
    have e1 : en tp z s = rn tp z bD s := by unfold en; rw [if_neg (by omega), if_neg nl, if_pos (bD_t.mpr u3)]
    have e2 : vl tp z s = nm tp z s := by unfold vl; rw [if_neg (by omega), if_pos e0]
    rw [e0, e2] at hp
    rw [mT_token_]
    exact M_next137 H (E := en tp z s) (V := nm tp z s) (en_le hs).2.1 hp 2000 s 0 (by omega) hs (by omega) e1.symm rfl
  have nd : ¬ bD (tp s) = true := fun q => u3 ⟨sz, bD_t.mp q⟩
  have e1 : en tp z s = s + 1 := by unfold en; rw [if_neg (by omega), if_neg nl, if_neg nd]
  rw [mT_at, mT_tape]
  refine ⟨vp_in_nI (by omega) (by omega), ?_⟩
  rw [nI_clamp (by omega), (H.2.2.2 s sz).2]
  have tb := (H.2.2.2 s sz).1
  refine t_eq (a := tp s) (b := 59) rfl rfl (fun u4 => ?_) (fun u4 => ?_)
  · intro y7 f7
    rw [nI_1] at f7
    have e0 : ty tp z s = 3 := ty_3.mpr ⟨sz, u4⟩
    have e2 : vl tp z s = 0 := by unfold vl; rw [e0, if_neg (by decide), if_neg (by decide)]
    rw [e0, e1, e2] at hp
    rw [f7, mT_token_, mT_at_]
    exact hp
  · intro y7 f7
    rw [nI_1] at f7
    have e0 : ty tp z s = 4 := by unfold ty; rw [if_neg (by omega), if_neg nl, if_neg nd, if_neg u4]
    have e2 : vl tp z s = 0 := by unfold vl; rw [e0, if_neg (by decide), if_neg (by decide)]
    rw [e0, e1, e2] at hp
    rw [f7, mT_token_, mT_at_]
    exact hp
theorem M_next0 {m : MSt} {z : Nat} {tp : Nat → Int} (H : MP m z tp) {b t v w : Int32} {post : MSt → Prop} : ∀ (n p : Nat), p ≤ z → z - p < n → post (mK m z tp (rn tp z bS p) w) → w_M_next_0 post n (mT m (nI p) b t v w) := by
  have hz := H.1
  intro n
  induction n with
  | zero => intro p _ h; omega
  | succ n ih =>
    intro p hq hn hp
    rw [w_M_next_0]
    rw [mT_taped, mT_at, mT_tape, H.2.1]
    refine t_le (a := z) (b := p) rfl rfl (fun u => ?_) (fun u => ?_)
    · rw [rn_0 (by omega)] at hp
      exact M_next38 H hq hp
    refine ⟨vp_in_nI (by omega) (by omega), ?_⟩
    rw [nI_clamp (by omega), (H.2.2.2 p (by omega)).2]
    have tb := (H.2.2.2 p (by omega)).1
    refine t_eq (a := tp p) (b := 32) rfl rfl (fun u2 => ?_) (fun u2 => ?_)
    · intro y hy
      rw [nI_1] at hy
      rw [hy, mT_at_]
      rw [rn_1 (by omega) (bS_t.mpr u2)] at hp
      exact ih (p + 1) (by omega) (by omega) hp
    · have n32 : bS (tp p) = false := by
        cases q : bS (tp p) with
        | false => rfl
        | true => exact absurd (bS_t.mp q) u2
      rw [rn_0 (Or.inr n32)] at hp
      exact M_next38 H hq hp
theorem M_next_ok {m : MSt} {z : Nat} {tp : Nat → Int} (H : MP m z tp) {s : Nat} {w : Int32} {post : MSt → Prop} (hs : s ≤ z) (hp : post (mK m z tp (nx tp z s) w)) : wp_M_next (mK m z tp s w) post := by
  have hz := H.1
  unfold wp_M_next
  exact M_next0 H 2000 (en tp z s) (en_le hs).2.1 (by omega) hp
theorem mK_tk (m : MSt) (z : Nat) (tp : Nat → Int) (s : Nat) (w : Int32) : M_token (mK m z tp s w) = nI (ty tp z s) := by
  unfold mK
  rw [mT_token]
theorem mK_vl (m : MSt) (z : Nat) (tp : Nat → Int) (s : Nat) (w : Int32) : M_value (mK m z tp s w) = iI (vl tp z s) := by
  unfold mK
  rw [mT_value]
theorem mK_td (m : MSt) (z : Nat) (tp : Nat → Int) (s : Nat) (w : Int32) : M_told (mK m z tp s w) = w := by
  unfold mK
  rw [mT_told]
theorem mK_td_ (m : MSt) (z : Nat) (tp : Nat → Int) (s : Nat) (w u : Int32) : M_told_ (mK m z tp s w) u = mK m z tp s u := by
  unfold mK
  rw [mT_told_]
theorem mK_d (m : MSt) (z : Nat) (tp : Nat → Int) (s : Nat) (w : Int32) : M_d (mK m z tp s w) = M_d m := by
  unfold mK
  rw [mT_d]
theorem mK_d_ (m : MSt) (z : Nat) (tp : Nat → Int) (s : Nat) (w : Int32) (d : Nat → Int32) : M_d_ (mK m z tp s w) d = mK (M_d_ m d) z tp s w := by
  unfold mK
  rw [mT_d_]
theorem M_isW_ok {m : MSt} {z : Nat} {tp : Nat → Int} {s k : Nat} {w : Int32} {post : Int32 → MSt → Prop} (hk : k < 16) (h1 : ty tp z s = 1 → wd tp z s = k → post 1 (mK m z tp s w)) (h0 : ¬ (ty tp z s = 1 ∧ wd tp z s = k) → post 0 (mK m z tp s w)) : wp_M_isWord (mK m z tp s w) (nI k) post := by
  unfold wp_M_isWord
  have tyl := ty_le tp z s
  rw [mK_tk, mK_vl]
  refine t_eq (a := ty tp z s) (b := 1) rfl rfl (fun u => ?_) (fun u => h0 (fun q => u (by omega)))
  have e1 : ty tp z s = 1 := by omega
  have e2 : vl tp z s = wd tp z s := by unfold vl; rw [if_pos e1]
  have wb := wd_b tp z s
  rw [e2]
  exact t_eq (a := wd tp z s) (b := k) rfl rfl (fun u2 => h1 e1 u2) (fun u2 => h0 (fun q => u2 q.2))
theorem M_rdW_ok {m : MSt} {z : Nat} {tp : Nat → Int} (H : MP m z tp) {s k : Nat} {w : Int32} {post : Int32 → MSt → Prop} (hs : s ≤ z) (hk : k < 16) (h1 : ty tp z (nx tp z s) = 1 → wd tp z (nx tp z s) = k → post 1 (mK m z tp (nx tp z s) w)) (h0 : ¬ (ty tp z (nx tp z s) = 1 ∧ wd tp z (nx tp z s) = k) → post 0 (mK m z tp (nx tp z s) w)) : wp_M_readsWord (mK m z tp s w) (nI k) post := by
  unfold wp_M_readsWord
  refine M_next_ok H hs ?_
  exact M_isW_ok hk (fun a b => ⟨nb1, h1 a b⟩) (fun a => ⟨nb0, h0 a⟩)
theorem M_rdN_ok {m : MSt} {z : Nat} {tp : Nat → Int} (H : MP m z tp) {s : Nat} {most : Int} {w : Int32} {post : Int32 → MSt → Prop} (hs : s ≤ z) (hm : 0 ≤ most ∧ most ≤ 99) (h1 : ty tp z (nx tp z s) = 2 → nm tp z (nx tp z s) ≤ most → post 1 (mK m z tp (nx tp z s) (iI (nm tp z (nx tp z s))))) (h0 : ¬ (ty tp z (nx tp z s) = 2 ∧ nm tp z (nx tp z s) ≤ most) → ∀ w', post 0 (mK m z tp (nx tp z s) w')) : wp_M_reads (mK m z tp s w) (iI most) post := by
  unfold wp_M_reads
  refine M_next_ok H hs ?_
  have tyl := ty_le tp z (nx tp z s)
  rw [mK_tk, mK_vl, mK_td_]
  refine t_eq (a := ty tp z (nx tp z s)) (b := 2) rfl rfl (fun u => ?_) (fun u => h0 (fun q => u (by omega)) _)
  have e1 : ty tp z (nx tp z s) = 2 := by omega
  have e2 : vl tp z (nx tp z s) = nm tp z (nx tp z s) := by unfold vl; rw [if_neg (by omega), if_pos e1]
  have nb := nm_b e1
  rw [e2]
  exact t_lt (a := most) (b := nm tp z (nx tp z s)) rfl rfl (fun u2 => h0 (by omega) _) (fun u2 => h1 e1 u2)
