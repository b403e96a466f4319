/-! ===== judge ===== -/
def okR (e : Gh) (b i : Nat) (f : Nat → Int32) : Prop := ∀ j, j < 3 → f (3 * i + j) = iI (rwE (hoursE (-1) (i + 1) e) b j)
theorem X_judge46 {h h1 : Int} {x : XSt} {e : Gh} {b i : Nat} {post : Int32 → XSt → Prop} {k : XSt → Int32 → Int32 → Prop} (hi : i < 10) (r : RelC (X_now x) e) (w : Wf h e) (hb : (b : Int) < e 4) (r1 : RelC (X_tried x) (hoursE (-1) (i + 1) e)) (w1 : Wf h1 (hoursE (-1) (i + 1) e)) (h4 : hoursE (-1) (i + 1) e 4 = e 4) (k1 : okR e b i (X_rows x) → k x (nI b) (nI (i + 1))) (k2 : ¬ okR e b i (X_rows x) → post (nI (i + 1)) x) : ∀ (n j : Nat), j ≤ 3 → 3 - j < n → (∀ p, p < j → X_rows x (3 * i + p) = iI (rwE (hoursE (-1) (i + 1) e) b p)) → w_X_judge_46 post k n x (nI b) (nI i) (nI j) := by
  intro n
  have w4 := w.1
  induction n with
  | zero => intro j _ h; omega
  | succ n ih =>
    intro j hj hn hq
    rw [w_X_judge_46]
    refine t_le (a := 3) (b := j) rfl rfl (fun z => ?_) (fun z => ?_)
    · have : j = 3 := by omega
      subst this
      intro y hy
      rw [hy, nI_1]
      exact k1 hq
    intro y6 f6 y7 f7
    rw [f6, show (3 : Int32) = nI 3 from rfl, nI_mul, nI_add, show i * 3 + j = 3 * i + j by omega] at f7
    rw [f7]
    refine ⟨vp_in_nI (by omega) (by omega), ?_⟩
    rw [nI_clamp (by omega)]
    refine X_part_ok (h := h) (h1 := h1) (e := e) (e1 := hoursE (-1) (i + 1) e) (by omega) r w hb r1 w1 h4 ?_
    refine ⟨fun z2 y hy => ?_, fun z2 => ?_⟩
    · rw [hy, nI_1]
      refine ih (j + 1) (by omega) (by omega) (fun p hp => ?_)
      by_cases u : p = j
      · subst u; exact z2
      · exact hq p (by omega)
    · rw [nI_1]
      exact k2 (fun u => z2 (u j (by omega)))
theorem M_judge37 {m : MSt} {d : Nat → Int32} {e : Gh} {b i : Nat} {post : Int32 → MSt → Prop} {k : MSt → Int32 → Int32 → Int32 → Prop} (hi : i < 10) (hb : b < 8) (q : RelD d (hoursE (-1) (i + 1) e)) (k1 : okR e b i (M_row m) → k (M_d_ m d) (nI b) (nI 0) (nI (i + 1))) (k2 : ¬ okR e b i (M_row m) → k (M_d_ m d) (nI b) (nI (i + 1)) (nI (i + 1))) : ∀ (n j u : Nat), j ≤ 3 → 3 - j < n → ((u = 0 ∧ ∀ p, p < j → M_row m (3 * i + p) = iI (rwE (hoursE (-1) (i + 1) e) b p)) ∨ (u = i + 1 ∧ ¬ okR e b i (M_row m))) → w_M_judge_37 post k n (M_d_ m d) (nI b) (nI u) (nI i) (nI j) := by
  intro n
  induction n with
  | zero => intro j u _ h; omega
  | succ n ih =>
    intro j u hj hn hu
    rw [w_M_judge_37]
    refine t_le (a := 3) (b := j) rfl rfl (fun z => ?_) (fun z => ?_)
    · have : j = 3 := by omega
      subst this
      intro y hy
      rw [hy, nI_1]
      rcases hu with ⟨rfl, hu⟩ | ⟨rfl, hu⟩
      · exact k1 hu
      · exact k2 hu
    intro y6 f6 y7 f7
    rw [f6, show (3 : Int32) = nI 3 from rfl, nI_mul, nI_add] at f7
    rw [f7]
    refine ⟨vp_in_nI (by omega) (by omega), ?_⟩
    rw [nI_clamp (by omega)]
    refine M_must_ok (m := M_d_ m d) (e := hoursE (-1) (i + 1) e) (by omega) q hb ?_
    refine ⟨fun z2 y hy => ?_, fun z2 y13 f13 y14 f14 => ?_⟩
    · rw [hy, nI_1]
      refine ih (j + 1) u (by omega) (by omega) ?_
      rcases hu with ⟨u0, hu⟩ | ⟨u0, hu⟩
      · refine Or.inl ⟨u0, fun p hp => ?_⟩
        by_cases v : p = j
        · subst v; exact z2
        · exact hu p (by omega)
      · exact Or.inr ⟨u0, hu⟩
    · rw [f13, f14, nI_1, nI_1]
      exact ih (j + 1) (i + 1) (by omega) (by omega) (Or.inr ⟨rfl, fun v => z2 (v j (by omega))⟩)
/-- the first row that is otherwise -/
def JdR (e : Gh) (b k : Nat) (f : Nat → Int32) (u : Nat) : Prop := (u = 0 ∧ ∀ i, i < k → okR e b i f) ∨ (∃ i, i < k ∧ u = i + 1 ∧ ¬ okR e b i f ∧ ∀ p, p < i → okR e b p f)
theorem jd_ex (e : Gh) (b : Nat) (f : Nat → Int32) : ∀ k, ∃ u, JdR e b k f u := by
  intro k
  induction k with
  | zero => exact ⟨0, Or.inl ⟨rfl, fun i hi => by omega⟩⟩
  | succ k ih =>
    obtain ⟨u, hu⟩ := ih
    rcases hu with ⟨u0, hu⟩ | ⟨i, hi, u0, hu, hv⟩
    · by_cases z : okR e b k f
      · refine ⟨0, Or.inl ⟨rfl, fun i hi => ?_⟩⟩
        by_cases v : i = k
        · subst v; exact z
        · exact hu i (by omega)
      · exact ⟨k + 1, Or.inr ⟨k, by omega, rfl, z, fun p hp => hu p hp⟩⟩
    · exact ⟨u, Or.inr ⟨i, by omega, u0, hu, hv⟩⟩
theorem X_judge23 {h : Int} {x : XSt} {e : Gh} {b k u : Nat} {post : Int32 → XSt → Prop} (hk : k ≤ 10) (rk : X_rowCount x = nI k) (hh : h ≤ 900000) (r : RelC (X_now x) e) (w : Wf h e) (hb : (b : Int) < e 4) (hu : JdR e b k (X_rows x) u) (hp : ∀ c, post (nI u) (X_tried_ x c)) : ∀ (n i : Nat) (c : CSt), i ≤ k → k - i < n → (u = 0 ∨ i < u) → RelC c (hoursE (-1) i e) → C_heldBack c = iI (-1) → w_X_judge_23 post n (X_tried_ x c) (nI b) (nI i) := by
  intro n
  induction n with
  | zero => intro i c _ h; omega
  | succ n ih =>
    intro i c hi hn hiu rc sc
    rw [w_X_judge_23]
    have u0 : k ≤ i → u = 0 := by
      intro z
      rcases hu with ⟨u0, _⟩ | ⟨p, hp, u0, _⟩
      · exact u0
      · omega
    refine t_le (a := k) (b := i) rk rfl (fun z => ?_) (fun z => ?_)
    · have := u0 (by omega)
      subst this
      exact hp c
    refine t_le (a := 10) (b := i) rfl rfl (fun z => by omega) (fun _ => ?_)
    obtain ⟨w1, w14, _⟩ := Wf.hours (s := -1) i w
    obtain ⟨w2, w24, _⟩ := Wf.hours (s := -1) (i + 1) w
    refine C_hour_ok (h := h + i) (by omega) sc (by omega) rc w1 (fun c1 rc1 sc1 => ?_)
    rw [← hoursE_l] at rc1
    refine X_judge46 (x := X_tried_ x c1) (h := h) (by omega) r w hb rc1 w2 w24 (fun ok => ?_) (fun ok => ?_) 2000 0 (by omega) (by omega) (fun p hp => by omega)
    · refine ih (i + 1) c1 (by omega) (by omega) ?_ rc1 sc1
      rcases hu with ⟨u0, _⟩ | ⟨p, hp, u0, hnn, hv⟩
      · exact Or.inl u0
      · refine Or.inr ?_
        by_cases v : p = i
        · subst v; exact absurd ok hnn
        · omega
    · have : u = i + 1 := by
        rcases hu with ⟨u0, hv⟩ | ⟨p, hp, u0, hnn, hv⟩
        · exact absurd (hv i (by omega)) ok
        · by_cases v : p = i
          · omega
          · exact absurd (hv i (by omega)) ok
      subst this
      exact hp c1
theorem M_judge18 {h : Int} {m : MSt} {e : Gh} {b k u : Nat} {post : Int32 → MSt → Prop} (hk : k ≤ 10) (rk : M_rows m = nI k) (hh : h ≤ 900000) (t : M_still m = iI (-1)) (ha : RelD (M_aside m) e) (w : Wf h e) (hb : (b : Int) < e 4) (hu : JdR e b k (M_row m) u) (hp : ∀ d, RelD d e → post (nI u) (M_d_ m d)) : ∀ (n i v : Nat) (d : Nat → Int32), i ≤ k → k + 1 - i < n → ((v = 0 ∧ (u = 0 ∨ i < u) ∧ RelD d (hoursE (-1) i e)) ∨ (0 < v ∧ v ≤ 10 ∧ v = u)) → w_M_judge_18 post n (M_d_ m d) (nI b) (nI v) (nI i) := by
  intro n
  have w4 := w.1
  induction n with
  | zero => intro i v d _ h; omega
  | succ n ih =>
    intro i v d hi hn hv
    rw [w_M_judge_18]
    refine t_le (a := k) (b := i) rk rfl (fun z => ?_) (fun z => ?_)
    · have e1 : v = u := by
        rcases hv with ⟨v0, hv, _⟩ | ⟨_, _, v0⟩
        · rcases hu with ⟨u0, _⟩ | ⟨p, hp, u0, _⟩
          · omega
          · omega
        · exact v0
      rw [e1]
      exact M_putBack_ok (m := M_d_ m d) (e := e) ha (fun d2 q2 => hp d2 q2)
    have v10 : v ≤ 10 := by
      rcases hv with ⟨v0, _⟩ | ⟨_, v0, _⟩ <;> omega
    refine t_eq (a := v) (b := 0) rfl rfl (fun z2 => ?_) (fun z2 => ?_)
    · rcases hv with ⟨v0, hv, q⟩ | ⟨v0, _⟩
      · subst v0
        obtain ⟨w1, w14, _⟩ := Wf.hours (s := -1) i w
        refine M_hour_ok (m := m) (h := h + i) (by omega) t (by omega) q w1 (fun d1 q1 => ?_)
        rw [← hoursE_l] at q1
        refine M_judge37 (m := m) (by omega) (by omega) q1 (fun ok => ?_) (fun ok => ?_) 2000 0 0 (by omega) (by omega) (Or.inl ⟨rfl, fun p hp => by omega⟩)
        · refine ih (i + 1) 0 d1 (by omega) (by omega) (Or.inl ⟨rfl, ?_, q1⟩)
          rcases hu with ⟨u0, _⟩ | ⟨p, hp, u0, hnn, hv⟩
          · exact Or.inl u0
          · refine Or.inr ?_
            by_cases v : p = i
            · subst v; exact absurd ok hnn
            · omega
        · refine ih (i + 1) (i + 1) d1 (by omega) (by omega) (Or.inr ⟨by omega, by omega, ?_⟩)
          rcases hu with ⟨u0, hv⟩ | ⟨p, hp, u0, hnn, hv⟩
          · exact absurd (hv i (by omega)) ok
          · by_cases v : p = i
            · omega
            · exact absurd (hv i (by omega)) ok
      · omega
    · have e1 : v = u := by
        rcases hv with ⟨v0, _⟩ | ⟨_, _, v0⟩
        · omega
        · exact v0
      rw [e1]
      exact M_putBack_ok (m := M_d_ m d) (e := e) ha (fun d2 q2 => hp d2 q2)
theorem l_judge {h : Int} {x : XSt} {m : MSt} {a1 a2 a3 a4 : Int32} {K : XSt → MSt → Prop} (hh : h ≤ 900000) (n : Now h x m) (rw0 : RwX x m) (hK : ∀ x' m', Now h x' m' → x'.2.2 = x.2.2 → m'.2.2 = m.2.2 → K x' m') : wpl_judge x m a1 a2 a3 a4 K := by
  have k0 : K x m := hK x m n rfl rfl
  obtain ⟨e, w, r, s, q, t⟩ := n
  obtain ⟨⟨k, hk, r1, r2⟩, r3⟩ := rw0
  have w4 := w.1
  unfold wpl_judge wp_X_judge
  refine X_barge_ok r w (fun z1 => if1 ?_) (fun z1 => if0 ?_)
  · obtain ⟨b, hb, hb8, ha⟩ := bg_of w z1
    subst ha
    obtain ⟨u, hu⟩ := jd_ex e b (X_rows x) k
    have oe : ∀ i, i < k → (okR e b i (X_rows x) ↔ okR e b i (M_row m)) := by
      intro i hi
      constructor
      · intro o j hj
        rw [← r3 _ (by omega)]; exact o j hj
      · intro o j hj
        rw [r3 _ (by omega)]; exact o j hj
    have hu2 : JdR e b k (M_row m) u := by
      rcases hu with ⟨u0, hu⟩ | ⟨i, hi, u0, hu, hv⟩
      · exact Or.inl ⟨u0, fun i hi => (oe i hi).mp (hu i hi)⟩
      · exact Or.inr ⟨i, hi, u0, fun o => hu ((oe i hi).mpr o), fun p hp => (oe p (by omega)).mp (hv p hp)⟩
    refine C_copy_ok r w (fun c1 rc1 sc1 => ?_)
    refine X_judge23 (x := x) hk r1 hh r w hb hu (fun c => ?_) 2000 0 c1 (by omega) (by omega) (by omega) rc1 sc1
    unfold wp_M_judge
    refine M_barge_ok q w (fun _ => if1 ?_) (fun z => absurd z1 z)
    refine M_keepAside_ok q (fun a ra => ?_)
    exact M_judge18 (m := M_aside_ m a) hk r2 hh t ra w hb hu2 (fun d1 q1 => ⟨rfl, hK _ _ ⟨e, w, r, s, q1, t⟩ rfl rfl⟩) 2000 0 0 (M_d m) (by omega) (by omega) (Or.inl ⟨rfl, by omega, q⟩)
  · unfold wp_M_judge
    exact M_barge_ok q w (fun z => absurd z z1) (fun _ => if0 ⟨rfl, k0⟩)
/-! ===== minds ===== -/
def mnE (it : Nat → Int32) (p b : Nat) : Nat → Gh → Gh
  | 0, e => e
  | k + 1, e => uE (mnE it p b k e) (35 + (b + k)) (cl 0 99 (it (p + k)).toInt)
theorem mnE_s (it : Nat → Int32) (p b k : Nat) (e : Gh) : mnE it p b (k + 1) e = uE (mnE it p b k e) (35 + (b + k)) (cl 0 99 (it (p + k)).toInt) := rfl
theorem mnE_ok {h : Int} {it : Nat → Int32} {p b : Nat} {e : Gh} (w : Wf h e) : ∀ k : Nat, ((b + k : Nat) : Int) ≤ e 4 → Wf h (mnE it p b k e) ∧ mnE it p b k e 4 = e 4 := by
  intro k
  have w4 := w.1
  induction k with
  | zero => intro _; exact ⟨w, rfl⟩
  | succ k ih =>
    intro hk
    obtain ⟨w1, w2⟩ := ih (by omega)
    rw [mnE_s]
    refine ⟨w1.load (b := b + k) (by rw [w2]; omega) (cl_in (by omega)), ?_⟩
    rw [uE_n (by omega)]
    exact w2
theorem X_minds102 {h : Int} {x : XSt} {e : Gh} {i0 p b N : Nat} {post : Int32 → XSt → Prop} (hi : i0 < 4) (hN : N ≤ 8) (hp40 : p + N ≤ 40) (w : Wf h e) (hb : ((b + N : Nat) : Int) ≤ e 4) (s : C_heldBack (X_now x) = iI (-1)) (hp : ∀ c, RelC c (mnE (S_items (X_sheets x i0)) p b N e) → C_heldBack c = iI (-1) → post (nI N) (X_now_ x c)) : ∀ (n k : Nat) (c : CSt), k ≤ N → N - k < n → RelC c (mnE (S_items (X_sheets x i0)) p b k e) → C_heldBack c = iI (-1) → w_X_minds_102 post n (X_now_ x c) (nI p) (nI b) (nI N) i0 (nI k) := by
  intro n
  have w4 := w.1
  induction n with
  | zero => intro k c _ h; omega
  | succ n ih =>
    intro k c hk hn r sc
    rw [w_X_minds_102]
    refine t_le (a := N) (b := k) rfl rfl (fun z => ?_) (fun z => ?_)
    · have : k = N := by omega
      subst this
      exact hp c r sc
    intro y5 f5
    rw [nI_add] at f5
    refine ifn (by omega) ⟨hi, ?_⟩
    intro y6 f6
    rw [nI_add] at f6
    rw [f5, f6]
    refine ⟨vp_in_nI (by omega) (by omega), ?_⟩
    rw [nI_clamp (by omega), ← iI_of (S_items (X_sheets (X_now_ x c) i0) (p + k))]
    refine X_heldLoad_ok (i32b _) ?_
    refine ⟨vp_in_nI (by omega) (by omega), fun y hy => ?_⟩
    rw [hy, nI_1, nI_clamp (by omega)]
    obtain ⟨w1, w2⟩ := mnE_ok (it := S_items (X_sheets x i0)) (p := p) (b := b) w k (by omega)
    refine ih (k + 1) _ (by omega) (by omega) ?_ sc
    rw [mnE_s]
    exact r.load (b := b + k) (by rw [w2]; omega) (by rw [w2]; exact w4.2) _
theorem M_minds103 {h : Int} {m : MSt} {e : Gh} {i0 p b N : Nat} {it : Nat → Int32} {post : Int32 → MSt → Prop} (hi : i0 < 4) (hN : N ≤ 8) (hp40 : p + N ≤ 40) (w : Wf h e) (hb : ((b + N : Nat) : Int) ≤ e 4) (hit : ∀ k, k < 40 → M_item m (40 * i0 + k) = (it k).toInt64) (hp : ∀ d, RelD d (mnE it p b N e) → post (nI N) (M_d_ m d)) : ∀ (n k : Nat) (d : Nat → Int32), k ≤ N → N - k < n → RelD d (mnE it p b k e) → w_M_minds_103 post n (M_d_ m d) (nI i0) (nI p) (nI b) (nI N) (nI k) := by
  intro n
  have w4 := w.1
  induction n with
  | zero => intro k d _ h; omega
  | succ n ih =>
    intro k d hk hn q
    rw [w_M_minds_103]
    refine t_le (a := N) (b := k) rfl rfl (fun z => ?_) (fun z => ?_)
    · have : k = N := by omega
      subst this
      exact hp d q
    intro y13 f13 y14 f14 y15 f15 y16 f16
    rw [nI_add] at f13
    have e16 : y16 = nI (40 * i0 + (p + k)) := by
      rw [f16, f15, f14, show (40 : Int32) = nI 40 from rfl, nI_mul, nI_add, nI_add, Nat.add_assoc]
    rw [e16]
    refine ⟨vp_in_nI (by omega) (by omega), ?_⟩
    intro y18 f18
    rw [nI_clamp (by omega), show M_item (M_d_ m d) (40 * i0 + (p + k)) = (it (p + k)).toInt64 from hit (p + k) (by omega), Int32.toInt32_toInt64] at f18
    rw [f18, ← iI_of (it (p + k)), f13]
    refine M_held_ok (lo := 0) (hi := 99) (by omega) (by omega) (by omega) (i32b _) ?_
    refine M_puts_ok (w := 1) (m := M_d_ m d) q (by omega) (by omega) (fun d1 q1 => ?_)
    intro y hy
    rw [hy, nI_1]
    exact ih (k + 1) d1 (by omega) (by omega) q1
theorem l_minds {h : Int} {x : XSt} {m : MSt} {a1 a2 a3 a4 : Int32} {K : XSt → MSt → Prop} (n : Now h x m) (sr : ShX x m) (hK : ∀ x' m', Now h x' m' → x'.2.2 = x.2.2 → m'.2.2 = m.2.2 → K x' m') : wpl_minds x m a1 a2 a3 a4 K := by
  have k0 : K x m := hK x m n rfl rfl
  obtain ⟨e, w, r, s, q, t⟩ := n
  have w4 := w.1
  have ed : ∀ a : Int32, (0 ≤ a.toInt ∧ a.toInt < e 4) → ∀ c : Int32, c = iI (e 4) → c - a = iI (e 4 - a.toInt) := by
    intro a ha c hc
    rw [hc, ← iI_sub, iI_of]
  have no : ¬ ((0 ≤ a1.toInt ∧ a1.toInt ≤ 3) ∧ (0 ≤ a3.toInt ∧ a3.toInt < e 4) ∧ (0 ≤ a4.toInt ∧ a4.toInt ≤ 8) ∧ a4.toInt ≤ e 4 - a3.toInt) → wp_M_minds m a1 a2 a3 a4 (fun v2 m1 => (-1) = v2 ∧ K x m1) := by
    intro P
    unfold wp_M_minds
    refine M_isSheet_ok (fun z1 => if1 ?_) (fun _ => if0 ⟨rfl, k0⟩)
    refine M_barge_ok q w (fun z2 => if1 ?_) (fun _ => if0 ⟨rfl, k0⟩)
    refine I_in (a := a4) (lo := 0) (hi := 8) (fun z3 => if1 ?_) (fun _ => if0 ⟨rfl, k0⟩)
    exact t_le (a := a4.toInt) (b := e 4 - a3.toInt) (iI_of a4).symm (ed a3 z2 _ (q 4 (by omega))) (fun z4 => absurd ⟨z1, z2, z3, z4⟩ P) (fun _ => ⟨rfl, k0⟩) (i32b a4) (by omega)
  unfold wpl_minds wp_X_minds
  refine X_sheetAt_ok (fun z1 i hi ha => ifn (by omega) ⟨hi, ?_⟩) (fun z1 => ifp rfl (no (fun u => z1 u.1)))
  refine X_barge_ok r w (fun z2 => if1 ?_) (fun z2 => if0 (no (fun u => z2 u.2.1)))
  refine t_lo (k := 0) rfl (fun h1 => no (by omega)) (fun h1 => ?_)
  refine t_lt (a := 8) (b := a4.toInt) rfl (iI_of a4).symm (fun h2 => no (by omega)) (fun h2 => ?_) (by omega) (i32b a4)
  refine t_le (a := a4.toInt) (b := e 4 - a3.toInt) (iI_of a4).symm (ed a3 z2 _ r.2.2.2.1) (fun h3 => ?_) (fun h3 => no (by omega)) (i32b a4) (by omega)
  subst ha
  obtain ⟨s0, z, hs, hz, r1, r2, r3, r4, r5⟩ := sr i hi
  have vi : vp_in (nI i) 4 := vp_in_nI (by omega) (by omega)
  have es : ∀ c : Int32, c = iI z → c - a2 = iI (z - a2.toInt) := by
    intro c hc
    rw [hc, ← iI_sub, iI_of]
  have front : ∀ (v : Int32) (x' : XSt), (s0 = -1 → v = -11 ∧ K x' m) → (¬ s0 = -1 → ¬ s0 = 0 → v = -13 ∧ K x' m) → (s0 = 0 → ¬ ((0 ≤ a2.toInt ∧ a2.toInt ≤ z) ∧ a4.toInt ≤ z - a2.toInt) → v = -12 ∧ K x' m) → (s0 = 0 → ((0 ≤ a2.toInt ∧ a2.toInt ≤ z) ∧ a4.toInt ≤ z - a2.toInt) → w_M_minds_103 (fun v2 m1 => v = v2 ∧ K x' m1) 2000 m (nI i) a2 a3 a4 0) → wp_M_minds m (nI i) a2 a3 a4 (fun v2 m1 => v = v2 ∧ K x' m1) := by
    intro v x' g1 g2 g3 g4
    unfold wp_M_minds
    refine M_isSheet_ok (fun _ => if1 ?_) (fun u => absurd z1 u)
    refine M_barge_ok q w (fun _ => if1 ?_) (fun u => absurd z2 u)
    refine I_in (a := a4) (lo := 0) (hi := 8) (fun _ => if1 ?_) (fun u => absurd ⟨h1, h2⟩ u)
    refine t_le (a := a4.toInt) (b := e 4 - a3.toInt) (iI_of a4).symm (ed a3 z2 _ (q 4 (by omega))) (fun _ => ⟨vi, ?_⟩) (fun u => absurd h3 (by omega)) (i32b a4) (by omega)
    rw [nI_clamp (by omega)]
    refine t_eq (a := s0 + 1) (b := 0) r2 rfl (fun u => g1 (by omega)) (fun u => ⟨vi, ?_⟩)
    refine t_eq (a := s0 + 1) (b := 1) r2 rfl (fun u2 => ?_) (fun u2 => g2 (by omega) (by omega))
    intro y8 f8
    refine ⟨vi, ?_⟩
    intro y10 f10
    have e10 : y10.toInt = z := by rw [f10, Int32.toInt_toInt64, r4, iI_toInt (by omega) (by omega)]
    refine I_in (a := a2) (lo := 0) (hi := y10) (fun u3 => if1 ⟨vi, ?_⟩) (fun u3 => if0 (g3 (by omega) (fun u4 => u3 ⟨u4.1.1, by rw [e10]; exact u4.1.2⟩))) y8 f8
    rw [e10] at u3
    have u4 : (0 : Int) ≤ a2.toInt := u3.1
    exact t_le (a := a4.toInt) (b := z - a2.toInt) (iI_of a4).symm (es _ r4) (fun u5 => g4 (by omega) ⟨u3, u5⟩) (fun u5 => g3 (by omega) (fun u6 => by omega)) (i32b a4) (by omega)
  refine t_eq (a := s0) (b := -1) r1 rfl (fun u => ?_) (fun u => ?_)
  · exact front (-11) x (fun _ => ⟨rfl, k0⟩) (fun u2 => absurd u u2) (fun u2 => by omega) (fun u2 => by omega)
  refine t_eq (a := s0) (b := 0) r1 rfl (fun u2 => ?_) (fun u2 => ?_)
  · have bad : ¬ ((0 ≤ a2.toInt ∧ a2.toInt ≤ z) ∧ a4.toInt ≤ z - a2.toInt) → wp_M_minds m (nI i) a2 a3 a4 (fun v2 m1 => (-12) = v2 ∧ K x m1) := fun P => front (-12) x (fun u3 => absurd u3 u) (fun _ u3 => absurd u2 u3) (fun _ _ => ⟨rfl, k0⟩) (fun _ u3 => absurd u3 P)
    refine t_lo (k := 0) rfl (fun u3 => bad (by omega)) (fun u3 => ?_)
    refine t_lt (a := z) (b := a2.toInt) r3 (iI_of a2).symm (fun u4 => bad (by omega)) (fun u4 => ?_) (by omega) (i32b a2)
    refine t_le (a := a4.toInt) (b := z - a2.toInt) (iI_of a4).symm (es _ r3) (fun u5 => ?_) (fun u5 => bad (by omega)) (i32b a4) (by omega)
    obtain ⟨b, hb, hb8, ha3⟩ := bg_of w z2
    obtain ⟨p, hp, ha2⟩ : ∃ p : Nat, (p : Int) = a2.toInt ∧ a2 = nI p := ⟨a2.toInt.toNat, by omega, i_nat (by omega)⟩
    obtain ⟨N, hN, ha4⟩ : ∃ N : Nat, (N : Int) = a4.toInt ∧ a4 = nI N := ⟨a4.toInt.toNat, by omega, i_nat (by omega)⟩
    have eb : a3.toInt = b := by rw [ha3, nI_toInt (by omega)]
    have hbN : ((b + N : Nat) : Int) ≤ e 4 := by omega
    have : w_X_minds_102 (fun v1 x1 => wp_M_minds m (nI i) a2 a3 a4 (fun v2 m1 => v1 = v2 ∧ K x1 m1)) 2000 x (nI p) (nI b) (nI N) i 0 := by
      refine X_minds102 (x := x) hi (by omega) (by omega) w hbN s (fun c rc sc => ?_) 2000 0 (X_now x) (by omega) (by omega) r s
      refine front (nI N) _ (fun u3 => absurd u3 u) (fun _ u3 => absurd u2 u3) (fun _ u6 => absurd ⟨⟨u3, u4⟩, u5⟩ u6) (fun _ _ => ?_)
      rw [ha2, ha3, ha4]
      refine M_minds103 (m := m) (it := S_items (X_sheets x i)) hi (by omega) (by omega) w hbN r5 (fun d1 q1 => ⟨rfl, ?_⟩) 2000 0 (M_d m) (by omega) (by omega) q
      exact hK _ _ ⟨_, (mnE_ok w N hbN).1, rc, sc, q1, t⟩ rfl rfl
    rw [← ha2, ← ha3, ← ha4] at this
    exact this
  · exact front (-13) x (fun u3 => absurd u3 u) (fun _ _ => ⟨rfl, k0⟩) (fun u3 => absurd u3 u2) (fun u3 => absurd u3 u2)
