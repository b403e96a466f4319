theorem nI_mul (a b : Nat) : nI a * nI b = nI (a * b) := (Int32.ofNat_mul a b).symm
/-! ===== the sheets ===== -/
def ShR (sh : Nat → SSt) (so si : Nat → Int32) (it : Nat → Int64) : Prop := ∀ i, i < 4 → ∃ s z : Int, (-1 ≤ s ∧ s ≤ 3) ∧ (0 ≤ z ∧ z ≤ 40) ∧ S_sort (sh i) = iI s ∧ so i = iI (s + 1) ∧ S_size (sh i) = iI z ∧ si i = iI z ∧ ∀ k, k < 40 → it (40 * i + k) = (S_items (sh i) k).toInt64
def ShX (x : XSt) (m : MSt) : Prop := ShR (X_sheets x) (M_sortOf m) (M_sizeOf m) (M_item m)
theorem cmp_0 (x y : Int64) : lg_cmp x y = 0 ↔ x = y := by
  have a := cmp_neg x y
  have b := cmp_pos x y
  constructor
  · intro h
    rw [h] at a b
    have a1 : ¬ x < y := fun z => absurd (a.mpr z) (by decide)
    have b1 : ¬ y < x := fun z => absurd (b.mpr z) (by decide)
    rw [Int64.lt_iff_toInt_lt] at a1 b1
    exact Int64.toInt_inj.mp (by omega)
  · intro h
    subst h
    unfold lg_cmp
    rw [if_neg Int64.lt_irrefl, if_pos rfl]
theorem l64_inj {a b : Int32} : a.toInt64 = b.toInt64 ↔ a = b := by
  constructor
  · intro h
    have := congrArg Int64.toInt h
    rw [Int32.toInt_toInt64, Int32.toInt_toInt64] at this
    exact Int32.toInt_inj.mp this
  · intro h; rw [h]
theorem X_sheetAt_ok {x : XSt} {a : Int32} {post : Nat → XSt → Prop} (h1 : 0 ≤ a.toInt ∧ a.toInt ≤ 3 → ∀ i, i < 4 → a = nI i → post i x) (h0 : ¬ (0 ≤ a.toInt ∧ a.toInt ≤ 3) → post 4 x) : wp_X_sheetAt x a post := by
  unfold wp_X_sheetAt
  refine t_lo (k := 0) rfl (fun z => h0 (by omega)) (fun z => ?_)
  refine t_le (a := 4) (b := a.toInt) rfl (iI_of a).symm (fun z => h0 (by omega)) (fun z2 => ?_) (by omega) (i32b a)
  have ha := i_nat z
  have q := h1 (by omega) a.toInt.toNat (by omega) ha
  rw [ha, nI_clamp (by omega)]
  exact ⟨vp_in_nI (by omega) (by omega), q⟩
theorem M_isSheet_ok {a : Int32} {post : Int32 → Prop} (h1 : 0 ≤ a.toInt ∧ a.toInt ≤ 3 → post 1) (h0 : ¬ (0 ≤ a.toInt ∧ a.toInt ≤ 3) → post 0) : wp_M_isSheet a post := by
  unfold wp_M_isSheet
  exact I_in (a := a) (lo := 0) (hi := 3) (fun z => ⟨nb1, h1 z⟩) (fun z => ⟨nb0, h0 z⟩)
theorem X_sh_id (x : XSt) : X_sheets_ x (X_sheets x) = x := rfl
theorem M_sh_id (m : MSt) : M_item_ (M_sizeOf_ (M_sortOf_ m (M_sortOf m)) (M_sizeOf m)) (M_item m) = m := rfl
theorem va_up_id {α : Type} (f : Nat → α) (k : Nat) : va_up f k (f k) = f := by
  funext j
  unfold va_up
  split
  · subst_vars; rfl
  · rfl
theorem va_up_up {α : Type} (f : Nat → α) (k : Nat) (v w : α) : va_up (va_up f k v) k w = va_up f k w := by
  funext j
  unfold va_up
  split <;> rfl
/-! a load that fits -/
def fitL (it : Nat → Int32) (b : Nat) : Nat → Nat → Gh → Bool
  | 0, _, _ => true
  | f + 1, i, e => if it i = -1 ∨ it i = iI (hourE (-1) e (35 + b)) then fitL it b f (i + 1) (hourE (-1) e) else false
theorem fitL_s (it : Nat → Int32) (b f i : Nat) (e : Gh) : fitL it b (f + 1) i e = if it i = -1 ∨ it i = iI (hourE (-1) e (35 + b)) then fitL it b f (i + 1) (hourE (-1) e) else false := rfl
def bI (p : Bool) : Int32 := if p = true then 1 else 0
theorem X_fit34 {x : XSt} {i0 b : Nat} {z : Int} {post : Int32 → XSt → Prop} (hi : i0 < 4) (hz : 0 ≤ z ∧ z ≤ 40) (rz : S_size (X_sheets x i0) = iI z) : ∀ (n f i : Nat) (h : Int) (e : Gh) (c : CSt), f + i = z.toNat → f < n → h + f ≤ 1000000 → Wf h e → RelC c e → C_heldBack c = iI (-1) → (b : Int) < e 4 → (∀ c', post (bI (fitL (S_items (X_sheets x i0)) b f i e)) (X_tried_ x c')) → w_X_loadFits_34 post n (X_tried_ x c) i0 (nI b) (nI i) := by
  intro n
  induction n with
  | zero => intro f i h e c _ hn; omega
  | succ n ih =>
    intro f i h e c hf hn hh w r s hb hp
    have w4 := w.1
    rw [w_X_loadFits_34]
    refine ifn (by omega) ⟨hi, ?_⟩
    refine t_le (a := z) (b := i) rz rfl (fun g => ?_) (fun g => ?_)
    · have : f = 0 := by omega
      subst this
      exact hp c
    refine t_le (a := 40) (b := i) rfl rfl (fun g2 => by omega) (fun g2 => ?_)
    obtain ⟨f, rfl⟩ : ∃ g, f = g + 1 := ⟨f - 1, by omega⟩
    rw [fitL_s] at hp
    obtain ⟨w1, w14, _⟩ := w.hour (s := -1)
    have hb1 : (b : Int) < hourE (-1) e 4 := by rw [w14]; exact hb
    refine C_hour_ok (h := h) (by omega) s (by omega) r w (fun c1 r1 s1 => ?_)
    have v : vp_in (nI i) 40 := vp_in_nI (by omega) (by omega)
    refine ⟨v, ?_⟩
    rw [nI_clamp (by omega)]
    have go : (S_items (X_sheets x i0) i = -1 ∨ S_items (X_sheets x i0) i = iI (hourE (-1) e (35 + b))) → ∀ y : Int32, y = nI i + 1 → w_X_loadFits_34 post n (X_tried_ x c1) i0 (nI b) y := by
      intro q y hy
      rw [if_pos q] at hp
      rw [hy, nI_1]
      exact ih f (i + 1) (h + 1) _ c1 (by omega) (by omega) (by omega) w1 r1 s1 hb1 hp
    refine ⟨fun q => go (Or.inl q), fun q => ⟨v, vp_in_nI (by omega) (by omega), ?_⟩⟩
    rw [nI_clamp (by omega), (r1.2.2.2.2.2.2 b hb1).2.1]
    refine ⟨fun q2 => go (Or.inr q2), fun q2 => ?_⟩
    rw [if_neg (fun t => t.elim q q2)] at hp
    exact hp c1
theorem X_loadFits_ok {h : Int} {x : XSt} {e : Gh} {i0 b : Nat} {z v : Int} {post : Int32 → XSt → Prop} (hi : i0 < 4) (hz : 0 ≤ z ∧ z ≤ 40) (rz : S_size (X_sheets x i0) = iI z) (hv : 0 ≤ v ∧ v ≤ 99) (hh : h ≤ 900000) (r : RelC (X_now x) e) (w : Wf h e) (hb : (b : Int) < e 4) (hp : ∀ c', post (bI (fitL (S_items (X_sheets x i0)) b z.toNat 0 (uE e (35 + b) v))) (X_tried_ x c')) : wp_X_loadFits x i0 (nI b) (iI v) post := by
  have w4 := w.1
  unfold wp_X_loadFits
  refine X_barge_ok r w (fun _ => if1 ?_) (fun q => absurd ⟨?_, ?_⟩ q)
  · refine C_copy_ok r w (fun c1 r1 s1 => ?_)
    refine ⟨vp_in_nI (by omega) (by omega), ?_⟩
    rw [nI_clamp (by omega)]
    refine X_fit34 (x := x) hi hz rz 2000 z.toNat 0 h (uE e (35 + b) v) _ (by omega) (by omega) (by omega) (w.load hb hv) (r1.load hb w4.2 v) s1 (by rw [uE_n (by omega)]; exact hb) hp
  · rw [nI_iI, iI_toInt (by omega) (by omega)]; omega
  · rw [nI_iI, iI_toInt (by omega) (by omega)]; exact hb
/-! how many fit, and the first -/
def cR (P : Nat → Bool) : Nat → Nat → Nat
  | 0, _ => 0
  | j + 1, k => cR P j (k + 1) + (if P k = true then 1 else 0)
def fR (P : Nat → Bool) : Nat → Nat → Int
  | 0, _ => -3
  | j + 1, k => if P k = true then k else fR P j (k + 1)
theorem cR_s (P : Nat → Bool) (j k : Nat) : cR P (j + 1) k = cR P j (k + 1) + (if P k = true then 1 else 0) := rfl
theorem fR_s (P : Nat → Bool) (j k : Nat) : fR P (j + 1) k = if P k = true then (k : Int) else fR P j (k + 1) := rfl
theorem cR_b (P : Nat → Bool) : ∀ j k, cR P j k ≤ j := by
  intro j
  induction j with
  | zero => intro k; exact Nat.le_refl 0
  | succ j ih => intro k; rw [cR_s]; have := ih (k + 1); split <;> omega
def fitP (it : Nat → Int32) (b : Nat) (z : Int) (e : Gh) (v : Nat) : Bool := fitL it b z.toNat 0 (uE e (35 + b) v)
theorem X_fits53 {h : Int} {x : XSt} {e : Gh} {i0 b : Nat} {z : Int} {a3 : Int32} {post : Int32 → XSt → Prop} (hi : i0 < 4) (hz : 0 ≤ z ∧ z ≤ 40) (rz : S_size (X_sheets x i0) = iI z) (hh : h ≤ 900000) (r : RelC (X_now x) e) (w : Wf h e) (hb : (b : Int) < e 4) (P : Nat → Bool) (hP : P = fitP (S_items (X_sheets x i0)) b z e) (R1 : Nat) (R2 : Int) (hp : ∀ c', (a3 = 0 → post (nI R1) (X_tried_ x c')) ∧ (¬ a3 = 0 → post (iI R2) (X_tried_ x c'))) : ∀ (n f v cn : Nat) (k : Int) (c : CSt), f + v = 100 → f < n → cn + cR P f v = R1 → (if k = -3 then fR P f v else k) = R2 → -3 ≤ k ∧ k ≤ 99 → w_X_fits_53 post n (X_tried_ x c) (nI b) a3 i0 (nI cn) (iI k) (nI v) := by
  intro n
  induction n with
  | zero => intro f v cn k c _ hn; omega
  | succ n ih =>
    intro f v cn k c hf hn h1 h2 hk
    rw [w_X_fits_53]
    refine t_lt (a := 99) (b := v) rfl rfl (fun g => ?_) (fun g => ?_)
    · have : f = 0 := by omega
      subst this
      have e1 : cn = R1 := h1
      have e2 : k = R2 := by
        by_cases q : k = -3
        · rw [if_pos q] at h2; rw [q]; exact h2
        · rw [if_neg q] at h2; exact h2
      rw [e1, e2]
      exact hp c
    refine ifn (by omega) ⟨hi, ?_⟩
    obtain ⟨f, rfl⟩ : ∃ g, f = g + 1 := ⟨f - 1, by omega⟩
    rw [cR_s] at h1
    rw [fR_s] at h2
    refine X_loadFits_ok (x := X_tried_ x c) (h := h) (e := e) (z := z) (v := (v : Int)) hi hz rz (by omega) hh r w hb (fun c1 => ?_)
    have eP : bI (fitL (S_items (X_sheets (X_tried_ x c) i0)) b z.toNat 0 (uE e (35 + b) v)) = bI (P v) := by rw [hP]; rfl
    rw [eP]
    by_cases q : P v = true
    · rw [if_pos q] at h1 h2
      rw [q]
      refine if1 ?_
      intro y hy
      rw [nI_1] at hy
      rw [hy]
      refine t_eq (a := k) (b := -3) rfl rfl (fun g2 => ?_) (fun g2 => ?_)
      · intro y2 hy2
        rw [hy2, nI_1]
        rw [if_pos g2] at h2
        exact ih f (v + 1) (cn + 1) v c1 (by omega) (by omega) (by omega) (by rw [if_neg (by omega)]; exact h2) (by omega)
      · intro y2 hy2
        rw [hy2, nI_1]
        rw [if_neg g2] at h2
        exact ih f (v + 1) (cn + 1) k c1 (by omega) (by omega) (by omega) (by rw [if_neg g2]; exact h2) hk
    · rw [if_neg q] at h1 h2
      rw [Bool.not_eq_true] at q
      rw [q]
      refine if0 ?_
      intro y hy
      rw [hy, nI_1]
      exact ih f (v + 1) cn k c1 (by omega) (by omega) (by omega) h2 hk
theorem M_fit73 {m : MSt} {e0 : Gh} {i0 b : Nat} {z v : Int} {a3 : Int32} {cn : Nat} {k : Int} {it : Nat → Int32} {post : Int32 → MSt → Prop} {K : MSt → Int32 → Int32 → Int32 → Int32 → Int32 → Int32 → Prop} (hi : i0 < 4) (hz : 0 ≤ z ∧ z ≤ 40) (rz : M_sizeOf m i0 = iI z) (hit : ∀ k, k < 40 → M_item m (40 * i0 + k) = (it k).toInt64) (t : M_still m = iI (-1)) (ha : RelD (M_aside m) e0) : ∀ (n f i : Nat) (h : Int) (e : Gh) (d : Nat → Int32) (ok : Bool), f + i = z.toNat → f < n → h + f ≤ 1000000 → Wf h e → RelD d e → (b : Int) < e 4 → (∀ d', RelD d' e0 → if (if ok = true then fitL it b f i e else false) = true then K (M_d_ m d') (nI i0) (nI b) a3 (nI (cn + 1)) (iI v) (iI (v - 1)) else K (M_d_ m d') (nI i0) (nI b) a3 (nI cn) (iI k) (iI (v - 1))) → w_M_fits_73 post K n (M_d_ m d) (nI i0) (nI b) a3 (nI cn) (iI k) (iI v) (bI ok) (nI i) := by
  intro n
  induction n with
  | zero => intro f i h e d ok _ hn; omega
  | succ n ih =>
    intro f i h e d ok hf hn hh w q hb hp
    have w4 := w.1
    have one : iI v + (-1) = iI (v - 1) := by rw [show (-1 : Int32) = iI (-1) from rfl, iI_add]; rfl
    have fin : ∀ d1, (∀ d', RelD d' e0 → if ok = true then K (M_d_ m d') (nI i0) (nI b) a3 (nI (cn + 1)) (iI v) (iI (v - 1)) else K (M_d_ m d') (nI i0) (nI b) a3 (nI cn) (iI k) (iI (v - 1))) → w_M_fits_142 post K (M_d_ m d1) (nI i0) (nI b) a3 (nI cn) (iI k) (iI v) (bI ok) := by
      intro d1 hp
      unfold w_M_fits_142
      refine M_putBack_ok (m := M_d_ m d1) (e := e0) ha (fun d2 q2 => ?_)
      have := hp d2 q2
      cases ok with
      | true =>
        refine if1 ?_
        unfold w_M_fits_158
        intro y hy
        refine if1 ?_
        intro y2 hy2
        rw [hy2, one, hy, nI_1]
        exact this
      | false =>
        refine if0 ?_
        unfold w_M_fits_158
        intro y hy
        refine if0 ?_
        intro y2 hy2
        rw [hy2, one, hy, show (0 : Int32) = nI 0 from rfl, nI_add]
        exact this
    rw [w_M_fits_73]
    refine ⟨vp_in_nI (by omega) (by omega), ?_⟩
    rw [nI_clamp (by omega)]
    refine t_le (a := z) (b := i) rz rfl (fun g => ?_) (fun g => ?_)
    · have : f = 0 := by omega
      subst this
      refine fin d (fun d' q' => ?_)
      have := hp d' q'
      cases ok with
      | true => exact this
      | false => exact this
    cases ok with
    | false => exact if0 (fin d (fun d' q' => hp d' q'))
    | true =>
      refine if1 ?_
      obtain ⟨f, rfl⟩ : ∃ g, f = g + 1 := ⟨f - 1, by omega⟩
      simp only [if_true] at hp
      rw [fitL_s] at hp
      obtain ⟨w1, w14, _⟩ := w.hour (s := -1)
      have hb1 : (b : Int) < hourE (-1) e 4 := by rw [w14]; exact hb
      refine M_hour_ok (h := h) (by omega) t (by omega) q w (fun d1 q1 => ?_)
      intro y18 h18 y19 h19
      have e19 : y19 = nI (40 * i0 + i) := by
        rw [h19, h18, show (40 : Int32) = nI 40 from rfl, nI_mul, nI_add]
      rw [e19]
      refine ⟨vp_in_nI (by omega) (by omega), ?_⟩
      rw [nI_clamp (by omega)]
      have hm : M_item (M_d_ m d1) (40 * i0 + i) = (it i).toInt64 := hit i (by omega)
      rw [hm]
      have go : (it i = -1 ∨ it i = iI (hourE (-1) e (35 + b))) → ∀ y : Int32, y = nI i + 1 → w_M_fits_73 post K n (M_d_ m d1) (nI i0) (nI b) a3 (nI cn) (iI k) (iI v) 1 y := by
        intro u y hy
        rw [if_pos u] at hp
        rw [hy, nI_1]
        exact ih f (i + 1) (h + 1) _ d1 true (by omega) (by omega) (by omega) w1 q1 hb1 hp
      have c1 : lg_cmp (it i).toInt64 (-1) = 0 ↔ it i = -1 := by
        rw [cmp_0]
        exact l64_inj (b := -1)
      refine tst c1 (fun u => go (Or.inl u)) (fun u => ?_)
      refine M_get_ok (w := 1) (m := M_d_ m d1) q1 (by omega) (by omega) ?_
      have c2 : lg_cmp (it i).toInt64 (iI (hourE (-1) e (27 + 8 * 1 + b))).toInt64 = 0 ↔ it i = iI (hourE (-1) e (35 + b)) := by
        rw [cmp_0]
        exact l64_inj
      refine tst c2 (fun u2 => go (Or.inr u2)) (fun u2 => ?_)
      intro y hy
      rw [hy, nI_1]
      rw [if_neg (fun t => t.elim u u2)] at hp
      refine ih f (i + 1) (h + 1) _ d1 false (by omega) (by omega) (by omega) w1 q1 hb1 (fun d' q' => ?_)
      exact hp d' q'
theorem M_fits54 {h : Int} {m : MSt} {e : Gh} {i0 b : Nat} {z : Int} {a3 : Int32} {it : Nat → Int32} {post : Int32 → MSt → Prop} (hi : i0 < 4) (hz : 0 ≤ z ∧ z ≤ 40) (rz : M_sizeOf m i0 = iI z) (hit : ∀ k, k < 40 → M_item m (40 * i0 + k) = (it k).toInt64) (t : M_still m = iI (-1)) (ha : RelD (M_aside m) e) (hh : h ≤ 900000) (w : Wf h e) (hb : (b : Int) < e 4) (P : Nat → Bool) (hP : P = fitP it b z e) (hp : ∀ d', RelD d' e → (a3 = 0 → post (nI (cR P 100 0)) (M_d_ m d')) ∧ (¬ a3 = 0 → post (iI (fR P 100 0)) (M_d_ m d'))) : ∀ (n f : Nat) (d : Nat → Int32), f ≤ 100 → 100 - f < n → RelD d e → w_M_fits_54 post n (M_d_ m d) (nI i0) (nI b) a3 (nI (cR P f (100 - f))) (iI (fR P f (100 - f))) (iI (99 - f)) := by
  intro n
  have w4 := w.1
  induction n with
  | zero => intro f d _ hn; omega
  | succ n ih =>
    intro f d hf hn q
    rw [w_M_fits_54]
    refine t_lt (a := 99 - f) (b := 0) rfl rfl (fun g => ?_) (fun g => ?_)
    · have : f = 100 := by omega
      subst this
      exact hp d q
    have ev : ((99 - f : Nat) : Int) = 99 - (f : Int) := by omega
    refine M_puts_ok (w := 1) (m := M_d_ m d) (v := 99 - (f : Int)) q (by omega) (by omega) (fun d1 q1 => ?_)
    refine M_fit73 (m := m) (e0 := e) (it := it) hi hz rz hit t ha 2000 z.toNat 0 h (uE e (35 + b) (99 - (f : Int))) d1 true (by omega) (by omega) (by omega) (w.load hb (by omega)) q1 (by rw [uE_n (by omega)]; exact hb) (fun d2 q2 => ?_)
    have eP : fitL it b z.toNat 0 (uE e (35 + b) (99 - (f : Int))) = P (99 - f) := by rw [hP, ← ev]; rfl
    simp only [if_true]
    rw [eP]
    have s1 := cR_s P f (99 - f)
    have s2 := fR_s P f (99 - f)
    have e5 : 99 - f + 1 = 100 - f := by omega
    have e6 : 100 - (f + 1) = 99 - f := by omega
    have e7 : (99 : Int) - ((f + 1 : Nat) : Int) = 99 - (f : Int) - 1 := by omega
    have := ih (f + 1) d2 (by omega) (by omega) q2
    rw [e6, s1, s2, e5, e7] at this
    by_cases u : P (99 - f) = true
    · rw [if_pos u] at this ⊢
      rw [if_pos u, ev] at this
      exact this
    · rw [if_neg u] at this ⊢
      rw [if_neg u] at this
      exact this
theorem l_fits {h : Int} {x : XSt} {m : MSt} {a1 a2 a3 a4 : Int32} {K : XSt → MSt → Prop} (hh : h ≤ 900000) (n : Now h x m) (sr : ShX x m) (hK : ∀ x' m', Now h x' m' → x'.2.2 = x.2.2 → m'.2.2 = m.2.2 → K x' m') : wpl_fits x m a1 a2 a3 a4 K := by
  have k0 : K x m := hK x m n rfl rfl
  obtain ⟨e, w, r, s, q, t⟩ := n
  have w4 := w.1
  have no : ¬ ((0 ≤ a1.toInt ∧ a1.toInt ≤ 3) ∧ (0 ≤ a2.toInt ∧ a2.toInt < e 4) ∧ (0 ≤ a3.toInt ∧ a3.toInt ≤ 1)) → wp_M_fits m a1 a2 a3 (fun v2 m1 => (-1) = v2 ∧ K x m1) := by
    intro P
    unfold wp_M_fits
    refine M_isSheet_ok (fun z1 => if1 ?_) (fun _ => if0 ⟨rfl, k0⟩)
    refine M_barge_ok q w (fun z2 => if1 ?_) (fun _ => if0 ⟨rfl, k0⟩)
    exact I_in (a := a3) (lo := 0) (hi := 1) (fun z3 => absurd ⟨z1, z2, z3⟩ P) (fun _ => if0 ⟨rfl, k0⟩)
  unfold wpl_fits wp_X_fits
  refine X_sheetAt_ok (fun z1 i hi ha => ifn (by omega) ⟨hi, ?_⟩) (fun z1 => ifp rfl (no (fun u => z1 u.1)))
  refine X_barge_ok r w (fun z2 => if1 ?_) (fun z2 => if0 (no (fun u => z2 u.2.1)))
  refine t_lo (k := 0) rfl (fun h1 => no (by omega)) (fun h1 => ?_)
  refine t_hi (k := 1) rfl (fun h2 => ?_) (fun h2 => no (by omega))
  obtain ⟨b, hb, hb8, ha2⟩ := bg_of w z2
  subst ha
  subst ha2
  obtain ⟨s0, z, hs, hz, r1, r2, r3, r4, r5⟩ := sr i hi
  have front : ∀ (v : Int32) (x' : XSt), (s0 = -1 → v = -11 ∧ K x' m) → (¬ s0 = -1 → wp_M_keepAside m (fun m_7 => w_M_fits_54 (fun v2 m1 => v = v2 ∧ K x' m1) 2000 m_7 (nI i) (nI b) a3 0 (-3) 99)) → wp_M_fits m (nI i) (nI b) a3 (fun v2 m1 => v = v2 ∧ K x' m1) := by
    intro v x' g1 g2
    unfold wp_M_fits
    refine M_isSheet_ok (fun _ => if1 ?_) (fun u => absurd z1 u)
    refine M_barge_ok q w (fun _ => if1 ?_) (fun u => absurd z2 u)
    refine I_in (a := a3) (lo := 0) (hi := 1) (fun _ => if1 ?_) (fun u => absurd ⟨h1, h2⟩ u)
    refine ⟨vp_in_nI (by omega) (by omega), ?_⟩
    rw [nI_clamp (by omega)]
    exact t_eq (a := s0 + 1) (b := 0) r2 rfl (fun u => g1 (by omega)) (fun u => g2 (by omega))
  refine t_eq (a := s0) (b := -1) r1 rfl (fun u => ?_) (fun u => ?_)
  · exact front (-11) x (fun _ => ⟨rfl, k0⟩) (fun u2 => absurd u u2)
  · refine X_fits53 (x := x) (h := h) (e := e) hi hz r3 hh r w hb (fitP (S_items (X_sheets x i)) b z e) rfl (cR (fitP (S_items (X_sheets x i)) b z e) 100 0) (fR (fitP (S_items (X_sheets x i)) b z e) 100 0) (fun c => ?_) 2000 100 0 0 (-3) (X_tried x) (by omega) (by omega) (by omega) (by rw [if_pos rfl]) (by omega)
    have back : ∀ v : Int32, (a3 = 0 → v = nI (cR (fitP (S_items (X_sheets x i)) b z e) 100 0)) → (¬ a3 = 0 → v = iI (fR (fitP (S_items (X_sheets x i)) b z e) 100 0)) → wp_M_fits m (nI i) (nI b) a3 (fun v2 m1 => v = v2 ∧ K (X_tried_ x c) m1) := by
      intro v g1 g2
      refine front v _ (fun u2 => absurd u2 u) (fun _ => ?_)
      refine M_keepAside_ok q (fun a ra => ?_)
      refine M_fits54 (m := M_aside_ m a) (h := h) (e := e) (it := S_items (X_sheets x i)) hi hz r4 r5 t ra hh w hb (fitP (S_items (X_sheets x i)) b z e) rfl (fun d1 q1 => ?_) 2000 0 (M_d m) (by omega) (by omega) q
      have fin : K (X_tried_ x c) (M_d_ (M_aside_ m a) d1) := hK _ _ ⟨e, w, r, s, q1, t⟩ rfl rfl
      exact ⟨fun u3 => ⟨g1 u3, fin⟩, fun u3 => ⟨g2 u3, fin⟩⟩
    exact ⟨fun u3 => back _ (fun _ => rfl) (fun u4 => absurd u3 u4), fun u3 => back _ (fun u4 => absurd u4 u3) (fun _ => rfl)⟩
