/-! ===== rows of hours ===== -/
def RwR (rx : Nat → Int32) (kx : Int32) (rm : Nat → Int32) (km : Int32) : Prop := (∃ k : Nat, k ≤ 10 ∧ kx = nI k ∧ km = nI k) ∧ ∀ j, j < 30 → rx j = rm j
def RwX (x : XSt) (m : MSt) : Prop := RwR (X_rows x) (X_rowCount x) (M_row m) (M_rows m)
theorem hoursE_l (s : Int) : ∀ (n : Nat) (e : Gh), hoursE s (n + 1) e = hourE s (hoursE s n e) := by
  intro n
  induction n with
  | zero => intro e; rfl
  | succ n ih =>
    intro e
    show hoursE s (n + 1) (hourE s e) = _
    rw [ih]
    rfl
def rwE (e : Gh) (b j : Nat) : Int := if j = 0 then e (51 + b) else if j = 1 then e (35 + b) else sumE e 17 10
def prK (e : Gh) (b t : Nat) (f : Nat → Int32) : Nat → Int32 := fun k => if k < t then iI (rwE (hoursE (-1) (k / 3 + 1) e) b (k % 3)) else f k
theorem prK_0 (e : Gh) (b : Nat) (f : Nat → Int32) : prK e b 0 f = f := by
  funext k
  unfold prK
  rw [if_neg (by omega)]
theorem prK_s {e : Gh} {b i j : Nat} {f : Nat → Int32} (hj : j < 3) : upd (prK e b (3 * i + j) f) (3 * i + j) (iI (rwE (hoursE (-1) (i + 1) e) b j)) = prK e b (3 * i + j + 1) f := by
  funext k
  by_cases q : k = 3 * i + j
  · subst q
    rw [pk_us]
    unfold prK
    rw [if_pos (by omega), show (3 * i + j) / 3 = i by omega, show (3 * i + j) % 3 = j by omega]
  · rw [pk_un q]
    unfold prK
    by_cases z : k < 3 * i + j
    · rw [if_pos z, if_pos (by omega)]
    · rw [if_neg z, if_neg (by omega)]
theorem X_part_ok {h h1 : Int} {x : XSt} {e e1 : Gh} {b j : Nat} {post : Int32 → XSt → Prop} (hj : j < 3) (r : RelC (X_now x) e) (w : Wf h e) (hb : (b : Int) < e 4) (r1 : RelC (X_tried x) e1) (w1 : Wf h1 e1) (h4 : e1 4 = e 4) (hp : post (iI (rwE e1 b j)) x) : wp_X_triedRowPart x (nI b) (nI j) post := by
  have w4 := w.1
  have hb1 : (b : Int) < e1 4 := by rw [h4]; exact hb
  have rb := r1.2.2.2.2.2.2 b hb1
  unfold wp_X_triedRowPart
  unfold rwE at hp
  refine X_barge_ok r w (fun _ => if1 ?_) (fun q => absurd ⟨?_, ?_⟩ q)
  · refine t_eq (a := j) (b := 0) rfl rfl (fun z => ?_) (fun z => ?_)
    · refine ⟨vp_in_nI (by omega) (by omega), ?_⟩
      rw [nI_clamp (by omega), rb.2.2.2.1]
      rw [if_pos (by omega)] at hp
      exact hp
    rw [if_neg (by omega)] at hp
    refine t_eq (a := j) (b := 1) rfl rfl (fun z2 => ?_) (fun z2 => ?_)
    · refine ⟨vp_in_nI (by omega) (by omega), ?_⟩
      rw [nI_clamp (by omega), rb.2.1]
      rw [if_pos (by omega)] at hp
      exact hp
    rw [if_neg (by omega)] at hp
    exact C_lostAll_ok r1 hp
  · rw [nI_toInt (by omega)]; omega
  · rw [nI_toInt (by omega)]; exact hb
theorem M_must_ok {m : MSt} {e : Gh} {b j : Nat} {post : Int32 → MSt → Prop} (hj : j < 3) (q : RelD (M_d m) e) (hb : b < 8) (hp : post (iI (rwE e b j)) m) : wp_M_mustBe m (nI b) (nI j) post := by
  unfold wp_M_mustBe
  unfold rwE at hp
  refine t_eq (a := j) (b := 0) rfl rfl (fun z => ?_) (fun z => ?_)
  · rw [if_pos (by omega)] at hp
    exact M_get_ok (w := 3) q hb (by omega) hp
  rw [if_neg (by omega)] at hp
  refine t_eq (a := j) (b := 1) rfl rfl (fun z2 => ?_) (fun z2 => ?_)
  · rw [if_pos (by omega)] at hp
    exact M_get_ok (w := 1) q hb (by omega) hp
  rw [if_neg (by omega)] at hp
  exact M_lostAll_ok q hp
theorem X_prove49 {h h1 : Int} {x : XSt} {e : Gh} {b i : Nat} {N : Nat} {f : Nat → Int32} {post : Int32 → XSt → Prop} {k : XSt → Int32 → Int32 → Int32 → Prop} (hi : i < 10) (r : RelC (X_now x) e) (w : Wf h e) (hb : (b : Int) < e 4) (r1 : RelC (X_tried x) (hoursE (-1) (i + 1) e)) (w1 : Wf h1 (hoursE (-1) (i + 1) e)) (h4 : hoursE (-1) (i + 1) e 4 = e 4) (hp : k (X_rows_ x (prK e b (3 * (i + 1)) f)) (nI b) (nI N) (nI (i + 1))) : ∀ (n j : Nat), j ≤ 3 → 3 - j < n → w_X_prove_49 post k n (X_rows_ x (prK e b (3 * i + j) f)) (nI b) (nI N) (nI i) (nI j) := by
  intro n
  have w4 := w.1
  induction n with
  | zero => intro j _ h; omega
  | succ n ih =>
    intro j hj hn
    rw [w_X_prove_49]
    refine t_le (a := 3) (b := j) rfl rfl (fun z => ?_) (fun z => ?_)
    · have : j = 3 := by omega
      subst this
      intro y hy
      rw [hy, nI_1]
      exact hp
    intro y6 f6 y7 f7
    rw [f6, show (3 : Int32) = nI 3 from rfl, nI_mul, nI_add, show i * 3 + j = 3 * i + j by omega] at f7
    rw [f7]
    refine X_part_ok (x := X_rows_ x (prK e b (3 * i + j) f)) (h := h) (h1 := h1) (e := e) (e1 := hoursE (-1) (i + 1) e) (by omega) r w hb r1 w1 h4 ?_
    refine ⟨vp_in_nI (by omega) (by omega), fun y hy => ?_⟩
    rw [hy, nI_1, nI_clamp (by omega)]
    have e1 : X_rows_ (X_rows_ x (prK e b (3 * i + j) f)) (upd (X_rows (X_rows_ x (prK e b (3 * i + j) f))) (3 * i + j) (iI (rwE (hoursE (-1) (i + 1) e) b j))) = X_rows_ x (prK e b (3 * i + (j + 1)) f) := by
      show X_rows_ x (upd (prK e b (3 * i + j) f) (3 * i + j) (iI (rwE (hoursE (-1) (i + 1) e) b j))) = _
      rw [prK_s (by omega), show 3 * i + (j + 1) = 3 * i + j + 1 by omega]
    rw [e1]
    exact ih (j + 1) (by omega) (by omega)
theorem X_prove34 {h : Int} {x : XSt} {e : Gh} {b : Nat} {N : Nat} {f : Nat → Int32} {post : Int32 → XSt → Prop} (hN : N ≤ 10) (hh : h ≤ 900000) (r : RelC (X_now x) e) (w : Wf h e) (hb : (b : Int) < e 4) (hp : ∀ c, post (nI N) (X_rowCount_ (X_rows_ (X_tried_ x c) (prK e b (3 * N) f)) (nI N))) : ∀ (n i : Nat) (c : CSt), i ≤ N → N - i < n → RelC c (hoursE (-1) i e) → C_heldBack c = iI (-1) → w_X_prove_34 post n (X_rows_ (X_tried_ x c) (prK e b (3 * i) f)) (nI b) (nI N) (nI i) := by
  intro n
  induction n with
  | zero => intro i c _ h; omega
  | succ n ih =>
    intro i c hi hn rc sc
    rw [w_X_prove_34]
    refine t_le (a := N) (b := i) rfl rfl (fun z => ?_) (fun z => ?_)
    · have : i = N := by omega
      subst this
      exact hp c
    obtain ⟨w1, w14, _⟩ := Wf.hours (s := -1) i w
    obtain ⟨w2, w24, _⟩ := Wf.hours (s := -1) (i + 1) w
    refine C_hour_ok (h := h + i) (by omega) sc (by omega) rc w1 (fun c1 rc1 sc1 => ?_)
    rw [← hoursE_l] at rc1
    exact X_prove49 (x := X_tried_ x c1) (h := h) (f := f) (by omega) r w hb rc1 w2 w24 (ih (i + 1) c1 (by omega) (by omega) rc1 sc1) 2000 0 (by omega) (by omega)
theorem M_prove45 {m : MSt} {d : Nat → Int32} {e : Gh} {b i : Nat} {N : Nat} {f : Nat → Int32} {post : Int32 → MSt → Prop} {k : MSt → Int32 → Int32 → Int32 → Prop} (hi : i < 10) (hb : b < 8) (q : RelD d (hoursE (-1) (i + 1) e)) (hp : k (M_d_ (M_row_ m (prK e b (3 * (i + 1)) f)) d) (nI b) (nI N) (nI (i + 1))) : ∀ (n j : Nat), j ≤ 3 → 3 - j < n → w_M_prove_45 post k n (M_d_ (M_row_ m (prK e b (3 * i + j) f)) d) (nI b) (nI N) (nI i) (nI j) := by
  intro n
  induction n with
  | zero => intro j _ h; omega
  | succ n ih =>
    intro j hj hn
    rw [w_M_prove_45]
    refine t_le (a := 3) (b := j) rfl rfl (fun z => ?_) (fun z => ?_)
    · have : j = 3 := by omega
      subst this
      intro y hy
      rw [hy, nI_1]
      exact hp
    intro y6 f6 y7 f7
    rw [f6, show (3 : Int32) = nI 3 from rfl, nI_mul, nI_add] at f7
    rw [f7]
    refine M_must_ok (m := M_d_ (M_row_ m (prK e b (3 * i + j) f)) d) (e := hoursE (-1) (i + 1) e) (by omega) q hb ?_
    refine ⟨vp_in_nI (by omega) (by omega), fun y hy => ?_⟩
    rw [hy, nI_1, nI_clamp (by omega)]
    have e1 : M_row_ (M_d_ (M_row_ m (prK e b (3 * i + j) f)) d) (upd (M_row (M_d_ (M_row_ m (prK e b (3 * i + j) f)) d)) (3 * i + j) (iI (rwE (hoursE (-1) (i + 1) e) b j))) = M_d_ (M_row_ m (prK e b (3 * i + (j + 1)) f)) d := by
      show M_d_ (M_row_ m (upd (prK e b (3 * i + j) f) (3 * i + j) (iI (rwE (hoursE (-1) (i + 1) e) b j)))) d = _
      rw [prK_s (by omega), show 3 * i + (j + 1) = 3 * i + j + 1 by omega]
    rw [e1]
    exact ih (j + 1) (by omega) (by omega)
theorem M_prove33 {h : Int} {m : MSt} {e : Gh} {b : Nat} {N : Nat} {f : Nat → Int32} {post : Int32 → MSt → Prop} (hN : N ≤ 10) (hh : h ≤ 900000) (t : M_still m = iI (-1)) (ha : RelD (M_aside m) e) (w : Wf h e) (hb : (b : Int) < e 4) (hp : ∀ d, RelD d e → post (nI N) (M_d_ (M_row_ m (prK e b (3 * N) f)) d)) : ∀ (n i : Nat) (d : Nat → Int32), i ≤ N → N - i < n → RelD d (hoursE (-1) i e) → w_M_prove_33 post n (M_d_ (M_row_ m (prK e b (3 * i) f)) d) (nI b) (nI N) (nI i) := by
  intro n
  have w4 := w.1
  induction n with
  | zero => intro i d _ h; omega
  | succ n ih =>
    intro i d hi hn q
    rw [w_M_prove_33]
    refine t_le (a := N) (b := i) rfl rfl (fun z => ?_) (fun z => ?_)
    · have : i = N := by omega
      subst this
      exact M_putBack_ok (m := M_d_ (M_row_ m (prK e b (3 * i) f)) d) (e := e) ha (fun d2 q2 => hp d2 q2)
    obtain ⟨w1, w14, _⟩ := Wf.hours (s := -1) i w
    refine M_hour_ok (m := M_row_ m (prK e b (3 * i) f)) (h := h + i) (by omega) t (by omega) q w1 (fun d1 q1 => ?_)
    rw [← hoursE_l] at q1
    exact M_prove45 (m := m) (f := f) (by omega) (by omega) q1 (ih (i + 1) d1 (by omega) (by omega) q1) 2000 0 (by omega) (by omega)
theorem l_prove {h : Int} {x : XSt} {m : MSt} {a1 a2 a3 a4 : Int32} {K : XSt → MSt → Prop} (hh : h ≤ 900000) (n : Now h x m) (rw0 : RwX x m) (k0 : K x m) (hK : ∀ c rx k a d rm, Now h (X_rowCount_ (X_rows_ (X_tried_ x c) rx) k) (M_d_ (M_row_ (M_rows_ (M_aside_ m a) k) rm) d) → RwR rx k rm k → K (X_rowCount_ (X_rows_ (X_tried_ x c) rx) k) (M_d_ (M_row_ (M_rows_ (M_aside_ m a) k) rm) d)) : wpl_prove x m a1 a2 a3 a4 K := by
  obtain ⟨e, w, r, s, q, t⟩ := n
  have w4 := w.1
  have no : ¬ ((0 ≤ a1.toInt ∧ a1.toInt < e 4) ∧ (1 ≤ a2.toInt ∧ a2.toInt ≤ 10)) → wp_M_prove m a1 a2 (fun v2 m1 => (-1) = v2 ∧ K x m1) := by
    intro P
    unfold wp_M_prove
    refine M_barge_ok q w (fun z1 => if1 ?_) (fun _ => if0 ⟨rfl, k0⟩)
    exact I_in (a := a2) (lo := 1) (hi := 10) (fun z2 => absurd ⟨z1, z2⟩ P) (fun _ => if0 ⟨rfl, k0⟩)
  unfold wpl_prove wp_X_prove
  refine X_barge_ok r w (fun z1 => if1 ?_) (fun z1 => if0 (no (fun z => z1 z.1)))
  refine t_lo (k := 1) rfl (fun h1 => no (by omega)) (fun h1 => ?_)
  refine t_hi (k := 10) rfl (fun h2 => ?_) (fun h2 => no (by omega))
  obtain ⟨b, hb, hb8, ha⟩ := bg_of w z1
  obtain ⟨N, hN, ha2⟩ : ∃ N : Nat, N ≤ 10 ∧ a2 = nI N := ⟨a2.toInt.toNat, by omega, i_nat (by omega)⟩
  subst ha
  subst ha2
  refine C_copy_ok r w (fun c1 r1 s1 => ?_)
  have e0 : (X_now_ (X_tried_ x c1) (X_now x)) = X_rows_ (X_tried_ x c1) (prK e b (3 * 0) (X_rows x)) := by
    rw [show 3 * 0 = 0 from rfl, prK_0]; rfl
  show w_X_prove_34 _ 2000 (X_now_ (X_tried_ x c1) (X_now x)) (nI b) (nI N) 0
  rw [e0]
  refine X_prove34 (x := x) (f := X_rows x) hN hh r w hb (fun c => ?_) 2000 0 c1 (by omega) (by omega) r1 s1
  unfold wp_M_prove
  refine M_barge_ok q w (fun _ => if1 ?_) (fun z => absurd z1 z)
  refine I_in (a := nI N) (lo := 1) (hi := 10) (fun _ => if1 ?_) (fun z => absurd ⟨h1, h2⟩ z)
  refine M_keepAside_ok q (fun a ra => ?_)
  have e1 : M_rows_ (M_aside_ m a) (nI N) = M_d_ (M_row_ (M_rows_ (M_aside_ m a) (nI N)) (prK e b (3 * 0) (M_row m))) (M_d m) := by
    rw [show 3 * 0 = 0 from rfl, prK_0]; rfl
  rw [e1]
  refine M_prove33 (m := M_rows_ (M_aside_ m a) (nI N)) (f := M_row m) hN hh t ra w hb (fun d1 q1 => ⟨rfl, ?_⟩) 2000 0 (M_d m) (by omega) (by omega) q
  refine hK _ _ _ _ _ _ ⟨e, w, r, s, q1, t⟩ ⟨⟨N, hN, rfl, rfl⟩, fun j hj => ?_⟩
  unfold prK
  split
  · rfl
  · exact rw0.2 j hj
theorem X_isRow_ok {x : XSt} {k : Nat} {a1 a2 : Int32} {post : Int32 → XSt → Prop} (hk : k ≤ 10) (rk : X_rowCount x = nI k) (h1 : (0 ≤ a1.toInt ∧ a1.toInt ≤ (k : Int) - 1) ∧ (0 ≤ a2.toInt ∧ a2.toInt ≤ 2) → post 1 x) (h0 : ¬ ((0 ≤ a1.toInt ∧ a1.toInt ≤ (k : Int) - 1) ∧ (0 ≤ a2.toInt ∧ a2.toInt ≤ 2)) → post 0 x) : wp_X_isRowPart x a1 a2 post := by
  unfold wp_X_isRowPart
  refine t_lo (k := 0) rfl (fun u => h0 (by omega)) (fun u => ?_)
  refine t_le (a := k) (b := a1.toInt) rk (iI_of a1).symm (fun u2 => h0 (by omega)) (fun u2 => ?_) (by omega) (i32b a1)
  refine t_le (a := 10) (b := a1.toInt) rfl (iI_of a1).symm (fun u3 => h0 (by omega)) (fun u3 => ?_) (by omega) (i32b a1)
  refine t_lo (k := 0) rfl (fun u4 => h0 (by omega)) (fun u4 => ?_)
  exact t_le (a := 3) (b := a2.toInt) rfl (iI_of a2).symm (fun u3 => h0 (by omega)) (fun u3 => h1 (by omega)) (by omega) (i32b a2)
theorem M_row_in {rws : Int32} {k : Nat} {a : Int32} {post : Int32 → Prop} (hk : k ≤ 10) (rz : rws = nI k) (h1 : 0 ≤ a.toInt ∧ a.toInt ≤ (k : Int) - 1 → post 1) (h0 : ¬ (0 ≤ a.toInt ∧ a.toInt ≤ (k : Int) - 1) → post 0) : ∀ y3 : Int64, y3 = a.toInt64 → ∀ y5 : Int64, y5 = (rws - 1).toInt64 → wp_M_in y3 0 y5 post :=
  M_has_ok (z := (k : Int)) (by omega) rz h1 h0
theorem l_row {x : XSt} {m : MSt} {a1 a2 a3 a4 : Int32} {K : XSt → MSt → Prop} (rw0 : RwX x m) (k0 : K x m) : wpl_row x m a1 a2 a3 a4 K := by
  obtain ⟨⟨k, hk, r1, r2⟩, r3⟩ := rw0
  unfold wpl_row wp_X_row
  refine X_isRow_ok hk r1 (fun z => if1 ?_) (fun z => if0 ?_)
  · obtain ⟨i, hi, ha⟩ : ∃ i : Nat, i < 10 ∧ a1 = nI i := ⟨a1.toInt.toNat, by omega, i_nat (by omega)⟩
    obtain ⟨j, hj, ha2⟩ : ∃ j : Nat, j < 3 ∧ a2 = nI j := ⟨a2.toInt.toNat, by omega, i_nat (by omega)⟩
    intro y3 f3 y4 f4
    rw [f3, ha, ha2, show (3 : Int32) = nI 3 from rfl, nI_mul, nI_add] at f4
    rw [f4]
    refine ⟨vp_in_nI (by omega) (by omega), ?_⟩
    unfold wp_M_row
    refine M_row_in hk r2 (fun _ => if1 ?_) (fun u => absurd z.1 u)
    refine I_in (a := a2) (lo := 0) (hi := 2) (fun _ => if1 ?_) (fun u => absurd z.2 u)
    intro y6 f6 y7 f7
    rw [f6, ha, ha2, show (3 : Int32) = nI 3 from rfl, nI_mul, nI_add] at f7
    rw [f7]
    refine ⟨vp_in_nI (by omega) (by omega), ?_, k0⟩
    rw [nI_clamp (by omega), nI_clamp (by omega), show 3 * i + j = i * 3 + j by omega]
    exact r3 _ (by omega)
  · unfold wp_M_row
    refine M_row_in hk r2 (fun u1 => if1 ?_) (fun u => if0 ⟨rfl, k0⟩)
    exact I_in (a := a2) (lo := 0) (hi := 2) (fun u2 => absurd ⟨u1, u2⟩ z) (fun u => if0 ⟨rfl, k0⟩)
theorem l_alterRow {x : XSt} {m : MSt} {a1 a2 a3 a4 : Int32} {K : XSt → MSt → Prop} (rw0 : RwX x m) (hK : ∀ rx rm, RwR rx (X_rowCount x) rm (M_rows m) → K (X_rows_ x rx) (M_row_ m rm)) : wpl_alterRow x m a1 a2 a3 a4 K := by
  have k0 : K x m := hK _ _ rw0
  obtain ⟨⟨k, hk, r1, r2⟩, r3⟩ := rw0
  unfold wpl_alterRow wp_X_alterRow
  refine X_isRow_ok hk r1 (fun z => if1 ?_) (fun z => if0 ?_)
  · obtain ⟨i, hi, ha⟩ : ∃ i : Nat, i < 10 ∧ a1 = nI i := ⟨a1.toInt.toNat, by omega, i_nat (by omega)⟩
    obtain ⟨j, hj, ha2⟩ : ∃ j : Nat, j < 3 ∧ a2 = nI j := ⟨a2.toInt.toNat, by omega, i_nat (by omega)⟩
    have ey : ∀ y : Int32, y = a1 * 3 + a2 → y = nI (3 * i + j) := by
      intro y hy
      rw [hy, ha, ha2, show (3 : Int32) = nI 3 from rfl, nI_mul, nI_add, show i * 3 + j = 3 * i + j by omega]
    have ez : ∀ y : Int32, y = 3 * a1 + a2 → y = nI (3 * i + j) := by
      intro y hy
      rw [hy, ha, ha2, show (3 : Int32) = nI 3 from rfl, nI_mul, nI_add]
    intro y3 f3 y4 f4
    rw [f3] at f4
    rw [ey y4 f4]
    refine ⟨vp_in_nI (by omega) (by omega), ?_⟩
    intro y6 f6 y7 f7
    rw [f6] at f7
    rw [ey y7 f7]
    refine ⟨vp_in_nI (by omega) (by omega), ?_⟩
    unfold wp_M_alterRow
    refine M_row_in hk r2 (fun _ => if1 ?_) (fun u => absurd z.1 u)
    refine I_in (a := a2) (lo := 0) (hi := 2) (fun _ => if1 ?_) (fun u => absurd z.2 u)
    intro y6 f6 y7 f7
    rw [f6] at f7
    rw [ez y7 f7]
    refine ⟨vp_in_nI (by omega) (by omega), ?_⟩
    intro y9 f9 y10 f10
    rw [f9] at f10
    rw [ez y10 f10]
    refine ⟨vp_in_nI (by omega) (by omega), ?_⟩
    rw [nI_clamp (by omega)]
    refine ⟨r3 _ (by omega), hK _ _ ⟨⟨k, hk, r1, r2⟩, fun p hp => ?_⟩⟩
    by_cases u : p = 3 * i + j
    · subst u; rw [pk_us, pk_us]
    · rw [pk_un u, pk_un u]; exact r3 p hp
  · unfold wp_M_alterRow
    refine M_row_in hk r2 (fun u1 => if1 ?_) (fun u => if0 ⟨rfl, k0⟩)
    exact I_in (a := a2) (lo := 0) (hi := 2) (fun u2 => absurd ⟨u1, u2⟩ z) (fun u => if0 ⟨rfl, k0⟩)
