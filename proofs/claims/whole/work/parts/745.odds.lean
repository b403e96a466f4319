def lL (a : Int) : Int64 := Int64.ofInt a
theorem lL_mul (a b : Int) : lL a * lL b = lL (a * b) := (Int64.ofInt_mul a b).symm
theorem lL_sub (a b : Int) : lL a - lL b = lL (a - b) := (Int64.ofInt_sub a b).symm
theorem lL_toInt {a : Int} (h1 : 0 ≤ a) (h2 : a < 2 ^ 63) : (lL a).toInt = a := Int64.toInt_ofInt_of_le (by omega) h2
theorem lL_eq {a b : Int} (ha : 0 ≤ a ∧ a < 2 ^ 63) (hb : 0 ≤ b ∧ b < 2 ^ 63) : lL a = lL b ↔ a = b := by
  constructor
  · intro h
    have := congrArg Int64.toInt h
    rwa [lL_toInt ha.1 ha.2, lL_toInt hb.1 hb.2] at this
  · intro h; rw [h]
theorem lL_div {a b : Int} (ha : 0 ≤ a ∧ a < 2 ^ 63) (hb : 0 < b ∧ b < 2 ^ 63) : lL a / lL b = lL (a / b) := by
  apply Int64.toInt_inj.mp
  have q1 : a.tdiv b = a / b := Int.tdiv_eq_ediv_of_nonneg ha.1
  have q2 : 0 ≤ a / b := Int.ediv_nonneg ha.1 (by omega)
  have q3 : a / b ≤ a := Int.ediv_le_self b ha.1
  rw [Int64.toInt_div, lL_toInt ha.1 ha.2, lL_toInt (by omega) hb.2, lL_toInt q2 (by omega), q1]
  exact Int.bmod_eq_of_le (by omega) (by omega)
theorem lL_rem {a b : Int} (ha : 0 ≤ a ∧ a < 2 ^ 63) (hb : 0 < b ∧ b < 2 ^ 63) : lL a - lL a / lL b * lL b = lL (a % b) := by
  rw [lL_div ha hb, lL_mul, lL_sub]
  congr 1
  have := Int.emod_add_mul_ediv a b
  rw [Int.mul_comm] at this
  omega
def eG : Nat → Nat → Nat → Option Nat
  | s, a, b => if b = 0 then some a else match s with
    | 0 => none
    | s + 1 => eG s b (a % b)
theorem eG_0 (s a : Nat) : eG s a 0 = some a := by unfold eG; rfl
theorem eG_s (s a b : Nat) (h : ¬ b = 0) : eG (s + 1) a b = eG s b (a % b) := by
  rw [eG, if_neg h]
theorem eG_ok : ∀ (k a b : Nat), 0 < b → b < 2 ^ k → ∃ g, 0 < g ∧ g ≤ b ∧ eG (2 * k + 1) a b = some g := by
  intro k
  induction k with
  | zero => intro a b h1 h2; simp at h2; omega
  | succ k ih =>
    intro a b h1 h2
    have e1 : 2 * (k + 1) + 1 = 2 * k + 1 + 1 + 1 := by omega
    rw [e1, eG_s _ _ _ (by omega)]
    by_cases r : a % b = 0
    · rw [r, eG_0]
      exact ⟨b, h1, Nat.le_refl b, rfl⟩
    · rw [eG_s _ _ _ r]
      have rl := Nat.mod_lt a h1
      by_cases r2 : b % (a % b) = 0
      · rw [r2, eG_0]
        exact ⟨a % b, by omega, by omega, rfl⟩
      · have p : 2 ^ (k + 1) = 2 ^ k + 2 ^ k := by rw [Nat.pow_succ]; omega
        have h3 : b % (a % b) < 2 ^ k := by
          have m1 := Nat.mod_lt b (show 0 < a % b by omega)
          by_cases c : 2 * (a % b) ≤ b
          · omega
          · have : b % (a % b) = b - a % b := by
              rw [Nat.mod_eq_sub_mod (by omega), Nat.mod_eq_of_lt (by omega)]
            omega
        obtain ⟨g, g1, g2, g3⟩ := ih (a % b) (b % (a % b)) (by omega) h3
        refine ⟨g, g1, ?_, g3⟩
        have m1 := Nat.mod_lt b (show 0 < a % b by omega)
        omega
def cX (n : Nat) : Nat → Nat
  | 0 => 1
  | i + 1 => cX n i * (n - i) / (i + 1)
def cM (n k : Nat) : Nat → Nat
  | 0 => 1
  | i + 1 => cM n k i * (n - k + (i + 1)) / (i + 1)
theorem cXM : ∀ n, n < 9 → ∀ k, k ≤ n → cX n k = cM n k k := by decide
theorem cX_b : ∀ n, n < 9 → ∀ k, k ≤ n → cX n k ≤ 70 := by decide
theorem cM_b : ∀ n, n < 9 → ∀ k, k ≤ n → ∀ i, i ≤ k → cM n k i ≤ 70 := by decide
theorem iI_L {a : Int} (h : -2147483648 ≤ a ∧ a ≤ 2147483647) : (iI a).toInt64 = lL a := Int32.toInt64_ofInt (by show (-2147483648 : Int) ≤ a; omega) (by show a ≤ (2147483647 : Int); omega)
theorem l_nat {n : Nat} (h : n < 2 ^ 31) : (nI n).toInt64 = lL n := iI_L (a := (n : Int)) (by omega)
/-! ===== the greatest that goes into both ===== -/
theorem lL_0 {a : Int} (h : 0 ≤ a ∧ a < 2 ^ 63) : lg_cmp (lL a) 0 = 0 ↔ a = 0 := by
  rw [cmp_0, show (0 : Int64) = lL 0 from rfl]
  exact lL_eq h (by omega)
theorem M_common_ok {post : Int64 → Prop} {g : Nat} (hp : post (lL g)) : ∀ (s n a b : Nat), s < n → a < 2 ^ 63 → b < 2 ^ 63 → eG s a b = some g → w_M_common_6 post n (lL a) (lL b) := by
  intro s
  induction s with
  | zero =>
    intro n a b hn ha hb he
    obtain ⟨n, rfl⟩ : ∃ k, n = k + 1 := ⟨n - 1, by omega⟩
    rw [w_M_common_6]
    have b0 : b = 0 := by
      by_cases z : b = 0
      · exact z
      · rw [eG, if_neg z] at he
        exact absurd he (by simp)
    subst b0
    rw [eG_0] at he
    injection he with he
    subst he
    exact ifp ((lL_0 (by omega)).mpr rfl) hp
  | succ s ih =>
    intro n a b hn ha hb he
    obtain ⟨n, rfl⟩ : ∃ k, n = k + 1 := ⟨n - 1, by omega⟩
    rw [w_M_common_6]
    refine tst (lL_0 (by omega)) (fun z => ?_) (fun z => ?_)
    · have b0 : b = 0 := by omega
      subst b0
      rw [eG_0] at he
      injection he with he
      subst he
      exact hp
    · have b0 : ¬ b = 0 := by omega
      rw [eG_s _ _ _ b0] at he
      refine ⟨fun q => z ((lL_0 (by omega)).mp (by rw [cmp_0]; exact q)), fun y hy => ?_⟩
      rw [lL_rem (by omega) (by omega), show (a : Int) % (b : Int) = ((a % b : Nat) : Int) from rfl] at hy
      rw [hy]
      have := Nat.mod_lt a (show 0 < b by omega)
      exact ih n b (a % b) (by omega) hb (by omega) he
theorem X_part9_ok {post : Int64 → Prop} {g : Nat} {x0 x2 : Int64} {x4 : Int32} (hp : w_X_partOf_45 post x0 x2 x4 (lL g)) : ∀ (s n i a b : Nat), s < n → i + s ≤ 200 → a < 2 ^ 63 → b < 2 ^ 63 → eG s a b = some g → w_X_partOf_9 post n x0 x2 x4 (lL a) (lL b) (nI i) := by
  intro s
  induction s with
  | zero =>
    intro n i a b hn hi ha hb he
    obtain ⟨n, rfl⟩ : ∃ k, n = k + 1 := ⟨n - 1, by omega⟩
    rw [w_X_partOf_9]
    have b0 : b = 0 := by
      by_cases z : b = 0
      · exact z
      · rw [eG, if_neg z] at he
        exact absurd he (by simp)
    subst b0
    rw [eG_0] at he
    injection he with he
    subst he
    exact t_le (a := 200) (b := i) rfl rfl (fun _ => hp) (fun _ => ifp ((lL_0 (by omega)).mpr rfl) hp)
  | succ s ih =>
    intro n i a b hn hi ha hb he
    obtain ⟨n, rfl⟩ : ∃ k, n = k + 1 := ⟨n - 1, by omega⟩
    rw [w_X_partOf_9]
    refine t_le (a := 200) (b := i) rfl rfl (fun _ => by omega) (fun _ => ?_)
    refine tst (lL_0 (by omega)) (fun z => ?_) (fun z => ?_)
    · have b0 : b = 0 := by omega
      subst b0
      rw [eG_0] at he
      injection he with he
      subst he
      exact hp
    · have b0 : ¬ b = 0 := by omega
      rw [eG_s _ _ _ b0] at he
      refine ⟨fun q => z ((lL_0 (by omega)).mp (by rw [cmp_0]; exact q)), fun y hy y2 hy2 => ?_⟩
      rw [lL_rem (by omega) (by omega), show (a : Int) % (b : Int) = ((a % b : Nat) : Int) from rfl] at hy
      rw [hy, hy2, nI_1]
      have := Nat.mod_lt a (show 0 < b by omega)
      exact ih n (i + 1) b (a % b) (by omega) (by omega) hb (by omega) he
theorem part_ok {x : XSt} {m : MSt} {K : XSt → MSt → Prop} {a b : Nat} {p : Int32} {Q : Int64 → Prop} (ha : a < 2 ^ 63) (hb : 0 < b ∧ b < 2 ^ 54) (hq : ∀ v, wp_M_partOf (lL a) (lL b) p (fun v2 => v = v2 ∧ K x m) → Q v) (k0 : K x m) : wp_X_partOf (lL a) (lL b) p Q := by
  obtain ⟨g, g1, g2, g3⟩ := eG_ok 54 a b hb.1 hb.2
  have b63 : b < 2 ^ 63 := by omega
  unfold wp_X_partOf
  refine X_part9_ok (g := g) ?_ _ 2000 0 a b (by omega) (by omega) ha b63 g3
  unfold w_X_partOf_45
  have gz : ¬ lL g = 0 := fun z => by
    have := (lL_eq (a := (g : Int)) (b := 0) (by omega) (by omega)).mp z
    omega
  refine tst (lL_0 (by omega)) (fun z => absurd z (by omega)) (fun _ => ?_)
  have M : ∀ v, (p = 0 → v = lL a / lL g) → (¬ p = 0 → v = lL b / lL g) → wp_M_partOf (lL a) (lL b) p (fun v2 => v = v2 ∧ K x m) := by
    intro v f1 f2
    unfold wp_M_partOf wp_M_common
    refine ⟨fun z => ?_, fun z => ?_⟩
    · exact M_common_ok (g := g) ⟨gz, f1 z, k0⟩ _ 2000 a b (by omega) ha b63 g3
    · exact M_common_ok (g := g) ⟨gz, f2 z, k0⟩ _ 2000 a b (by omega) ha b63 g3
  refine ⟨fun z => ⟨gz, hq _ (M _ (fun _ => rfl) (fun u => absurd z u))⟩, fun z => ⟨gz, hq _ (M _ (fun u => absurd u z) (fun _ => rfl))⟩⟩
theorem l_hope {h : Int} {x : XSt} {m : MSt} {a1 a2 a3 a4 : Int32} {K : XSt → MSt → Prop} (n : Now h x m) (k0 : K x m) : wpl_hope x m a1 a2 a3 a4 K := by
  obtain ⟨e, w, r, s, q, t⟩ := n
  have e3 := w.2.2.2.2.1
  have no : ¬ ((0 ≤ a1.toInt ∧ a1.toInt ≤ 99) ∧ (0 ≤ a2.toInt ∧ a2.toInt ≤ 1)) → wp_M_hope m a1 a2 (fun v2 m1 => (-1) = v2 ∧ K x m1) := by
    intro P
    unfold wp_M_hope
    refine I_in (a := a1) (lo := 0) (hi := 99) (fun z1 => if1 ?_) (fun _ => if0 ⟨rfl, k0⟩)
    exact I_in (a := a2) (lo := 0) (hi := 1) (fun z2 => absurd ⟨z1, z2⟩ P) (fun _ => if0 ⟨rfl, k0⟩)
  unfold wpl_hope wp_X_hope
  refine t_lo (k := 0) rfl (fun h1 => no (by omega)) (fun h1 => ?_)
  refine t_lt (a := 99) (b := a1.toInt) rfl (iI_of a1).symm (fun h2 => no (by omega)) (fun h2 => ?_) (by omega) (i32b a1)
  refine t_lo (k := 0) rfl (fun h3 => no (by omega)) (fun h3 => ?_)
  refine t_hi (k := 1) rfl (fun h4 => ?_) (fun h4 => no (by omega))
  obtain ⟨N, hN, ha⟩ : ∃ N : Nat, N ≤ 99 ∧ a1 = nI N := ⟨a1.toInt.toNat, by omega, i_nat (by omega)⟩
  obtain ⟨L, hL, hL2⟩ : ∃ L : Nat, L ≤ 99 ∧ e 3 = L := ⟨(e 3).toNat, by omega, by omega⟩
  intro y1 f1 y2 f2
  have pr : (a1.toInt64) * ((iI (e 3)).toInt64) = lL ((N * L : Nat) : Int) := by
    rw [ha, l_nat (by omega), hL2, iI_L (by omega), lL_mul, Int.natCast_mul]
  rw [f1, r.1 3 (by omega), pr] at f2
  rw [f2]
  have b1 : N * L ≤ 99 * 99 := Nat.mul_le_mul hN hL
  refine part_ok (x := x) (m := m) (K := K) (a := N * L) (b := 100) (by omega) (by omega) (fun v hv => ?_) k0
  unfold wp_M_hope
  refine I_in (a := a1) (lo := 0) (hi := 99) (fun _ => if1 ?_) (fun z => absurd ⟨h1, h2⟩ z)
  refine I_in (a := a2) (lo := 0) (hi := 1) (fun _ => if1 ?_) (fun z => absurd ⟨h3, h4⟩ z)
  intro y5 f5 y6 f6
  rw [f5, q 3 (by omega), pr] at f6
  rw [f6]
  exact hv
theorem X_ways_ok {n k : Nat} {post : Int64 → Prop} (hn : n < 9) (hk : k ≤ n) (hp : post (lL (cX n k))) : wp_X_ways (nI n) (nI k) post := by
  have key : ∀ (f i : Nat), i ≤ k → k - i < f → w_X_ways_5 post f (nI n) (nI k) (lL (cX n i)) (nI i) := by
    intro f
    induction f with
    | zero => intro i _ h; omega
    | succ f ih =>
      intro i hi hf
      rw [w_X_ways_5]
      refine t_le (a := k) (b := i) rfl rfl (fun z => ?_) (fun z => ?_)
      · rw [show i = k by omega]; exact hp
      have cb := cX_b n hn i (by omega)
      intro y1 f1
      have e1 : nI n - nI i = nI (n - i) := pk_sub (by omega)
      have b1 : cX n i * (n - i) ≤ 70 * 8 := Nat.mul_le_mul cb (by omega)
      rw [e1, l_nat (by omega), lL_mul, ← Int.natCast_mul] at f1
      rw [nI_1, l_nat (by omega)]
      refine ⟨fun u => ?_, ?_⟩
      · have := (lL_eq (a := ((i + 1 : Nat) : Int)) (b := 0) (by omega) (by omega)).mp u
        omega
      intro y3 f3 y4 f4
      rw [f1, lL_div (by omega) (by omega), ← Int.natCast_ediv] at f3
      rw [f3, f4]
      exact ih (i + 1) (by omega) (by omega)
  unfold wp_X_ways
  exact key 2000 0 (by omega) (by omega)
theorem M_ways_ok {n k : Nat} {post : Int64 → Prop} (hn : n < 9) (hk : k ≤ n) (hp : post (lL (cM n k k))) : wp_M_ways (nI n) (nI k) post := by
  have key : ∀ (f i : Nat), i ≤ k → k - i < f → w_M_ways_5 post f (nI n) (nI k) (lL (cM n k i)) (nI (i + 1)) := by
    intro f
    induction f with
    | zero => intro i _ h; omega
    | succ f ih =>
      intro i hi hf
      rw [w_M_ways_5]
      refine t_lt (a := k) (b := ((i + 1 : Nat) : Int)) rfl rfl (fun z => ?_) (fun z => ?_)
      · have : i = k := by omega
        subst this
        exact hp
      have cb := cM_b n hn k hk i hi
      intro y1 f1 y2 f2
      have b1 : cM n k i * (n - k + (i + 1)) ≤ 70 * 8 := Nat.mul_le_mul cb (by omega)
      rw [f1, pk_sub hk, nI_add, l_nat (by omega), lL_mul, ← Int.natCast_mul] at f2
      rw [l_nat (by omega)]
      refine ⟨fun u => ?_, ?_⟩
      · have := (lL_eq (a := ((i + 1 : Nat) : Int)) (b := 0) (by omega) (by omega)).mp u
        omega
      intro y4 f4 y5 f5
      rw [f2, lL_div (by omega) (by omega), ← Int.natCast_ediv] at f4
      rw [f4, f5, nI_1]
      exact ih (i + 1) (by omega) (by omega)
  unfold wp_M_ways
  exact key 2000 0 (by omega) (by omega)
/-! both products -/
def prE (L k : Nat) : Nat → Nat
  | 0 => 1
  | i + 1 => prE L k i * (if k ≤ i then 100 - L else L)
theorem prE_s (L k i : Nat) : prE L k (i + 1) = prE L k i * (if k ≤ i then 100 - L else L) := rfl
theorem prE_b {L k : Nat} (hL : L ≤ 99) : ∀ i, prE L k i ≤ 100 ^ i := by
  intro i
  induction i with
  | zero => exact Nat.le_refl 1
  | succ i ih =>
    rw [prE_s, Nat.pow_succ]
    refine Nat.mul_le_mul ih ?_
    split <;> omega
theorem pow8 {i : Nat} (h : i ≤ 8) : 100 ^ i ≤ 10000000000000000 := Nat.le_trans (Nat.pow_le_pow_right (by decide) h) (by decide)
theorem X_odds_ok {x : XSt} {n k W L : Nat} {p : Int32} {post : Int64 → XSt → Prop} (hn : n ≤ 8) (hk : k ≤ n) (hL : L ≤ 99) (hW : W ≤ 70) (r3 : C_laws (X_now x) 3 = nI L) (hp : wp_X_partOf (lL ((W * prE L k n : Nat) : Int)) (lL ((100 ^ n : Nat) : Int)) p (fun v => post v x)) : ∀ (f i : Nat), i ≤ n → n - i < f → w_X_odds_45 post f x (nI n) (nI k) p (lL ((W * prE L k i : Nat) : Int)) (lL ((100 ^ i : Nat) : Int)) (nI i) := by
  intro f
  induction f with
  | zero => intro i _ h; omega
  | succ f ih =>
    intro i hi hf
    rw [w_X_odds_45]
    refine t_le (a := n) (b := i) rfl rfl (fun z => ?_) (fun z => ?_)
    · have : i = n := by omega
      subst this
      exact hp
    rw [r3]
    have e100 : ∀ y : Int64, y = lL ((100 ^ i : Nat) : Int) * 100 → y = lL ((100 ^ (i + 1) : Nat) : Int) := by
      intro y hy
      rw [hy, show (100 : Int64) = lL 100 from rfl, lL_mul, Nat.pow_succ, Int.natCast_mul]
      rfl
    have eW : ∀ c : Nat, lL ((W * prE L k i : Nat) : Int) * lL (c : Int) = lL ((W * (prE L k i * c) : Nat) : Int) := by
      intro c
      rw [lL_mul, ← Int.natCast_mul, Nat.mul_assoc]
    refine t_le (a := k) (b := i) rfl rfl (fun z2 => ?_) (fun z2 => ?_)
    · intro y3 f3 y4 f4 y5 f5
      rw [show (100 : Int32) = nI 100 from rfl, pk_sub (by omega), l_nat (by omega), eW] at f3
      have e3 : prE L k i * (100 - L) = prE L k (i + 1) := by rw [prE_s, if_pos (by omega)]
      rw [f3, e3, e100 y4 f4, f5, nI_1]
      exact ih (i + 1) (by omega) (by omega)
    · intro y6 f6 y7 f7 y8 f8 y9 f9
      rw [f6, l_nat (by omega), eW] at f7
      have e3 : prE L k i * L = prE L k (i + 1) := by rw [prE_s, if_neg (by omega)]
      rw [f7, e3, e100 y8 f8, f9, nI_1]
      exact ih (i + 1) (by omega) (by omega)
theorem M_odds_ok {m : MSt} {n k L : Nat} {p : Int32} {post : Int64 → MSt → Prop} (hn : n ≤ 8) (hk : k ≤ n) (hL : L ≤ 99) (q3 : M_d m 3 = nI L) (hp : wp_M_partOf (lL ((cX n k * prE L k n : Nat) : Int)) (lL ((100 ^ n : Nat) : Int)) p (fun v => post v m)) : ∀ (f i : Nat), i ≤ n → n - i < f → w_M_odds_46 post f m (nI n) (nI k) p (lL ((prE L k i : Nat) : Int)) (lL ((100 ^ i : Nat) : Int)) (nI i) := by
  intro f
  induction f with
  | zero => intro i _ h; omega
  | succ f ih =>
    intro i hi hf
    rw [w_M_odds_46]
    refine t_le (a := n) (b := i) rfl rfl (fun z => ?_) (fun z => ?_)
    · have : i = n := by omega
      subst this
      refine M_ways_ok (by omega) hk ?_
      intro y9 f9
      rw [lL_mul, ← Int.natCast_mul, Nat.mul_comm, ← cXM i (by omega) k hk] at f9
      rw [f9]
      exact hp
    rw [q3]
    have e100 : ∀ y : Int64, y = lL ((100 ^ i : Nat) : Int) * 100 → y = lL ((100 ^ (i + 1) : Nat) : Int) := by
      intro y hy
      rw [hy, show (100 : Int64) = lL 100 from rfl, lL_mul, Nat.pow_succ, Int.natCast_mul]
      rfl
    refine t_le (a := k) (b := i) rfl rfl (fun z2 => ?_) (fun z2 => ?_)
    · intro y3 f3 y4 f4 y5 f5
      rw [show (100 : Int32) = nI 100 from rfl, pk_sub (by omega), l_nat (by omega), lL_mul, ← Int.natCast_mul] at f3
      have e3 : prE L k i * (100 - L) = prE L k (i + 1) := by rw [prE_s, if_pos (by omega)]
      rw [f3, e3, e100 y4 f4, f5, nI_1]
      exact ih (i + 1) (by omega) (by omega)
    · intro y6 f6 y7 f7 y8 f8 y9 f9
      rw [f6, l_nat (by omega), lL_mul, ← Int.natCast_mul] at f7
      have e3 : prE L k i * L = prE L k (i + 1) := by rw [prE_s, if_neg (by omega)]
      rw [f7, e3, e100 y8 f8, f9, nI_1]
      exact ih (i + 1) (by omega) (by omega)
theorem l_odds {h : Int} {x : XSt} {m : MSt} {a1 a2 a3 a4 : Int32} {K : XSt → MSt → Prop} (n : Now h x m) (k0 : K x m) : wpl_odds x m a1 a2 a3 a4 K := by
  obtain ⟨e, w, r, s, q, t⟩ := n
  have e3 := w.2.2.2.2.1
  have ev : ∀ y4 : Int64, y4 = a1.toInt64 → y4.toInt = a1.toInt := fun y4 f4 => by rw [f4, Int32.toInt_toInt64]
  have no : ¬ ((0 ≤ a1.toInt ∧ a1.toInt ≤ 8) ∧ (0 ≤ a2.toInt ∧ a2.toInt ≤ a1.toInt) ∧ (0 ≤ a3.toInt ∧ a3.toInt ≤ 1)) → wp_M_odds m a1 a2 a3 (fun v2 m1 => (-1) = v2 ∧ K x m1) := by
    intro P
    unfold wp_M_odds
    refine I_in (a := a1) (lo := 0) (hi := 8) (fun z1 => if1 ?_) (fun _ => if0 ⟨rfl, k0⟩)
    intro y3 f3 y4 f4
    refine I_in (a := a2) (lo := 0) (hi := y4) (fun z2 => if1 ?_) (fun _ => if0 ⟨rfl, k0⟩) y3 f3
    rw [ev y4 f4] at z2
    exact I_in (a := a3) (lo := 0) (hi := 1) (fun z3 => absurd ⟨z1, z2, z3⟩ P) (fun _ => if0 ⟨rfl, k0⟩)
  unfold wpl_odds wp_X_odds
  refine t_lo (k := 0) rfl (fun h1 => no (by omega)) (fun h1 => ?_)
  refine t_lt (a := 8) (b := a1.toInt) rfl (iI_of a1).symm (fun h2 => no (by omega)) (fun h2 => ?_) (by omega) (i32b a1)
  refine t_lo (k := 0) rfl (fun h3 => no (by omega)) (fun h3 => ?_)
  refine t_lt (a := a1.toInt) (b := a2.toInt) (iI_of a1).symm (iI_of a2).symm (fun h4 => no (by omega)) (fun h4 => ?_) (i32b a1) (i32b a2)
  refine t_lo (k := 0) rfl (fun h5 => no (by omega)) (fun h5 => ?_)
  refine t_hi (k := 1) rfl (fun h6 => ?_) (fun h6 => no (by omega))
  obtain ⟨n, hn, ha, hn2⟩ : ∃ N : Nat, N ≤ 8 ∧ a1 = nI N ∧ a1.toInt = N := ⟨a1.toInt.toNat, by omega, i_nat (by omega), by omega⟩
  obtain ⟨k, hk, ha2⟩ : ∃ k : Nat, k ≤ n ∧ a2 = nI k := ⟨a2.toInt.toNat, by omega, i_nat (by omega)⟩
  obtain ⟨L, hL, hL2⟩ : ∃ L : Nat, L ≤ 99 ∧ e 3 = L := ⟨(e 3).toNat, by omega, by omega⟩
  have r3 : C_laws (X_now x) 3 = nI L := by rw [r.1 3 (by omega), hL2]; rfl
  have q3 : M_d m 3 = nI L := by rw [q 3 (by omega), hL2]; rfl
  have cb := cX_b n (by omega) k hk
  have pb := prE_b (L := L) (k := k) hL n
  have p8 := pow8 hn
  have p1 : 0 < 100 ^ n := Nat.pow_pos (by decide)
  have mb : cX n k * prE L k n ≤ 70 * 10000000000000000 := Nat.mul_le_mul cb (by omega)
  rw [ha, ha2]
  refine X_ways_ok (by omega) hk ?_
  have e1 : lL ((cX n k : Nat) : Int) = lL ((cX n k * prE L k 0 : Nat) : Int) := by rw [show prE L k 0 = 1 from rfl, Nat.mul_one]
  rw [e1]
  refine X_odds_ok hn hk hL cb r3 ?_ 2000 0 (by omega) (by omega)
  refine part_ok (x := x) (m := m) (K := K) (by omega) (by omega) (fun v hv => ?_) k0
  unfold wp_M_odds
  rw [ha] at h1 h2 h4
  refine I_in (a := nI n) (lo := 0) (hi := 8) (fun _ => if1 ?_) (fun z => absurd ⟨h1, h2⟩ z)
  intro y3 f3 y4 f4
  refine I_in (a := nI k) (lo := 0) (hi := y4) (fun _ => if1 ?_) (fun z => ?_) y3 f3
  · refine I_in (a := a3) (lo := 0) (hi := 1) (fun _ => if1 ?_) (fun z => absurd ⟨h5, h6⟩ z)
    exact M_odds_ok hn hk hL q3 hv 2000 0 (by omega) (by omega)
  · rw [ev y4 (by rw [f4, ha]), hn2, nI_toInt (by omega)] at z
    exact absurd ⟨show (0 : Int) ≤ (k : Int) by omega, by omega⟩ z
