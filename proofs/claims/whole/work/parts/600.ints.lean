/-! ===== numbers: Int32 as the image of Int ===== -/
def iI (a : Int) : Int32 := Int32.ofInt a
theorem iI_add (a b : Int) : iI a + iI b = iI (a + b) := (Int32.ofInt_add a b).symm
theorem iI_sub (a b : Int) : iI a - iI b = iI (a - b) := (Int32.ofInt_sub a b).symm
theorem iI_mul (a b : Int) : iI a * iI b = iI (a * b) := (Int32.ofInt_mul a b).symm
theorem iI_of (x : Int32) : iI x.toInt = x := Int32.ofInt_toInt x
theorem iI_toInt {a : Int} (h1 : -2147483648 ≤ a) (h2 : a ≤ 2147483647) : (iI a).toInt = a := Int32.toInt_ofInt_of_le (by omega) (by omega)
theorem nI_iI (n : Nat) : nI n = iI (n : Int) := rfl
theorem iI_nat {a : Int} (h : 0 ≤ a) : iI a = nI a.toNat := by
  rw [nI_iI]
  congr 1
  omega
theorem iI_lt {a b : Int} (ha : -2147483648 ≤ a ∧ a ≤ 2147483647) (hb : -2147483648 ≤ b ∧ b ≤ 2147483647) : iI a < iI b ↔ a < b := by
  rw [Int32.lt_iff_toInt_lt, iI_toInt ha.1 ha.2, iI_toInt hb.1 hb.2]
theorem iI_le {a b : Int} (ha : -2147483648 ≤ a ∧ a ≤ 2147483647) (hb : -2147483648 ≤ b ∧ b ≤ 2147483647) : iI a ≤ iI b ↔ a ≤ b := by
  rw [Int32.le_iff_toInt_le, iI_toInt ha.1 ha.2, iI_toInt hb.1 hb.2]
theorem iI_eq {a b : Int} (ha : -2147483648 ≤ a ∧ a ≤ 2147483647) (hb : -2147483648 ≤ b ∧ b ≤ 2147483647) : iI a = iI b ↔ a = b := by
  constructor
  · intro h
    have := congrArg Int32.toInt h
    rwa [iI_toInt ha.1 ha.2, iI_toInt hb.1 hb.2] at this
  · intro h; rw [h]
theorem iI_clamp {a : Int} (h1 : 0 ≤ a) (h2 : a ≤ 2147483647) : (iI a).toNatClampNeg = a.toNat := by
  show (iI a).toInt.toNat = a.toNat
  rw [iI_toInt (by omega) h2]
theorem iI_in {a : Int} {N : Nat} (h1 : 0 ≤ a) (h2 : a < N) (hN : N < 2 ^ 31) : vp_in (iI a) N := by
  rw [vp_in_iff, iI_toInt (by omega) (by omega)]
  exact ⟨h1, h2⟩
theorem iI_div {a b : Int} (ha : 0 ≤ a ∧ a ≤ 2147483647) (hb : 0 < b ∧ b ≤ 2147483647) : iI a / iI b = iI (a / b) := by
  rw [iI_nat ha.1, iI_nat (Int.le_of_lt hb.1), pk_div (by omega) (by omega) (by omega), nI_iI]
  congr 1
  rw [Int.natCast_ediv]
  congr 1 <;> omega
theorem iI_rem {a b : Int} (ha : 0 ≤ a ∧ a ≤ 2147483647) (hb : 0 < b ∧ b ≤ 2147483647) : iI a - iI a / iI b * iI b = iI (a % b) := by
  rw [iI_div ha hb, iI_mul, iI_sub]
  congr 1
  have := Int.emod_add_mul_ediv a b
  rw [Int.mul_comm] at this
  omega
/-- how a test on Int32 goes, over its numbers -/
theorem tst {c d A B : Prop} (e : c ↔ d) (f : d → A) (g : ¬ d → B) : (c → A) ∧ (¬ c → B) := ⟨fun h => f (e.mp h), fun h => g (fun h2 => h (e.mpr h2))⟩
theorem t_lt {a b : Int} {x y : Int32} {A B : Prop} (hx : x = iI a) (hy : y = iI b) (f : a < b → A) (g : b ≤ a → B) (ha : -2147483648 ≤ a ∧ a ≤ 2147483647 := by omega) (hb : -2147483648 ≤ b ∧ b ≤ 2147483647 := by omega) : (x < y → A) ∧ (¬ x < y → B) := by
  subst hx; subst hy; exact tst (iI_lt ha hb) f (fun h => g (by omega))
theorem t_le {a b : Int} {x y : Int32} {A B : Prop} (hx : x = iI a) (hy : y = iI b) (f : a ≤ b → A) (g : b < a → B) (ha : -2147483648 ≤ a ∧ a ≤ 2147483647 := by omega) (hb : -2147483648 ≤ b ∧ b ≤ 2147483647 := by omega) : (x ≤ y → A) ∧ (¬ x ≤ y → B) := by
  subst hx; subst hy; exact tst (iI_le ha hb) f (fun h => g (by omega))
theorem t_eq {a b : Int} {x y : Int32} {A B : Prop} (hx : x = iI a) (hy : y = iI b) (f : a = b → A) (g : ¬ a = b → B) (ha : -2147483648 ≤ a ∧ a ≤ 2147483647 := by omega) (hb : -2147483648 ≤ b ∧ b ≤ 2147483647 := by omega) : (x = y → A) ∧ (¬ x = y → B) := by
  subst hx; subst hy; exact tst (iI_eq ha hb) f g
/-- the reference's 'in' -/
theorem cmp_neg (x y : Int64) : lg_cmp x y < 0 ↔ x < y := by
  unfold lg_cmp
  by_cases h1 : y < x
  · rw [if_pos h1]
    constructor
    · intro h; exact absurd h (by decide)
    · intro h; exact absurd (Int64.lt_trans h h1) (Int64.lt_irrefl)
  · rw [if_neg h1]
    by_cases h2 : x = y
    · rw [if_pos h2]; subst h2
      constructor
      · intro h; exact absurd h (by decide)
      · intro h; exact absurd h Int64.lt_irrefl
    · rw [if_neg h2]
      constructor
      · intro _
        rw [Int64.lt_iff_toInt_lt] at h1 ⊢
        have : x.toInt ≠ y.toInt := fun e => h2 (Int64.toInt_inj.mp e)
        omega
      · intro _; decide
theorem cmp_pos (x y : Int64) : 0 < lg_cmp x y ↔ y < x := by
  unfold lg_cmp
  by_cases h1 : y < x
  · rw [if_pos h1]; exact ⟨fun _ => h1, fun _ => by decide⟩
  · rw [if_neg h1]
    by_cases h2 : x = y
    · rw [if_pos h2]; exact ⟨fun h => absurd h (by decide), fun h => absurd h h1⟩
    · rw [if_neg h2]; exact ⟨fun h => absurd h (by decide), fun h => absurd h h1⟩
theorem M_in_ok {x lo hi : Int64} {post : Int32 → Prop} (h1 : lo ≤ x ∧ x ≤ hi → post 1) (h0 : ¬ (lo ≤ x ∧ x ≤ hi) → post 0) : wp_M_in x lo hi post := by
  unfold wp_M_in
  have le : ∀ a b : Int64, ¬ a < b ↔ b ≤ a := fun a b => by rw [Int64.lt_iff_toInt_lt, Int64.le_iff_toInt_le]; omega
  refine tst (cmp_neg x lo) (fun h => h0 (fun q => ((le x lo).mpr q.1) h)) (fun h => ?_)
  exact tst (cmp_pos x hi) (fun h2 => h0 (fun q => ((le hi x).mpr q.2) h2)) (fun h2 => h1 ⟨(le x lo).mp h, (le hi x).mp h2⟩)
theorem nb1 : narrow .boolean (.int 1) = .int 1 := by decide
theorem nb0 : narrow .boolean (.int 0) = .int 0 := by decide
