/-! ===== how many a set has ===== -/
def bcN (S : Nat) : Nat → Nat
  | 0 => 0
  | i + 1 => bcN S i + (if S.testBit i = true then 1 else 0)
theorem bcN_s (S i : Nat) : bcN S (i + 1) = bcN S i + (if S.testBit i = true then 1 else 0) := rfl
def bc (S : Nat) : Nat := bcN S 10
theorem bcN_le (S : Nat) : ∀ i, bcN S i ≤ i := by
  intro i
  induction i with
  | zero => exact Nat.le_refl 0
  | succ i ih => rw [bcN_s]; split <;> omega
theorem bc_le (S : Nat) : bc S ≤ 10 := bcN_le S 10
def jb1 (x : Int32) : Int32 := (x.toUInt32 >>> ((1 : Int32).toUInt32 &&& Int32.toUInt32 31)).toInt32
def jb2 (x : Int32) : Int32 := x - (jb1 x &&& 1431655765)
def jb4 (y : Int32) : Int32 := (y.toUInt32 >>> ((2 : Int32).toUInt32 &&& Int32.toUInt32 31)).toInt32
def jb5 (y : Int32) : Int32 := (y &&& 858993459) + (jb4 y &&& 858993459)
def jb6 (y : Int32) : Int32 := (y + ((y.toUInt32 >>> ((4 : Int32).toUInt32 &&& Int32.toUInt32 31)).toInt32)) &&& 252645135
def jb8 (y : Int32) : Int32 := y + ((y.toUInt32 >>> ((8 : Int32).toUInt32 &&& Int32.toUInt32 31)).toInt32)
def jb9 (y : Int32) : Int32 := (y + ((y.toUInt32 >>> ((16 : Int32).toUInt32 &&& Int32.toUInt32 31)).toInt32)) &&& 63
theorem jb_ok : ∀ S, S < 1024 → jb9 (jb8 (jb6 (jb5 (jb2 (nI S))))) = nI (bc S) := by decide +kernel
theorem JI_bc {S : Nat} {post : Int32 → Prop} (hS : S < 1024) (hp : post (nI (bc S))) : wp_JI_bitCount (nI S) post := by
  rw [← jb_ok S hS] at hp
  unfold wp_JI_bitCount
  intro y1 h1 y2 h2 y3 h3 y4 h4 y5 h5 y6 h6 y7 h7 y8 h8 y9 h9
  have e2 : y2 = jb2 (nI S) := by rw [h2, h1]; rfl
  have e5 : y5 = jb5 (jb2 (nI S)) := by rw [h5, h4, h3, e2]; rfl
  have e7 : y7 = jb6 (jb5 (jb2 (nI S))) := by rw [h7, h6, e5]; rfl
  have e8 : y8 = jb8 (jb6 (jb5 (jb2 (nI S)))) := by rw [h8, e7]; rfl
  rw [h9, e8]
  exact hp
theorem M_bc {S : Nat} {post : Int32 → Prop} (hS : S < 1024) (hp : post (nI (bc S))) : wp_M_bits (nI S) post := by
  have key : ∀ (n i : Nat), i ≤ 10 → 10 - i < n → w_M_bits_4 post n (nI S) (nI (bcN S i)) (nI i) := by
    intro n
    induction n with
    | zero => intro i _ h; omega
    | succ n ih =>
      intro i hi hn
      rw [w_M_bits_4]
      refine t_le (a := 10) (b := i) rfl rfl (fun z => ?_) (fun z => ?_)
      · have : i = 10 := by omega
        subst this
        exact hp
      intro y1 h1 y2 h2 y3 h3
      rw [h1, bit_ok i (by omega) S hS] at h2
      have e2 : y2 = nI (bcN S (i + 1)) := by
        rw [h2, bcN_s]
        split
        · rw [show (1 : Int32) = nI 1 from rfl, nI_add]
        · rw [show (0 : Int32) = nI 0 from rfl, nI_add]
      rw [e2, h3, nI_1]
      exact ih (i + 1) (by omega) (by omega)
  unfold wp_M_bits
  exact key 2000 0 (by omega) (by omega)
theorem bc_and {S U : Nat} : ∀ i, bcN (S &&& U) i ≤ bcN S i ∧ (bcN (S &&& U) i = bcN S i → ∀ k, k < i → (S &&& U).testBit k = S.testBit k) := by
  intro i
  induction i with
  | zero => exact ⟨Nat.le_refl 0, fun _ k hk => absurd hk (by omega)⟩
  | succ i ih =>
    rw [bcN_s, bcN_s]
    obtain ⟨h1, h2⟩ := ih
    have ht : (S &&& U).testBit i = (S.testBit i && U.testBit i) := Nat.testBit_and S U i
    by_cases a : S.testBit i = true
    · by_cases b : U.testBit i = true
      · have c : (S &&& U).testBit i = true := by rw [ht, a, b]; rfl
        rw [if_pos a, if_pos c]
        refine ⟨by omega, fun h k hk => ?_⟩
        by_cases q : k = i
        · subst q; rw [a, c]
        · exact h2 (by omega) k (by omega)
      · have c : ¬ (S &&& U).testBit i = true := by rw [ht, a]; simpa using b
        rw [if_pos a, if_neg c]
        exact ⟨by omega, fun h => by omega⟩
    · have c : ¬ (S &&& U).testBit i = true := by
        rw [ht]
        simp only [Bool.and_eq_true, not_and]
        intro z
        exact absurd z a
      rw [if_neg a, if_neg c]
      refine ⟨by omega, fun h k hk => ?_⟩
      by_cases q : k = i
      · subst q
        rw [Bool.not_eq_true] at a c
        rw [a, c]
      · exact h2 (by omega) k (by omega)
theorem tb_hi {S k : Nat} (hS : S < 1024) (hk : 10 ≤ k) : S.testBit k = false := by
  have : 2 ^ 10 ≤ 2 ^ k := Nat.pow_le_pow_right (by decide) hk
  exact Nat.testBit_lt_two_pow (by omega)
theorem bc_lt {S U : Nat} (hS : S < 1024) (h : ¬ S &&& U = S) : bc (S &&& U) < bc S := by
  obtain ⟨h1, h2⟩ := bc_and (S := S) (U := U) 10
  rcases Nat.lt_or_eq_of_le h1 with q | q
  · exact q
  · refine absurd (Nat.eq_of_testBit_eq (fun k => ?_)) h
    by_cases hk : k < 10
    · exact h2 q k hk
    · rw [Nat.testBit_and, tb_hi hS (by omega)]
      rfl
theorem sub_ok {S U : Nat} (hS : S < 1024) (hU : U < 1024) : (nI S &&& (nI U ^^^ (-1))) = 0 ↔ S &&& U = S := by
  have e1 : (nI S &&& (nI U ^^^ (-1))) = 0 ↔ nI S &&& nI U = nI S := by
    have k : ∀ a b : BitVec 32, (a &&& (b ^^^ (-1#32))) = 0#32 ↔ a &&& b = a := by
      intro a b
      have o : ∀ i, i < 32 → (-1#32).getLsbD i = true := by decide
      constructor
      · intro h
        apply BitVec.eq_of_getLsbD_eq
        intro i hi
        have := congrArg (fun z : BitVec 32 => z.getLsbD i) h
        simp only [BitVec.getLsbD_and, BitVec.getLsbD_xor, o i hi, BitVec.getLsbD_zero] at this
        rw [BitVec.getLsbD_and]
        cases ha : a.getLsbD i <;> cases hb : b.getLsbD i <;> simp_all
      · intro h
        apply BitVec.eq_of_getLsbD_eq
        intro i hi
        have := congrArg (fun z : BitVec 32 => z.getLsbD i) h
        simp only [BitVec.getLsbD_and] at this
        simp only [BitVec.getLsbD_and, BitVec.getLsbD_xor, o i hi, BitVec.getLsbD_zero]
        cases ha : a.getLsbD i <;> cases hb : b.getLsbD i <;> simp_all
    have q := k (nI S).toBitVec (nI U).toBitVec
    constructor
    · intro h
      exact Int32.toBitVec_inj.1 (q.1 (congrArg Int32.toBitVec h))
    · intro h
      exact Int32.toBitVec_inj.1 (q.2 (congrArg Int32.toBitVec h))
  rw [e1, nI_and]
  have : S &&& U < 1024 := Nat.lt_of_le_of_lt Nat.and_le_left hS
  exact nI_eq (by omega) (by omega)
