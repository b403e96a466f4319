/-! ===== which locks on the way are loud ===== -/
def LdU (e : Gh) (b : Nat) (U : Nat) : Prop := ∀ l : Nat, l < 10 → Way e b l → 0 < e (7 + l) → U.testBit l = true
theorem or_bit {U l k : Nat} (h : U.testBit k = true) : (U ||| 2 ^ l).testBit k = true := by
  rw [Nat.testBit_or, h]; rfl
theorem or_own {U l : Nat} : (U ||| 2 ^ l).testBit l = true := by
  rw [Nat.testBit_or, Nat.testBit_two_pow_self]; simp
theorem C_loudI_ok {h : Int} {c : CSt} {e : Gh} {b : Nat} {post : Int32 → CSt → Prop} {k : CSt → Int32 → Int32 → Prop} (r : RelC c e) (w : Wf h e) (hb : (b : Int) < e 4) (hi : Int) (hhi : hi ≤ 9) : ∀ (n : Nat) (l : Int) (U : Nat), 0 ≤ l → l ≤ hi + 1 → hi + 1 - l < n → U < 1024 → (∀ p : Nat, (p : Int) < l → Way e b p → 0 < e (7 + p) → U.testBit p = true) → (∀ U' : Nat, U' < 1024 → (∀ p, U.testBit p = true → U'.testBit p = true) → (∀ p : Nat, (p : Int) ≤ hi → Way e b p → 0 < e (7 + p) → U'.testBit p = true) → k c (nI U') (nI (b + 1))) → w_C_loudOnTheWay_54 post k n c (nI U) (nI b) (iI hi) (iI l) := by
  intro n
  have w4 := w.1
  have hb8 : b < 8 := by omega
  have bw := w.2.2.2.2.2.2.2.2 b hb
  induction n with
  | zero => intro l U _ _ hn; omega
  | succ n ih =>
    intro l U hl hl2 hn hU hv hp
    rw [w_C_loudOnTheWay_54]
    refine t_lt (a := hi) (b := l) rfl rfl (fun g => ?_) (fun g => ?_)
    · intro y hy
      rw [hy, nI_1]
      exact hp U hU (fun p q => q) (fun p hq => hv p (by omega))
    refine ⟨vp_in_nI (by omega) (by omega), ?_⟩
    rw [nI_clamp (by omega), (r.2.2.2.2.2.2 b hb).2.2.2.1]
    have one : ∀ y : Int32, y = iI l + 1 → y = iI (l + 1) := fun y hy => by rw [hy, show (1 : Int32) = iI 1 from rfl, iI_add]
    refine t_eq (a := l) (b := e (51 + b)) rfl rfl (fun g2 => ?_) (fun g2 => ?_) (by omega) (by have := bw.2.2.2.1; omega)
    · intro y hy
      rw [one y hy]
      refine ih (l + 1) U (by omega) (by omega) (by omega) hU (fun p hq hw => ?_) hp
      refine hv p ?_ hw
      unfold Way at hw
      omega
    refine C_noiseAt_ok (h := h) r (by omega) ?_
    have nb := w.2.2.2.2.2.2.1 l.toNat (by omega)
    refine t_le (a := e (7 + l.toNat)) (b := 0) rfl rfl (fun g3 => ?_) (fun g3 => ?_)
    · intro y hy
      rw [one y hy]
      refine ih (l + 1) U (by omega) (by omega) (by omega) hU (fun p hq hw hn => ?_) hp
      refine hv p ?_ hw hn
      by_cases q : (p : Int) = l
      · have : p = l.toNat := by omega
        subst this
        omega
      · omega
    · intro y1 h1 y2 h2
      rw [one y2 h2]
      have e1 : y1 = nI (U ||| 2 ^ l.toNat) := by
        rw [h1, iI_nat hl, shl1 l.toNat (by omega), nI_or]
      rw [e1]
      refine ih (l + 1) _ (by omega) (by omega) (by omega) ?_ (fun p hq hw hn => ?_) (fun U' hU' hs hc => hp U' hU' (fun p q => hs p (or_bit q)) hc)
      · have : 2 ^ l.toNat < 2 ^ 10 := Nat.pow_lt_pow_right (by decide) (by omega)
        exact Nat.or_lt_two_pow (n := 10) hU this
      · by_cases q : (p : Int) = l
        · have : p = l.toNat := by omega
          subst this
          exact or_own
        · exact or_bit (hv p (by omega) hw hn)
theorem C_loud_ok {h : Int} {c : CSt} {e : Gh} {post : Int32 → CSt → Prop} (r : RelC c e) (w : Wf h e) (hp : ∀ U : Nat, U < 1024 → (∀ b : Nat, (b : Int) < e 4 → LdU e b U) → post (nI U) c) : wp_C_loudOnTheWay c post := by
  have w4 := w.1
  have key : ∀ (n i U : Nat), (i : Int) ≤ e 4 → (e 4).toNat - i < n → U < 1024 → (∀ b : Nat, b < i → LdU e b U) → w_C_loudOnTheWay_4 post n c (nI U) (nI i) := by
    intro n
    induction n with
    | zero => intro i U _ hn; omega
    | succ n ih =>
      intro i U hi hn hU hv
      rw [w_C_loudOnTheWay_4]
      refine t_le (a := e 4) (b := i) r.2.2.2.1 rfl (fun q => ?_) (fun q => ?_)
      · exact hp U hU (fun b hb => hv b (by omega))
      refine t_le (a := 8) (b := i) rfl rfl (fun z => by omega) (fun _ => ?_)
      have v : vp_in (nI i) 8 := vp_in_nI (by omega) (by omega)
      refine ⟨v, v, v, v, ?_⟩
      have bw := w.2.2.2.2.2.2.2.2 i q
      have ha := bw.2.2.2.1
      have hg := bw.2.2.2.2
      have rb := r.2.2.2.2.2.2 i q
      rw [nI_clamp (by omega), rb.2.2.2.1, rb.2.2.2.2]
      have e1 : (if iI (e (51 + i)) < iI (e (59 + i)) then iI (e (59 + i)) else iI (e (51 + i))) = iI (if e (51 + i) < e (59 + i) then e (59 + i) else e (51 + i)) := by
        by_cases z : e (51 + i) < e (59 + i)
        · rw [if_pos ((iI_lt (by omega) (by omega)).mpr z), if_pos z]
        · rw [if_neg (fun t => z ((iI_lt (by omega) (by omega)).mp t)), if_neg z]
      have e2 : (if iI (e (59 + i)) < iI (e (51 + i)) then iI (e (59 + i)) else iI (e (51 + i))) = iI (if e (59 + i) < e (51 + i) then e (59 + i) else e (51 + i)) := by
        by_cases z : e (59 + i) < e (51 + i)
        · rw [if_pos ((iI_lt (by omega) (by omega)).mpr z), if_pos z]
        · rw [if_neg (fun t => z ((iI_lt (by omega) (by omega)).mp t)), if_neg z]
      rw [e1, e2]
      refine C_loudI_ok r w q (if e (51 + i) < e (59 + i) then e (59 + i) else e (51 + i)) (by split <;> omega) 2000 (if e (59 + i) < e (51 + i) then e (59 + i) else e (51 + i)) U (by split <;> omega) (by split <;> split <;> omega) (by split <;> split <;> omega) hU (fun p hq hw => ?_) (fun U' hU' hs hc => ?_)
      · unfold Way at hw
        split at hq <;> omega
      · refine ih (i + 1) U' (by omega) (by omega) hU' (fun b hb l hl hw hq => ?_)
        by_cases z : b = i
        · subst z
          refine hc l ?_ hw hq
          unfold Way at hw
          split <;> omega
        · exact hs l (hv b (by omega) l hl hw hq)
  unfold wp_C_loudOnTheWay
  exact key 2000 0 0 (by omega) (by omega) (by omega) (fun b hb => by omega)
/-! ===== the best set ===== -/
def huV (e : Gh) (N S : Nat) : Int := sumE (hoursE (-1) N (stE S 10 e)) 35 (e 4).toNat
theorem huV_b {h : Int} {e : Gh} {N S : Nat} (w : Wf h e) : 0 ≤ huV e N S ∧ huV e N S ≤ 1000 := by
  have := sumH_b (s := -1) (N := N) (w.still S 10 (by omega))
  rw [stE_o (by omega) (by omega)] at this
  exact this
theorem stE_b {S l : Nat} {e : Gh} (hl : l < 10) : stE S 10 e (7 + l) = if S.testBit l = true then 0 else e (7 + l) := by
  unfold stE
  rw [show 7 + l - 7 = l by omega]
  by_cases c : S.testBit l = true
  · rw [if_pos c, if_pos ⟨by omega, c⟩]
  · rw [if_neg c, if_neg (fun z => c z.2)]
theorem hu_le {h : Int} {e : Gh} {N S T : Nat} (w : Wf h e) (hs : ∀ b l : Nat, (b : Int) < e 4 → l < 10 → Way e b l → stE T 10 e (7 + l) ≤ stE S 10 e (7 + l)) : huV e N S ≤ huV e N T := by
  have l : LE (stE S 10 e) (stE T 10 e) := by
    refine ⟨fun j hj => ?_, fun b p hb hw hp => ?_, fun b hb => ?_⟩
    · rw [stE_o (by omega) (by omega), stE_o (by omega) (by omega)]
    · rw [stE_o (by omega) (by omega)] at hb
      unfold Way at hw
      rw [stE_o (by omega) (by omega), stE_o (by omega) (by omega)] at hw
      exact hs b p hb hp hw
    · rw [stE_o (by omega) (by omega), stE_o (by omega) (by omega)]
      exact Int.le_refl _
  have := l.sum (s := -1) (N := N) (w.still S 10 (by omega)) (w.still T 10 (by omega))
  rw [stE_o (by omega) (by omega)] at this
  exact this
theorem hu_top {h : Int} {e : Gh} {N S : Nat} (w : Wf h e) : huV e N S ≤ huV e N 1023 := by
  refine hu_le w (fun b l hb hl hw => ?_)
  have t : ∀ l, l < 10 → (1023 : Nat).testBit l = true := by decide
  rw [stE_b hl, stE_b hl, if_pos (t l hl)]
  split
  · exact Int.le_refl 0
  · exact (w.2.2.2.2.2.2.1 l hl).1
theorem hu_and {h : Int} {e : Gh} {N S U : Nat} (w : Wf h e) (hU : ∀ b : Nat, (b : Int) < e 4 → LdU e b U) : huV e N S ≤ huV e N (S &&& U) := by
  refine hu_le w (fun b l hb hl hw => ?_)
  rw [stE_b hl, stE_b hl]
  have nb := w.2.2.2.2.2.2.1 l hl
  by_cases z : 0 < e (7 + l)
  · rw [Nat.testBit_and, hU b hb l hl hw z, Bool.and_true]
    exact Int.le_refl _
  · have : e (7 + l) = 0 := by omega
    rw [this]
    split <;> split <;> omega
def keyS (S : Nat) : Nat := bc S * 1024 + S
/-- the answer: none, or the least of those that do -/
def Best (P : Nat → Prop) (S : Nat) : Prop := S < 1024 ∧ P S ∧ ∀ T, T < 1024 → P T → keyS S ≤ keyS T
theorem best_ex {P : Nat → Prop} : ∀ (n T : Nat), keyS T < n → T < 1024 → P T → ∃ S, Best P S := by
  intro n
  induction n with
  | zero => intro T h; omega
  | succ n ih =>
    intro T hk hT hP
    by_cases q : ∃ T2, T2 < 1024 ∧ P T2 ∧ keyS T2 < keyS T
    · obtain ⟨T2, h1, h2, h3⟩ := q
      exact ih T2 (by omega) h1 h2
    · refine ⟨T, hT, hP, fun T2 h1 h2 => ?_⟩
      by_cases z : keyS T ≤ keyS T2
      · exact z
      · exact absurd ⟨T2, h1, h2, by omega⟩ q
theorem best_sub {h : Int} {e : Gh} {N U : Nat} {v : Int} (w : Wf h e) (hU : ∀ b : Nat, (b : Int) < e 4 → LdU e b U) {S : Nat} (hb : Best (fun S => v ≤ huV e N S) S) : S &&& U = S := by
  obtain ⟨h1, h2, h3⟩ := hb
  by_cases q : S &&& U = S
  · exact q
  · have a := hu_and (N := N) (S := S) w hU
    have lt : S &&& U < 1024 := Nat.lt_of_le_of_lt Nat.and_le_left h1
    have le : S &&& U ≤ S := Nat.and_le_left
    have b := h3 (S &&& U) lt (show v ≤ _ from Int.le_trans h2 a)
    have c := bc_lt h1 q
    unfold keyS at b
    omega
