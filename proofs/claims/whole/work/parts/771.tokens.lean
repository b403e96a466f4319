/-! ===== tokens of a tape ===== -/
def rnF (tp : Nat → Int) (P : Int → Bool) : Nat → Nat → Nat
  | 0, p => p
  | f + 1, p => if P (tp p) = true then rnF tp P f (p + 1) else p
def rn (tp : Nat → Int) (z : Nat) (P : Int → Bool) (p : Nat) : Nat := rnF tp P (z - p) p
theorem rn_1 {tp : Nat → Int} {z : Nat} {P : Int → Bool} {p : Nat} (h : p < z) (hP : P (tp p) = true) : rn tp z P p = rn tp z P (p + 1) := by
  unfold rn
  obtain ⟨k, hk⟩ : ∃ k, z - p = k + 1 := ⟨z - p - 1, by omega⟩
  rw [hk, show z - (p + 1) = k by omega, rnF, if_pos hP]
theorem rn_0 {tp : Nat → Int} {z : Nat} {P : Int → Bool} {p : Nat} (h : z ≤ p ∨ P (tp p) = false) : rn tp z P p = p := by
  unfold rn
  by_cases hz : z ≤ p
  · rw [show z - p = 0 by omega]; rfl
  · obtain ⟨k, hk⟩ : ∃ k, z - p = k + 1 := ⟨z - p - 1, by omega⟩
    have hP : P (tp p) = false := by
      rcases h with h | h
      · omega
      · exact h
    rw [hk, rnF, if_neg (by rw [hP]; decide)]
theorem rn_b {tp : Nat → Int} {z : Nat} {P : Int → Bool} : ∀ (f p : Nat), f + p = z → p ≤ rn tp z P p ∧ rn tp z P p ≤ z ∧ (∀ j, p ≤ j → j < rn tp z P p → P (tp j) = true) ∧ (rn tp z P p < z → P (tp (rn tp z P p)) = false) := by
  intro f
  induction f with
  | zero =>
    intro p hp
    rw [rn_0 (by omega)]
    exact ⟨by omega, by omega, fun j h1 h2 => by omega, fun h => by omega⟩
  | succ f ih =>
    intro p hp
    cases q : P (tp p) with
    | true =>
      rw [rn_1 (by omega) q]
      obtain ⟨a, b, c, d⟩ := ih (p + 1) (by omega)
      refine ⟨by omega, b, fun j h1 h2 => ?_, d⟩
      by_cases e : j = p
      · subst e; exact q
      · exact c j (by omega) h2
    | false =>
      rw [rn_0 (Or.inr q)]
      exact ⟨by omega, by omega, fun j h1 h2 => by omega, fun _ => q⟩
theorem rn_ok {tp : Nat → Int} {z : Nat} {P : Int → Bool} {p : Nat} (h : p ≤ z) : p ≤ rn tp z P p ∧ rn tp z P p ≤ z ∧ (∀ j, p ≤ j → j < rn tp z P p → P (tp j) = true) ∧ (rn tp z P p < z → P (tp (rn tp z P p)) = false) := rn_b (z - p) p (by omega)
def bS (v : Int) : Bool := decide (v = 32)
def bL (v : Int) : Bool := decide (97 ≤ v ∧ v ≤ 122)
def bD (v : Int) : Bool := decide (48 ≤ v ∧ v ≤ 57)
theorem bS_t {v : Int} : bS v = true ↔ v = 32 := by unfold bS; rw [decide_eq_true_iff]
theorem bL_t {v : Int} : bL v = true ↔ (97 ≤ v ∧ v ≤ 122) := by unfold bL; rw [decide_eq_true_iff]
theorem bD_t {v : Int} : bD v = true ↔ (48 ≤ v ∧ v ≤ 57) := by unfold bD; rw [decide_eq_true_iff]
def ty (tp : Nat → Int) (z s : Nat) : Nat := if z ≤ s then 0 else if bL (tp s) = true then 1 else if bD (tp s) = true then 2 else if tp s = 59 then 3 else 4
def en (tp : Nat → Int) (z s : Nat) : Nat := if z ≤ s then s else if bL (tp s) = true then rn tp z bL s else if bD (tp s) = true then rn tp z bD s else s + 1
def nx (tp : Nat → Int) (z s : Nat) : Nat := rn tp z bS (en tp z s)
theorem ty_le (tp : Nat → Int) (z s : Nat) : ty tp z s ≤ 4 := by
  unfold ty
  repeat' split
  all_goals omega
theorem ty_0 {tp : Nat → Int} {z s : Nat} : ty tp z s = 0 ↔ z ≤ s := by
  unfold ty
  constructor
  · intro h
    by_cases c : z ≤ s
    · exact c
    · rw [if_neg c] at h
      split at h
      · omega
      · split at h
        · omega
        · split at h <;> omega
  · intro h; rw [if_pos h]
theorem ty_1 {tp : Nat → Int} {z s : Nat} : ty tp z s = 1 ↔ (s < z ∧ bL (tp s) = true) := by
  unfold ty
  by_cases c : z ≤ s
  · rw [if_pos c]; exact ⟨fun h => by omega, fun h => by omega⟩
  · rw [if_neg c]
    by_cases d : bL (tp s) = true
    · rw [if_pos d]; exact ⟨fun _ => ⟨by omega, d⟩, fun _ => rfl⟩
    · rw [if_neg d]
      refine ⟨fun h => ?_, fun h => absurd h.2 d⟩
      split at h
      · omega
      · split at h <;> omega
theorem ty_2 {tp : Nat → Int} {z s : Nat} : ty tp z s = 2 ↔ (s < z ∧ ¬ bL (tp s) = true ∧ bD (tp s) = true) := by
  unfold ty
  by_cases c : z ≤ s
  · rw [if_pos c]; exact ⟨fun h => by omega, fun h => by omega⟩
  · rw [if_neg c]
    by_cases d : bL (tp s) = true
    · rw [if_pos d]; exact ⟨fun h => by omega, fun h => absurd d h.2.1⟩
    · rw [if_neg d]
      by_cases e : bD (tp s) = true
      · rw [if_pos e]; exact ⟨fun _ => ⟨by omega, d, e⟩, fun _ => rfl⟩
      · rw [if_neg e]
        refine ⟨fun h => ?_, fun h => absurd h.2.2 e⟩
        split at h <;> omega
theorem ty_3 {tp : Nat → Int} {z s : Nat} : ty tp z s = 3 ↔ (s < z ∧ tp s = 59) := by
  unfold ty
  by_cases c : z ≤ s
  · rw [if_pos c]; exact ⟨fun h => by omega, fun h => by omega⟩
  · rw [if_neg c]
    by_cases d : bL (tp s) = true
    · rw [if_pos d]
      rw [bL_t] at d
      exact ⟨fun h => by omega, fun h => by omega⟩
    · rw [if_neg d]
      by_cases e : bD (tp s) = true
      · rw [if_pos e]
        rw [bD_t] at e
        exact ⟨fun h => by omega, fun h => by omega⟩
      · rw [if_neg e]
        by_cases g : tp s = 59
        · rw [if_pos g]; exact ⟨fun _ => ⟨by omega, g⟩, fun _ => rfl⟩
        · rw [if_neg g]; exact ⟨fun h => by omega, fun h => absurd h.2 g⟩
theorem en_le {tp : Nat → Int} {z s : Nat} (h : s ≤ z) : s ≤ en tp z s ∧ en tp z s ≤ z ∧ (s < z → s < en tp z s) := by
  unfold en
  by_cases c : z ≤ s
  · rw [if_pos c]; exact ⟨by omega, by omega, fun _ => by omega⟩
  · rw [if_neg c]
    by_cases d : bL (tp s) = true
    · rw [if_pos d, rn_1 (by omega) d]
      obtain ⟨a, b, _⟩ := rn_ok (tp := tp) (z := z) (P := bL) (p := s + 1) (by omega)
      exact ⟨by omega, b, fun _ => by omega⟩
    · rw [if_neg d]
      by_cases e : bD (tp s) = true
      · rw [if_pos e, rn_1 (by omega) e]
        obtain ⟨a, b, _⟩ := rn_ok (tp := tp) (z := z) (P := bD) (p := s + 1) (by omega)
        exact ⟨by omega, b, fun _ => by omega⟩
      · rw [if_neg e]; exact ⟨by omega, by omega, fun _ => by omega⟩
theorem nx_le {tp : Nat → Int} {z s : Nat} (h : s ≤ z) : s ≤ nx tp z s ∧ nx tp z s ≤ z ∧ (s < z → s < nx tp z s) := by
  obtain ⟨a, b, c⟩ := en_le (tp := tp) h
  unfold nx
  obtain ⟨d, e, _⟩ := rn_ok (tp := tp) (z := z) (P := bS) (p := en tp z s) b
  exact ⟨by omega, e, fun q => by have := c q; omega⟩
/-! words -/
abbrev mt (tp : Nat → Int) (z s k : Nat) : Prop := en tp z s - s ≤ 8 ∧ ∀ c, c < 8 → wordsF (8 * k + c) = if s + c < en tp z s then iI (tp (s + c)) else 32
def wdF (tp : Nat → Int) (z s : Nat) : Nat → Nat → Int
  | 0, _ => -1
  | f + 1, k => if mt tp z s k then k else wdF tp z s f (k + 1)
def wd (tp : Nat → Int) (z s : Nat) : Int := wdF tp z s 16 0
theorem w_one : ∀ k, k < 16 → ∀ l, l < 16 → (∀ c, c < 8 → wordsF (8 * k + c) = wordsF (8 * l + c)) → k = l := by decide +kernel
theorem wdF_some {tp : Nat → Int} {z s k : Nat} (hk : k < 16) (h : mt tp z s k) : ∀ (f i : Nat), f + i = 16 → i ≤ k → wdF tp z s f i = k := by
  intro f
  induction f with
  | zero => intro i h1 h2; omega
  | succ f ih =>
    intro i h1 h2
    rw [wdF]
    by_cases c : mt tp z s i
    · rw [if_pos c]
      have : i = k := w_one i (by omega) k hk (fun c hc => by rw [h.2 c hc]; exact ‹mt tp z s i›.2 c hc)
      rw [this]
    · rw [if_neg c]
      exact ih (i + 1) (by omega) (by
        by_cases e : i = k
        · subst e; exact absurd h c
        · omega)
theorem wdF_none {tp : Nat → Int} {z s : Nat} : ∀ (f i : Nat), f + i = 16 → (wdF tp z s f i = -1) ∨ (∃ k : Nat, k < 16 ∧ mt tp z s k ∧ wdF tp z s f i = k) := by
  intro f
  induction f with
  | zero => intro i h; exact Or.inl rfl
  | succ f ih =>
    intro i h
    rw [wdF]
    by_cases c : mt tp z s i
    · rw [if_pos c]; exact Or.inr ⟨i, by omega, c, rfl⟩
    · rw [if_neg c]; exact ih (i + 1) (by omega)
theorem wd_iff {tp : Nat → Int} {z s k : Nat} (hk : k < 16) : wd tp z s = k ↔ mt tp z s k := by
  constructor
  · intro h
    rcases wdF_none (tp := tp) (z := z) (s := s) 16 0 (by omega) with q | ⟨l, hl, hm, q⟩
    · unfold wd at h
      omega
    · unfold wd at h
      have : l = k := by omega
      subst this
      exact hm
  · intro h
    exact wdF_some hk h 16 0 (by omega) (by omega)
theorem wd_b (tp : Nat → Int) (z s : Nat) : -1 ≤ wd tp z s ∧ wd tp z s < 16 := by
  rcases wdF_none (tp := tp) (z := z) (s := s) 16 0 (by omega) with q | ⟨l, hl, hm, q⟩
  · unfold wd; omega
  · unfold wd; omega
/-! numbers -/
def nvF (tp : Nat → Int) (s : Nat) : Nat → Nat → Int → Int
  | 0, _, v => v
  | f + 1, i, v => nvF tp s f (i + 1) (if i - s < 3 then 10 * v + tp i - 48 else 1000)
def nm (tp : Nat → Int) (z s : Nat) : Int := nvF tp s (en tp z s - s) s 0
def vl (tp : Nat → Int) (z s : Nat) : Int := if ty tp z s = 1 then wd tp z s else if ty tp z s = 2 then nm tp z s else 0
theorem nv_big {tp : Nat → Int} {s : Nat} : ∀ (f i : Nat) (v : Int), 3 < f + (i - s) → s ≤ i → 1 ≤ f → nvF tp s f i v = 1000 := by
  intro f
  induction f with
  | zero => intro i v _ _ h; omega
  | succ f ih =>
    intro i v h1 h2 _
    rw [nvF]
    by_cases c : f = 0
    · subst c
      rw [if_neg (by omega)]
      rfl
    · exact ih (i + 1) _ (by omega) (by omega) (by omega)
