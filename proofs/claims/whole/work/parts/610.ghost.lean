/-! ===== what a canal is: 67 numbers, in the order of the reference's row ===== -/
abbrev Gh : Type := Nat → Int
def uE (e : Gh) (k : Nat) (v : Int) : Gh := fun j => if j = k then v else e j
theorem uE_s {e : Gh} {k : Nat} {v : Int} : uE e k v k = v := if_pos rfl
theorem uE_n {e : Gh} {k j : Nat} {v : Int} (h : j ≠ k) : uE e k v j = e j := if_neg h
def cl (lo hi v : Int) : Int := if v < lo then lo else if hi < v then hi else v
/-- numbers of barge b: kind 27, load 35, sort 43, at 51, bound 59 -/
def bgE (e : Gh) (b : Nat) : Prop := (0 ≤ e (27 + b) ∧ e (27 + b) ≤ 5) ∧ (0 ≤ e (35 + b) ∧ e (35 + b) ≤ 99) ∧ (0 ≤ e (43 + b) ∧ e (43 + b) ≤ 1) ∧ (0 ≤ e (51 + b) ∧ e (51 + b) ≤ 9) ∧ (0 ≤ e (59 + b) ∧ e (59 + b) ≤ 9)
def Wf (h : Int) (e : Gh) : Prop := (0 ≤ e 4 ∧ e 4 ≤ 8) ∧ (0 ≤ e 0 ∧ e 0 ≤ 9) ∧ (0 ≤ e 1 ∧ e 1 ≤ 9) ∧ (0 ≤ e 2 ∧ e 2 ≤ 9) ∧ (0 ≤ e 3 ∧ e 3 ≤ 99) ∧ (0 ≤ e 5 ∧ e 5 ≤ h) ∧ (∀ k, k < 10 → 0 ≤ e (7 + k) ∧ e (7 + k) ≤ 9) ∧ (∀ k, k < 10 → 0 ≤ e (17 + k) ∧ e (17 + k) ≤ 9999) ∧ ∀ b : Nat, (b : Int) < e 4 → bgE e b
/-- the row d holds the numbers e; the canal c holds them (of barges: those that there are) -/
def RelD (d : Nat → Int32) (e : Gh) : Prop := ∀ k, k < 67 → d k = iI (e k)
def RelC (c : CSt) (e : Gh) : Prop := (∀ k, k < 4 → C_laws c k = iI (e k)) ∧ (∀ k, k < 10 → C_noise c k = iI (e (7 + k))) ∧ (∀ k, k < 10 → C_lost c k = iI (e (17 + k))) ∧ C_count c = iI (e 4) ∧ C_hour c = iI (e 5) ∧ C_z c = iI (e 6) ∧ ∀ b : Nat, (b : Int) < e 4 → C_kind c b = iI (e (27 + b)) ∧ C_load c b = iI (e (35 + b)) ∧ C_sort c b = iI (e (43 + b)) ∧ C_at c b = iI (e (51 + b)) ∧ C_bound c b = iI (e (59 + b))
theorem RelD.upd {d : Nat → Int32} {e : Gh} (h : RelD d e) (k : Nat) (v : Int) : RelD (upd d k (iI v)) (uE e k v) := fun j hj => by
  by_cases hjk : j = k
  · subst hjk; rw [pk_us, uE_s]
  · rw [pk_un hjk, uE_n hjk]; exact h j hj
def paceE (e : Gh) (b : Nat) : Int := if e (27 + b) = 2 then 2 else if e (27 + b) = 3 then 2 else if e (27 + b) = 4 then (if e 5 % 2 = 1 then 1 else 2) else if e (27 + b) = 5 then 1 + e 2 else 1
def nsE (e : Gh) (b : Nat) : Int := e (7 + (e (51 + b)).toNat)
def spillE (e : Gh) (b : Nat) : Int := if e (27 + b) = 1 then nsE e b / 2 else if e (27 + b) = 2 then nsE e b - 1 else if e (27 + b) = 3 then nsE e b / 2 - e 1 else if e (27 + b) = 4 then nsE e b - 1 + e (35 + b) / 10 else if e (27 + b) = 5 then (if e 5 % 3 = 0 then 2 * nsE e b else 0) else nsE e b
def spiltE (e : Gh) (b : Nat) (v : Int) : Gh := uE (uE e (35 + b) (cl 0 99 (e (35 + b) - v))) (17 + (e (51 + b)).toNat) (cl 0 9999 (e (17 + (e (51 + b)).toNat) + if 0 < e (35 + b) - cl 0 99 (e (35 + b) - v) then e (35 + b) - cl 0 99 (e (35 + b) - v) else 0))
def stepE (e : Gh) (b : Nat) : Gh := uE e (51 + b) (e (51 + b) + if e (51 + b) < e (59 + b) then 1 else -1)
def landE (e : Gh) (b : Nat) : Prop := e (51 + b) = e (59 + b)
def goE : Nat → Gh → Nat → Gh
  | 0, e, _ => e
  | k + 1, e, b => if e (51 + b) = e (59 + b) then e else goE k (spiltE (stepE e b) b (spillE (stepE e b) b)) b
def echoE : Nat → Gh → Nat → Nat → Gh
  | 0, e, _, _ => e
  | k + 1, e, b, o => echoE k (if o ≠ b ∧ e (51 + o) = e (51 + b) ∧ e (43 + o) ≠ e (43 + b) ∧ e (51 + o) ≠ e (59 + o) then spiltE (spiltE e b (e 0)) o (e 0) else e) b (o + 1)
def hourL : Nat → Gh → Int → Nat → Gh
  | 0, e, _, _ => e
  | k + 1, e, s, b => hourL k (if e (51 + b) ≠ e (59 + b) ∧ (b : Int) ≠ s then echoE (e 4).toNat (goE (paceE e b).toNat e b) b 0 else e) s (b + 1)
def hourE (s : Int) (e : Gh) : Gh := uE (hourL (e 4).toNat e s 0) 5 (hourL (e 4).toNat e s 0 5 + 1)
def hoursE (s : Int) : Nat → Gh → Gh
  | 0, e => e
  | n + 1, e => hoursE s n (hourE s e)
/-! the numbers stay in their ranges -/
theorem cl_in {lo hi v : Int} (h : lo ≤ hi) : lo ≤ cl lo hi v ∧ cl lo hi v ≤ hi := by
  unfold cl
  split
  · omega
  · split <;> omega
/-- what a spilling changes -/
theorem spilt_at {e : Gh} {b : Nat} {v : Int} (hb : b < 8) (ha : 0 ≤ e (51 + b) ∧ e (51 + b) ≤ 9) {j : Nat} (h1 : j ≠ 35 + b) (h2 : j < 17 ∨ 27 ≤ j) : spiltE e b v j = e j := by
  unfold spiltE
  rw [uE_n (by omega), uE_n h1]
theorem spilt_load {e : Gh} {b : Nat} {v : Int} (ha : 0 ≤ e (51 + b) ∧ e (51 + b) ≤ 9) : spiltE e b v (35 + b) = cl 0 99 (e (35 + b) - v) := by
  unfold spiltE
  rw [uE_n (by omega), uE_s]
theorem Wf.spilt {h : Int} {e : Gh} {b : Nat} {v : Int} (w : Wf h e) (hb : (b : Int) < e 4) : Wf h (spiltE e b v) := by
  have hb8 : b < 8 := by have := w.1.2; omega
  obtain ⟨w4, w0, w1, w2, w3, w5, wn, wl, wb⟩ := w
  have ha := (wb b hb).2.2.2.1
  have k0 : ∀ j, j ≠ 35 + b → (j < 17 ∨ 27 ≤ j) → spiltE e b v j = e j := fun j h1 h2 => spilt_at hb8 ha h1 h2
  refine ⟨by rw [k0 4 (by omega) (by omega)]; exact w4, by rw [k0 0 (by omega) (by omega)]; exact w0, by rw [k0 1 (by omega) (by omega)]; exact w1, by rw [k0 2 (by omega) (by omega)]; exact w2, by rw [k0 3 (by omega) (by omega)]; exact w3, by rw [k0 5 (by omega) (by omega)]; exact w5, fun k hk => by rw [k0 (7 + k) (by omega) (by omega)]; exact wn k hk, fun k hk => ?_, fun c hc => ?_⟩
  · by_cases hq : 17 + k = 17 + (e (51 + b)).toNat
    · unfold spiltE
      rw [hq, uE_s]
      exact cl_in (by omega)
    · unfold spiltE
      rw [uE_n hq, uE_n (by omega)]
      exact wl k hk
  · rw [k0 4 (by omega) (by omega)] at hc
    have hc8 : c < 8 := by omega
    obtain ⟨q1, q2, q3, q4, q5⟩ := wb c hc
    refine ⟨by rw [k0 (27 + c) (by omega) (by omega)]; exact q1, ?_, by rw [k0 (43 + c) (by omega) (by omega)]; exact q3, by rw [k0 (51 + c) (by omega) (by omega)]; exact q4, by rw [k0 (59 + c) (by omega) (by omega)]; exact q5⟩
    by_cases hcb : c = b
    · subst hcb
      rw [spilt_load ha]
      exact cl_in (by omega)
    · rw [k0 (35 + c) (by omega) (by omega)]
      exact q2
theorem Wf.step {h : Int} {e : Gh} {b : Nat} (w : Wf h e) (hb : (b : Int) < e 4) (hl : e (51 + b) ≠ e (59 + b)) : Wf h (stepE e b) := by
  obtain ⟨w4, w0, w1, w2, w3, w5, wn, wl, wb⟩ := w
  have hb8 : b < 8 := by omega
  have k0 : ∀ j, j ≠ 51 + b → stepE e b j = e j := fun j h1 => uE_n h1
  refine ⟨by rw [k0 4 (by omega)]; exact w4, by rw [k0 0 (by omega)]; exact w0, by rw [k0 1 (by omega)]; exact w1, by rw [k0 2 (by omega)]; exact w2, by rw [k0 3 (by omega)]; exact w3, by rw [k0 5 (by omega)]; exact w5, fun k hk => by rw [k0 (7 + k) (by omega)]; exact wn k hk, fun k hk => by rw [k0 (17 + k) (by omega)]; exact wl k hk, fun c hc => ?_⟩
  rw [k0 4 (by omega)] at hc
  have hc8 : c < 8 := by omega
  obtain ⟨q1, q2, q3, q4, q5⟩ := wb c hc
  refine ⟨by rw [k0 (27 + c) (by omega)]; exact q1, by rw [k0 (35 + c) (by omega)]; exact q2, by rw [k0 (43 + c) (by omega)]; exact q3, ?_, by rw [k0 (59 + c) (by omega)]; exact q5⟩
  by_cases hcb : c = b
  · subst hcb
    unfold stepE
    rw [uE_s]
    split <;> omega
  · rw [k0 (51 + c) (by omega)]; exact q4
theorem go_ok {h : Int} {b : Nat} : ∀ (k : Nat) (e : Gh), Wf h e → (b : Int) < e 4 → Wf h (goE k e b) ∧ goE k e b 4 = e 4 ∧ goE k e b 5 = e 5 := by
  intro k
  induction k with
  | zero => intro e w hb; exact ⟨w, rfl, rfl⟩
  | succ k ih =>
    intro e w hb
    unfold goE
    by_cases hl : e (51 + b) = e (59 + b)
    · rw [if_pos hl]; exact ⟨w, rfl, rfl⟩
    · rw [if_neg hl]
      have hb8 : b < 8 := by have := w.1.2; omega
      have w1 := w.step hb hl
      have s4 : stepE e b 4 = e 4 := uE_n (by omega)
      have s5 : stepE e b 5 = e 5 := uE_n (by omega)
      have ha := (w1.2.2.2.2.2.2.2.2 b (by rw [s4]; exact hb)).2.2.2.1
      have w2 := w1.spilt (v := spillE (stepE e b) b) (b := b) (by rw [s4]; exact hb)
      have t4 : spiltE (stepE e b) b (spillE (stepE e b) b) 4 = e 4 := by rw [spilt_at hb8 ha (by omega) (by omega)]; exact s4
      have t5 : spiltE (stepE e b) b (spillE (stepE e b) b) 5 = e 5 := by rw [spilt_at hb8 ha (by omega) (by omega)]; exact s5
      obtain ⟨r1, r2, r3⟩ := ih _ w2 (by rw [t4]; exact hb)
      exact ⟨r1, by rw [r2, t4], by rw [r3, t5]⟩
theorem echo_ok {h : Int} {b : Nat} : ∀ (k o : Nat) (e : Gh), Wf h e → (b : Int) < e 4 → ((o + k : Nat) : Int) ≤ e 4 → Wf h (echoE k e b o) ∧ echoE k e b o 4 = e 4 ∧ echoE k e b o 5 = e 5 := by
  intro k
  induction k with
  | zero => intro o e w hb _; exact ⟨w, rfl, rfl⟩
  | succ k ih =>
    intro o e w hb ho
    unfold echoE
    by_cases hc : o ≠ b ∧ e (51 + o) = e (51 + b) ∧ e (43 + o) ≠ e (43 + b) ∧ e (51 + o) ≠ e (59 + o)
    · rw [if_pos hc]
      have hb8 : b < 8 := by have := w.1.2; omega
      have ho8 : o < 8 := by have := w.1.2; omega
      have ha := (w.2.2.2.2.2.2.2.2 b hb).2.2.2.1
      have w1 := w.spilt (v := e 0) hb
      have s4 : spiltE e b (e 0) 4 = e 4 := spilt_at hb8 ha (by omega) (by omega)
      have s5 : spiltE e b (e 0) 5 = e 5 := spilt_at hb8 ha (by omega) (by omega)
      have ho2 : (o : Int) < spiltE e b (e 0) 4 := by rw [s4]; omega
      have ha2 := (w1.2.2.2.2.2.2.2.2 o ho2).2.2.2.1
      have w2 := w1.spilt (v := e 0) ho2
      have t4 : spiltE (spiltE e b (e 0)) o (e 0) 4 = e 4 := by rw [spilt_at ho8 ha2 (by omega) (by omega)]; exact s4
      have t5 : spiltE (spiltE e b (e 0)) o (e 0) 5 = e 5 := by rw [spilt_at ho8 ha2 (by omega) (by omega)]; exact s5
      obtain ⟨r1, r2, r3⟩ := ih (o + 1) _ w2 (by rw [t4]; exact hb) (by rw [t4]; omega)
      exact ⟨r1, by rw [r2, t4], by rw [r3, t5]⟩
    · rw [if_neg hc]
      exact ih (o + 1) e w hb (by omega)
theorem hourL_ok {h s : Int} : ∀ (k b : Nat) (e : Gh), Wf h e → ((b + k : Nat) : Int) ≤ e 4 → Wf h (hourL k e s b) ∧ hourL k e s b 4 = e 4 ∧ hourL k e s b 5 = e 5 := by
  intro k
  induction k with
  | zero => intro b e w _; exact ⟨w, rfl, rfl⟩
  | succ k ih =>
    intro b e w hb
    unfold hourL
    by_cases hc : e (51 + b) ≠ e (59 + b) ∧ (b : Int) ≠ s
    · rw [if_pos hc]
      have hb1 : (b : Int) < e 4 := by omega
      obtain ⟨r1, r2, r3⟩ := go_ok (h := h) (b := b) (paceE e b).toNat e w hb1
      obtain ⟨q1, q2, q3⟩ := echo_ok (h := h) (b := b) (e 4).toNat 0 _ r1 (by rw [r2]; exact hb1) (by rw [r2]; omega)
      obtain ⟨t1, t2, t3⟩ := ih (b + 1) _ q1 (by rw [q2, r2]; omega)
      exact ⟨t1, by rw [t2, q2, r2], by rw [t3, q3, r3]⟩
    · rw [if_neg hc]
      exact ih (b + 1) e w (by omega)
theorem Wf.hour {h s : Int} {e : Gh} (w : Wf h e) : Wf (h + 1) (hourE s e) ∧ hourE s e 4 = e 4 ∧ hourE s e 5 = e 5 + 1 := by
  obtain ⟨r1, r2, r3⟩ := hourL_ok (h := h) (s := s) (e 4).toNat 0 e w (by have := w.1.1; omega)
  have k0 : ∀ j, j ≠ 5 → hourE s e j = hourL (e 4).toNat e s 0 j := fun j hj => uE_n hj
  have k5 : hourE s e 5 = e 5 + 1 := by unfold hourE; rw [uE_s, r3]
  obtain ⟨w4, w0, w1, w2, w3, w5, wn, wl, wb⟩ := r1
  refine ⟨⟨by rw [k0 4 (by omega)]; exact w4, by rw [k0 0 (by omega)]; exact w0, by rw [k0 1 (by omega)]; exact w1, by rw [k0 2 (by omega)]; exact w2, by rw [k0 3 (by omega)]; exact w3, by rw [k5]; have := w.2.2.2.2.2.1; omega, fun k hk => by rw [k0 (7 + k) (by omega)]; exact wn k hk, fun k hk => by rw [k0 (17 + k) (by omega)]; exact wl k hk, fun c hc => ?_⟩, by rw [k0 4 (by omega)]; exact r2, k5⟩
  rw [k0 4 (by omega)] at hc
  obtain ⟨q1, q2, q3, q4, q5⟩ := wb c hc
  exact ⟨by rw [k0 (27 + c) (by omega)]; exact q1, by rw [k0 (35 + c) (by omega)]; exact q2, by rw [k0 (43 + c) (by omega)]; exact q3, by rw [k0 (51 + c) (by omega)]; exact q4, by rw [k0 (59 + c) (by omega)]; exact q5⟩
theorem Wf.hours {s : Int} : ∀ (n : Nat) {h : Int} {e : Gh}, Wf h e → Wf (h + n) (hoursE s n e) ∧ hoursE s n e 4 = e 4 ∧ hoursE s n e 5 = e 5 + n := by
  intro n
  induction n with
  | zero => intro h e w; exact ⟨by simpa [hoursE] using w, rfl, by simp [hoursE]⟩
  | succ n ih =>
    intro h e w
    obtain ⟨w1, w4, w5⟩ := w.hour (s := s)
    obtain ⟨r1, r4, r5⟩ := ih w1
    unfold hoursE
    refine ⟨?_, by rw [r4, w4], by rw [r5, w5]; omega⟩
    have e1 : h + ((n + 1 : Nat) : Int) = h + 1 + (n : Int) := by omega
    rw [e1]
    exact r1
