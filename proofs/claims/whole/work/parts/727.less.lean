/-! ===== less noise never lowers loads; only locks on the way tell ===== -/
def Way (e : Gh) (b l : Nat) : Prop := (e (51 + b) < l ∧ (l : Int) ≤ e (59 + b)) ∨ (e (59 + b) ≤ l ∧ (l : Int) < e (51 + b))
def LE (e e' : Gh) : Prop := (∀ j, (j < 7 ∨ (27 ≤ j ∧ j < 35) ∨ 43 ≤ j) → e j = e' j) ∧ (∀ b l : Nat, (b : Int) < e 4 → Way e b l → l < 10 → e' (7 + l) ≤ e (7 + l)) ∧ (∀ b : Nat, (b : Int) < e 4 → e (35 + b) ≤ e' (35 + b))
theorem cl_mono {u v : Int} (h : u ≤ v) : cl 0 99 u ≤ cl 0 99 v := by
  unfold cl
  split <;> split <;> (try split) <;> (try split) <;> omega
theorem LE.spilt {h h' : Int} {e e' : Gh} {b : Nat} {v v' : Int} (l : LE e e') (w : Wf h e) (w' : Wf h' e') (hb : (b : Int) < e 4) (hv : e (35 + b) - v ≤ e' (35 + b) - v') : LE (spiltE e b v) (spiltE e' b v') := by
  have hb8 : b < 8 := by have := w.1.2; omega
  have hb' : (b : Int) < e' 4 := by rw [← l.1 4 (by omega)]; exact hb
  have ha := (w.2.2.2.2.2.2.2.2 b hb).2.2.2.1
  have ha' := (w'.2.2.2.2.2.2.2.2 b hb').2.2.2.1
  have k0 : ∀ j, j ≠ 35 + b → (j < 17 ∨ 27 ≤ j) → spiltE e b v j = e j := fun j h1 h2 => spilt_at hb8 ha h1 h2
  have k1 : ∀ j, j ≠ 35 + b → (j < 17 ∨ 27 ≤ j) → spiltE e' b v' j = e' j := fun j h1 h2 => spilt_at hb8 ha' h1 h2
  obtain ⟨l1, l2, l3⟩ := l
  refine ⟨fun j hj => ?_, fun c p hc hw hp => ?_, fun c hc => ?_⟩
  · rw [k0 j (by omega) (by omega), k1 j (by omega) (by omega)]; exact l1 j hj
  · rw [k0 4 (by omega) (by omega)] at hc
    have hc8 : c < 8 := by have := w.1.2; omega
    unfold Way at hw
    rw [k0 (51 + c) (by omega) (by omega), k0 (59 + c) (by omega) (by omega)] at hw
    rw [k0 (7 + p) (by omega) (by omega), k1 (7 + p) (by omega) (by omega)]
    exact l2 c p hc hw hp
  · rw [k0 4 (by omega) (by omega)] at hc
    by_cases hcb : c = b
    · subst hcb
      rw [spilt_load ha, spilt_load ha']
      exact cl_mono hv
    · rw [k0 (35 + c) (by omega) (by omega), k1 (35 + c) (by omega) (by omega)]
      exact l3 c hc
theorem LE.step {h : Int} {e e' : Gh} {b : Nat} (l : LE e e') (w : Wf h e) (hb : (b : Int) < e 4) (hl : e (51 + b) ≠ e (59 + b)) : LE (stepE e b) (stepE e' b) ∧ nsE (stepE e' b) b ≤ nsE (stepE e b) b := by
  have hb8 : b < 8 := by have := w.1.2; omega
  have hw := w.2.2.2.2.2.2.2.2 b hb
  have ha := hw.2.2.2.1
  have hg := hw.2.2.2.2
  obtain ⟨l1, l2, l3⟩ := l
  have k0 : ∀ j, j ≠ 51 + b → stepE e b j = e j := fun j hj => uE_n hj
  have k1 : ∀ j, j ≠ 51 + b → stepE e' b j = e' j := fun j hj => uE_n hj
  have p0 : stepE e b (51 + b) = e (51 + b) + if e (51 + b) < e (59 + b) then 1 else -1 := uE_s
  have p1 : stepE e' b (51 + b) = e (51 + b) + if e (51 + b) < e (59 + b) then 1 else -1 := by
    show uE e' _ _ _ = _
    rw [uE_s, l1 (51 + b) (by omega), l1 (59 + b) (by omega)]
  have pr : 0 ≤ stepE e b (51 + b) ∧ stepE e b (51 + b) ≤ 9 ∧ Way e b (stepE e b (51 + b)).toNat := by
    unfold Way
    rw [p0]
    split <;> omega
  refine ⟨⟨fun j hj => ?_, fun c p hc hw hp => ?_, fun c hc => ?_⟩, ?_⟩
  · by_cases hjb : j = 51 + b
    · subst hjb
      rw [p0, p1]
    · rw [k0 j hjb, k1 j hjb]; exact l1 j hj
  · rw [k0 4 (by omega)] at hc
    have hc8 : c < 8 := by have := w.1.2; omega
    rw [k0 (7 + p) (by omega), k1 (7 + p) (by omega)]
    refine l2 c p hc ?_ hp
    unfold Way at hw ⊢
    rw [k0 (59 + c) (by omega)] at hw
    by_cases hcb : c = b
    · subst hcb
      rw [p0] at hw
      split at hw <;> omega
    · rw [k0 (51 + c) (by omega)] at hw
      exact hw
  · rw [k0 4 (by omega)] at hc
    have hc8 : c < 8 := by have := w.1.2; omega
    rw [k0 (35 + c) (by omega), k1 (35 + c) (by omega)]
    exact l3 c hc
  · have pe : stepE e' b (51 + b) = stepE e b (51 + b) := by rw [p1, p0]
    obtain ⟨q1, q2, q3⟩ := pr
    unfold nsE
    rw [pe, k0 (7 + (stepE e b (51 + b)).toNat) (by omega), k1 (7 + (stepE e b (51 + b)).toNat) (by omega)]
    exact l2 b _ hb q3 (by omega)
theorem spill_mono {h : Int} {e e' : Gh} {b : Nat} (l : LE e e') (w : Wf h e) (hb : (b : Int) < e 4) (hn : nsE e' b ≤ nsE e b) : e (35 + b) - spillE e b ≤ e' (35 + b) - spillE e' b := by
  have hb8 : b < 8 := by have := w.1.2; omega
  obtain ⟨l1, l2, l3⟩ := l
  have q := l3 b hb
  unfold spillE
  rw [← l1 (27 + b) (by omega), ← l1 1 (by omega), ← l1 5 (by omega)]
  repeat' split
  all_goals omega
theorem LE.go {b : Nat} : ∀ (k : Nat) {h : Int} {e e' : Gh}, LE e e' → Wf h e → Wf h e' → (b : Int) < e 4 → LE (goE k e b) (goE k e' b) := by
  intro k
  induction k with
  | zero => intro h e e' l _ _ _; exact l
  | succ k ih =>
    intro h e e' l w w' hb
    have hb8 : b < 8 := by have := w.1.2; omega
    have hb' : (b : Int) < e' 4 := by rw [← l.1 4 (by omega)]; exact hb
    unfold goE
    rw [← l.1 (51 + b) (by omega), ← l.1 (59 + b) (by omega)]
    by_cases hl : e (51 + b) = e (59 + b)
    · rw [if_pos hl, if_pos hl]; exact l
    · have hl' : e' (51 + b) ≠ e' (59 + b) := by rw [← l.1 (51 + b) (by omega), ← l.1 (59 + b) (by omega)]; exact hl
      rw [if_neg hl, if_neg hl]
      obtain ⟨s1, s2⟩ := l.step w hb hl
      have w1 := w.step hb hl
      have w1' := w'.step hb' hl'
      have s4 : stepE e b 4 = e 4 := uE_n (by omega)
      have s4' : stepE e' b 4 = e' 4 := uE_n (by omega)
      have hb1 : (b : Int) < stepE e b 4 := by rw [s4]; exact hb
      have hb1' : (b : Int) < stepE e' b 4 := by rw [s4']; exact hb'
      have ha := (w1.2.2.2.2.2.2.2.2 b hb1).2.2.2.1
      have t := s1.spilt w1 w1' hb1 (spill_mono s1 w1 hb1 s2)
      refine ih t (w1.spilt hb1) (w1'.spilt hb1') ?_
      rw [spilt_at hb8 ha (by omega) (by omega)]
      exact hb1
theorem LE.echo {b : Nat} : ∀ (k o : Nat) {h : Int} {e e' : Gh}, LE e e' → Wf h e → Wf h e' → (b : Int) < e 4 → ((o + k : Nat) : Int) ≤ e 4 → LE (echoE k e b o) (echoE k e' b o) := by
  intro k
  induction k with
  | zero => intro o h e e' l _ _ _ _; exact l
  | succ k ih =>
    intro o h e e' l w w' hb ho
    have hb8 : b < 8 := by have := w.1.2; omega
    have ho1 : (o : Int) < e 4 := by omega
    have ho8 : o < 8 := by have := w.1.2; omega
    have e4 := l.1 4 (by omega)
    unfold echoE
    rw [← l.1 (51 + b) (by omega), ← l.1 (51 + o) (by omega), ← l.1 (43 + b) (by omega), ← l.1 (43 + o) (by omega), ← l.1 (59 + o) (by omega), ← l.1 0 (by omega)]
    by_cases hc : o ≠ b ∧ e (51 + o) = e (51 + b) ∧ e (43 + o) ≠ e (43 + b) ∧ e (51 + o) ≠ e (59 + o)
    · rw [if_pos hc, if_pos hc]
      have ha := (w.2.2.2.2.2.2.2.2 b hb).2.2.2.1
      have t1 := l.spilt (v := e 0) (v' := e 0) w w' hb (by have := l.2.2 b hb; omega)
      have w1 := w.spilt (v := e 0) hb
      have w1' := w'.spilt (v := e 0) (b := b) (by rw [← e4]; exact hb)
      have s4 : spiltE e b (e 0) 4 = e 4 := spilt_at hb8 ha (by omega) (by omega)
      have ho2 : (o : Int) < spiltE e b (e 0) 4 := by rw [s4]; exact ho1
      have ho2' : (o : Int) < spiltE e' b (e 0) 4 := by rw [← t1.1 4 (by omega)]; exact ho2
      have ha2 := (w1.2.2.2.2.2.2.2.2 o ho2).2.2.2.1
      have t2 := t1.spilt (v := e 0) (v' := e 0) w1 w1' ho2 (by have := t1.2.2 o ho2; omega)
      have w2 := w1.spilt (v := e 0) ho2
      have w2' := w1'.spilt (v := e 0) ho2'
      have t4 : spiltE (spiltE e b (e 0)) o (e 0) 4 = e 4 := by rw [spilt_at ho8 ha2 (by omega) (by omega)]; exact s4
      exact ih (o + 1) t2 w2 w2' (by rw [t4]; exact hb) (by rw [t4]; omega)
    · rw [if_neg hc, if_neg hc]
      exact ih (o + 1) l w w' hb (by omega)
theorem pace_eq {e e' : Gh} {b : Nat} (hb : b < 8) (l : LE e e') : paceE e b = paceE e' b := by
  unfold paceE
  rw [l.1 (27 + b) (by omega), l.1 5 (by omega), l.1 2 (by omega)]
theorem LE.hrL {s : Int} : ∀ (k b : Nat) {h : Int} {e e' : Gh}, LE e e' → Wf h e → Wf h e' → ((b + k : Nat) : Int) ≤ e 4 → LE (hourL k e s b) (hourL k e' s b) := by
  intro k
  induction k with
  | zero => intro b h e e' l _ _ _; exact l
  | succ k ih =>
    intro b h e e' l w w' hb
    have hb1 : (b : Int) < e 4 := by omega
    have hb8 : b < 8 := by have := w.1.2; omega
    have e4 := l.1 4 (by omega)
    have hb1' : (b : Int) < e' 4 := by rw [← e4]; exact hb1
    unfold hourL
    rw [← l.1 (51 + b) (by omega), ← l.1 (59 + b) (by omega), ← e4, ← pace_eq hb8 l]
    by_cases hc : e (51 + b) ≠ e (59 + b) ∧ (b : Int) ≠ s
    · rw [if_pos hc, if_pos hc]
      obtain ⟨r1, r2, r3⟩ := go_ok (h := h) (b := b) (paceE e b).toNat e w hb1
      obtain ⟨r1', r2', r3'⟩ := go_ok (h := h) (b := b) (paceE e b).toNat e' w' hb1'
      have lg := LE.go (b := b) (paceE e b).toNat l w w' hb1
      obtain ⟨q1, q2, q3⟩ := echo_ok (h := h) (b := b) (e 4).toNat 0 _ r1 (by rw [r2]; exact hb1) (by rw [r2]; have := w.1.1; omega)
      obtain ⟨q1', q2', q3'⟩ := echo_ok (h := h) (b := b) (e 4).toNat 0 _ r1' (by rw [r2']; exact hb1') (by rw [r2', ← e4]; have := w.1.1; omega)
      have le := LE.echo (b := b) (e 4).toNat 0 lg r1 r1' (by rw [r2]; exact hb1) (by rw [r2]; have := w.1.1; omega)
      exact ih (b + 1) le q1 q1' (by rw [q2, r2]; omega)
    · rw [if_neg hc, if_neg hc]
      exact ih (b + 1) l w w' (by omega)
theorem LE.hour {h s : Int} {e e' : Gh} (l : LE e e') (w : Wf h e) (w' : Wf h e') : LE (hourE s e) (hourE s e') := by
  have q := LE.hrL (s := s) (e 4).toNat 0 l w w' (by have := w.1.1; omega)
  unfold hourE
  rw [← l.1 4 (by omega)]
  obtain ⟨l1, l2, l3⟩ := q
  refine ⟨fun j hj => ?_, fun b p hb hw hp => ?_, fun b hb => ?_⟩
  · by_cases h5 : j = 5
    · subst h5
      rw [uE_s, uE_s, l1 5 (by omega)]
    · rw [uE_n h5, uE_n h5]; exact l1 j hj
  · rw [uE_n (by omega)] at hb
    unfold Way at hw
    rw [uE_n (by omega), uE_n (by omega)] at hw
    rw [uE_n (by omega), uE_n (by omega)]
    exact l2 b p hb hw hp
  · rw [uE_n (by omega)] at hb
    rw [uE_n (by omega), uE_n (by omega)]
    exact l3 b hb
theorem LE.hours {s : Int} : ∀ (n : Nat) {h : Int} {e e' : Gh}, LE e e' → Wf h e → Wf h e' → LE (hoursE s n e) (hoursE s n e') := by
  intro n
  induction n with
  | zero => intro h e e' l _ _; exact l
  | succ n ih =>
    intro h e e' l w w'
    unfold hoursE
    exact ih (l.hour w w') w.hour.1 w'.hour.1
theorem sum_mono {e e' : Gh} {s : Nat} : ∀ n : Nat, (∀ k, k < n → e (s + k) ≤ e' (s + k)) → sumE e s n ≤ sumE e' s n := by
  intro n
  induction n with
  | zero => intro _; simp [sumE]
  | succ n ih =>
    intro h
    unfold sumE
    have h1 := ih (fun k hk => h k (by omega))
    have h2 := h n (by omega)
    omega
theorem LE.sum {s h : Int} {e e' : Gh} {N : Nat} (l : LE e e') (w : Wf h e) (w' : Wf h e') : sumE (hoursE s N e) 35 (e 4).toNat ≤ sumE (hoursE s N e') 35 (e 4).toNat := by
  have q := LE.hours (s := s) N l w w'
  obtain ⟨w1, w4, w5⟩ := Wf.hours (s := s) N w
  refine sum_mono _ (fun k hk => q.2.2 k ?_)
  rw [w4]
  omega
/-! ===== the noises of a set stilled ===== -/
def stE (S i : Nat) (e : Gh) : Gh := fun j => if (7 ≤ j ∧ j < 7 + i) ∧ S.testBit (j - 7) = true then 0 else e j
theorem stE_0 (S : Nat) (e : Gh) : stE S 0 e = e := by
  funext j
  unfold stE
  rw [if_neg (by omega)]
theorem stE_1 {S i : Nat} {e : Gh} (h : S.testBit i = true) : stE S (i + 1) e = uE (stE S i e) (7 + i) 0 := by
  funext j
  by_cases hj : j = 7 + i
  · subst hj
    rw [uE_s]
    unfold stE
    rw [if_pos]
    refine ⟨by omega, ?_⟩
    rw [show 7 + i - 7 = i by omega]
    exact h
  · rw [uE_n hj]
    unfold stE
    by_cases c : (7 ≤ j ∧ j < 7 + i) ∧ S.testBit (j - 7) = true
    · rw [if_pos c, if_pos ⟨by omega, c.2⟩]
    · rw [if_neg c, if_neg (fun z => c ⟨by omega, z.2⟩)]
theorem stE_2 {S i : Nat} {e : Gh} (h : ¬ S.testBit i = true) : stE S (i + 1) e = stE S i e := by
  funext j
  unfold stE
  by_cases c : (7 ≤ j ∧ j < 7 + i) ∧ S.testBit (j - 7) = true
  · rw [if_pos c, if_pos ⟨by omega, c.2⟩]
  · rw [if_neg c, if_neg (fun z => ?_)]
    by_cases hj : j = 7 + i
    · subst hj
      rw [show 7 + i - 7 = i by omega] at z
      exact h z.2
    · exact c ⟨by omega, z.2⟩
theorem stE_o {S i : Nat} {e : Gh} {j : Nat} (h : j < 7 ∨ 17 ≤ j) (hi : i ≤ 10) : stE S i e j = e j := by
  unfold stE
  rw [if_neg (by omega)]
theorem Wf.still {h : Int} {e : Gh} (w : Wf h e) (S : Nat) : ∀ i, i ≤ 10 → Wf h (stE S i e) := by
  intro i
  induction i with
  | zero => intro _; rw [stE_0]; exact w
  | succ i ih =>
    intro hi
    by_cases c : S.testBit i = true
    · rw [stE_1 c]
      exact (ih (by omega)).noise (by omega) (by omega)
    · rw [stE_2 c]
      exact ih (by omega)
theorem bit_ok : ∀ i, i < 10 → ∀ S, S < 1024 → ((nI S >>> (nI i &&& 31)) &&& 1) = if S.testBit i = true then 1 else 0 := by decide +kernel
theorem C_stillS_ok {c : CSt} {e : Gh} {S : Nat} {post : CSt → Prop} (hS : S < 1024) (h4 : e 4 ≤ 8) (r : RelC c e) (s : C_heldBack c = iI (-1)) (hp : ∀ c', RelC c' (stE S 10 e) → C_heldBack c' = iI (-1) → post c') : wp_C_still c (nI S) post := by
  have key : ∀ (n i : Nat) (c : CSt), i ≤ 10 → 10 - i < n → RelC c (stE S i e) → C_heldBack c = iI (-1) → w_C_still_2 post n c (nI S) (nI i) := by
    intro n
    induction n with
    | zero => intro i c _ h; omega
    | succ n ih =>
      intro i c hi hn r s
      rw [w_C_still_2]
      refine t_le (a := 10) (b := i) rfl rfl (fun z => ?_) (fun z => ?_)
      · have : i = 10 := by omega
        subst this
        exact hp c r s
      intro y1 h1 y2 h2
      rw [h1, bit_ok i (by omega) S hS] at h2
      by_cases q : S.testBit i = true
      · rw [if_pos q] at h2
        refine ifp h2 ⟨vp_in_nI (by omega) (by omega), ?_⟩
        intro y3 h3
        rw [h3, nI_1, nI_clamp (by omega)]
        refine ih (i + 1) _ (by omega) (by omega) ?_ s
        rw [stE_1 q]
        exact r.noise (by omega) (by rw [stE_o (by omega) (by omega)]; exact h4) 0
      · rw [if_neg q] at h2
        refine ifn (by rw [h2]; decide) ?_
        intro y3 h3
        rw [h3, nI_1]
        refine ih (i + 1) _ (by omega) (by omega) ?_ s
        rw [stE_2 q]
        exact r
  unfold wp_C_still
  exact key 2000 0 c (by omega) (by omega) (by rw [stE_0]; exact r) s
theorem X_triedCargoS_ok {h : Int} {x : XSt} {e : Gh} {N S : Nat} {post : Int32 → XSt → Prop} (hS : S < 1024) (hN : N ≤ 1000) (hh : h + N ≤ 1000000) (hr : RelC (X_now x) e) (w : Wf h e) (hp : ∀ c, post (iI (sumE (hoursE (-1) N (stE S 10 e)) 35 (e 4).toNat)) (X_tried_ x c)) : wp_X_triedCargo x (nI N) (nI S) (-1) post := by
  have w4 := w.1
  unfold wp_X_triedCargo
  refine C_copy_ok hr w (fun c1 r1 s1 => ?_)
  refine C_stillS_ok hS w4.2 r1 s1 (fun c2 r2 s2 => ?_)
  have ws := w.still S 10 (by omega)
  obtain ⟨w1, w2, w3⟩ := Wf.hours (s := -1) N ws
  refine C_passHours_ok (c := C_heldBack_ c2 (-1)) (s := -1) (N := N) (h := h) hN hh rfl (by omega) (e := stE S 10 e) r2 ws (fun c3 r3 s3 => ?_)
  refine C_loads_ok r3 w1 ?_
  rw [w2, stE_o (by omega) (by omega)]
  exact hp c3
