/-! ===== sets as numbers ===== -/
theorem nI_and (a b : Nat) : nI a &&& nI b = nI (a &&& b) := by
  apply Int32.toBitVec_inj.1
  show BitVec.ofNat 32 a &&& BitVec.ofNat 32 b = BitVec.ofNat 32 (a &&& b)
  apply BitVec.eq_of_getLsbD_eq
  intro i hi
  simp [hi]
theorem nI_or (a b : Nat) : nI a ||| nI b = nI (a ||| b) := by
  apply Int32.toBitVec_inj.1
  show BitVec.ofNat 32 a ||| BitVec.ofNat 32 b = BitVec.ofNat 32 (a ||| b)
  apply BitVec.eq_of_getLsbD_eq
  intro i hi
  simp [hi]
theorem shl1 : ∀ n, n < 12 → (1 : Int32) <<< (nI n &&& 31) = nI (2 ^ n) := by decide
def setN (p : Nat → Bool) : Nat → Nat
  | 0 => 0
  | n + 1 => if p n = true then setN p n + 2 ^ n else setN p n
theorem setN_s (p : Nat → Bool) (n : Nat) : setN p (n + 1) = if p n = true then setN p n + 2 ^ n else setN p n := rfl
theorem setN_lt (p : Nat → Bool) : ∀ n, setN p n < 2 ^ n := by
  intro n
  induction n with
  | zero => simp [setN]
  | succ n ih =>
    unfold setN
    have : 2 ^ (n + 1) = 2 ^ n + 2 ^ n := by rw [Nat.pow_succ]; omega
    split <;> omega
theorem setI_N (p : Nat → Bool) : ∀ n, n ≤ 8 → setI p n = nI (setN p n) := by
  intro n
  induction n with
  | zero => intro _; rfl
  | succ n ih =>
    intro h
    rw [setI_s, ih (by omega), setN_s]
    by_cases q : p n = true
    · rw [if_pos q, if_pos q, shl1 n (by omega), nI_or]
      congr 1
      have := Nat.two_pow_add_eq_or_of_lt (setN_lt p n) 1
      rw [Nat.mul_one] at this
      rw [Nat.or_comm, ← this, Nat.add_comm]
    · rw [if_neg q, if_neg q]
theorem setN_all (p : Nat → Bool) : ∀ n, setN p n = 2 ^ n - 1 → ∀ b, b < n → p b = true := by
  intro n
  induction n with
  | zero => intro _ b hb; omega
  | succ n ih =>
    intro h b hb
    have hl := setN_lt p n
    have e2 : 2 ^ (n + 1) = 2 ^ n + 2 ^ n := by rw [Nat.pow_succ]; omega
    unfold setN at h
    by_cases q : p n = true
    · rw [if_pos q] at h
      by_cases hbn : b = n
      · subst hbn; exact q
      · exact ih (by omega) b (by omega)
    · rw [if_neg q] at h
      omega
theorem set_all {p : Nat → Bool} {n : Nat} (hn : n ≤ 8) (h : setI p n = (1 <<< (nI n &&& 31)) - 1) : ∀ b, b < n → p b = true := by
  rw [setI_N p n hn, shl1 n (by omega), show (1 : Int32) = nI 1 from rfl] at h
  have hp : 1 ≤ 2 ^ n := Nat.one_le_two_pow
  have hp8 : 2 ^ n ≤ 2 ^ 8 := Nat.pow_le_pow_right (by decide) hn
  rw [pk_sub hp] at h
  have hl := setN_lt p n
  exact setN_all p n ((nI_eq (by omega) (by omega)).mp h)
/-! ===== all have landed: hours only count ===== -/
def allL (e : Gh) : Prop := ∀ b : Nat, (b : Int) < e 4 → e (51 + b) = e (59 + b)
theorem uE_uE (e : Gh) (k : Nat) (v w : Int) : uE (uE e k v) k w = uE e k w := by
  funext j
  unfold uE
  split <;> rfl
theorem hourL_all {e : Gh} {s : Int} (h : allL e) : ∀ k b : Nat, ((b + k : Nat) : Int) ≤ e 4 → hourL k e s b = e := by
  intro k
  induction k with
  | zero => intro b _; rfl
  | succ k ih =>
    intro b hb
    unfold hourL
    rw [if_neg (fun q => q.1 (h b (by omega)))]
    exact ih (b + 1) (by omega)
theorem hours_all {s : Int} : ∀ (k : Nat) (e : Gh), 0 ≤ e 4 → allL e → hoursE s k e = uE e 5 (e 5 + k) := by
  intro k
  induction k with
  | zero =>
    intro e _ _
    unfold hoursE
    funext j
    unfold uE
    split
    · subst_vars; simp
    · rfl
  | succ k ih =>
    intro e h4 ha
    have e1 : hourE s e = uE e 5 (e 5 + 1) := by
      unfold hourE
      rw [hourL_all ha _ _ (by omega)]
    unfold hoursE
    rw [e1]
    have a2 : allL (uE e 5 (e 5 + 1)) := fun b hb => by
      rw [uE_n (by omega)] at hb
      rw [uE_n (by omega), uE_n (by omega)]
      exact ha b hb
    rw [ih _ (by rw [uE_n (by omega)]; exact h4) a2, uE_uE, uE_s]
    congr 1
    omega
theorem C_allLanded_ok {h : Int} {c : CSt} {e : Gh} {post : Int32 → CSt → Prop} (hr : RelC c e) (w : Wf h e) (h1 : setI (ldB e) (e 4).toNat = (1 <<< (iI (e 4) &&& 31)) - 1 → post 1 c) (h0 : ¬ setI (ldB e) (e 4).toNat = (1 <<< (iI (e 4) &&& 31)) - 1 → post 0 c) : wp_C_allLanded c post := by
  unfold wp_C_allLanded
  refine C_landedS_ok hr w ?_
  intro y ey
  rw [ey, hr.2.2.2.1]
  exact ⟨h1, h0⟩
theorem allL_of {h : Int} {e : Gh} (w : Wf h e) (hq : setI (ldB e) (e 4).toNat = (1 <<< (iI (e 4) &&& 31)) - 1) : allL e := by
  have w4 := w.1
  rw [iI_nat w4.1] at hq
  have := set_all (by omega) hq
  intro b hb
  have hb2 := this b (by omega)
  simpa [ldB] using hb2
theorem C_hours_ok {s : Int} {N : Nat} {post : CSt → Prop} (hN : N ≤ 1000) (hsb : -1 ≤ s ∧ s ≤ 8) : ∀ (n i : Nat) (h : Int) (c : CSt) (e : Gh), RelC c e → C_heldBack c = iI s → Wf h e → h + N ≤ 1000000 + i → i ≤ N → N - i < n → (∀ c', RelC c' (hoursE s (N - i) e) → C_heldBack c' = iI s → post c') → w_C_passHours_2 post n c (nI N) (nI i) := by
  intro n
  induction n with
  | zero => intro i h c e _ _ _ _ _ hn; omega
  | succ n ih =>
    intro i h c e hr hs w hh hi hn hp
    have w4 := w.1
    have w5 := w.2.2.2.2.2.1
    rw [w_C_passHours_2]
    refine t_le (a := (N : Int)) (b := i) rfl rfl (fun q => ?_) (fun q => ?_)
    · rw [show N - i = 0 by omega] at hp
      exact hp c hr hs
    · refine C_allLanded_ok hr w (fun q1 => ?_) (fun q1 => ?_)
      · refine ⟨fun z => absurd z (by decide), fun _ y ey => ?_⟩
        have ha := allL_of w q1
        rw [hours_all (N - i) e w4.1 ha] at hp
        have ey2 : y = iI (e 5 + ((N - i : Nat) : Int)) := by
          rw [ey, hr.2.2.2.2.1, pk_sub hi, nI_iI, iI_add]
        rw [ey2]
        exact hp _ (hr.hour _) hs
      · refine ⟨fun _ => ?_, fun z => absurd rfl z⟩
        obtain ⟨k, hk⟩ : ∃ k, N - i = k + 1 := ⟨N - i - 1, by omega⟩
        rw [hk] at hp
        unfold hoursE at hp
        refine C_hour_ok (h := h) (by omega) hs hsb hr w (fun c1 hr1 hs1 => ?_)
        intro y hy
        rw [hy, nI_1]
        refine ih (i + 1) (h + 1) c1 _ hr1 hs1 (w.hour).1 (by omega) (by omega) (by omega) ?_
        rw [show N - (i + 1) = k by omega]
        exact hp
theorem C_passHours_ok {h s : Int} {c : CSt} {e : Gh} {N : Nat} {post : CSt → Prop} (hN : N ≤ 1000) (hh : h + N ≤ 1000000) (hs : C_heldBack c = iI s) (hsb : -1 ≤ s ∧ s ≤ 8) (hr : RelC c e) (w : Wf h e) (hp : ∀ c', RelC c' (hoursE s N e) → C_heldBack c' = iI s → post c') : wp_C_passHours c (nI N) post := by
  unfold wp_C_passHours
  exact C_hours_ok hN hsb 2000 0 h c e hr hs w (by omega) (by omega) (by omega) hp
/-! ===== rows aside and back ===== -/
theorem M_keepAside_ok {m : MSt} {e : Gh} {post : MSt → Prop} (hr : RelD (M_d m) e) (hp : ∀ a, RelD a e → post (M_aside_ m a)) : wp_M_keepAside m post := by
  have key : ∀ (n i : Nat) (a : Nat → Int32), i ≤ 67 → 67 - i < n → (∀ k, k < i → a k = iI (e k)) → w_M_keepAside_2 post n (M_aside_ m a) (nI i) := by
    intro n
    induction n with
    | zero => intro i a _ hn; omega
    | succ n ih =>
      intro i a hi hn ha
      rw [w_M_keepAside_2]
      refine t_le (a := 67) (b := i) rfl rfl (fun q => ?_) (fun q => ?_)
      · exact hp a (fun k hk => ha k (by omega))
      · have hin : vp_in (nI i) 67 := vp_in_nI (by omega) (by omega)
        refine ⟨hin, hin, fun y ey => ?_⟩
        rw [ey, nI_1, nI_clamp (by omega)]
        refine ih (i + 1) _ (by omega) (by omega) (fun k hk => ?_)
        by_cases hki : k = i
        · subst hki; rw [pk_us]; exact hr k (by omega)
        · rw [pk_un hki]; exact ha k (by omega)
  unfold wp_M_keepAside
  exact key 2000 0 (M_aside m) (by omega) (by omega) (fun k hk => by omega)
theorem M_putBack_ok {m : MSt} {e : Gh} {post : MSt → Prop} (hr : RelD (M_aside m) e) (hp : ∀ d, RelD d e → post (M_d_ m d)) : wp_M_putBack m post := by
  have key : ∀ (n i : Nat) (a : Nat → Int32), i ≤ 67 → 67 - i < n → (∀ k, k < i → a k = iI (e k)) → w_M_putBack_2 post n (M_d_ m a) (nI i) := by
    intro n
    induction n with
    | zero => intro i a _ hn; omega
    | succ n ih =>
      intro i a hi hn ha
      rw [w_M_putBack_2]
      refine t_le (a := 67) (b := i) rfl rfl (fun q => ?_) (fun q => ?_)
      · exact hp a (fun k hk => ha k (by omega))
      · have hin : vp_in (nI i) 67 := vp_in_nI (by omega) (by omega)
        refine ⟨hin, hin, fun y ey => ?_⟩
        rw [ey, nI_1, nI_clamp (by omega)]
        refine ih (i + 1) _ (by omega) (by omega) (fun k hk => ?_)
        by_cases hki : k = i
        · subst hki; rw [pk_us]; exact hr k (by omega)
        · rw [pk_un hki]; exact ha k (by omega)
  unfold wp_M_putBack
  exact key 2000 0 (M_d m) (by omega) (by omega) (fun k hk => by omega)
/-- what the tried hours leave: FREIGHT and CARGO; all is put back -/
theorem M_behind_ok {h s : Int} {m : MSt} {d : Nat → Int32} {e e0 : Gh} {N b : Nat} {post : Int32 → MSt → Prop} (hN : N ≤ 1000) (hh : h + N ≤ 1000000) (hs : M_still m = iI s) (hsb : -1 ≤ s ∧ s ≤ 8) (hr : RelD d e) (w : Wf h e) (hb : b < 8) (ha : RelD (M_aside m) e0) (hp : ∀ d', RelD d' e0 → post (iI (hoursE s N e (35 + b))) (M_d_ m d')) : wp_M_behind (M_d_ m d) (nI N) (nI (35 + b)) post := by
  unfold wp_M_behind
  refine M_hours_ok hN hh hs hsb hr w (fun d1 hr1 => ?_)
  refine ⟨vp_in_nI (by omega) (by omega), ?_⟩
  rw [nI_clamp (by omega)]
  refine M_putBack_ok (m := M_d_ m d1) (e := e0) ha (fun d2 hr2 => ?_)
  rw [show M_d (M_d_ m d1) (35 + b) = iI (hoursE s N e (35 + b)) from hr1 _ (by omega)]
  exact hp d2 hr2
theorem M_cargo_ok {h s : Int} {m : MSt} {d : Nat → Int32} {e e0 : Gh} {N : Nat} {post : Int32 → MSt → Prop} (hN : N ≤ 1000) (hh : h + N ≤ 1000000) (hs : M_still m = iI s) (hsb : -1 ≤ s ∧ s ≤ 8) (hr : RelD d e) (w : Wf h e) (ha : RelD (M_aside m) e0) (hp : ∀ d', RelD d' e0 → post (iI (sumE (hoursE s N e) 35 (e 4).toNat)) (M_d_ m d')) : wp_M_cargoBehind (M_d_ m d) (nI N) post := by
  unfold wp_M_cargoBehind
  refine M_hours_ok hN hh hs hsb hr w (fun d1 hr1 => ?_)
  obtain ⟨w1, w2, w3⟩ := Wf.hours (s := s) N w
  refine M_loads_ok (m := M_d_ m d1) hr1 w1 ?_
  refine M_putBack_ok (m := M_d_ m d1) (e := e0) ha (fun d2 hr2 => ?_)
  rw [w2]
  exact hp d2 hr2
/-! ===== a canal copied ===== -/
theorem cpy_in {α : Type} {f g : Nat → α} {n k : Nat} (h : k < n) : va_cpy f g 0 0 n k = f k := by
  rw [pk_cpy_in (by omega) (by omega)]
  congr 1
  omega
theorem C_copy_ok {p : CSt × CSt} {h : Int} {e : Gh} {post : CSt × CSt → Prop} (hr : RelC p.2 e) (w : Wf h e) (hp : ∀ c, RelC c e → C_heldBack c = iI (-1) → post (c, p.2)) : wp_C_copyFrom p post := by
  have w4 := w.1
  unfold wp_C_copyFrom
  refine hp _ ?_ rfl
  obtain ⟨r0, r1, r2, r3, r4, r5, r6⟩ := hr
  refine ⟨fun k hk => ?_, fun k hk => ?_, fun k hk => ?_, r3, r4, r5, fun b hb => ?_⟩
  · show va_cpy (C_laws p.2) (C_laws p.1) 0 0 4 k = _
    rw [cpy_in hk]; exact r0 k hk
  · show va_cpy (C_noise p.2) (C_noise p.1) 0 0 10 k = _
    rw [cpy_in hk]; exact r1 k hk
  · show va_cpy (C_lost p.2) (C_lost p.1) 0 0 10 k = _
    rw [cpy_in hk]; exact r2 k hk
  · obtain ⟨q1, q2, q3, q4, q5⟩ := r6 b hb
    have hb8 : b < 8 := by omega
    refine ⟨?_, ?_, ?_, ?_, ?_⟩
    · show va_cpy (C_kind p.2) (C_kind p.1) 0 0 8 b = _
      rw [cpy_in hb8]; exact q1
    · show va_cpy (C_load p.2) (C_load p.1) 0 0 8 b = _
      rw [cpy_in hb8]; exact q2
    · show va_cpy (C_sort p.2) (C_sort p.1) 0 0 8 b = _
      rw [cpy_in hb8]; exact q3
    · show va_cpy (C_at p.2) (C_at p.1) 0 0 8 b = _
      rw [cpy_in hb8]; exact q4
    · show va_cpy (C_bound p.2) (C_bound p.1) 0 0 8 b = _
      rw [cpy_in hb8]; exact q5
