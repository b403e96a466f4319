theorem X_hu61 {x : XSt} {e : Gh} {h : Int} {N U S0 : Nat} {v : Int} {post : Int32 → XSt → Prop} {k : XSt → Int32 → Int32 → Int32 → Int32 → Prop} (r : RelC (X_now x) e) (w : Wf h e) (hh : h ≤ 900000) (hN : N ≤ 60) (hv : 0 ≤ v ∧ v ≤ 1000) (hU : U < 1024) (hb : Best (fun S => v ≤ huV e N S) S0) (hs : S0 &&& U = S0) (hp : ∀ c, post (nI S0) (X_tried_ x c)) (t : Nat) (ht : t ≤ bc S0) (hk : t < bc S0 → ∀ c, k (X_tried_ x c) (nI N) (iI v) (nI U) (nI (t + 1))) : ∀ (n S : Nat) (c : CSt), S ≤ 1024 → 1024 - S < n → (t = bc S0 → S ≤ S0) → w_X_hushedFor_61 post k n (X_tried_ x c) (nI N) (iI v) (nI U) (nI t) (nI S) := by
  intro n
  have w4 := w.1
  obtain ⟨b1, b2, b3⟩ := hb
  have t10 := bc_le S0
  induction n with
  | zero => intro S c _ hn; omega
  | succ n ih =>
    intro S c hS hn hq
    rw [w_X_hushedFor_61]
    refine t_lt (a := 1023) (b := S) rfl rfl (fun g => ?_) (fun g => ?_)
    · intro y hy
      rw [hy, nI_1]
      exact hk (by omega) c
    have hS2 : S < 1024 := by omega
    have no : ¬ (S = S0 ∧ t = bc S0) → ∀ c', w_X_hushedFor_61 post k n (X_tried_ x c') (nI N) (iI v) (nI U) (nI t) (nI (S + 1)) := fun z c' => ih (S + 1) c' (by omega) (by omega) (fun q => by have := hq q; by_cases u : S = S0; exact absurd ⟨u, q⟩ z; omega)
    refine tst (sub_ok hS2 hU) (fun g2 => ?_) (fun g2 => ?_)
    · refine JI_bc hS2 ?_
      have bS := bc_le S
      refine t_eq (a := bc S) (b := t) rfl rfl (fun g3 => ?_) (fun g3 => ?_)
      · unfold w_X_hushedFor_93
        refine if1 ?_
        have vb := huV_b (N := N) (S := S) w
        refine X_triedCargoS_ok (x := X_tried_ x c) (h := h) hS2 (by omega) (by omega) r w (fun c2 => ?_)
        refine t_lt (a := huV e N S) (b := v) rfl rfl (fun g4 => ?_) (fun g4 => ?_)
        · intro y hy
          rw [hy, nI_1]
          refine no (fun z => ?_) c2
          rw [z.1] at g4
          exact absurd (show v ≤ huV e N S0 from b2) (by omega)
        · have q := b3 S hS2 g4
          unfold keyS at q
          have : S = S0 := by omega
          subst this
          exact hp c2
      · unfold w_X_hushedFor_93
        refine if0 ?_
        intro y hy
        rw [hy, nI_1]
        exact no (fun z => g3 (by rw [z.1, z.2])) c
    · unfold w_X_hushedFor_93
      refine if0 ?_
      intro y hy
      rw [hy, nI_1]
      exact no (fun z => g2 (by rw [z.1]; exact hs)) c
theorem X_hu51 {x : XSt} {e : Gh} {h : Int} {N U S0 : Nat} {v : Int} {post : Int32 → XSt → Prop} (r : RelC (X_now x) e) (w : Wf h e) (hh : h ≤ 900000) (hN : N ≤ 60) (hv : 0 ≤ v ∧ v ≤ 1000) (hU : U < 1024) (hb : Best (fun S => v ≤ huV e N S) S0) (hs : S0 &&& U = S0) (hp : ∀ c, post (nI S0) (X_tried_ x c)) : ∀ (n t : Nat) (c : CSt), t ≤ bc S0 → 11 - t < n → w_X_hushedFor_51 post n (X_tried_ x c) (nI N) (iI v) (nI U) (nI t) := by
  intro n
  have t10 := bc_le S0
  induction n with
  | zero => intro t c _ hn; omega
  | succ n ih =>
    intro t c ht hn
    rw [w_X_hushedFor_51]
    refine t_lt (a := 10) (b := t) rfl rfl (fun g => by omega) (fun g => ?_)
    exact X_hu61 r w hh hN hv hU hb hs hp t ht (fun q c' => ih (t + 1) c' (by omega) (by omega)) 2000 0 c (by omega) (by omega) (fun _ => by omega)
/-! the reference's walk over all sets -/
theorem M_hu66 {m : MSt} {e : Gh} {h : Int} {N S : Nat} {v : Int} {b : Int} {post : Int32 → MSt → Prop} {k : MSt → Int32 → Int32 → Int32 → Int32 → Prop} (t : M_still m = iI (-1)) (ha : RelD (M_aside m) e) (w : Wf h e) (hh : h ≤ 900000) (hN : N ≤ 60) (hv : 0 ≤ v ∧ v ≤ 1000) (hS : S < 1024) (k1 : huV e N S < v → ∀ d, RelD d e → k (M_d_ m d) (nI N) (iI v) (iI b) (nI (S + 1))) (k2 : v ≤ huV e N S → ∀ d, RelD d e → k (M_d_ m d) (nI N) (iI v) (iI S) (nI (S + 1))) : ∀ (n i : Nat) (d : Nat → Int32), i ≤ 10 → 10 - i < n → RelD d (stE S i e) → w_M_hushedFor_66 post k n (M_d_ m d) (nI N) (iI v) (iI b) (nI S) (nI i) := by
  intro n
  induction n with
  | zero => intro i d _ hn; omega
  | succ n ih =>
    intro i d hi hn q
    rw [w_M_hushedFor_66]
    refine t_le (a := 10) (b := i) rfl rfl (fun g => ?_) (fun g => ?_)
    · have : i = 10 := by omega
      subst this
      have vb := huV_b (N := N) (S := S) w
      refine M_cargo_ok (m := m) (d := d) (h := h) (s := -1) (e := stE S 10 e) (e0 := e) (by omega) (by omega) t (by omega) q (w.still S 10 (by omega)) ha (fun d2 q2 => ?_)
      rw [stE_o (j := 4) (by omega) (by omega)]
      refine t_lt (a := huV e N S) (b := v) rfl rfl (fun g4 => ?_) (fun g4 => ?_)
      · intro y hy
        rw [hy, nI_1]
        exact k1 g4 d2 q2
      · intro y hy
        rw [hy, nI_1]
        exact k2 g4 d2 q2
    · intro y11 h11 y12 h12 y13 h13
      rw [show (7 : Int32) = nI 7 from rfl, nI_add] at h11
      rw [h12, bit_ok i (by omega) S hS] at h13
      have vi : vp_in y11 67 := by rw [h11]; exact vp_in_nI (by omega) (by omega)
      have cl : y11.toNatClampNeg = 7 + i := by rw [h11]; exact nI_clamp (by omega)
      by_cases c : S.testBit i = true
      · rw [if_pos c] at h13
        refine ifp h13 ⟨vi, ?_⟩
        intro y hy
        rw [hy, nI_1, cl]
        refine ih (i + 1) (upd d (7 + i) 0) (by omega) (by omega) ?_
        rw [stE_1 c]
        exact q.upd (7 + i) 0
      · rw [if_neg c] at h13
        refine ifn (by rw [h13]; decide) ?_
        intro y14 h14
        have e14 : y14 = y11 := by rw [h14, h11, show (7 : Int32) = nI 7 from rfl, nI_add]
        rw [e14]
        refine ⟨vi, vi, ?_⟩
        intro y hy
        rw [hy, nI_1, cl]
        refine ih (i + 1) (upd d (7 + i) (d (7 + i))) (by omega) (by omega) ?_
        rw [stE_2 c]
        have := q.upd (7 + i) (stE S i e (7 + i))
        rw [uE_id, ← q (7 + i) (by omega)] at this
        exact this
/-- best so far: none, or one that does -/
def HuI (e : Gh) (N : Nat) (v : Int) (S0 : Option Nat) (S : Nat) (b : Int) : Prop :=
  match S0 with
  | none => b = -3
  | some s => (S ≤ s ∧ (b = -3 ∨ ∃ T : Nat, T < 1024 ∧ b = T ∧ bc s < bc T)) ∨ (s < S ∧ b = s)
def HuA (e : Gh) (N : Nat) (v : Int) : Option Nat → Prop
  | none => ∀ T, T < 1024 → ¬ v ≤ huV e N T
  | some s => Best (fun S => v ≤ huV e N S) s
def HuR : Option Nat → Int
  | none => -3
  | some s => s
theorem M_hu36 {m : MSt} {e : Gh} {h : Int} {N : Nat} {v : Int} {S0 : Option Nat} {post : Int32 → MSt → Prop} (t : M_still m = iI (-1)) (ha : RelD (M_aside m) e) (w : Wf h e) (hh : h ≤ 900000) (hN : N ≤ 60) (hv : 0 ≤ v ∧ v ≤ 1000) (hA : HuA e N v S0) (hp : ∀ d, RelD d e → post (iI (HuR S0)) (M_d_ m d)) : ∀ (n S : Nat) (b : Int) (d : Nat → Int32), S ≤ 1024 → 1024 - S < n → RelD d e → HuI e N v S0 S b → w_M_hushedFor_36 post n (M_d_ m d) (nI N) (iI v) (iI b) (nI S) := by
  intro n
  induction n with
  | zero => intro S b d _ hn; omega
  | succ n ih =>
    intro S b d hS hn q hI
    have bb : -3 ≤ b ∧ b < 1024 := by
      cases S0 with
      | none => have : b = -3 := hI; omega
      | some s =>
        have s1 : s < 1024 := hA.1
        rcases hI with ⟨_, z | ⟨T, h1, h2, _⟩⟩ | ⟨_, z⟩ <;> omega
    rw [w_M_hushedFor_36]
    refine t_le (a := 1024) (b := S) rfl rfl (fun g => ?_) (fun g => ?_)
    · have e1 : b = HuR S0 := by
        cases S0 with
        | none => exact hI
        | some s =>
          have s1 : s < 1024 := hA.1
          rcases hI with ⟨z, _⟩ | ⟨_, z⟩
          · omega
          · exact z
      rw [e1]
      exact hp d q
    have hS2 : S < 1024 := by omega
    have try1 : (∀ s, S0 = some s → s < S → bc S < bc s) → w_M_hushedFor_66 post (w_M_hushedFor_36 post n) 2000 (M_d_ m d) (nI N) (iI v) (iI b) (nI S) 0 := by
      intro tr
      refine M_hu66 t ha w hh hN hv hS2 (fun lo d2 q2 => ?_) (fun hi d2 q2 => ?_) 2000 0 d (by omega) (by omega) (by rw [stE_0]; exact q)
      · refine ih (S + 1) b d2 (by omega) (by omega) q2 ?_
        cases S0 with
        | none => exact hI
        | some s =>
          have s2 : v ≤ huV e N s := hA.2.1
          rcases hI with ⟨z, z2⟩ | ⟨z, z2⟩
          · refine Or.inl ⟨?_, z2⟩
            by_cases u : S = s
            · subst u; omega
            · omega
          · exact Or.inr ⟨by omega, z2⟩
      · refine ih (S + 1) S d2 (by omega) (by omega) q2 ?_
        cases S0 with
        | none => exact absurd hi (hA S hS2)
        | some s =>
          have s3 := hA.2.2 S hS2 hi
          unfold keyS at s3
          have s1 : s < 1024 := hA.1
          by_cases u : S = s
          · exact Or.inr ⟨by omega, by rw [u]⟩
          · by_cases u2 : s < S
            · have := tr s rfl u2
              omega
            · exact Or.inl ⟨by omega, Or.inr ⟨S, hS2, rfl, by omega⟩⟩
    refine t_lt (a := b) (b := 0) rfl rfl (fun g2 => ?_) (fun g2 => ?_)
    · refine try1 (fun s hs u => ?_)
      subst hs
      rcases hI with ⟨z, _⟩ | ⟨_, z⟩ <;> omega
    · rw [iI_nat g2]
      refine M_bc hS2 (M_bc (S := b.toNat) (by omega) ?_)
      have b1 := bc_le S
      have b2 := bc_le b.toNat
      rw [← iI_nat g2]
      refine t_lt (a := bc S) (b := bc b.toNat) rfl rfl (fun g3 => ?_) (fun g3 => ?_)
      · refine try1 (fun s hs u => ?_)
        subst hs
        rcases hI with ⟨z, _⟩ | ⟨_, z⟩
        · omega
        · rw [z] at g3
          have e3 : (s : Int).toNat = s := by omega
          rw [e3] at g3
          omega
      · intro y hy
        rw [hy, nI_1]
        refine ih (S + 1) b d (by omega) (by omega) q ?_
        cases S0 with
        | none => exact hI
        | some s =>
          rcases hI with ⟨z, z2⟩ | ⟨z, z2⟩
          · refine Or.inl ⟨?_, z2⟩
            by_cases u : S = s
            · subst u
              rcases z2 with z3 | ⟨T, h1, h2, h3⟩
              · omega
              · subst h2
                have e3 : (T : Int).toNat = T := by omega
                rw [e3] at g3
                omega
            · omega
          · exact Or.inr ⟨by omega, z2⟩
theorem l_hushedFor {h : Int} {x : XSt} {m : MSt} {a1 a2 a3 a4 : Int32} {K : XSt → MSt → Prop} (hh : h ≤ 900000) (n : Now h x m) (hK : ∀ x' m', Now h x' m' → x'.2.2 = x.2.2 → m'.2.2 = m.2.2 → K x' m') : wpl_hushedFor x m a1 a2 a3 a4 K := by
  have k0 : K x m := hK x m n rfl rfl
  obtain ⟨e, w, r, s, q, t⟩ := n
  have w4 := w.1
  have no : ¬ ((1 ≤ a1.toInt ∧ a1.toInt ≤ 20) ∧ (0 ≤ a2.toInt ∧ a2.toInt ≤ 999)) → wp_M_hushedFor m a1 a2 (fun v2 m1 => (-1) = v2 ∧ K x m1) := by
    intro P
    unfold wp_M_hushedFor
    refine I_in (a := a1) (lo := 1) (hi := 20) (fun z1 => if1 ?_) (fun _ => if0 ⟨rfl, k0⟩)
    exact I_in (a := a2) (lo := 0) (hi := 999) (fun z2 => absurd ⟨z1, z2⟩ P) (fun _ => if0 ⟨rfl, k0⟩)
  unfold wpl_hushedFor wp_X_hushedFor
  refine t_lo (k := 1) rfl (fun h1 => no (by omega)) (fun h1 => ?_)
  refine t_lt (a := 20) (b := a1.toInt) rfl (iI_of a1).symm (fun h2 => no (by omega)) (fun h2 => ?_) (by omega) (i32b a1)
  refine t_lo (k := 0) rfl (fun h3 => no (by omega)) (fun h3 => ?_)
  refine t_hi (k := 999) rfl (fun h4 => ?_) (fun h4 => no (by omega))
  obtain ⟨N, hN, ha⟩ : ∃ N : Nat, N ≤ 20 ∧ a1 = nI N := ⟨a1.toInt.toNat, by omega, i_nat (by omega)⟩
  obtain ⟨v, hv, ha2⟩ : ∃ v : Int, (0 ≤ v ∧ v ≤ 999) ∧ a2 = iI v := ⟨a2.toInt, by omega, (iI_of a2).symm⟩
  subst ha
  have yes : ∀ (S0 : Option Nat), HuA e N v S0 → (∀ c : CSt, wp_M_hushedFor m (nI N) a2 (fun v2 m1 => iI (HuR S0) = v2 ∧ K (X_tried_ x c) m1)) := by
    intro S0 hA c
    unfold wp_M_hushedFor
    refine I_in (a := nI N) (lo := 1) (hi := 20) (fun _ => if1 ?_) (fun z => absurd ⟨h1, h2⟩ z)
    refine I_in (a := a2) (lo := 0) (hi := 999) (fun _ => if1 ?_) (fun z => absurd ⟨h3, h4⟩ z)
    refine M_keepAside_ok q (fun a ra => ?_)
    rw [ha2]
    refine M_hu36 (m := M_aside_ m a) (S0 := S0) t ra w hh (by omega) (by omega) hA (fun d1 q1 => ?_) 2000 0 (-3) (M_d m) (by omega) (by omega) q ?_
    · exact ⟨rfl, hK _ _ ⟨e, w, r, s, q1, t⟩ rfl rfl⟩
    · cases S0 with
      | none => exact rfl
      | some s => exact Or.inl ⟨by omega, Or.inl rfl⟩
  have vb := huV_b (N := N) (S := 1023) w
  refine X_triedCargoS_ok (h := h) (S := 1023) (by omega) (by omega) (by omega) r w (fun c0 => ?_)
  refine t_le (a := v) (b := huV e N 1023) ha2 rfl (fun g => ?_) (fun g => ?_)
  · obtain ⟨S0, hb⟩ := best_ex (P := fun S => v ≤ huV e N S) (keyS 1023 + 1) 1023 (by omega) (by omega) g
    refine C_loud_ok (h := h) (e := e) r w (fun U hU hl => ?_)
    rw [ha2]
    refine X_hu51 (x := x) (S0 := S0) r w hh (by omega) (by omega) hU hb (best_sub w hl hb) (fun c => ?_) 2000 0 c0 (by omega) (by omega)
    have fin := yes (some S0) hb c
    rw [ha2] at fin
    exact fin
  · exact yes none (fun T hT z => by have := hu_top (N := N) (S := T) w; omega) c0
