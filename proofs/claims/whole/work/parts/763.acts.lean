theorem l_taken {h : Int} {x : XSt} {m : MSt} {a1 a2 a3 a4 : Int32} {K : XSt → MSt → Prop} (n : Now h x m) (hl : HlX x m) (k0 : K x m) : wpl_taken x m a1 a2 a3 a4 K := by
  obtain ⟨e, w, r, s, q, t⟩ := n
  have w4 := w.1
  have b2 := i32b a2
  have no : ¬ ((0 ≤ a1.toInt ∧ a1.toInt ≤ 3) ∧ ((0 ≤ a2.toInt ∧ a2.toInt ≤ 5) ∨ (10 ≤ a2.toInt ∧ a2.toInt ≤ 13))) → wp_M_taken m a1 a2 (fun v2 m1 => (-1) = v2 ∧ K x m1) := by
    intro P
    unfold wp_M_taken
    refine I_in (a := a1) (lo := 0) (hi := 3) (fun z1 => if1 ?_) (fun _ => if0 ⟨rfl, k0⟩)
    refine I_in (a := a2) (lo := 0) (hi := 5) (fun z2 => absurd ⟨z1, Or.inl z2⟩ P) (fun _ => if0 ?_)
    exact I_in (a := a2) (lo := 10) (hi := 13) (fun z2 => absurd ⟨z1, Or.inr z2⟩ P) (fun _ => if0 ⟨rfl, k0⟩)
  unfold wpl_taken wp_X_taken
  refine X_shelfAt_ok (fun z1 i hi ha => ifn (by omega) ⟨hi, ?_⟩) (fun z1 => ifp rfl ?_)
  rotate_left
  · have bad : ∀ s0, w_X_taken_23 (fun v1 x1 => wp_M_taken m a1 a2 (fun v2 m1 => v1 = v2 ∧ K x1 m1)) x a2 4 s0 := by
      intro s0
      unfold w_X_taken_23
      exact ifp rfl (no (fun z => z1 z.1))
    exact ⟨fun _ => bad 0, fun _ => ⟨fun _ => bad 0, fun _ => bad 1⟩⟩
  subst ha
  have vi : vp_in (nI i) 4 := vp_in_nI (by omega) (by omega)
  have hli := hl i hi
  have front : ((0 ≤ a2.toInt ∧ a2.toInt ≤ 5) ∨ (10 ≤ a2.toInt ∧ a2.toInt ≤ 13)) → ∀ v : Int32, (M_shelfHas m i = 2 → v = if M_shelfWhich m i = a2 - 10 then M_shelfSize m i else -13) → (∀ b : Nat, M_shelfHas m i = 1 → (b : Int) < e 4 → M_shelfWhich m i = nI b → v = if 10 ≤ a2.toInt then -13 else if (a2.toInt = 0 ∨ e (27 + b) = a2.toInt ∨ (abN (e (27 + b)).toNat : Int) = a2.toInt) then nI b else -13) → ((M_shelfHas m i = 0 ∨ (M_shelfHas m i = 1 ∧ ¬ (0 ≤ (M_shelfWhich m i).toInt ∧ (M_shelfWhich m i).toInt < e 4))) → v = -11) → wp_M_taken m (nI i) a2 (fun v2 m1 => v = v2 ∧ K x m1) := by
    intro P v g2 g1 g0
    have inner : w_M_taken_40 (fun v2 m1 => v = v2 ∧ K x m1) m (nI i) a2 := by
      unfold w_M_taken_40
      refine M_none_ok hi q w (fun z => if1 ⟨g0 z, k0⟩) (fun z z2 => if0 ⟨vi, ?_⟩)
      rw [nI_clamp (by omega)]
      refine ⟨fun u => ⟨vi, fun u2 => ⟨vi, ?_, k0⟩, fun u2 => ⟨?_, k0⟩⟩, fun u => ⟨vi, ?_⟩⟩
      · rw [g2 u, if_pos u2]
      · rw [g2 u, if_neg u2]
      have u1 : M_shelfHas m i = 1 := by
        rcases hli with ⟨_, b⟩ | ⟨_, b, _⟩ | ⟨_, b, _⟩
        · exact absurd b z
        · exact b
        · exact absurd b u
      obtain ⟨b, hb, hb8, hw⟩ := bg_of w (z2 u1)
      have bw := w.2.2.2.2.2.2.2.2 b hb
      have kb := bw.1
      have gv := g1 b u1 hb hw
      rw [hw]
      refine M_get_ok (w := 0) q (by omega) (by omega) ?_
      rw [show 27 + 8 * 0 + b = 27 + b by omega]
      refine t_le (a := 10) (b := a2.toInt) rfl (iI_of a2).symm (fun u2 => ⟨?_, k0⟩) (fun u2 => ?_) (by omega) (i32b a2)
      · rw [gv, if_pos u2]
      rw [if_neg (by omega)] at gv
      have P5 : 0 ≤ a2.toInt ∧ a2.toInt ≤ 5 := by omega
      refine t_eq (a := a2.toInt) (b := 0) (iI_of a2).symm rfl (fun u3 => ⟨vi, ?_, k0⟩) (fun u3 => ?_) (i32b a2)
      · rw [gv, if_pos (Or.inl u3), hw]
      refine t_eq (a := e (27 + b)) (b := a2.toInt) rfl (iI_of a2).symm (fun u4 => ⟨vi, ?_, k0⟩) (fun u4 => ?_) (by omega) (i32b a2)
      · rw [gv, if_pos (Or.inr (Or.inl u4)), hw]
      rw [iI_nat kb.1]
      refine M_above_ok (by omega) ?_
      show (nI (abN (e (27 + b)).toNat) = a2 → _) ∧ _
      have ab : abN (e (27 + b)).toNat ≤ 2 := by
        unfold abN
        split
        · omega
        · split <;> omega
      refine t_eq (a := abN (e (27 + b)).toNat) (b := a2.toInt) rfl (iI_of a2).symm (fun u5 => ⟨vi, ?_, k0⟩) (fun u5 => ⟨?_, k0⟩) (by omega) (i32b a2)
      · rw [gv, if_pos (Or.inr (Or.inr u5)), hw]
      · rw [gv, if_neg (fun z => by rcases z with z | z | z; exact u3 z; exact u4 z; exact u5 z)]
    unfold wp_M_taken
    refine I_in (a := nI i) (lo := 0) (hi := 3) (fun _ => if1 ?_) (fun z => absurd z1 z)
    refine I_in (a := a2) (lo := 0) (hi := 5) (fun z2 => if1 inner) (fun z2 => if0 ?_)
    exact I_in (a := a2) (lo := 10) (hi := 13) (fun _ => if1 inner) (fun z3 => absurd P (fun u => by rcases u with u | u; exact z2 u; exact z3 u))
  have x43 : ∀ s0 : Int32, ((s0 = 0 ∧ (0 ≤ a2.toInt ∧ a2.toInt ≤ 5)) ∨ (s0 = 1 ∧ (10 ≤ a2.toInt ∧ a2.toInt ≤ 13))) → w_X_taken_43 (fun v1 x1 => wp_M_taken m (nI i) a2 (fun v2 m1 => v1 = v2 ∧ K x1 m1)) x a2 i s0 := by
    intro s0 P
    have P2 : (0 ≤ a2.toInt ∧ a2.toInt ≤ 5) ∨ (10 ≤ a2.toInt ∧ a2.toInt ≤ 13) := by
      rcases P with P | P
      · exact Or.inl P.2
      · exact Or.inr P.2
    have s1 : (1 : Int32) = 0 → False := by decide
    unfold w_X_taken_43
    refine ifn (by omega) ⟨hi, fun wt => ?_, fun wt => ?_⟩
    · have rowc : M_shelfHas m i = 2 ∧ M_shelfWhich m i = H_rowSort (X_shelves x i) ∧ M_shelfSize m i = H_rowSize (X_shelves x i) ∧ 0 ≤ (H_rowSort (X_shelves x i)).toInt ∧ (H_rowSort (X_shelves x i)).toInt ≤ 3 := by
        rcases hli with ⟨b, _⟩ | ⟨b, _⟩ | ⟨_, b⟩
        · exact absurd (wt.symm.trans b) (by decide)
        · exact absurd (wt.symm.trans b) (by decide)
        · exact b
      obtain ⟨c1, c2, c3, c4, c5⟩ := rowc
      have n1 : ¬ M_shelfHas m i = 1 := by rw [c1]; decide
      have n0 : ¬ M_shelfHas m i = 0 := by rw [c1]; decide
      have fr : ∀ v : Int32, (v = if M_shelfWhich m i = a2 - 10 then M_shelfSize m i else -13) → wp_M_taken m (nI i) a2 (fun v2 m1 => v = v2 ∧ K x m1) := fun v hv => front P2 v (fun _ => hv) (fun b u => absurd u n1) (fun u => by rcases u with u | u; exact absurd u n0; exact absurd u.1 n1)
      have e10 : a2 - 10 = iI (a2.toInt - 10) := by rw [← iI_sub, iI_of]; rfl
      refine ⟨fun z => fr _ ?_, fun z => ⟨fun z2 => fr _ ?_, fun z2 => fr _ ?_⟩⟩
      · rw [if_neg]
        intro u
        rcases P with P | P
        · rw [c2, e10, ← iI_of (H_rowSort (X_shelves x i))] at u
          have := (iI_eq (i32b _) (by omega)).mp u
          omega
        · exact s1 (P.1.symm.trans z)
      · rw [c2, if_pos z2, c3]
      · rw [c2, if_neg z2]
    · have n2 : ¬ M_shelfHas m i = 2 := by
        rcases hli with ⟨_, b⟩ | ⟨_, b, _⟩ | ⟨b, _⟩
        · rw [b]; decide
        · rw [b]; decide
        · exact absurd b wt
      refine X_on_ok hi r w hli (fun u1 b hb hb8 hw => ?_) (fun u => ?_)
      · have bw := w.2.2.2.2.2.2.2.2 b hb
        have kb := bw.1
        have rb := r.2.2.2.2.2.2 b hb
        have n0 : ¬ M_shelfHas m i = 0 := by rw [u1]; decide
        have inb : 0 ≤ (M_shelfWhich m i).toInt ∧ (M_shelfWhich m i).toInt < e 4 := by rw [hw, nI_toInt (by omega)]; omega
        have fr : ∀ v : Int32, (v = if 10 ≤ a2.toInt then -13 else if (a2.toInt = 0 ∨ e (27 + b) = a2.toInt ∨ (abN (e (27 + b)).toNat : Int) = a2.toInt) then nI b else -13) → wp_M_taken m (nI i) a2 (fun v2 m1 => v = v2 ∧ K x m1) := fun v hv => front P2 v (fun u => absurd u n2) (fun b2 _ hb2 hw2 => by
          have : b2 = b := (nI_eq (by omega) (by omega)).mp (by rw [← hw2, hw])
          subst this
          exact hv) (fun u => by rcases u with u | u; exact absurd u n0; exact absurd inb u.2)
        refine t_le (a := 0) (b := b) rfl rfl (fun _ => ?_) (fun z => by omega)
        refine ⟨fun z => ?_, fun z => ?_⟩
        · have P5 : 0 ≤ a2.toInt ∧ a2.toInt ≤ 5 := by
            rcases P with P | P
            · exact P.2
            · exact (s1 (P.1.symm.trans z)).elim
          refine ⟨vp_in_nI (by omega) (by omega), ?_⟩
          rw [nI_clamp (by omega), rb.1, iI_nat kb.1]
          obtain ⟨p, hp, ha2⟩ : ∃ p : Nat, (p : Int) = a2.toInt ∧ a2 = nI p := ⟨a2.toInt.toNat, by omega, i_nat (by omega)⟩
          have key : wp_X_isUnder (nI (e (27 + b)).toNat) (nI p) (fun v7 => ((v7 = 0) → ((fun v1 x1 => wp_M_taken m (nI i) a2 (fun v2 m1 => v1 = v2 ∧ K x1 m1)) (-13) x)) ∧ ((¬ v7 = 0) → ((fun v1 x1 => wp_M_taken m (nI i) a2 (fun v2 m1 => v1 = v2 ∧ K x1 m1)) (nI b) x))) := by
            refine X_under_ok (by omega) (by omega) (fun u => if1 (fr _ ?_)) (fun u => if0 (fr _ ?_))
            · rw [if_neg (by omega), if_pos (by omega)]
            · rw [if_neg (by omega), if_neg (by omega)]
          rw [← ha2] at key
          exact key
        · refine fr _ ?_
          rcases P with P | P
          · exact absurd P.1 z
          · rw [if_pos P.2.1]
      · refine ifn (by decide) (front P2 _ (fun u2 => absurd u2 n2) (fun b u1 hb hw => ?_) (fun _ => rfl))
        exact absurd ⟨u1, by rw [hw, nI_toInt (by omega)]; omega⟩ u
  have x23 : ∀ s0 : Int32, ((s0 = 0 ∧ ¬ (10 ≤ a2.toInt ∧ a2.toInt ≤ 13)) ∨ (s0 = 1 ∧ (10 ≤ a2.toInt ∧ a2.toInt ≤ 13))) → w_X_taken_23 (fun v1 x1 => wp_M_taken m (nI i) a2 (fun v2 m1 => v1 = v2 ∧ K x1 m1)) x a2 i s0 := by
    intro s0 P
    unfold w_X_taken_23
    refine ifn (by omega) ⟨hi, ?_⟩
    refine X_kindI_ok (fun z => if1 (x43 s0 ?_)) (fun z => if0 ⟨fun u => no (fun v => ?_), fun u => x43 s0 ?_⟩)
    · rcases P with P | P
      · exact Or.inl ⟨P.1, z⟩
      · omega
    · rcases P with P | P
      · rcases v.2 with v | v
        · exact z v
        · exact P.2 v
      · exact absurd (P.1.symm.trans u) (by decide)
    · rcases P with P | P
      · exact absurd P.1 u
      · exact Or.inr P
  refine t_lo (k := 10) rfl (fun u => x23 0 (Or.inl ⟨rfl, by omega⟩)) (fun u => ?_)
  exact t_lt (a := 13) (b := a2.toInt) rfl (iI_of a2).symm (fun u2 => x23 0 (Or.inl ⟨rfl, by omega⟩)) (fun u2 => x23 1 (Or.inr ⟨rfl, by omega⟩)) (by omega) (i32b a2)
/-! ===== act, trace, many ===== -/
def AcR (c : ASt) (tr : Nat → Int32) (tm : Int32) : Prop := A_bodies c = tr ∧ ∃ t : Nat, t ≤ 30 ∧ A_traced c = nI t ∧ tm = nI t
def AcX (x : XSt) (m : MSt) : Prop := AcR (X_acts x) (M_traced m) (M_traceMany m)
theorem mS_0 (m : MSt) : M_isParted_ (M_traceMany_ m 0) 0 = mS (M_who_ m (M_who m)) (M_traced m, 0, false) := by
  unfold mS
  dsimp only [M_who, M_traced, M_who_, M_traceMany_, M_traced_, M_isParted_]
  rfl
theorem mS_w (m : MSt) (v : Int32) : M_who_ (M_isParted_ (M_traceMany_ m 0) 0) v = mS (M_who_ m v) (M_traced m, 0, false) := by
  unfold mS
  dsimp only [M_who, M_traced, M_who_, M_traceMany_, M_traced_, M_isParted_]
  rfl
theorem l_trace {x : XSt} {m : MSt} {a1 a2 a3 a4 : Int32} {K : XSt → MSt → Prop} (ac : AcX x m) (k0 : K x m) : wpl_trace x m a1 a2 a3 a4 K := by
  obtain ⟨r1, t, ht, r2, r3⟩ := ac
  have no : ¬ (0 ≤ a1.toInt ∧ a1.toInt ≤ (t : Int) - 1) → wp_M_trace m a1 (fun v2 m1 => (-3) = v2 ∧ K x m1) := by
    intro P
    unfold wp_M_trace
    exact M_has_ok (z := (t : Int)) (by omega) r3 (fun u => absurd u P) (fun _ => if0 ⟨rfl, k0⟩)
  unfold wpl_trace wp_X_trace
  refine t_lo (k := 0) rfl (fun z => no (by omega)) (fun z => ?_)
  refine t_le (a := t) (b := a1.toInt) r2 (iI_of a1).symm (fun z2 => no (by omega)) (fun z2 => ?_) (by omega) (i32b a1)
  refine t_le (a := 30) (b := a1.toInt) rfl (iI_of a1).symm (fun z3 => no (by omega)) (fun z3 => ?_) (by omega) (i32b a1)
  have v : vp_in a1 30 := by rw [i_nat z]; exact vp_in_nI (by omega) (by omega)
  refine ⟨v, ?_⟩
  unfold wp_M_trace
  refine M_has_ok (z := (t : Int)) (by omega) r3 (fun u => if1 ⟨v, ?_, k0⟩) (fun u => absurd ⟨z, by omega⟩ u)
  rw [r1]
def plN (e : Gh) : Nat → Nat
  | 0 => 0
  | n + 1 => plN e n ||| 2 ^ (e (51 + n)).toNat
theorem pl_ok {h : Int} {e : Gh} (w : Wf h e) : ∀ n : Nat, (n : Int) ≤ e 4 → plI e n = nI (plN e n) ∧ plN e n < 1024 := by
  intro n
  induction n with
  | zero => intro _; exact ⟨rfl, by show (0 : Nat) < 1024; omega⟩
  | succ n ih =>
    intro hn
    obtain ⟨h1, h2⟩ := ih (by omega)
    have bw := (w.2.2.2.2.2.2.2.2 n (by omega)).2.2.2.1
    refine ⟨?_, ?_⟩
    · show plI e n ||| (1 <<< (iI (e (51 + n)) &&& 31)) = nI (plN e n ||| 2 ^ (e (51 + n)).toNat)
      rw [h1, iI_nat bw.1, shl1 _ (by omega), nI_or]
    · show plN e n ||| 2 ^ (e (51 + n)).toNat < 1024
      have : 2 ^ (e (51 + n)).toNat < 2 ^ 10 := Nat.pow_lt_pow_right (by decide) (by omega)
      exact Nat.or_lt_two_pow (n := 10) h2 this
theorem l_many {h : Int} {x : XSt} {m : MSt} {a1 a2 a3 a4 : Int32} {K : XSt → MSt → Prop} (n : Now h x m) (rw0 : RwX x m) (ac : AcX x m) (tp : T_size (X_tape x) = M_taped m) (k0 : K x m) : wpl_many x m a1 a2 a3 a4 K := by
  obtain ⟨e, w, r, s, q, t⟩ := n
  have w4 := w.1
  obtain ⟨⟨k, hk, r1, r2⟩, r3⟩ := rw0
  obtain ⟨c1, tt, ht, c2, c3⟩ := ac
  unfold wpl_many wp_X_many wp_M_many
  refine ⟨fun h0 => ifp h0 ⟨?_, k0⟩, fun h0 => ⟨fun h1 => ?_, fun h1 => ⟨fun h2 => ?_, fun h2 => ⟨fun h3 => ?_, fun h3 => ⟨fun h4 => ?_, fun h4 => ⟨fun h5 => ?_, fun h5 => ⟨fun h6 => ?_, fun h6 => ?_⟩⟩⟩⟩⟩⟩⟩
  · rw [r.2.2.2.1, q 4 (by omega)]
  · have sl := setN_lt (ldB e) (e 4).toNat
    have s8 : 2 ^ (e 4).toNat ≤ 2 ^ 8 := Nat.pow_le_pow_right (by decide) (by omega)
    have sI := setI_N (ldB e) (e 4).toNat (by omega)
    refine C_landedS_ok r w ?_
    rw [sI]
    refine JI_bc (by omega) ?_
    refine ifn h0 (ifp h1 ?_)
    refine M_landedS_ok q w ?_
    rw [sI]
    exact M_bc (by omega) ⟨rfl, k0⟩
  · obtain ⟨p1, p2⟩ := pl_ok w (e 4).toNat (by omega)
    refine C_places_ok r w ?_
    rw [p1]
    refine JI_bc p2 ?_
    refine ifn h0 (ifn h1 (ifp h2 ?_))
    refine M_places_ok q w ?_
    rw [p1]
    exact M_bc p2 ⟨rfl, k0⟩
  · refine C_spoiltL_ok r w ?_
    refine ifn h0 (ifn h1 (ifn h2 (ifp h3 ?_)))
    exact M_spoiltL_ok q w ⟨rfl, k0⟩
  · exact ifn h0 (ifn h1 (ifn h2 (ifn h3 (ifp h4 ⟨by rw [r1, r2], k0⟩))))
  · exact ifn h0 (ifn h1 (ifn h2 (ifn h3 (ifn h4 (ifp h5 ⟨tp, k0⟩)))))
  · exact ifn h0 (ifn h1 (ifn h2 (ifn h3 (ifn h4 (ifn h5 (ifp h6 ⟨by rw [c2, c3], k0⟩))))))
  · exact ifn h0 (ifn h1 (ifn h2 (ifn h3 (ifn h4 (ifn h5 (ifn h6 ⟨rfl, k0⟩))))))
theorem l_act {h : Int} {x : XSt} {m : MSt} {a1 a2 a3 a4 : Int32} {K : XSt → MSt → Prop} (n : Now h x m) (hl : HlX x m) (ac : AcX x m) (hK : ∀ (c : ASt) (v : Int32) (s : TrS), A_bodies c = s.1 → A_traced c = nI s.2.1 → s.2.1 ≤ 30 → K (X_acts_ x c) (mS (M_who_ m v) s)) : wpl_act x m a1 a2 a3 a4 K := by
  obtain ⟨e, w, r, s, q, t⟩ := n
  obtain ⟨c1, tt, ht, c2, c3⟩ := ac
  have w4 := w.1
  have k0 : K (X_acts_ x (A_traced_ (X_acts x) 0)) (M_isParted_ (M_traceMany_ m 0) 0) := by
    rw [mS_0]
    exact hK _ _ _ c1 rfl (by show (0 : Nat) ≤ 30; omega)
  have md : M_d (M_isParted_ (M_traceMany_ m 0) 0) = M_d m := by dsimp only [M_d, M_isParted_, M_traceMany_]
  have mh : M_shelfHas (M_isParted_ (M_traceMany_ m 0) 0) = M_shelfHas m := by dsimp only [M_shelfHas, M_isParted_, M_traceMany_]
  have mw : M_shelfWhich (M_isParted_ (M_traceMany_ m 0) 0) = M_shelfWhich m := by dsimp only [M_shelfWhich, M_isParted_, M_traceMany_]
  have q2 : RelD (M_d (M_isParted_ (M_traceMany_ m 0) 0)) e := by rw [md]; exact q
  unfold wpl_act wp_X_act
  refine X_shelfAt_ok (fun z1 i hi ha => ?_) (fun z1 => ?_)
  rotate_left
  · unfold wp_X_bargeOn
    refine ifp rfl (ifp (by decide) ?_)
    unfold wp_M_act
    exact I_in (a := a1) (lo := 0) (hi := 3) (fun z => absurd z z1) (fun _ => if0 ⟨rfl, k0⟩)
  subst ha
  have vi : vp_in (nI i) 4 := vp_in_nI (by omega) (by omega)
  have hli := hl i hi
  refine X_on_ok (x := X_acts_ x (A_traced_ (X_acts x) 0)) hi r w hli (fun u1 b hb hb8 hw => ?_) (fun u => ?_)
  rotate_left
  · refine ifp (by decide) ?_
    unfold wp_M_act
    refine I_in (a := nI i) (lo := 0) (hi := 3) (fun _ => if1 ?_) (fun _ => if0 ⟨rfl, k0⟩)
    refine I_in (a := a2) (lo := 0) (hi := 3) (fun _ => if1 ?_) (fun _ => if0 ⟨rfl, k0⟩)
    refine M_none_ok hi q2 w (fun _ => if1 ⟨rfl, k0⟩) (fun v0 v1 => if0 ⟨vi, ?_⟩)
    rw [mh] at v0 v1 ⊢
    rw [mw] at v1
    rw [nI_clamp (by omega)]
    refine ⟨fun _ => ⟨rfl, k0⟩, fun v2 => ?_⟩
    have h1 : M_shelfHas m i = 1 := by
      rcases hli with ⟨_, b⟩ | ⟨_, b, _⟩ | ⟨_, b, _⟩
      · exact absurd b v0
      · exact b
      · exact absurd b v2
    exact absurd ⟨h1, v1 h1⟩ u
  have bw := w.2.2.2.2.2.2.2.2 b hb
  have kb := bw.1
  have rb := r.2.2.2.2.2.2 b hb
  refine t_lt (a := b) (b := 0) rfl rfl (fun z => by omega) (fun _ => ?_)
  have no2 : ¬ (0 ≤ a2.toInt ∧ a2.toInt ≤ 3) → wp_M_act m (nI i) a2 a3 (fun v2 m1 => (0 : Int32) = v2 ∧ K (X_acts_ x (A_traced_ (X_acts x) 0)) m1) := by
    intro P
    unfold wp_M_act
    refine I_in (a := nI i) (lo := 0) (hi := 3) (fun _ => if1 ?_) (fun _ => if0 ⟨rfl, k0⟩)
    exact I_in (a := a2) (lo := 0) (hi := 3) (fun z => absurd z P) (fun _ => if0 ⟨rfl, k0⟩)
  refine t_lo (k := 0) rfl (fun z => no2 (by omega)) (fun z => ?_)
  refine t_lo (k := 4) rfl (fun z2 => ?_) (fun z2 => no2 (by omega))
  obtain ⟨j, hj, ha2⟩ : ∃ j : Nat, j < 4 ∧ a2 = nI j := ⟨a2.toInt.toNat, by omega, i_nat (by omega)⟩
  subst ha2
  have vb : vp_in (nI b) 8 := vp_in_nI (by omega) (by omega)
  refine ⟨vb, vb, ?_⟩
  rw [nI_clamp (by omega)]
  have ek : C_kind (X_now (X_acts_ x (A_traced_ (X_acts x) 0))) b = nI (e (27 + b)).toNat := by
    show C_kind (X_now x) b = _
    rw [rb.1, iI_nat kb.1]
  have ea : C_at (X_now (X_acts_ x (A_traced_ (X_acts x) 0))) b = iI (e (51 + b)) := rb.2.2.2.1
  rw [ek, ea]
  have hK6 : (e (27 + b)).toNat < 6 := by omega
  generalize hKd : (e (27 + b)).toNat = kd at hK6
  generalize had : iI (e (51 + b)) = ad
  have s0 : RelA kd (nI b) ad (A_a_ (A_n_ (A_kind_ (A_isParted_ (A_traced_ (A_traced_ (X_acts x) 0) 0) 0) (nI kd)) (nI b)) ad) (M_traced m, 0, false) := ⟨c1, rfl, by show (0 : Nat) ≤ 30; omega, rfl, rfl, rfl, rfl⟩
  have mww : MW (M_who_ m (nI b)) kd (nI b) ad := by
    refine ⟨by dsimp only [M_who, M_who_], fun s1 post hp => ?_, fun s1 post hp => ?_⟩
    · have qq : RelD (M_d (mS (M_who_ m (nI b)) s1)) e := by
        rw [mS_d]
        exact q
      refine M_get_ok (w := 0) (b := b) qq (by omega) (by omega) ?_
      rw [show 27 + 8 * 0 + b = 27 + b by omega, iI_nat kb.1, hKd]
      exact hp
    · have qq : RelD (M_d (mS (M_who_ m (nI b)) s1)) e := by
        rw [mS_d]
        exact q
      refine M_get_ok (w := 3) (b := b) qq (by omega) (by omega) ?_
      rw [show 27 + 8 * 3 + b = 51 + b by omega, had]
      exact hp
  have M : ∀ (v : Int32) (x' : XSt), (∀ (V : Int32) (S : TrS), ((j = 0 ∧ V = FV (nI b) kd a3 ∧ S = FT kd (M_traced m, 0, false)) ∨ (j = 1 ∧ V = SV (nI b) ad kd kd a3 ∧ S = ST kd kd (M_traced m, 0, false)) ∨ (j = 2 ∧ V = PV (nI b) ad kd kd a3 ∧ S = PT (nI b) ad kd kd (M_traced m, 0, false)) ∨ (j = 3 ∧ V = LV (nI b) ad kd kd a3 ∧ S = LT (nI b) ad kd kd (M_traced m, 0, false))) → (v = if S.2.2 = true then -15 else V) ∧ K x' (mS (M_who_ m (nI b)) S)) → wp_M_act m (nI i) (nI j) a3 (fun v2 m1 => v = v2 ∧ K x' m1) := by
    intro v x' hv
    have fin : ∀ (V : Int32) (S : TrS), ((j = 0 ∧ V = FV (nI b) kd a3 ∧ S = FT kd (M_traced m, 0, false)) ∨ (j = 1 ∧ V = SV (nI b) ad kd kd a3 ∧ S = ST kd kd (M_traced m, 0, false)) ∨ (j = 2 ∧ V = PV (nI b) ad kd kd a3 ∧ S = PT (nI b) ad kd kd (M_traced m, 0, false)) ∨ (j = 3 ∧ V = LV (nI b) ad kd kd a3 ∧ S = LT (nI b) ad kd kd (M_traced m, 0, false))) → ((M_isParted (mS (M_who_ m (nI b)) S) = 0) → (v = V ∧ K x' (mS (M_who_ m (nI b)) S))) ∧ ((¬ M_isParted (mS (M_who_ m (nI b)) S) = 0) → (v = -15 ∧ K x' (mS (M_who_ m (nI b)) S))) := by
      intro V S hS
      obtain ⟨v1, v2⟩ := hv V S hS
      rw [mS_ip]
      cases qS : S.2.2 with
      | true =>
        rw [qS] at v1
        exact if1 ⟨v1, v2⟩
      | false =>
        rw [qS] at v1
        exact if0 ⟨v1, v2⟩
    unfold wp_M_act
    refine I_in (a := nI i) (lo := 0) (hi := 3) (fun _ => if1 ?_) (fun u => absurd z1 u)
    refine I_in (a := nI j) (lo := 0) (hi := 3) (fun _ => if1 ?_) (fun u => absurd ⟨z, by show _ ≤ (3 : Int); omega⟩ u)
    have inb : 0 ≤ (M_shelfWhich m i).toInt ∧ (M_shelfWhich m i).toInt < e 4 := by rw [hw, nI_toInt (by omega)]; omega
    refine M_none_ok hi q2 w (fun u => ?_) (fun _ _ => if0 ⟨vi, ?_⟩)
    · rw [mh, mw] at u
      rcases u with u | u
      · exact absurd (u1.symm.trans u) (by decide)
      · exact absurd inb u.2
    rw [mh, mw, nI_clamp (by omega)]
    refine ifn (by rw [u1]; decide) ⟨vi, ?_⟩
    rw [hw, mS_w]
    refine mww.2.1 _ _ ?_
    have t0 : ((M_traced m, 0, false) : TrS).2.1 ≤ 30 := by show (0 : Nat) ≤ 30; omega
    refine ⟨fun j0 => ?_, fun j0 => ⟨fun j1 => ?_, fun j1 => ⟨fun j2 => ?_, fun j2 => ?_⟩⟩⟩
    · have : j = 0 := (nI_eq (a := j) (b := 0) (by omega) (by omega)).mp j0
      exact M_fl_ok mww.1 kd hK6 10 _ a3 _ (by omega) t0 (fin _ _ (Or.inl ⟨this, rfl, rfl⟩))
    · have : j = 1 := (nI_eq (a := j) (b := 1) (by omega) (by omega)).mp j1
      exact M_sl_ok hK6 mww kd hK6 10 _ a3 _ (by omega) t0 (fin _ _ (Or.inr (Or.inl ⟨this, rfl, rfl⟩)))
    · have : j = 2 := (nI_eq (a := j) (b := 2) (by omega) (by omega)).mp j2
      exact M_pa_ok hK6 mww kd hK6 10 _ a3 _ (by omega) t0 (fin _ _ (Or.inr (Or.inr (Or.inl ⟨this, rfl, rfl⟩))))
    · have n0 : ¬ j = 0 := fun u => j0 (by rw [u]; rfl)
      have n1 : ¬ j = 1 := fun u => j1 (by rw [u]; rfl)
      have n2 : ¬ j = 2 := fun u => j2 (by rw [u]; rfl)
      exact M_la_ok hK6 mww kd hK6 10 _ a3 _ (by omega) t0 (fin _ _ (Or.inr (Or.inr (Or.inr ⟨by omega, rfl, rfl⟩))))
  have done : ∀ (V : Int32) (T : TrS → TrS) (v : Int32) (c' : ASt), (∀ (V2 : Int32) (S : TrS), ((j = 0 ∧ V2 = FV (nI b) kd a3 ∧ S = FT kd (M_traced m, 0, false)) ∨ (j = 1 ∧ V2 = SV (nI b) ad kd kd a3 ∧ S = ST kd kd (M_traced m, 0, false)) ∨ (j = 2 ∧ V2 = PV (nI b) ad kd kd a3 ∧ S = PT (nI b) ad kd kd (M_traced m, 0, false)) ∨ (j = 3 ∧ V2 = LV (nI b) ad kd kd a3 ∧ S = LT (nI b) ad kd kd (M_traced m, 0, false))) → V2 = V ∧ S = T (M_traced m, 0, false)) → RelA kd (nI b) ad c' (T (M_traced m, 0, false)) → ((T (M_traced m, 0, false)).2.2 = false → v = V) → (((A_isParted c') = 0) → wp_M_act m (nI i) (nI j) a3 (fun v2 m1 => v = v2 ∧ K (X_acts_ (X_acts_ x (A_traced_ (X_acts x) 0)) c') m1)) ∧ ((¬ (A_isParted c') = 0) → wp_M_act m (nI i) (nI j) a3 (fun v2 m1 => (-15) = v2 ∧ K (X_acts_ (X_acts_ x (A_traced_ (X_acts x) 0)) c') m1)) := by
    intro V T v c' hS ra2 hv
    have ip := ra2.2.2.2.1
    have kk : K (X_acts_ (X_acts_ x (A_traced_ (X_acts x) 0)) c') (mS (M_who_ m (nI b)) (T (M_traced m, 0, false))) := hK c' (nI b) _ ra2.1 ra2.2.1 ra2.2.2.1
    rw [ip]
    cases qT : (T (M_traced m, 0, false)).2.2 with
    | true =>
      refine if1 (M _ _ (fun V2 S h2 => ?_))
      obtain ⟨e1, e2⟩ := hS V2 S h2
      rw [e2, if_pos qT]
      exact ⟨rfl, kk⟩
    | false =>
      refine if0 (M _ _ (fun V2 S h2 => ?_))
      obtain ⟨e1, e2⟩ := hS V2 S h2
      rw [e2, if_neg (by rw [qT]; decide), e1, hv qT]
      exact ⟨rfl, kk⟩
  unfold wp_A_perform
  refine A_bodyOf_ok hK6 hj s0 ?_
  have four : j = 0 ∨ j = 1 ∨ j = 2 ∨ j = 3 := by omega
  rcases four with h | h | h | h
  · have e0 : tbBodies.getD (4 * kd + j) 0 = tbBodies.getD (4 * kd + 0) 0 := by rw [h]
    rw [e0]
    exact (XF hK6).2 40 0 _ _ _ (by omega) (by omega) s0 (fun v c' ra2 hv => done _ _ v c' (fun V2 S h2 => by rcases h2 with h2 | h2 | h2 | h2; exact h2.2; exact absurd h2.1 (by omega); exact absurd h2.1 (by omega); exact absurd h2.1 (by omega)) ra2 hv)
  · have e0 : tbBodies.getD (4 * kd + j) 0 = tbBodies.getD (4 * kd + 1) 0 := by rw [h]
    rw [e0]
    exact (XS hK6).2 40 0 _ _ _ (by omega) (by omega) s0 (fun v c' ra2 hv => done _ _ v c' (fun V2 S h2 => by rcases h2 with h2 | h2 | h2 | h2; exact absurd h2.1 (by omega); exact h2.2; exact absurd h2.1 (by omega); exact absurd h2.1 (by omega)) ra2 hv)
  · have e0 : tbBodies.getD (4 * kd + j) 0 = tbBodies.getD (4 * kd + 2) 0 := by rw [h]
    rw [e0]
    exact (XP hK6).2 40 0 _ _ _ (by omega) (by omega) s0 (fun v c' ra2 hv => done _ _ v c' (fun V2 S h2 => by rcases h2 with h2 | h2 | h2 | h2; exact absurd h2.1 (by omega); exact absurd h2.1 (by omega); exact h2.2; exact absurd h2.1 (by omega)) ra2 hv)
  · have e0 : tbBodies.getD (4 * kd + j) 0 = tbBodies.getD (4 * kd + 3) 0 := by rw [h]
    rw [e0]
    exact (XL hK6).2 40 0 _ _ _ (by omega) (by omega) s0 (fun v c' ra2 hv => done _ _ v c' (fun V2 S h2 => by rcases h2 with h2 | h2 | h2 | h2; exact absurd h2.1 (by omega); exact absurd h2.1 (by omega); exact absurd h2.1 (by omega); exact h2.2) ra2 hv)
