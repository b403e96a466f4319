theorem JA_fill_ok {N : Nat} {f : Nat → Int32} {v : Int32} {post : (Nat → Int32) → Prop} (hN : N < 1999) (hp : ∀ g, (∀ k, k < N → g k = v) → post g) : wp_JA_fill N f v post := by
  have key : ∀ (n i : Nat) (g : Nat → Int32), i ≤ N → N - i < n → (∀ k, k < i → g k = v) → w_JA_fill_5 N post n g v (nI i) (nI N) := by
    intro n
    induction n with
    | zero => intro i g _ hn; omega
    | succ n ih =>
      intro i g hi hn hg
      rw [w_JA_fill_5]
      refine t_le (a := N) (b := i) rfl rfl (fun q => hp g (fun k hk => hg k (by omega))) (fun q => ?_)
      refine ⟨vp_in_nI (by omega) (by omega), fun y hy => ?_⟩
      rw [hy, nI_1, nI_clamp (by omega)]
      refine ih (i + 1) _ (by omega) (by omega) (fun k hk => ?_)
      by_cases z : k = i
      · subst z; exact pk_us
      · rw [pk_un z]; exact hg k (by omega)
  unfold wp_JA_fill
  exact key 2000 0 f (by omega) (by omega) (fun k hk => by omega)
theorem updL_s {f : Nat → Int64} {k : Nat} {v : Int64} : vp_updL f k v k = v := if_pos rfl
theorem updL_n {f : Nat → Int64} {k j : Nat} {v : Int64} (h : j ≠ k) : vp_updL f k v j = f j := if_neg h
theorem M_sheet71 {m : MSt} {i0 : Nat} {post : Int32 → MSt → Prop} (hi : i0 < 4) (it0 : Nat → Int64) (hp : ∀ it, (∀ k, k < 40 → it (40 * i0 + k) = 0) → (∀ j, (j < 40 * i0 ∨ 40 * i0 + 40 ≤ j) → it j = it0 j) → post 1 (M_item_ m it)) : ∀ (n i : Nat) (it : Nat → Int64), i ≤ 40 → 40 - i < n → (∀ k, k < i → it (40 * i0 + k) = 0) → (∀ j, (j < 40 * i0 ∨ 40 * i0 + 40 ≤ j) → it j = it0 j) → w_M_sheet_71 post n (M_item_ m it) (nI i0) (nI i) := by
  intro n
  induction n with
  | zero => intro i it _ hn; omega
  | succ n ih =>
    intro i it hk hn h1 h2
    rw [w_M_sheet_71]
    refine t_le (a := 40) (b := i) rfl rfl (fun q => hp it (fun k hk => h1 k (by omega)) h2) (fun q => ?_)
    intro y7 e7 y8 e8
    have e9 : y8 = nI (40 * i0 + i) := by rw [e8, e7, show (40 : Int32) = nI 40 from rfl, nI_mul, nI_add]
    rw [e9]
    refine ⟨vp_in_nI (by omega) (by omega), fun y hy => ?_⟩
    rw [hy, nI_1, nI_clamp (by omega)]
    refine ih (i + 1) _ (by omega) (by omega) (fun k hk => ?_) (fun j hj => ?_)
    · by_cases z : k = i
      · subst z; exact updL_s
      · rw [show M_item (M_item_ m it) = it from rfl, updL_n (by omega)]; exact h1 k (by omega)
    · rw [show M_item (M_item_ m it) = it from rfl, updL_n (by omega)]; exact h2 j hj
theorem Sh_new {x : XSt} {m : MSt} {i : Nat} {s z : Int} {c : SSt} {it : Nat → Int64} (sr : ShX x m) (hi : i < 4) (hs : -1 ≤ s ∧ s ≤ 3) (hz : 0 ≤ z ∧ z ≤ 40) (c1 : S_sort c = iI s) (c2 : S_size c = iI z) (c3 : ∀ k, k < 40 → it (40 * i + k) = (S_items c k).toInt64) (c4 : ∀ j, (j < 40 * i ∨ 40 * i + 40 ≤ j) → it j = M_item m j) : ShR (va_up (X_sheets x) i c) (upd (M_sortOf m) i (iI (s + 1))) (upd (M_sizeOf m) i (iI z)) it := by
  intro j hj
  by_cases q : j = i
  · subst q
    rw [va_up_self, pk_us, pk_us]
    exact ⟨s, z, hs, hz, c1, rfl, c2, rfl, c3⟩
  · rw [va_up_ne _ _ q, pk_un q, pk_un q]
    obtain ⟨s2, z2, a1, a2, a3, a4, a5, a6, a7⟩ := sr j hj
    exact ⟨s2, z2, a1, a2, a3, a4, a5, a6, fun k hk => by rw [c4 _ (by omega)]; exact a7 k hk⟩
theorem l_sheet {x : XSt} {m : MSt} {a1 a2 a3 a4 : Int32} {K : XSt → MSt → Prop} (sr : ShX x m) (hK : ∀ sh so si it, ShR sh so si it → K (X_sheets_ x sh) (M_item_ (M_sizeOf_ (M_sortOf_ m so) si) it)) : wpl_sheet x m a1 a2 a3 a4 K := by
  have k0 : K x m := hK _ _ _ _ sr
  have no : ¬ ((0 ≤ a1.toInt ∧ a1.toInt ≤ 3) ∧ (-1 ≤ a2.toInt ∧ a2.toInt ≤ 3)) → wp_M_sheet m a1 a2 a3 (fun v2 m1 => (-1) = v2 ∧ K x m1) := by
    intro P
    unfold wp_M_sheet
    refine M_isSheet_ok (fun z1 => if1 ?_) (fun _ => if0 ⟨rfl, k0⟩)
    exact I_in (a := a2) (lo := -1) (hi := 3) (fun z2 => absurd ⟨z1, z2⟩ P) (fun _ => if0 ⟨rfl, k0⟩)
  unfold wpl_sheet wp_X_sheet
  refine X_sheetAt_ok (fun z1 i hi ha => ifn (by omega) ⟨hi, ?_⟩) (fun z1 => ifp rfl (no (fun u => z1 u.1)))
  refine t_lo (k := -1) rfl (fun h1 => no (by omega)) (fun h1 => ?_)
  refine t_hi (k := 3) rfl (fun h2 => ?_) (fun h2 => no (by omega))
  subst ha
  have front : ∀ (v : Int32) (x' : XSt), (a2.toInt = -1 → w_M_sheet_44 (fun v2 m1 => v = v2 ∧ K x' m1) m (nI i) a2 a3) → (0 ≤ a2.toInt → a3.toInt ≤ 40 → 0 ≤ a3.toInt → w_M_sheet_44 (fun v2 m1 => v = v2 ∧ K x' m1) m (nI i) a2 a3) → (0 ≤ a2.toInt → 40 < a3.toInt → v = -1 ∧ K x' m) → (0 ≤ a2.toInt → a3.toInt < 0 → v = -14 ∧ K x' m) → wp_M_sheet m (nI i) a2 a3 (fun v2 m1 => v = v2 ∧ K x' m1) := by
    intro v x' g1 g2 g3 g4
    unfold wp_M_sheet
    refine M_isSheet_ok (fun _ => if1 ?_) (fun u => absurd z1 u)
    refine I_in (a := a2) (lo := -1) (hi := 3) (fun _ => if1 ?_) (fun u => absurd ⟨h1, h2⟩ u)
    refine t_lo (k := 0) rfl (fun u => ?_) (fun u => ?_)
    · exact t_lo (k := 0) rfl (fun _ => g1 (by omega)) (fun u2 => absurd u (by omega))
    · refine t_hi (k := 40) rfl (fun u2 => ?_) (fun u2 => g3 u u2)
      refine t_lo (k := 0) rfl (fun u3 => absurd u (by omega)) (fun _ => ?_)
      exact t_le (a := 0) (b := a3.toInt) rfl (iI_of a3).symm (fun u3 => g2 u u2 u3) (fun u3 => g4 u u3) (by omega) (i32b a3)
  have e2 := iI_of a2
  have e3 := iI_of a3
  have mk : ∀ (s z : Int), s = a2.toInt → (0 ≤ s → z = a3.toInt) → (¬ 0 ≤ s → z = 0) → (0 ≤ z ∧ z ≤ 40) → ∀ g : Nat → Int32, (∀ k, k < 40 → g k = 0) → w_M_sheet_44 (fun v2 m1 => (1 : Int32) = v2 ∧ K (X_sheets_ x (va_up (X_sheets x) i (g, iI s, iI z))) m1) m (nI i) a2 a3 := by
    intro s z hs hz1 hz2 hz g hg
    unfold w_M_sheet_44
    intro y4 h4
    have e4 : y4 = iI (s + 1) := by rw [h4, ← e2, ← hs, show (1 : Int32) = iI 1 from rfl, iI_add]
    have vi : vp_in (nI i) 4 := vp_in_nI (by omega) (by omega)
    have fin : w_M_sheet_71 (fun v2 m1 => (1 : Int32) = v2 ∧ K (X_sheets_ x (va_up (X_sheets x) i (g, iI s, iI z))) m1) 2000 (M_sizeOf_ (M_sortOf_ m (upd (M_sortOf m) i (iI (s + 1)))) (upd (M_sizeOf m) i (iI z))) (nI i) 0 := by
      have fin2 : ∀ it, (∀ k, k < 40 → it (40 * i + k) = 0) → (∀ j, (j < 40 * i ∨ 40 * i + 40 ≤ j) → it j = M_item m j) → K (X_sheets_ x (va_up (X_sheets x) i (g, iI s, iI z))) (M_item_ (M_sizeOf_ (M_sortOf_ m (upd (M_sortOf m) i (iI (s + 1)))) (upd (M_sizeOf m) i (iI z))) it) := by
        intro it f1 f2
        refine hK _ _ _ it (Sh_new sr hi (by omega) hz rfl rfl (fun k hk => ?_) f2)
        rw [f1 k hk]
        show (0 : Int64) = (g k).toInt64
        rw [hg k hk]
        rfl
      have hmi : M_item (M_sizeOf_ (M_sortOf_ m (upd (M_sortOf m) i (iI (s + 1)))) (upd (M_sizeOf m) i (iI z))) = M_item m := rfl
      generalize M_sizeOf_ (M_sortOf_ m (upd (M_sortOf m) i (iI (s + 1)))) (upd (M_sizeOf m) i (iI z)) = m2 at fin2 hmi ⊢
      have hm2 : m2 = M_item_ m2 (M_item m2) := rfl
      rw [hm2]
      exact M_sheet71 (m := m2) hi (M_item m) (fun it f1 f2 => ⟨rfl, fin2 it f1 f2⟩) 2000 0 (M_item m2) (by omega) (by omega) (fun k hk => by omega) (fun j _ => by rw [hmi])
    refine ⟨vi, ?_⟩
    rw [nI_clamp (by omega), e4]
    refine t_le (a := 0) (b := a2.toInt) rfl e2.symm (fun u => ⟨vi, ?_⟩) (fun u => ⟨vi, ?_⟩) (by omega) (i32b a2)
    · rw [← e3, ← hz1 (by omega)]
      exact fin
    · have : z = 0 := hz2 (by omega)
      subst this
      exact fin
  refine t_eq (a := a2.toInt) (b := -1) e2.symm rfl (fun u => ?_) (fun u => ?_) (i32b a2)
  · unfold wp_S_clearTo
    refine JA_fill_ok (by omega) (fun g hg => ?_)
    refine front 1 _ (fun _ => ?_) (fun u2 => absurd u (by omega)) (fun u2 => absurd u (by omega)) (fun u2 => absurd u (by omega))
    exact mk (-1) 0 (by omega) (by omega) (by omega) (by omega) g hg
  · refine t_hi (k := 40) rfl (fun u2 => ?_) (fun u2 => ?_)
    · refine t_le (a := 0) (b := a3.toInt) rfl e3.symm (fun u3 => ?_) (fun u3 => ?_) (by omega) (i32b a3)
      · unfold wp_S_clearTo
        refine JA_fill_ok (by omega) (fun g hg => ?_)
        refine front 1 _ (fun u4 => absurd u4 u) (fun _ _ _ => ?_) (fun _ u4 => absurd u2 (by omega)) (fun _ u4 => absurd u3 (by omega))
        have := mk a2.toInt a3.toInt rfl (fun _ => rfl) (by omega) ⟨u3, u2⟩ g hg
        rw [e2, e3] at this
        exact this
      · exact front (-14) x (fun u4 => absurd u4 u) (fun _ _ u4 => absurd u3 (by omega)) (fun _ u4 => absurd u3 (by omega)) (fun _ _ => ⟨rfl, k0⟩)
    · exact front (-1) x (fun u4 => absurd u4 u) (fun _ u4 _ => absurd u2 (by omega)) (fun _ _ => ⟨rfl, k0⟩) (fun _ u4 => absurd u2 (by omega))
theorem S_has_ok {c : SSt} {z : Int} {a : Int32} {post : Int32 → SSt → Prop} (hz : 0 ≤ z ∧ z ≤ 40) (rz : S_size c = iI z) (h1 : 0 ≤ a.toInt ∧ a.toInt ≤ z - 1 → post 1 c) (h0 : ¬ (0 ≤ a.toInt ∧ a.toInt ≤ z - 1) → post 0 c) : wp_S_hasItem c a post := by
  unfold wp_S_hasItem
  refine t_lo (k := 0) rfl (fun u => h0 (by omega)) (fun u => ?_)
  refine t_le (a := z) (b := a.toInt) rz (iI_of a).symm (fun u2 => h0 (by omega)) (fun u2 => ?_) (by omega) (i32b a)
  exact t_le (a := 40) (b := a.toInt) rfl (iI_of a).symm (fun u3 => h0 (by omega)) (fun u3 => h1 (by omega)) (by omega) (i32b a)
theorem M_has_ok {sz : Int32} {z : Int} {a : Int32} {post : Int32 → Prop} (hz : 0 ≤ z ∧ z ≤ 40) (rz : sz = iI z) (h1 : 0 ≤ a.toInt ∧ a.toInt ≤ z - 1 → post 1) (h0 : ¬ (0 ≤ a.toInt ∧ a.toInt ≤ z - 1) → post 0) : ∀ y3 : Int64, y3 = a.toInt64 → ∀ y5 : Int64, y5 = (sz - 1).toInt64 → wp_M_in y3 0 y5 post := by
  intro y3 h3 y5 h5
  have e5 : y5.toInt = z - 1 := by
    rw [h5, Int32.toInt_toInt64, rz, show (1 : Int32) = iI 1 from rfl, iI_sub, iI_toInt (by omega) (by omega)]
  refine I_in (a := a) (lo := 0) (hi := y5) (fun u => h1 ?_) (fun u => h0 ?_) y3 h3
  · rw [e5] at u; exact u
  · rw [e5] at u; exact u
theorem l_item {x : XSt} {m : MSt} {a1 a2 a3 a4 : Int32} {K : XSt → MSt → Prop} (sr : ShX x m) (k0 : K x m) : wpl_item x m a1 a2 a3 a4 K := by
  have no : ¬ ((0 ≤ a1.toInt ∧ a1.toInt ≤ 3) ∧ (0 ≤ a2.toInt ∧ a2.toInt ≤ 3)) → wp_M_item m a1 a2 a3 (fun v2 m1 => (-1) = v2 ∧ K x m1) := by
    intro P
    unfold wp_M_item
    refine M_isSheet_ok (fun z1 => if1 ?_) (fun _ => if0 ⟨rfl, k0⟩)
    exact I_in (a := a2) (lo := 0) (hi := 3) (fun z2 => absurd ⟨z1, z2⟩ P) (fun _ => if0 ⟨rfl, k0⟩)
  unfold wpl_item wp_X_item
  refine X_sheetAt_ok (fun z1 i hi ha => ifn (by omega) ⟨hi, ?_⟩) (fun z1 => ifp rfl (no (fun u => z1 u.1)))
  refine t_lo (k := 0) rfl (fun h1 => no (by omega)) (fun h1 => ?_)
  refine t_hi (k := 3) rfl (fun h2 => ?_) (fun h2 => no (by omega))
  subst ha
  obtain ⟨s0, z, hs, hz, r1, r2, r3, r4, r5⟩ := sr i hi
  have vi : vp_in (nI i) 4 := vp_in_nI (by omega) (by omega)
  have front : ∀ (v : Int32), (s0 = -1 → v = -11) → (¬ s0 = -1 → ¬ s0 = a2.toInt → v = -13) → (s0 = a2.toInt → ¬ (0 ≤ a3.toInt ∧ a3.toInt ≤ z - 1) → v = -12) → (s0 = a2.toInt → (0 ≤ a3.toInt ∧ a3.toInt ≤ z - 1) → v = S_items (X_sheets x i) a3.toInt.toNat) → wp_M_item m (nI i) a2 a3 (fun v2 m1 => v = v2 ∧ K x m1) := by
    intro v g1 g2 g3 g4
    unfold wp_M_item
    refine M_isSheet_ok (fun _ => if1 ?_) (fun u => absurd z1 u)
    refine I_in (a := a2) (lo := 0) (hi := 3) (fun _ => if1 ?_) (fun u => absurd ⟨h1, h2⟩ u)
    refine ⟨vi, ?_⟩
    rw [nI_clamp (by omega)]
    refine t_eq (a := s0 + 1) (b := 0) r2 rfl (fun u => ⟨g1 (by omega), k0⟩) (fun u => ⟨vi, ?_⟩)
    have ea : a2 + 1 = iI (a2.toInt + 1) := by rw [← iI_add, iI_of]; rfl
    refine t_eq (a := s0 + 1) (b := a2.toInt + 1) r2 ea (fun u2 => ?_) (fun u2 => ⟨g2 (by omega) (by omega), k0⟩)
    intro y6 h6
    refine ⟨vi, ?_⟩
    intro y8 h8
    refine M_has_ok hz r4 (fun u3 => if1 ?_) (fun u3 => if0 ⟨g3 (by omega) u3, k0⟩) y6 h6 y8 h8
    intro y10 h10 y11 h11
    have e9 : y11 = nI (40 * i + a3.toInt.toNat) := by rw [h11, h10, show (40 : Int32) = nI 40 from rfl, nI_mul, i_nat u3.1, nI_add, nI_toInt (by omega)]; rfl
    rw [e9]
    refine ⟨vp_in_nI (by omega) (by omega), fun y13 h13 => ⟨?_, k0⟩⟩
    rw [h13, nI_clamp (by omega), r5 _ (by omega), Int32.toInt32_toInt64]
    exact g4 (by omega) u3
  refine t_eq (a := s0) (b := -1) r1 rfl (fun u => ?_) (fun u => ?_)
  · exact front (-11) (fun _ => rfl) (fun u2 => absurd u u2) (fun u2 => by omega) (fun u2 => by omega)
  refine t_eq (a := s0) (b := a2.toInt) r1 (iI_of a2).symm (fun u2 => ?_) (fun u2 => ?_) (by omega) (i32b a2)
  · refine S_has_ok hz r3 (fun u3 => if1 ?_) (fun u3 => if0 ?_)
    · obtain ⟨N, hN, ha3⟩ : ∃ N : Nat, (N : Int) ≤ z - 1 ∧ a3 = nI N := ⟨a3.toInt.toNat, by omega, i_nat u3.1⟩
      refine ⟨by rw [ha3]; exact vp_in_nI (by omega) (by omega), ?_⟩
      rw [va_up_id]
      refine front _ (fun u4 => absurd u4 u) (fun _ u4 => absurd u2 u4) (fun _ u4 => absurd u3 u4) (fun _ _ => ?_)
      rw [ha3, nI_clamp (by omega), nI_toInt (by omega)]
      rfl
    · rw [va_up_id]
      exact front (-12) (fun u4 => absurd u4 u) (fun _ u4 => absurd u2 u4) (fun _ _ => rfl) (fun _ u4 => absurd u4 u3)
  · exact front (-13) (fun u4 => absurd u4 u) (fun _ _ => rfl) (fun u4 => absurd u4 u2) (fun u4 => absurd u4 u2)
theorem l_put {x : XSt} {m : MSt} {a1 a2 a3 a4 : Int32} {K : XSt → MSt → Prop} (sr : ShX x m) (hK : ∀ sh so si it, ShR sh so si it → K (X_sheets_ x sh) (M_item_ (M_sizeOf_ (M_sortOf_ m so) si) it)) : wpl_put x m a1 a2 a3 a4 K := by
  have k0 : K x m := hK _ _ _ _ sr
  have no : ¬ (0 ≤ a1.toInt ∧ a1.toInt ≤ 3) → wp_M_put m a1 a2 a3 (fun v2 m1 => (-1) = v2 ∧ K x m1) := by
    intro P
    unfold wp_M_put
    exact M_isSheet_ok (fun z1 => absurd z1 P) (fun _ => if0 ⟨rfl, k0⟩)
  unfold wpl_put wp_X_put
  refine X_sheetAt_ok (fun z1 i hi ha => ifn (by omega) ⟨hi, ?_⟩) (fun z1 => ifp rfl (no z1))
  subst ha
  obtain ⟨s0, z, hs, hz, r1, r2, r3, r4, r5⟩ := sr i hi
  have vi : vp_in (nI i) 4 := vp_in_nI (by omega) (by omega)
  have nw : ∀ v : Int32, (0 ≤ a2.toInt ∧ a2.toInt ≤ z - 1) → K (X_sheets_ x (va_up (X_sheets x) i (S_items_ (X_sheets x i) (upd (S_items (X_sheets x i)) a2.toInt.toNat v)))) (M_item_ m (vp_updL (M_item m) (40 * i + a2.toInt.toNat) v.toInt64)) := by
    intro v u
    have q := Sh_new (s := s0) (z := z) (c := S_items_ (X_sheets x i) (upd (S_items (X_sheets x i)) a2.toInt.toNat v)) (it := vp_updL (M_item m) (40 * i + a2.toInt.toNat) v.toInt64) sr hi hs hz r1 r3 (fun k hk => ?_) (fun j hj => ?_)
    · have i1 : upd (M_sortOf m) i (iI (s0 + 1)) = M_sortOf m := by
        rw [← r2]; funext j; unfold upd; split
        · subst_vars; rfl
        · rfl
      have i2 : upd (M_sizeOf m) i (iI z) = M_sizeOf m := by
        rw [← r4]; funext j; unfold upd; split
        · subst_vars; rfl
        · rfl
      rw [i1, i2] at q
      exact hK _ _ _ _ q
    · by_cases e1 : k = a2.toInt.toNat
      · subst e1
        rw [updL_s]
        show v.toInt64 = (upd (S_items (X_sheets x i)) a2.toInt.toNat v a2.toInt.toNat).toInt64
        rw [pk_us]
      · rw [updL_n (by omega), r5 k hk]
        show _ = (upd (S_items (X_sheets x i)) a2.toInt.toNat v k).toInt64
        rw [pk_un e1]
    · exact updL_n (by omega)
  have front : ∀ (v : Int32) (x' : XSt), (s0 = -1 → v = -11 ∧ K x' m) → (¬ s0 = -1 → ¬ (0 ≤ a2.toInt ∧ a2.toInt ≤ z - 1) → v = -12 ∧ K x' m) → (¬ s0 = -1 → (0 ≤ a2.toInt ∧ a2.toInt ≤ z - 1) → ∀ w : Int32, (w = if s0 = 0 then a3.toInt8.toInt32 else if s0 = 1 then a3.toInt16.toInt32 else a3) → v = 1 ∧ K x' (M_item_ m (vp_updL (M_item m) (40 * i + a2.toInt.toNat) w.toInt64))) → wp_M_put m (nI i) a2 a3 (fun v2 m1 => v = v2 ∧ K x' m1) := by
    intro v x' g1 g2 g3
    unfold wp_M_put
    refine M_isSheet_ok (fun _ => if1 ?_) (fun u => absurd z1 u)
    refine ⟨vi, ?_⟩
    rw [nI_clamp (by omega)]
    refine t_eq (a := s0 + 1) (b := 0) r2 rfl (fun u => g1 (by omega)) (fun u => ?_)
    intro y3 h3
    refine ⟨vi, ?_⟩
    intro y5 h5
    refine M_has_ok hz r4 (fun u3 => if1 ?_) (fun u3 => if0 (g2 (by omega) u3)) y3 h3 y5 h5
    intro y7 h7 y8 h8
    have e9 : y8 = nI (40 * i + a2.toInt.toNat) := by rw [h8, h7, show (40 : Int32) = nI 40 from rfl, nI_mul, i_nat u3.1, nI_add, nI_toInt (by omega)]; rfl
    have v8 : vp_in y8 160 := by rw [e9]; exact vp_in_nI (by omega) (by omega)
    have c8 : y8.toNatClampNeg = 40 * i + a2.toInt.toNat := by rw [e9, nI_clamp (by omega)]
    rw [c8]
    refine ⟨vi, ?_⟩
    refine t_eq (a := s0 + 1) (b := 1) r2 rfl (fun u4 => ?_) (fun u4 => ⟨vi, ?_⟩)
    · intro y hy
      refine ⟨v8, ?_⟩
      rw [hy]
      exact g3 (by omega) u3 _ (by rw [if_pos (by omega)])
    refine t_eq (a := s0 + 1) (b := 2) r2 rfl (fun u5 => ?_) (fun u5 => ?_)
    · intro y hy
      refine ⟨v8, ?_⟩
      rw [hy]
      exact g3 (by omega) u3 _ (by rw [if_neg (by omega), if_pos (by omega)])
    · intro y hy
      refine ⟨v8, ?_⟩
      rw [hy]
      exact g3 (by omega) u3 _ (by rw [if_neg (by omega), if_neg (by omega)])
  refine t_eq (a := s0) (b := -1) r1 rfl (fun u => ?_) (fun u => ?_)
  · exact front (-11) x (fun _ => ⟨rfl, k0⟩) (fun u2 => absurd u u2) (fun u2 => absurd u u2)
  refine S_has_ok hz r3 (fun u3 => if1 ?_) (fun u3 => if0 ?_)
  · obtain ⟨N, hN, ha2⟩ : ∃ N : Nat, (N : Int) ≤ z - 1 ∧ a2 = nI N := ⟨a2.toInt.toNat, by omega, i_nat u3.1⟩
    have fin : ∀ w : Int32, (w = if s0 = 0 then a3.toInt8.toInt32 else if s0 = 1 then a3.toInt16.toInt32 else a3) → vp_in a2 40 ∧ wp_M_put m (nI i) a2 a3 (fun v2 m1 => (1 : Int32) = v2 ∧ K (X_sheets_ x (va_up (X_sheets x) i (S_items_ (X_sheets x i) (upd (S_items (X_sheets x i)) a2.toNatClampNeg w)))) m1) := by
      intro w hw
      refine ⟨by rw [ha2]; exact vp_in_nI (by omega) (by omega), ?_⟩
      have ec : a2.toNatClampNeg = a2.toInt.toNat := by rw [ha2, nI_clamp (by omega), nI_toInt (by omega)]; rfl
      rw [ec]
      refine front 1 _ (fun u4 => absurd u4 u) (fun _ u4 => absurd u3 u4) (fun _ _ w2 hw2 => ⟨rfl, ?_⟩)
      rw [hw2, ← hw]
      exact nw w u3
    unfold wp_S_narrowed
    simp only [va_up_id, X_sh_id]
    refine t_eq (a := s0) (b := 0) r1 rfl (fun u4 => ?_) (fun u4 => ?_)
    · exact fin _ (by rw [if_pos u4])
    refine t_eq (a := s0) (b := 1) r1 rfl (fun u5 => ?_) (fun u5 => ?_)
    · exact fin _ (by rw [if_neg u4, if_pos u5])
    · exact fin _ (by rw [if_neg u4, if_neg u5])
  · rw [va_up_id]
    exact front (-12) x (fun u4 => absurd u4 u) (fun _ _ => ⟨rfl, k0⟩) (fun _ u4 => absurd u4 u3)
