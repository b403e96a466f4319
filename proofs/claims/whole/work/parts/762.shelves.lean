/-! ===== shelves ===== -/
def HlI (c : HSt) (has wh sz : Int32) : Prop := (H_what c = 2 ∧ has = 0) ∨ (H_what c = 0 ∧ has = 1 ∧ wh = H_barge c) ∨ (H_what c = 1 ∧ has = 2 ∧ wh = H_rowSort c ∧ sz = H_rowSize c ∧ 0 ≤ (H_rowSort c).toInt ∧ (H_rowSort c).toInt ≤ 3)
def HlR (sh : Nat → HSt) (has wh sz : Nat → Int32) : Prop := ∀ i, i < 4 → HlI (sh i) (has i) (wh i) (sz i)
def HlX (x : XSt) (m : MSt) : Prop := HlR (X_shelves x) (M_shelfHas m) (M_shelfWhich m) (M_shelfSize m)
theorem X_shelfAt_ok {x : XSt} {a : Int32} {post : Nat → XSt → Prop} (h1 : 0 ≤ a.toInt ∧ a.toInt ≤ 3 → ∀ i, i < 4 → a = nI i → post i x) (h0 : ¬ (0 ≤ a.toInt ∧ a.toInt ≤ 3) → post 4 x) : wp_X_shelfAt x a post := by
  unfold wp_X_shelfAt
  refine t_lo (k := 0) rfl (fun z => h0 (by omega)) (fun z => ?_)
  refine t_le (a := 4) (b := a.toInt) rfl (iI_of a).symm (fun z => h0 (by omega)) (fun z2 => ?_) (by omega) (i32b a)
  have ha := i_nat z
  have q := h1 (by omega) a.toInt.toNat (by omega) ha
  rw [ha, nI_clamp (by omega)]
  exact ⟨vp_in_nI (by omega) (by omega), q⟩
theorem Hl_up {sh : Nat → HSt} {has wh sz : Nat → Int32} {i : Nat} {c : HSt} {a b d : Int32} (h : HlR sh has wh sz) (hc : HlI c a b d) : HlR (va_up sh i c) (upd has i a) (upd wh i b) (upd sz i d) := by
  intro j hj
  by_cases q : j = i
  · subst q
    rw [va_up_self, pk_us, pk_us, pk_us]
    exact hc
  · rw [va_up_ne _ _ q, pk_un q, pk_un q, pk_un q]
    exact h j hj
def mH (m : MSt) (has wh sz : Nat → Int32) : MSt := M_shelfSize_ (M_shelfWhich_ (M_shelfHas_ m has) wh) sz
theorem mH_id (m : MSt) : mH m (M_shelfHas m) (M_shelfWhich m) (M_shelfSize m) = m := by
  unfold mH
  dsimp only [M_shelfHas, M_shelfWhich, M_shelfSize, M_shelfHas_, M_shelfWhich_, M_shelfSize_]
theorem sh_gw (m : MSt) (f : Nat → Int32) : M_shelfWhich (M_shelfHas_ m f) = M_shelfWhich m := by
  dsimp only [M_shelfWhich, M_shelfHas_]
theorem sh_gs (m : MSt) (f : Nat → Int32) : M_shelfSize (M_shelfHas_ m f) = M_shelfSize m := by
  dsimp only [M_shelfSize, M_shelfHas_]
theorem sh_gz (m : MSt) (f : Nat → Int32) : M_sizeOf (M_shelfHas_ m f) = M_sizeOf m := by
  dsimp only [M_sizeOf, M_shelfHas_]
theorem M_sh130 {m : MSt} {i : Nat} {x3 a b : Int32} {p : Int32} {post : Int32 → MSt → Prop} (hi : i < 4) (h0 : p = 0 → post 1 (mH m (upd (M_shelfHas m) i a) (upd (M_shelfWhich m) i b) (upd (M_shelfSize m) i 0))) (h1 : ¬ p = 0 → vp_in x3 4 ∧ post 1 (mH m (upd (M_shelfHas m) i a) (upd (M_shelfWhich m) i b) (upd (M_shelfSize m) i (M_sizeOf m x3.toNatClampNeg)))) : w_M_shelf_130 post (M_shelfHas_ m (upd (M_shelfHas m) i a)) (nI i) x3 p (nI i) b := by
  unfold w_M_shelf_130
  have vi : vp_in (nI i) 4 := vp_in_nI (by omega) (by omega)
  rw [sh_gw, sh_gs, sh_gz, nI_clamp (by omega)]
  exact ⟨vi, fun z => ⟨vi, h0 z⟩, fun z => ⟨(h1 z).1, vi, (h1 z).2⟩⟩
theorem M_shelf_ok {h : Int} {m : MSt} {e : Gh} {i : Nat} {a2 a3 : Int32} {post : Int32 → MSt → Prop} (hi : i < 4) (q : RelD (M_d m) e) (w : Wf h e) (hso : ∀ j, j < 4 → ∃ s : Int, (-1 ≤ s ∧ s ≤ 3) ∧ M_sortOf m j = iI (s + 1))
  (g0 : a2 = 0 → (0 ≤ a3.toInt ∧ a3.toInt < e 4) → post 1 (mH m (upd (M_shelfHas m) i 1) (upd (M_shelfWhich m) i a3) (upd (M_shelfSize m) i 0)))
  (g1 : a2 = 1 → ∀ j, j < 4 → a3 = nI j → M_sortOf m j = 0 → post 1 (mH m (upd (M_shelfHas m) i 0) (upd (M_shelfWhich m) i 0) (upd (M_shelfSize m) i 0)))
  (g2 : a2 = 1 → ∀ j, j < 4 → a3 = nI j → ¬ M_sortOf m j = 0 → post 1 (mH m (upd (M_shelfHas m) i 2) (upd (M_shelfWhich m) i (M_sortOf m j - 1)) (upd (M_shelfSize m) i (M_sizeOf m j))))
  (g3 : a2 = 2 → post 1 (mH m (upd (M_shelfHas m) i 0) (upd (M_shelfWhich m) i 0) (upd (M_shelfSize m) i 0)))
  (g4 : (a2 = 0 ∧ ¬ (0 ≤ a3.toInt ∧ a3.toInt < e 4)) ∨ (a2 = 1 ∧ ¬ (0 ≤ a3.toInt ∧ a3.toInt ≤ 3)) ∨ (¬ a2 = 0 ∧ ¬ a2 = 1 ∧ ¬ a2 = 2) → post (-1) m) : wp_M_shelf m (nI i) a2 a3 post := by
  have vi : vp_in (nI i) 4 := vp_in_nI (by omega) (by omega)
  have bad : ((a2 = 0 ∧ ¬ (0 ≤ a3.toInt ∧ a3.toInt < e 4)) ∨ (a2 = 1 ∧ ¬ (0 ≤ a3.toInt ∧ a3.toInt ≤ 3)) ∨ (¬ a2 = 0 ∧ ¬ a2 = 1 ∧ ¬ a2 = 2)) → w_M_shelf_34 post m (nI i) a2 a3 0 := by
    intro P
    unfold w_M_shelf_34
    exact I_in (a := nI i) (lo := 0) (hi := 3) (fun _ => if1 (if0 (g4 P))) (fun _ => if0 (g4 P))
  have inn : ¬ ((Int64.toInt 0) ≤ (nI i).toInt ∧ (nI i).toInt ≤ Int64.toInt 3) → False := by
    intro z
    refine z ⟨?_, ?_⟩
    · show (0 : Int) ≤ _; rw [nI_toInt (by omega)]; omega
    · show _ ≤ (3 : Int); rw [nI_toInt (by omega)]; omega
  unfold wp_M_shelf
  refine ⟨fun z0 => ?_, fun z0 => ⟨fun z1 => ?_, fun z1 => ⟨fun z2 => ?_, fun z2 => bad (Or.inr (Or.inr ⟨z0, z1, z2⟩))⟩⟩⟩
  · refine M_barge_ok q w (fun u => ?_) (fun u => bad (Or.inl ⟨z0, u⟩))
    unfold w_M_shelf_34
    refine I_in (a := nI i) (lo := 0) (hi := 3) (fun _ => if1 (if1 ?_)) (fun z => (inn z).elim)
    refine ifn (by rw [z0]; decide) ?_
    unfold w_M_shelf_74
    refine ifp z0 ?_
    unfold w_M_shelf_99
    refine ⟨vi, ifp z0 ?_⟩
    rw [nI_clamp (by omega)]
    exact M_sh130 hi (fun _ => g0 z0 u) (fun z => absurd rfl z)
  · refine M_isSheet_ok (fun u => ?_) (fun u => bad (Or.inr (Or.inl ⟨z1, u⟩)))
    obtain ⟨j, hj, ha3⟩ : ∃ j : Nat, j < 4 ∧ a3 = nI j := ⟨a3.toInt.toNat, by omega, i_nat (by omega)⟩
    have vj : vp_in a3 4 := by rw [ha3]; exact vp_in_nI (by omega) (by omega)
    have cj : a3.toNatClampNeg = j := by rw [ha3, nI_clamp (by omega)]
    obtain ⟨s, hs, hs2⟩ := hso j hj
    unfold w_M_shelf_34
    refine I_in (a := nI i) (lo := 0) (hi := 3) (fun _ => if1 (if1 (ifp z1 ⟨vj, ?_⟩))) (fun z => (inn z).elim)
    rw [cj]
    refine t_le (a := s + 1) (b := 0) hs2 rfl (fun u2 => ?_) (fun u2 => ?_)
    · have e0 : M_sortOf m j = 0 := by rw [hs2, show s + 1 = 0 by omega]; rfl
      unfold w_M_shelf_74
      refine ifn z0 (if0 ?_)
      unfold w_M_shelf_99
      refine ⟨vi, ifn z0 (if0 ?_)⟩
      rw [nI_clamp (by omega)]
      exact M_sh130 hi (fun _ => g1 z1 j hj ha3 e0) (fun z => absurd rfl z)
    · have e0 : ¬ M_sortOf m j = 0 := by
        rw [hs2]
        intro z
        have := (iI_eq (a := s + 1) (b := 0) (by omega) (by omega)).mp z
        omega
      unfold w_M_shelf_74
      refine ifn z0 (if1 ?_)
      unfold w_M_shelf_99
      refine ⟨vi, ifn z0 (if1 ⟨vj, ?_⟩)⟩
      intro y hy
      rw [hy, nI_clamp (by omega), cj]
      refine M_sh130 hi (fun z => absurd z (by decide)) (fun _ => ⟨vj, ?_⟩)
      rw [cj]
      exact g2 z1 j hj ha3 e0
  · unfold w_M_shelf_34
    refine I_in (a := nI i) (lo := 0) (hi := 3) (fun _ => if1 (if1 (ifn z1 ?_))) (fun z => (inn z).elim)
    unfold w_M_shelf_74
    refine ifn z0 (if0 ?_)
    unfold w_M_shelf_99
    refine ⟨vi, ifn z0 (if0 ?_)⟩
    rw [nI_clamp (by omega)]
    exact M_sh130 hi (fun _ => g3 z2) (fun z => absurd rfl z)
theorem M_shelf_no {m : MSt} {a1 a2 a3 : Int32} {h : Int} {e : Gh} {post : Int32 → MSt → Prop} (q : RelD (M_d m) e) (w : Wf h e) (z : ¬ (0 ≤ a1.toInt ∧ a1.toInt ≤ 3)) (hp : post (-1) m) : wp_M_shelf m a1 a2 a3 post := by
  have bad : ∀ p, w_M_shelf_34 post m a1 a2 a3 p := by
    intro p
    unfold w_M_shelf_34
    exact I_in (a := a1) (lo := 0) (hi := 3) (fun u => absurd u z) (fun _ => if0 hp)
  unfold wp_M_shelf
  exact ⟨fun _ => M_barge_ok q w (fun _ => bad 1) (fun _ => bad 0), fun _ => ⟨fun _ => M_isSheet_ok (fun _ => bad 1) (fun _ => bad 0), fun _ => ⟨fun _ => bad 1, fun _ => bad 0⟩⟩⟩
theorem l_shelf {h : Int} {x : XSt} {m : MSt} {a1 a2 a3 a4 : Int32} {K : XSt → MSt → Prop} (n : Now h x m) (sr : ShX x m) (hl : HlX x m) (hK : ∀ sh has wh sz, HlR sh has wh sz → K (X_shelves_ x sh) (mH m has wh sz)) : wpl_shelf x m a1 a2 a3 a4 K := by
  have k0 : K x m := by
    have := hK _ _ _ _ hl
    rw [mH_id] at this
    exact this
  obtain ⟨e, w, r, s, q, t⟩ := n
  unfold wpl_shelf wp_X_shelf
  refine X_shelfAt_ok (fun z1 i hi ha => ifn (by omega) ⟨hi, ?_⟩) (fun z1 => ifp rfl (M_shelf_no q w z1 ⟨rfl, k0⟩))
  subst ha
  have hso : ∀ j, j < 4 → ∃ s : Int, (-1 ≤ s ∧ s ≤ 3) ∧ M_sortOf m j = iI (s + 1) := fun j hj => by
    obtain ⟨s0, z, hs, hz, r1, r2, _⟩ := sr j hj
    exact ⟨s0, hs, r2⟩
  have up : ∀ c a b d, HlI c a b d → K (X_shelves_ x (va_up (X_shelves x) i c)) (mH m (upd (M_shelfHas m) i a) (upd (M_shelfWhich m) i b) (upd (M_shelfSize m) i d)) := fun c a b d hc => hK _ _ _ _ (Hl_up hl hc)
  have bad : ((a2 = 0 ∧ ¬ (0 ≤ a3.toInt ∧ a3.toInt < e 4)) ∨ (a2 = 1 ∧ ¬ (0 ≤ a3.toInt ∧ a3.toInt ≤ 3)) ∨ (¬ a2 = 0 ∧ ¬ a2 = 1 ∧ ¬ a2 = 2)) → wp_M_shelf m (nI i) a2 a3 (fun v2 m1 => (-1) = v2 ∧ K x m1) := by
    intro P
    refine M_shelf_ok hi q w hso (fun u1 u2 => ?_) (fun u1 j hj u2 _ => ?_) (fun u1 j hj u2 _ => ?_) (fun u1 => ?_) (fun _ => ⟨rfl, k0⟩)
    · rcases P with P | P | P
      · exact absurd u2 P.2
      · exact absurd (u1.symm.trans P.1) (by decide)
      · exact absurd u1 P.1
    · have u3 : 0 ≤ a3.toInt ∧ a3.toInt ≤ 3 := by rw [u2, nI_toInt (by omega)]; omega
      rcases P with P | P | P
      · exact absurd (u1.symm.trans P.1) (by decide)
      · exact absurd u3 P.2
      · exact absurd u1 P.2.1
    · have u3 : 0 ≤ a3.toInt ∧ a3.toInt ≤ 3 := by rw [u2, nI_toInt (by omega)]; omega
      rcases P with P | P | P
      · exact absurd (u1.symm.trans P.1) (by decide)
      · exact absurd u3 P.2
      · exact absurd u1 P.2.1
    · rcases P with P | P | P
      · exact absurd (u1.symm.trans P.1) (by decide)
      · exact absurd (u1.symm.trans P.1) (by decide)
      · exact absurd u1 P.2.2
  have sh46 : ¬ a2 = 2 → (a2 = 0 → ¬ (0 ≤ a3.toInt ∧ a3.toInt < e 4)) → w_X_shelf_46 (fun v1 x1 => wp_M_shelf m (nI i) a2 a3 (fun v2 m1 => v1 = v2 ∧ K x1 m1)) x a2 a3 i := by
    intro n2 n0
    unfold w_X_shelf_46
    have n1 : ¬ a2 = 1 → wp_M_shelf m (nI i) a2 a3 (fun v2 m1 => (-1) = v2 ∧ K x m1) := by
      intro u
      by_cases u0 : a2 = 0
      · exact bad (Or.inl ⟨u0, n0 u0⟩)
      · exact bad (Or.inr (Or.inr ⟨u0, u, n2⟩))
    refine X_sheetAt_ok (fun z2 j hj ha => ifn (by omega) ⟨hj, fun u => ?_, n1⟩) (fun z2 => ifp rfl ⟨fun u => bad (Or.inr (Or.inl ⟨u, z2⟩)), n1⟩)
    refine ifn (by omega) ⟨hi, ?_⟩
    obtain ⟨s0, z, hs, hz, r1, r2, r3, r4, r5⟩ := sr j hj
    unfold wp_H_holdRow
    have n0' : ¬ a2 = 0 := by rw [u]; decide
    refine t_eq (a := s0) (b := -1) r1 rfl (fun u2 => ?_) (fun u2 => ?_)
    · refine M_shelf_ok hi q w hso (fun u3 => absurd u3 n0') (fun _ j2 hj2 u3 u4 => ⟨rfl, up _ _ _ _ (Or.inl ⟨rfl, rfl⟩)⟩) (fun _ j2 hj2 u3 u4 => ?_) (fun u3 => absurd u3 n2) (fun P => ?_)
      · have : j2 = j := (nI_eq (by omega) (by omega)).mp (by rw [← u3, ha])
        subst this
        exact absurd (by rw [r2, u2]; rfl) u4
      · rcases P with P | P | P
        · exact absurd P.1 n0'
        · exact absurd z2 P.2
        · exact absurd u P.2.1
    · refine M_shelf_ok hi q w hso (fun u3 => absurd u3 n0') (fun _ j2 hj2 u3 u4 => ?_) (fun _ j2 hj2 u3 u4 => ⟨rfl, up _ _ _ _ (Or.inr (Or.inr ⟨rfl, rfl, ?_, ?_, ?_, ?_⟩))⟩) (fun u3 => absurd u3 n2) (fun P => ?_)
      · have : j2 = j := (nI_eq (by omega) (by omega)).mp (by rw [← u3, ha])
        subst this
        rw [r2] at u4
        have := (iI_eq (a := s0 + 1) (b := 0) (by omega) (by omega)).mp u4
        omega
      · have : j2 = j := (nI_eq (by omega) (by omega)).mp (by rw [← u3, ha])
        subst this
        show M_sortOf m j2 - 1 = S_sort (X_sheets x j2)
        rw [r2, r1, show (1 : Int32) = iI 1 from rfl, iI_sub]
        congr 1
        omega
      · have : j2 = j := (nI_eq (by omega) (by omega)).mp (by rw [← u3, ha])
        subst this
        show M_sizeOf m j2 = S_size (X_sheets x j2)
        rw [r3, r4]
      · show 0 ≤ (S_sort (X_sheets x j)).toInt
        rw [r1, iI_toInt (by omega) (by omega)]
        omega
      · show (S_sort (X_sheets x j)).toInt ≤ 3
        rw [r1, iI_toInt (by omega) (by omega)]
        omega
      · rcases P with P | P | P
        · exact absurd P.1 n0'
        · exact absurd z2 P.2
        · exact absurd u P.2.1
  refine ⟨fun u2 => ?_, fun u2 => ⟨fun u0 => ?_, fun u0 => sh46 u2 (fun z => absurd z u0)⟩⟩
  · unfold wp_H_clear
    refine M_shelf_ok hi q w hso (fun u3 => absurd (u2.symm.trans u3) (by decide)) (fun u3 => absurd (u2.symm.trans u3) (by decide)) (fun u3 => absurd (u2.symm.trans u3) (by decide)) (fun _ => ⟨rfl, up _ _ _ _ (Or.inl ⟨rfl, rfl⟩)⟩) (fun P => ?_)
    rcases P with P | P | P
    · exact absurd (u2.symm.trans P.1) (by decide)
    · exact absurd (u2.symm.trans P.1) (by decide)
    · exact absurd u2 P.2.2
  · refine X_barge_ok r w (fun z2 => if1 ?_) (fun z2 => if0 (sh46 u2 (fun _ => z2)))
    unfold wp_H_holdBarge
    refine M_shelf_ok hi q w hso (fun _ _ => ⟨rfl, up _ _ _ _ (Or.inr (Or.inl ⟨rfl, rfl, rfl⟩))⟩) (fun u3 => absurd (u0.symm.trans u3) (by decide)) (fun u3 => absurd (u0.symm.trans u3) (by decide)) (fun u3 => absurd (u0.symm.trans u3) (by decide)) (fun P => ?_)
    rcases P with P | P | P
    · exact absurd z2 P.2
    · exact absurd (u0.symm.trans P.1) (by decide)
    · exact absurd u0 P.1
/-! ===== what lies on a shelf ===== -/
theorem X_on_ok {h : Int} {x : XSt} {e : Gh} {i : Nat} {has wh sz : Int32} {post : Int32 → XSt → Prop} (hi : i < 4) (r : RelC (X_now x) e) (w : Wf h e) (hl : HlI (X_shelves x i) has wh sz) (h1 : has = 1 → ∀ b : Nat, (b : Int) < e 4 → b < 8 → wh = nI b → post (nI b) x) (h0 : ¬ (has = 1 ∧ (0 ≤ wh.toInt ∧ wh.toInt < e 4)) → post (-1) x) : wp_X_bargeOn x i post := by
  unfold wp_X_bargeOn
  refine ifn (by omega) ⟨hi, ?_⟩
  rcases hl with ⟨a, b⟩ | ⟨a, b, c⟩ | ⟨a, b, c⟩
  · exact ifn (by rw [a]; decide) (h0 (fun z => absurd (b.symm.trans z.1) (by decide)))
  · refine ifp a ?_
    rw [← c]
    refine X_barge_ok r w (fun z => if1 ?_) (fun z => if0 (h0 (fun u => z u.2)))
    obtain ⟨n, hb, hb8, ha⟩ := bg_of w z
    rw [← c, ha]
    exact h1 b n hb hb8 ha
  · exact ifn (by rw [a]; decide) (h0 (fun z => absurd (b.symm.trans z.1) (by decide)))
theorem M_none_ok {h : Int} {m : MSt} {e : Gh} {i : Nat} {post : Int32 → MSt → Prop} (hi : i < 4) (q : RelD (M_d m) e) (w : Wf h e) (h1 : M_shelfHas m i = 0 ∨ (M_shelfHas m i = 1 ∧ ¬ (0 ≤ (M_shelfWhich m i).toInt ∧ (M_shelfWhich m i).toInt < e 4)) → post 1 m) (h0 : ¬ M_shelfHas m i = 0 → (M_shelfHas m i = 1 → (0 ≤ (M_shelfWhich m i).toInt ∧ (M_shelfWhich m i).toInt < e 4)) → post 0 m) : wp_M_holdsNothing m (nI i) post := by
  unfold wp_M_holdsNothing
  have vi : vp_in (nI i) 4 := vp_in_nI (by omega) (by omega)
  refine ⟨vi, ?_⟩
  rw [nI_clamp (by omega)]
  refine ⟨fun z => h1 (Or.inl z), fun z => ⟨vi, fun z2 => ⟨vi, ?_⟩, fun z2 => h0 z (fun u => absurd u z2)⟩⟩
  exact M_barge_ok q w (fun z3 => if1 (h0 z (fun _ => z3))) (fun z3 => if0 (h1 (Or.inr ⟨z2, z3⟩)))
theorem X_kindI_ok {a : Int32} {post : Int32 → Prop} (h1 : 0 ≤ a.toInt ∧ a.toInt ≤ 5 → post 1) (h0 : ¬ (0 ≤ a.toInt ∧ a.toInt ≤ 5) → post 0) : wp_X_isKind a post := by
  unfold wp_X_isKind
  refine t_lo (k := 0) rfl (fun z => h0 (by omega)) (fun z => ?_)
  exact t_le (a := 6) (b := a.toInt) rfl (iI_of a).symm (fun z => h0 (by omega)) (fun z => h1 (by omega)) (by omega) (i32b a)
def abN (k : Nat) : Nat := if k = 3 then 1 else if k = 4 then 2 else 0
theorem X_under_ok {k a : Nat} {post : Int32 → Prop} (hk : k < 6) (ha : a < 6) (h1 : a = 0 ∨ k = a ∨ abN k = a → post 1) (h0 : ¬ (a = 0 ∨ k = a ∨ abN k = a) → post 0) : wp_X_isUnder (nI k) (nI a) post := by
  have isk : ∀ (p : Nat) (Q : Int32 → Prop), p < 6 → Q 1 → wp_X_isKind (nI p) Q := fun p Q hp hq => X_kindI_ok (fun _ => hq) (fun z => absurd ⟨by rw [nI_toInt (by omega)]; omega, by rw [nI_toInt (by omega)]; omega⟩ z)
  have u0 : ∀ (n i : Nat), 2 ≤ n → i ≤ 3 → (a = 0 → post 1) → (¬ a = 0 → post 0) → w_X_isUnder_4 post n (nI a) 0 (nI i) := by
    intro n i hn hi g1 g0
    obtain ⟨n, rfl⟩ : ∃ k, n = k + 2 := ⟨n - 2, by omega⟩
    rw [w_X_isUnder_4]
    refine t_le (a := 6) (b := i) rfl rfl (fun z => by omega) (fun _ => ?_)
    refine isk 0 _ (by omega) (if1 ?_)
    refine t_eq (a := 0) (b := a) rfl rfl (fun z => g1 (by omega)) (fun z => ⟨vp_in_nI (n := 0) (by omega) (by omega), fun y hy => ?_⟩)
    rw [hy, nI_1, w_X_isUnder_4]
    refine t_le (a := 6) (b := ((i + 1 : Nat) : Int)) rfl rfl (fun z => by omega) (fun _ => ?_)
    exact X_kindI_ok (fun z => absurd z.1 (by decide)) (fun _ => if0 (g0 (by omega)))
  have u1 : ∀ (p n i : Nat), (p = 1 ∨ p = 2 ∨ p = 5) → 3 ≤ n → i ≤ 2 → (a = 0 ∨ p = a → post 1) → (¬ (a = 0 ∨ p = a) → post 0) → w_X_isUnder_4 post n (nI a) (nI p) (nI i) := by
    intro p n i hp hn hi g1 g0
    obtain ⟨n, rfl⟩ : ∃ k, n = k + 1 := ⟨n - 1, by omega⟩
    rw [w_X_isUnder_4]
    refine t_le (a := 6) (b := i) rfl rfl (fun z => by omega) (fun _ => ?_)
    refine isk p _ (by omega) (if1 ?_)
    refine t_eq (a := p) (b := a) rfl rfl (fun z => g1 (by omega)) (fun z => ⟨vp_in_nI (by omega) (by omega), fun y hy => ?_⟩)
    have e0 : tbAbove.getD (nI p).toNatClampNeg 0 = 0 := by
      rw [nI_clamp (by omega)]
      rcases hp with h | h | h <;> rw [h] <;> rfl
    rw [hy, nI_1, e0]
    exact u0 n (i + 1) (by omega) (by omega) (fun z2 => g1 (Or.inl z2)) (fun z2 => g0 (by omega))
  unfold wp_X_isUnder
  rcases six hk with h | h | h | h | h | h <;> subst h
  · exact u0 2000 0 (by omega) (by omega) (fun z => h1 (Or.inl z)) (fun z => h0 (fun u => by rcases u with u | u | u; exact z u; exact z u.symm; exact z u.symm))
  · exact u1 1 2000 0 (by omega) (by omega) (by omega) (fun z => h1 (by rcases z with z | z; exact Or.inl z; exact Or.inr (Or.inl z))) (fun z => h0 (fun u => by rcases u with u | u | u; exact z (Or.inl u); exact z (Or.inr u); exact z (Or.inl u.symm)))
  · exact u1 2 2000 0 (by omega) (by omega) (by omega) (fun z => h1 (by rcases z with z | z; exact Or.inl z; exact Or.inr (Or.inl z))) (fun z => h0 (fun u => by rcases u with u | u | u; exact z (Or.inl u); exact z (Or.inr u); exact z (Or.inl u.symm)))
  · rw [w_X_isUnder_4]
    refine ifn (by decide) (isk 3 _ (by omega) (if1 ?_))
    refine t_eq (a := 3) (b := a) rfl rfl (fun z => h1 (by omega)) (fun z => ⟨vp_in_nI (n := 3) (by omega) (by omega), fun y hy => ?_⟩)
    rw [hy]
    exact u1 1 1999 1 (by omega) (by omega) (by omega) (fun z2 => h1 (by rcases z2 with z2 | z2; exact Or.inl z2; exact Or.inr (Or.inr z2))) (fun z2 => h0 (fun u => by rcases u with u | u | u; exact z2 (Or.inl u); exact absurd u (by omega); exact z2 (Or.inr u)))
  · rw [w_X_isUnder_4]
    refine ifn (by decide) (isk 4 _ (by omega) (if1 ?_))
    refine t_eq (a := 4) (b := a) rfl rfl (fun z => h1 (by omega)) (fun z => ⟨vp_in_nI (n := 4) (by omega) (by omega), fun y hy => ?_⟩)
    rw [hy]
    exact u1 2 1999 1 (by omega) (by omega) (by omega) (fun z2 => h1 (by rcases z2 with z2 | z2; exact Or.inl z2; exact Or.inr (Or.inr z2))) (fun z2 => h0 (fun u => by rcases u with u | u | u; exact z2 (Or.inl u); exact absurd u (by omega); exact z2 (Or.inr u)))
  · exact u1 5 2000 0 (by omega) (by omega) (by omega) (fun z => h1 (by rcases z with z | z; exact Or.inl z; exact Or.inr (Or.inl z))) (fun z => h0 (fun u => by rcases u with u | u | u; exact z (Or.inl u); exact z (Or.inr u); exact z (Or.inl u.symm)))
