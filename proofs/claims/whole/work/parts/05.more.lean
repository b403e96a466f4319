section GMORE
variable {X : GX} {cc : ByteArray} {own : String} {n : Nat} {R : Room} {k z : Nat} {ws ws' : va_W} {lv lv' : List (Nat × Value)} {st st' : List Value} {pc tgt : Nat} {off : Int}
theorem g_re (h1 : lv = lv') (h2 : st = st') (h : G X k z ws lv' st' pc) : G X k z ws lv st pc := h1 ▸ h2 ▸ h
theorem g_st (h2 : st = st') (h : G X k z ws lv st' pc) : G X k z ws lv st pc := h2 ▸ h
theorem g_topi {x : Int32} (h : ∀ y : Int32, y = x → G X k z ws lv (.int y :: st) pc) : G X k z ws lv (.int x :: st) pc := h x rfl
theorem g_topl {x : Int64} (h : ∀ y : Int64, y = x → G X k z ws lv (.long y :: st) pc) : G X k z ws lv (.long x :: st) pc := h x rfl
theorem rm_s (e : Nat) {L : Nat} (h : L ≤ 21) : (rmd e).frames + 1 ≤ (rmd (e + 1)).frames ∧ 8 + (L + 11) + (rmd e).locals ≤ (rmd (e + 1)).locals := by simp only [rmd]; omega
theorem rm_o {v e L : Nat} (hv : v ≤ e) (h : L ≤ 21) : (rmd v).frames + 1 ≤ (rmd (e + 1)).frames ∧ 8 + (L + 11) + (rmd v).locals ≤ (rmd (e + 1)).locals := by simp only [rmd]; omega
theorem q4 {j : Nat} (h : j < 4) : j = 0 ∨ j = 1 ∨ j = 2 ∨ j = 3 := by omega
theorem vp_lt {i : Int32} {N : Nat} (h : vp_in i N) : i.toNatClampNeg < N := Nat.lt_of_not_le (fun h1 => h (Or.inr h1))
theorem rfS_or (a : Nat → Nat) (j : Nat) : rfS a j = .null ∨ ∃ b, rfS a j = .ref b := by unfold rfS; split <;> simp
theorem rfH_or (a : Nat → Nat) (j : Nat) : rfH a j = .null ∨ ∃ b, rfH a j = .ref b := by unfold rfH; split <;> simp
theorem g_ldcS (C : GC X cc own n R) {i : Nat} (d : decode cc pc = .ok (.ldc i, 2)) (j : Nat) (hj : (txAt[j]?).map Prod.fst = some i) (ho : own = "SilenceCanal$Text" := by rfl) (h : G X k z ws lv (.ref (vaK (xv X) j) :: st) (pc + 2)) : G X k z ws lv st pc := by
  intro H locs ls hP hD hS hl
  cases hq : txAt[j]? with
  | none => rw [hq] at hj; cases hj
  | some q =>
    rw [hq] at hj
    have e : q.1 = i := Option.some.inj hj
    subst e
    subst ho
    exact va_ldcS C.1 C.2.1 C.2.2.2.1 (C.2.2.2.2.2.2.2.1.2.2.2.2.2.2.2.1 j q hq) d (h H locs ls hP hD hS hl)
theorem tw_math : Cond.initialized "java/lang/Math" ∈ TB ∧ Cond.static Lib.Math.min.name ∈ TB ∧ Cond.code Lib.Math.min.name Lib.Math.min.code 2 (some .int) ∈ TB ∧ Cond.static Lib.Math.max.name ∈ TB ∧ Cond.code Lib.Math.max.name Lib.Math.max.code 2 (some .int) ∈ TB := ⟨tb_w 14 (by decide +kernel) (by decide +kernel), tb_w 484 (by decide +kernel) (by decide +kernel), tb_w 485 (by decide +kernel) (by decide +kernel), tb_w 587 (by decide +kernel) (by decide +kernel), tb_w 588 (by decide +kernel) (by decide +kernel)⟩
theorem tw_copy : Cond.native arraycopyName ∈ TB ∧ Cond.static arraycopyName ∈ TB ∧ Cond.initialized "java/lang/System" ∈ TB := ⟨tb_w 34 (by decide +kernel) (by decide +kernel), tb_w 33 (by decide +kernel) (by decide +kernel), tb_w 3 (by decide +kernel) (by decide +kernel)⟩
theorem g_mmin (C : GC X cc own n R) {i : Nat} {x y : Int32} (hlk : Cond.methodLink own i Lib.Math.min.name ∈ TB) (hR : 1 ≤ R.frames ∧ 21 ≤ R.locals) (d : decode cc pc = .ok (.invokestatic i, 3)) (hr : (st.map fun v => v.category).sum ≤ 8) (hc : k ≤ R.cells ∧ z ≤ R.slots) (h : G X k z ws lv (.int (if y < x then y else x) :: st) (pc + 3)) : G X k z ws lv (.int y :: .int x :: st) pc := by
  intro H locs ls hP hD hS hl
  have eR := C.2.2.2.2.2.2.2.2.2.2
  exact va_mmin C.1 C.2.1 (C.2.2.1.trans hl.1.symm) C.2.2.2.1 (C.2.2.2.2.1 _ hlk) (C.2.2.2.2.1 _ tw_math.2.1) (C.2.2.2.2.1 _ tw_math.1) (C.2.2.2.2.1 _ tw_math.2.2.1) (by rw [eR]; exact hR.1) (by rw [eR]; omega) (by rw [eR]; exact hc.1) (by rw [eR]; exact hc.2) d (h H locs ls hP hD hS hl)
theorem g_mmax (C : GC X cc own n R) {i : Nat} {x y : Int32} (hlk : Cond.methodLink own i Lib.Math.max.name ∈ TB) (hR : 1 ≤ R.frames ∧ 21 ≤ R.locals) (d : decode cc pc = .ok (.invokestatic i, 3)) (hr : (st.map fun v => v.category).sum ≤ 8) (hc : k ≤ R.cells ∧ z ≤ R.slots) (h : G X k z ws lv (.int (if x < y then y else x) :: st) (pc + 3)) : G X k z ws lv (.int y :: .int x :: st) pc := by
  intro H locs ls hP hD hS hl
  have eR := C.2.2.2.2.2.2.2.2.2.2
  exact va_mmax C.1 C.2.1 (C.2.2.1.trans hl.1.symm) C.2.2.2.1 (C.2.2.2.2.1 _ hlk) (C.2.2.2.2.1 _ tw_math.2.2.2.1) (C.2.2.2.2.1 _ tw_math.1) (C.2.2.2.2.1 _ tw_math.2.2.2.2) (by rw [eR]; exact hR.1) (by rw [eR]; omega) (by rw [eR]; exact hc.1) (by rw [eR]; exact hc.2) d (h H locs ls hP hD hS hl)
theorem g_copyi (C : GC X cc own n R) (q0 q1 : Nat) {a0 a1 n0 n1 i : Nat} {f g : Nat → Int32} {sp dp m : Int32} {s0 d0 m0 : Nat} (hlk : Cond.methodLink own i arraycopyName ∈ TB) (d : decode cc pc = .ok (.invokestatic i, 3)) (ha0 : ws[q0]? = some (a0, .inl (xt X 2, n0, .inl f))) (ha1 : ws[q1]? = some (a1, .inl (xt X 2, n1, .inl g)))
    (hc : ¬ sp < 0 ∧ ¬ dp < 0 ∧ ¬ m < 0 ∧ sp.toNatClampNeg = s0 ∧ dp.toNatClampNeg = d0 ∧ m.toNatClampNeg = m0) (hb : s0 + m0 ≤ n0 ∧ d0 + m0 ≤ n1) (hR : 1 ≤ R.frames ∧ 40 ≤ R.locals) (hst : (st.map fun v => v.category).sum ≤ 8) (hw : ws.set q1 (a1, .inl (xt X 2, n1, .inl (va_cpy f g s0 d0 m0))) = ws') (h : G X k z ws' lv st (pc + 3)) : G X k z ws lv (.int m :: .int dp :: .ref a1 :: .int sp :: .ref a0 :: st) pc := by
  intro H locs ls hP hD hS hl
  obtain ⟨h1, h2, h3, rfl, rfl, rfl⟩ := hc
  have eR := C.2.2.2.2.2.2.2.2.2.2
  have hnf : nativeFrameWords "java/lang/System" "arraycopy" 5 + 11 ≤ 32 := by decide
  exact va_copyi C.1 C.2.1 (C.2.2.1.trans hl.1.symm) C.2.2.2.1 (C.2.2.2.2.1 _ hlk) (C.2.2.2.2.1 _ tw_copy.1) (C.2.2.2.2.1 _ tw_copy.2.1) (C.2.2.2.2.1 _ tw_copy.2.2) C.2.2.2.2.2.1 hP hD hS q0 q1 2 2 ha0 ha1 rfl rfl rfl h1 h2 h3 hb.1 hb.2 (fun _ _ => rfl) (by rw [eR]; exact hR.1) (by rw [eR]; omega) d (fun H1 locs1 p1 d1 s1 => h H1 locs1 ls (hw ▸ p1) (hw ▸ d1) s1 hl)

/-- System.arraycopy out of a static row of ints -/
theorem g_copyt (C : GC X cc own n R) {f : String} {a0 n0 : Nat} {ys : List Int32} (he : E_st f a0 n0 ys (xA X) (xs X) (xs X).heap) (q1 : Nat) {a1 n1 i : Nat} {g : Nat → Int32} {sp dp m : Int32} {s0 d0 m0 : Nat} (hlk : Cond.methodLink own i arraycopyName ∈ TB) (d : decode cc pc = .ok (.invokestatic i, 3)) (ha1 : ws[q1]? = some (a1, .inl (xt X 2, n1, .inl g)))
    (hc : ¬ sp < 0 ∧ ¬ dp < 0 ∧ ¬ m < 0 ∧ sp.toNatClampNeg = s0 ∧ dp.toNatClampNeg = d0 ∧ m.toNatClampNeg = m0) (hbd : s0 + m0 ≤ n0 ∧ d0 + m0 ≤ n1) (hR : 1 ≤ R.frames ∧ 40 ≤ R.locals) (hst : (st.map fun v => v.category).sum ≤ 8) (hw : ws.set q1 (a1, .inl (xt X 2, n1, .inl (va_cpy (fun j => ys.getD j 0) g s0 d0 m0))) = ws') (h : G X k z ws' lv st (pc + 3)) : G X k z ws lv (.int m :: .int dp :: .ref a1 :: .int sp :: .ref a0 :: st) pc := by
  intro H locs ls hP hD hS hl T hT S
  obtain ⟨h1, h2, h3, rfl, rfl, rfl⟩ := hc
  have eR := C.2.2.2.2.2.2.2.2.2.2
  have hnf : nativeFrameWords "java/lang/System" "arraycopy" 5 + 11 ≤ 32 := by decide
  have nn : ∀ x : Int32, ¬ x < 0 → x.toInt = (x.toNatClampNeg : Int) := fun x hx => by
    have h0 : 0 ≤ x.toInt := by
      rcases Int.lt_or_le x.toInt 0 with u | u
      · exact absurd (Int32.lt_iff_toInt_lt.mpr (by simpa using u)) hx
      · exact u
    show x.toInt = (x.toInt.toNat : Int)
    omega
  obtain ⟨-, src, e1, ⟨e2, c0, k0, m0, o0⟩, e3, e4, -, e5, e6⟩ := he
  have g0 : H[a0]? = some src := by rw [hS.2.1 a0 (Array.getElem?_eq_some_iff.mp e1).1 e6]; exact e1
  have g1 : H[a1]? = some (vp_cell (xt X 2) (n1, .inl g)) := hP q1 _ ha1
  obtain ⟨-, c1, k1, m1, o1⟩ := (C.2.2.2.2.2.1.2 2 _ rfl).1 n1 (fun j => .int (g j))
  obtain ⟨vm', S', step⟩ := S.arraycopy C.1 C.2.2.2.1 (C.2.2.2.2.1 _ hlk) (C.2.2.2.2.1 _ tw_copy.1) (C.2.2.2.2.1 _ tw_copy.2.1) (C.2.2.2.2.1 _ tw_copy.2.2) (src := a0) (dst := a1) (cs := src) (cd := vp_cell (xt X 2) (n1, .inl g)) (srcPos := sp) (destPos := dp) (n := m) (by rw [hT]; exact g0) (by rw [hT]; exact g1)
    e2 (fun _ h => by cases h) e3 (fun h => by cases h) k0 k1 o0 o1 (by simp [refKind]) h1 h2 h3
    (by rw [nn sp h1, nn m h3]; have := hbd.1; omega)
    (by rw [nn dp h2, nn m h3]; show ¬ _ > ((arrV (xt X 2) n1 (fun j => .int (g j))).slots.size : Int); rw [arrV_size]; have := hbd.2; omega)
    (fun vm₁ _ w hw => by
      have ew : src.slots.getD (sp.toNatClampNeg + w) .null = .int (ys.getD (sp.toNatClampNeg + w) 0) := by
        rw [Array.getD_eq_getD_getElem?, e5 _ (by have := hbd.1; omega)]
        rfl
      rw [ew]
      exact ⟨rfl, trivial⟩)
    (g := F0 (xm X) pc ls (.int m :: .int dp :: .ref a1 :: .int sp :: .ref a0 :: st)) rfl (by show ls.size = _; rw [hl.1]; exact C.2.2.1.symm) (rest := st) rfl (by rw [C.2.1]; exact d) (by rw [eR]; exact hR.1) (by rw [eR]; show 2 * 0 + _ + _ ≤ _; omega)
  have ec : copied src (vp_cell (xt X 2) (n1, .inl g)) sp dp m = vp_cell (xt X 2) (n1, .inl (va_cpy (fun j => ys.getD j 0) g sp.toNatClampNeg dp.toNatClampNeg m.toNatClampNeg)) := va_copiedX (fun w => .int w) src (xt X 2) (fun j => ys.getD j 0) g e5 hbd.1
  rw [ec] at S' step
  generalize hnew : vp_cell (xt X 2) (n1, .inl (va_cpy (fun j => ys.getD j 0) g sp.toNatClampNeg dp.toNatClampNeg m.toNatClampNeg)) = cell at S' step
  have hlt : a1 < H.size := (Array.getElem?_eq_some_iff.mp g1).1
  have hheap : ((T.setVm vm').setCell a1 cell).heap = H.setIfInBounds a1 cell := by rw [← hT]; rfl
  have oq : ∀ q : Nat, q ≠ a1 → (H.setIfInBounds a1 cell)[q]? = H[q]? := fun q hq => by simp [Array.getElem?_setIfInBounds, Ne.symm hq]
  have nq : (H.setIfInBounds a1 cell)[a1]? = some cell := by simp [Array.getElem?_setIfInBounds, hlt]
  have np := hP.set hD ha1 (e := .inl (xt X 2, n1, .inl (va_cpy (fun j => ys.getD j 0) g sp.toNatClampNeg dp.toNatClampNeg m.toNatClampNeg))) (show (H.setIfInBounds a1 cell)[a1]? = some _ by rw [nq, ← hnew]) oq
  obtain ⟨t, r1, r2⟩ := h _ _ ls (hw ▸ np) (hw ▸ hD.set ha1) ⟨by simp; exact hS.1, fun q u1 u2 => by
      rw [oq q (fun e => u2 (by rw [e]; exact hD.2 q1 _ ha1))]
      exact hS.2.1 q u1 u2, fun q hq => by
      rcases List.mem_append.mp hq with u | u
      · exact hS.2.2 q u
      · obtain ⟨w, -, hw2⟩ := List.mem_map.mp u
        rw [← hw2]
        exact hD.2 q1 _ ha1⟩ hl _ hheap S'
  exact ⟨t, step t r1, r2⟩
end GMORE
