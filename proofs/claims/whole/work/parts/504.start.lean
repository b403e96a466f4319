/-! THE CLAIM OUT OF ONE WALK OF THE LAW'S BODY. Your part is whole_start (and what it stands on); all else here is the same for every law, but numbers. -/
def R_law : String := "SilenceCanalLaw"
def lw_P (b : Addr) (xs : List Int32) (args : Array Value) (s : State) : Prop := args = #[.ref b] ∧ s.IntsAt b xs ∧ xs.length ≤ 2560 ∧ (Jvm.Cond.and given_1 narrow_1).before args s = true
def lw_Q (_ : Array Value) (s : State) (o : Outcome) (t : State) : Prop := o = .returned (some (.int 1)) ∧ Framed s o t [] 600000 7302250
def lw_Z (below : List Frame) (a : Array Value) (s : State) : State → Prop := fun t => ∃ o, t.status = .running ∧ Ended t below o ∧ lw_Q a s o t
/-- the law's own end, with 1 on the stack, nothing written that was there before, its room as the claim has it -/
theorem lw_ret {p : Program} {l : Launch} {e : Env} {s : State} {m : MethodId} {below : List Frame} {meth : Method} {c : Code} {b : Nat} (hx : p.tables.exec = Jvm.exec) (hb : c.code = code) (hr : meth.sig.returnType = ret) (hlocks : meth.locks = false) {pc : Nat} {H : Heap} {ls : Array Slot} (hdg : decode code pc = .ok (.ireturn, 1)) : W p l e room_1 s m #[Value.ref b] below meth c H [] 600000 7302250 (lw_Z below #[Value.ref b] s) (F0 m pc ls [.int 1]) := by
  intro T hT X
  obtain ⟨fs, hret, hrun, hended, hW, hframe⟩ := X.leave (v := some (.int 1)) (hlocks := hlocks) (fun h => by rw [hr] at h; cases h)
  have hmeth' : T.vm.method? m = some meth := X.method'
  refine ⟨T.setFrames fs, ?_, .returned (some (.int 1)), hrun, hended, rfl, ⟨_, rfl⟩, hW, hframe⟩
  jvm_step X.here [X.here.top, hx, hb, hdg, hmeth', hr, ret, narrow_b1]
  (try refine ⟨rfl, ?_⟩); (try refine ⟨rfl, ?_⟩)
  first | (intro acts; rw [hret _ acts rfl rfl rfl]) | rw [hret _ _ rfl rfl rfl]
  exact Steps.refl _
/-- what holds at the law's entry: the machine, the code, the tables' words (any of lw_tbl by 'hts w (by decide +kernel)'), the script of L ints xs at the cell b, what the Statement gives of the start (any of its parts by flat_of_before) -/
def lw_At (p : Program) (s : State) (m : MethodId) (meth : Method) (c : Code) (b L : Nat) (xs : Nat → Int32) : Prop :=
  p.tables.exec = Jvm.exec ∧ c.code = code ∧ meth.sig.returnType = ret ∧ c.maxLocals = 4 ∧ s.vm.findClass R_law = some m.cls ∧ (∀ w ∈ lw_tbl, w.before #[Value.ref b] s = true) ∧ va_X b L xs s s.heap ∧ b < s.heap.size ∧ meth.locks = false ∧ (Jvm.Cond.and given_1 narrow_1).before #[Value.ref b] s = true

abbrev FL : List Cond := flatC (Jvm.Cond.and given_1 narrow_1)
def tmA (f : String) : Term := .static R_X f "[I"
def tmS (i : Nat) : Term := .string "SilenceCanal$Text" ((txAt.map Prod.fst).getD i 0)
def tmV (i : Nat) : Term := .field (tmS i) "java/lang/String" "value" "[B"
def stTab : List (String × List Int32) := [("LAWS_AT_FIRST", tbFirst), ("LAWS_AT_MOST", tbMost), ("KIND_ABOVE", tbAbove), ("BODIES", tbBodies)]
theorem fl_st : ∀ q ∈ stTab, Cond.arrayOf (tmA q.1) .int ∈ FL ∧ Cond.eq (.length (tmA q.1)) (.int (Int32.ofNat q.2.length)) ∈ FL ∧ ∀ j, j < q.2.length → Cond.eq (.elem (tmA q.1) (.int (Int32.ofNat j))) (.int (q.2.getD j 0)) ∈ FL := by decide +kernel
theorem fl_sl : ∀ q ∈ stTab, Cond.laysStatic R_X q.1 "[I" ∈ lw_tbl := by decide +kernel
theorem fl_cs : Cond.eq (.static "java/lang/String" "COMPACT_STRINGS" "Z") (.int 1) ∈ FL ∧ Cond.laysStatic "java/lang/String" "COMPACT_STRINGS" "Z" ∈ lw_tbl ∧ Cond.initialized "java/lang/String" ∈ lw_tbl ∧ Cond.initialized R_X ∈ lw_tbl := by decide +kernel
theorem fl_tx : ∀ i, i < 16 → Cond.exactly (tmS i) "java/lang/String" ∈ FL ∧ Cond.eq (.field (tmS i) "java/lang/String" "coder" "B") (.int 0) ∈ FL ∧ Cond.arrayOf (tmV i) .byte ∈ FL ∧ Cond.eq (.length (tmV i)) (.int (Int32.ofNat (txLen.getD i 0))) ∈ FL := by decide +kernel
theorem fl_el : ∀ i, i < 16 → ∀ j, j < txLen.getD i 0 → Cond.eq (.elem (tmV i) (.int (Int32.ofNat j))) (.int ((txByt.getD i []).getD j 0)) ∈ FL := by decide +kernel
def neL : List (Nat × Nat) := [(1, 2), (1, 3), (2, 3), (1, 4), (2, 4), (3, 4), (1, 5), (2, 5), (3, 5), (4, 5), (1, 0), (2, 0), (3, 0), (4, 0), (5, 0), (1, 6), (2, 6), (3, 6), (4, 6), (5, 6), (0, 6), (1, 7), (2, 7), (3, 7), (4, 7), (5, 7), (0, 7), (6, 7), (1, 8), (2, 8), (3, 8), (4, 8), (5, 8), (0, 8), (6, 8), (7, 8), (1, 9), (2, 9), (3, 9), (4, 9), (5, 9), (0, 9), (6, 9), (7, 9), (8, 9), (1, 12), (2, 12), (3, 12), (4, 12), (5, 12), (0, 12), (6, 12), (7, 12), (8, 12), (9, 12), (1, 13), (2, 13), (3, 13), (4, 13), (5, 13), (0, 13), (6, 13), (7, 13), (8, 13), (9, 13), (12, 13), (1, 14), (2, 14), (3, 14), (4, 14), (5, 14), (0, 14), (6, 14), (7, 14), (8, 14), (9, 14), (12, 14), (13, 14), (1, 15), (2, 15), (3, 15), (4, 15), (5, 15), (0, 15), (6, 15), (7, 15), (8, 15), (9, 15), (12, 15), (13, 15), (14, 15), (1, 11), (2, 11), (3, 11), (4, 11), (5, 11), (0, 11), (6, 11), (7, 11), (8, 11), (9, 11), (12, 11), (13, 11), (14, 11), (15, 11), (1, 10), (2, 10), (3, 10), (4, 10), (5, 10), (0, 10), (6, 10), (7, 10), (8, 10), (9, 10), (12, 10), (13, 10), (14, 10), (15, 10), (11, 10)]
def neI : List Nat := [90, 101, 102, 113, 114, 115, 126, 127, 128, 129, 139, 140, 141, 142, 143, 150, 151, 152, 153, 154, 155, 163, 164, 165, 166, 167, 168, 169, 178, 179, 180, 181, 182, 183, 184, 185, 195, 196, 197, 198, 199, 200, 201, 202, 203, 212, 213, 214, 215, 216, 217, 218, 219, 220, 221, 230, 231, 232, 233, 234, 235, 236, 237, 238, 239, 240, 249, 250, 251, 252, 253, 254, 255, 256, 257, 258, 259, 260, 270, 271, 272, 273, 274, 275, 276, 277, 278, 279, 280, 281, 282, 292, 293, 294, 295, 296, 297, 298, 299, 300, 301, 302, 303, 304, 305, 312, 313, 314, 315, 316, 317, 318, 319, 320, 321, 322, 323, 324, 325, 326]
theorem fl_nq : (neL.map fun q => Cond.not (Cond.eq (tmS q.1) (tmS q.2))) = neI.filterMap (fun i => FL[i]?) := by decide +kernel
theorem fl_nb : ((List.range 16).all fun i => (List.range 16).all fun j => i == j || neL.contains (i, j) || neL.contains (j, i)) = true := by decide +kernel
theorem fl_np (i : Nat) (hi : i < 16) (j : Nat) (hj : j < 16) (hne : i ≠ j) : (i, j) ∈ neL ∨ (j, i) ∈ neL := by
  have h := List.all_eq_true.mp (List.all_eq_true.mp fl_nb i (List.mem_range.mpr hi)) j (List.mem_range.mpr hj)
  simp only [Bool.or_eq_true, beq_iff_eq, List.contains_iff_mem] at h
  rcases h with (h | h) | h
  · exact absurd h hne
  · exact Or.inl h
  · exact Or.inr h
theorem fl_nr (q : Nat × Nat) (h : q ∈ neL) : Cond.not (Cond.eq (tmS q.1) (tmS q.2)) ∈ FL := by
  have hm : Cond.not (Cond.eq (tmS q.1) (tmS q.2)) ∈ neI.filterMap (fun i => FL[i]?) := fl_nq ▸ List.mem_map.mpr ⟨q, h, rfl⟩
  obtain ⟨i, -, hi⟩ := List.mem_filterMap.mp hm
  exact List.mem_of_getElem? hi
theorem fl_ne : ∀ i, i < 16 → ∀ j, j < 16 → i ≠ j → Cond.not (Cond.eq (tmS i) (tmS j)) ∈ FL ∨ Cond.not (Cond.eq (tmS j) (tmS i)) ∈ FL := fun i hi j hj hne => (fl_np i hi j hj hne).elim (fun h => Or.inl (fl_nr (i, j) h)) (fun h => Or.inr (fl_nr (j, i) h))
theorem fl_sr : ∀ q ∈ txAt, Cond.stringRef "SilenceCanal$Text" q.1 q.2 ∈ lw_tbl := by decide +kernel
theorem fl_fm : Cond.isRef (.static "jdk/internal/util/Preconditions" "SIOOBE_FORMATTER" "Ljava/util/function/BiFunction;") ∈ FL ∧ Cond.laysStatic "jdk/internal/util/Preconditions" "SIOOBE_FORMATTER" "Ljava/util/function/BiFunction;" ∈ lw_tbl ∧ Cond.initialized "jdk/internal/util/Preconditions" ∈ lw_tbl := by decide +kernel
theorem fl_nf : ∀ q ∈ nwF, Cond.fieldLinkNest q.1 q.2.1 R_X q.2.2 "[I" R_X ∈ lw_tbl := by decide +kernel
theorem fl_nm : ∀ q ∈ nwM, Cond.methodLinkNest q.1 q.2.1 q.2.2 R_X ∈ lw_tbl := by decide +kernel
theorem fl_ao : Cond.arrayOver (.object "SilenceCanal$Sheet") ∈ lw_tbl ∧ Cond.arrayOver (.object "SilenceCanal$Shelf") ∈ lw_tbl := by decide +kernel
theorem st_of {args : Array Value} {s : State} {A : Nat → Prop} (hts : ∀ w ∈ lw_tbl, w.before args s = true) (hfl : ∀ w ∈ FL, w.before args s = true) (hA : ∀ a : Nat, a < s.heap.size → ¬ A a) (q : String × List Int32) (hq : q ∈ stTab) : ∃ t, E_st q.1 t q.2.length q.2 A s s.heap := by
  obtain ⟨h1, h2, h3⟩ := fl_st q hq
  have hlen : q.2.length < 2 ^ 31 := by
    have : ∀ q ∈ stTab, q.2.length < 2 ^ 31 := by decide
    exact this q hq
  obtain ⟨t, ht, hT⟩ := va_Tof (f := fun j => .int (q.2.getD j 0)) hlen (hfl _ h1) (va_eqt (hfl _ h2)) (fun j hj => va_eqt (hfl _ (h3 j hj))) hA
  exact ⟨t, va_Zref (hts _ (fl_sl q hq)) (hts _ fl_cs.2.2.2) ht hA, hT⟩
theorem env_of {args : Array Value} {s : State} {A : Nat → Prop} (hts : ∀ w ∈ lw_tbl, w.before args s = true) (hfl : ∀ w ∈ FL, w.before args s = true) (hA : ∀ a : Nat, a < s.heap.size → ¬ A a) : ∃ ev : Nat → Nat, ENV ev A s s.heap := by
  obtain ⟨t0, h0⟩ := st_of hts hfl hA ("LAWS_AT_FIRST", tbFirst) (by decide)
  obtain ⟨t1, h1⟩ := st_of hts hfl hA ("LAWS_AT_MOST", tbMost) (by decide)
  obtain ⟨t2, h2⟩ := st_of hts hfl hA ("KIND_ABOVE", tbAbove) (by decide)
  obtain ⟨t3, h3⟩ := st_of hts hfl hA ("BODIES", tbBodies) (by decide)
  obtain ⟨adK, adV, hS, hev⟩ := vk_Sof (N := 16) (tm := tmS) (len := txLen) (byt := txByt) (args := args) (s := s) (A := A) (fun i hi => (tx_len i hi).1) (fun i hi => hfl _ (fl_tx i hi).1) (fun i hi => hfl _ (fl_tx i hi).2.1) (fun i hi => hfl _ (fl_tx i hi).2.2.1) (fun i hi => hfl _ (fl_tx i hi).2.2.2) (fun i hi j hj => hfl _ (fl_el i hi j hj)) (fun i j hi hj hne => (fl_ne i hi j hj hne).elim (fun h => Or.inl (hfl _ h)) (fun h => Or.inr (hfl _ h))) hA
  have hK : vaK (fun i => if i < 8 then [t0, t1, t2, t3].getD i 0 else if i < 32 then adK (i - 8) else adV (i - 32)) = fun i => if i < 24 then adK i else adV (i - 24) := by
    funext i
    show (if 8 + i < 8 then _ else if 8 + i < 32 then adK (8 + i - 8) else adV (8 + i - 32)) = _
    rw [if_neg (by omega)]
    by_cases h : i < 24
    · rw [if_pos (by omega), if_pos h]; congr 1; omega
    · rw [if_neg (by omega), if_neg h]; congr 1; omega
  have hV : vaV (fun i => if i < 8 then [t0, t1, t2, t3].getD i 0 else if i < 32 then adK (i - 8) else adV (i - 32)) = adV := by
    funext i
    show (if 32 + i < 8 then _ else if 32 + i < 32 then adK (32 + i - 8) else adV (32 + i - 32)) = _
    rw [if_neg (by omega), if_neg (by omega)]
    congr 1; omega
  refine ⟨fun i => if i < 8 then [t0, t1, t2, t3].getD i 0 else if i < 32 then adK (i - 8) else adV (i - 32), h0, h1, h2, h3, va_Zof (hts _ fl_cs.2.1) (hts _ fl_cs.2.2.1) (va_eqi (hfl _ fl_cs.1)) hA, ?_, va_Zqof (hts _ fl_fm.2.1) (hts _ fl_fm.2.2) (hfl _ fl_fm.1) hA, ?_, fun q hq => va_Nw.of rfl (hts _ (fl_nf q hq)), fun q hq => va_Nw.of rfl (hts _ (fl_nm q hq)), va_AO.of (hts _ fl_ao.1), va_AO.of (hts _ fl_ao.2)⟩
  · rw [hK, hV]
    refine ⟨fun i hi => ?_, fun i j hi hj e => ?_⟩
    · dsimp only; rw [if_pos (by omega)]; exact hS.1 i hi
    · dsimp only at e; rw [if_pos (by omega), if_pos (by omega)] at e; exact hS.2 i j hi hj e
  · intro i q hq
    have hi : i < 16 := (List.getElem?_eq_some_iff.mp hq).1
    rw [hK]
    refine vk_R.of (A := args) (hts _ (fl_sr q (List.mem_of_getElem? hq))) ?_
    have e : tmS i = .string "SilenceCanal$Text" q.1 := by
      unfold tmS
      congr 1
      simp [List.getD_eq_getElem?_getD, List.getElem?_map, hq]
    rw [← e]
    dsimp only
    rw [if_pos (by omega)]
    exact hev i hi
theorem arr_of {args : Array Value} {s : State} (hts : ∀ w ∈ lw_tbl, w.before args s = true) : ∃ t : Nat → ClassId, ∀ (k : Nat) (q : ClassId × FieldType), (tysOf t)[k]? = some q → ArrOfT s q.1 q.2 ∧ va_RA s q.1 q.2 := by
  have prim : ∀ ty : FieldType, Cond.arrayClass ty ∈ TB → (∀ cA, s.vm.findClass ("[" ++ ty.toString) = some cA → va_RA s cA ty) → ∃ cA, ArrOfT s cA ty ∧ va_RA s cA ty := by
    intro ty hm hra
    obtain ⟨cA, kA, comp, h1, h2, h3⟩ := Cond.arrayClass_spec (hts _ (tb_lw _ hm))
    exact ⟨cA, fun n z => ⟨fun k h => (by cases h), kA, h2, comp, h3⟩, hra cA h1⟩
  have obj : ∀ nm : String, Cond.arrayOver (.object nm) ∈ lw_tbl → ∃ cA, ArrOfT s cA (.object nm) ∧ va_RA s cA (.object nm) := by
    intro nm hm
    obtain ⟨comp, cA, kA, h0, -, h2, h3, h1⟩ := Cond.arrayOver_spec (hts _ hm)
    exact ⟨cA, fun n z => ⟨fun k h => (by cases h), kA, h2, comp, h3⟩, kA, comp, h2, h3, h0, h1⟩
  obtain ⟨c0, h0⟩ := prim .byte tw_arr.1 (fun _ h => h)
  obtain ⟨c1, h1⟩ := prim .char tw_arr.2.1 (fun _ h => h)
  obtain ⟨c2, h2⟩ := prim .int tw_arr.2.2.1 (fun _ h => h)
  obtain ⟨c3, h3⟩ := prim .long tw_arr.2.2.2 (fun _ h => h)
  obtain ⟨c4, h4⟩ := obj _ fl_ao.1
  obtain ⟨c5, h5⟩ := obj _ fl_ao.2
  refine ⟨fun i => if i = 0 then c0 else if i = 1 then c1 else if i = 2 then c2 else if i = 3 then c3 else if i = 4 then c4 else c5, fun k q hq => ?_⟩
  match k, hq with
  | 0, hq => cases hq; exact h0
  | 1, hq => cases hq; exact h1
  | 2, hq => cases hq; exact h2
  | 3, hq => cases hq; exact h3
  | 4, hq => cases hq; exact h4
  | 5, hq => cases hq; exact h5
  | k + 6, hq => simp [tysOf] at hq
set_option maxHeartbeats 4000000 in
set_option maxRecDepth 100000 in
/-- the law from its entry, over what every call must keep -/
theorem start_of (I : Nat → XSt → MSt → Prop) (hI : SIM I) (h0 : wp_M_first ini_M0 (fun m => I 0 ini_X (M_d_ m (upd (M_d m) 6 1)))) {p : Program} {e : Env} {s : State} {m : MethodId} {below : List Frame} {meth : Method} {c : Code} (l : Launch) {b L : Nat} {xs0 : Nat → Int32} (hL : L ≤ 2560) (C0 : lw_At p s m meth c b L xs0) : W p l e room_1 s m #[Value.ref b] below meth c s.heap [] 0 0 (lw_Z below #[Value.ref b] s) (entryFrame m ([Value.ref b] : List Value).toArray 4) := by
  obtain ⟨hx, hb, hr, hml, hown, hts, hX, hbl, hlocks, hgv⟩ := id C0
  have htb : ∀ w ∈ TB, w.before #[Value.ref b] s = true := fun w hw => hts w (tb_lw w hw)
  have hfl := flat_of_before _ hgv
  have hA0 : ∀ a : Nat, a < s.heap.size → ¬ (fun q : Nat => s.heap.size ≤ q) a := fun a h => Nat.not_le.mpr h
  obtain ⟨ev, hE⟩ := env_of (A := fun q : Nat => s.heap.size ≤ q) hts hfl hA0
  obtain ⟨t, ht⟩ := arr_of hts
  obtain ⟨c0, iS0, hKn0⟩ := u_known (C := R_A) (T := F_A) (N := 6) (n := 6) htb i_A (htb (.instantiable R_A 6) in_A.1)
  obtain ⟨c1, iS1, hKn1⟩ := u_known (C := R_C) (T := F_C) (N := 12) (n := 12) htb i_C (htb (.instantiable R_C 12) in_C.1)
  obtain ⟨c2, iS2, hKn2⟩ := u_known (C := R_S) (T := F_S) (N := 3) (n := 3) htb i_S (htb (.instantiable R_S 3) in_S.1)
  obtain ⟨c3, iS3, hKn3⟩ := u_known (C := R_H) (T := F_H) (N := 4) (n := 4) htb i_H (htb (.instantiable R_H 4) in_H.1)
  obtain ⟨c4, iS4, hKn4⟩ := u_known (C := R_T) (T := F_T) (N := 5) (n := 5) htb i_T (htb (.instantiable R_T 5) in_T.1)
  obtain ⟨c5, iS5, hKn5⟩ := u_known (C := R_X) (T := F_X) (N := 10) (n := 10) htb i_X (htb (.instantiable R_X 10) in_X.1)
  obtain ⟨c6, iS6, hKn6⟩ := u_known (C := R_M) (T := F_M) (N := 25) (n := 25) htb i_M (htb (.instantiable R_M 25) in_M.1)
  obtain ⟨dC, dI, hKc⟩ : ∃ (dC : Nat → ClassId) (dI : Nat → Nat → Nat), ∀ (k : Nat) (q : vw_C), classes[k]? = some q → u_Kn s q.1 q.2.1 q.2.2 (dC k) (dI k) := by
    refine ⟨fun k => if k = 0 then c0 else if k = 1 then c1 else if k = 2 then c2 else if k = 3 then c3 else if k = 4 then c4 else if k = 5 then c5 else c6, fun k => if k = 0 then iS0 else if k = 1 then iS1 else if k = 2 then iS2 else if k = 3 then iS3 else if k = 4 then iS4 else if k = 5 then iS5 else iS6, ?_⟩
    intro k q hq
    match k, hq with
    | 0, hq => cases hq; exact hKn0
    | 1, hq => cases hq; exact hKn1
    | 2, hq => cases hq; exact hKn2
    | 3, hq => cases hq; exact hKn3
    | 4, hq => cases hq; exact hKn4
    | 5, hq => cases hq; exact hKn5
    | 6, hq => cases hq; exact hKn6
    | k + 7, hq => simp [classes] at hq
  have hS : va_S (fun q : Nat => s.heap.size ≤ q) s.heap s.heap [] := va_S.rf
  have hK : va_K (dC, dI) classes (tysOf t) s := ⟨hKc, ht⟩
  have hP : va_P (dC, dI) classes [] s.heap := fun k q h => by simp at h
  have hD : va_D (fun q : Nat => s.heap.size ≤ q) [] := ⟨fun i j p q h => by simp at h, fun k q h => by simp at h⟩
  have hl := lv_entry ([.ref b]) (n := 4) (Nat.le_of_ble_eq_true rfl)
  rw [lg_entry_eq]
  obtain ⟨X, hXe⟩ : ∃ X : GX, X = (p, l, e, room_1, s, m, #[Value.ref b], below, meth, c, (dC, dI), t, (fun q : Nat => s.heap.size ≤ q), 4, lw_Z below #[Value.ref b] s, ev) := ⟨_, rfl⟩
  have C : GC X code "SilenceCanalLaw" 4 room_1 := by
    subst hXe
    exact ⟨hx, hb, hml, hown, htb, hK, fun _ h => h, hE, hlocks, rfl, rfl⟩
  have hX2 : va_X b L xs0 (xs X) (xs X).heap ∧ b < (xs X).heap.size ∧ ¬ xA X b := by
    subst hXe
    exact ⟨hX, hbl, Nat.not_le.mpr hbl⟩
  have hend : ∀ (ws : va_W) (lv : List (Nat × Value)), G X 61 1499 ws lv [.int 1] 1719 := by
    subst hXe
    intro ws lv H locs ls hP hD hS hl
    refine va_forget (fun q hq => hS.2.2 q hq) ?_
    refine W.widen (k := 600000) (n := 7302250) (by omega) (by omega) ?_
    exact lw_ret hx hb hr hlocks d_L_1719
  have key : G X 0 0 [] [(0, .ref b)] [] 0 := by
    clear hXe
    refine g_newO (pc := 0) C (k' := 1) (z' := 10) i_X ty_X ty_X_ok lk_L_7 in_X.1 in_X.2 (ci := 5) rfl (fs := [.null, .null, .null, .int 0, .null, .null, .int 0, .null, .null, .null]) (by decide +kernel) d_L_0 rfl rfl ⟨Nat.le_of_ble_eq_true rfl, Nat.le_of_ble_eq_true rfl⟩ (fun qx => ?_)
    refine g_ws (ws' := [(qx, .inr (5, [.null, .null, .null, .int 0, .null, .null, .int 0, .null, .null, .null]))]) rfl ?_
    refine g_dup (pc := 3) C d_L_3 rfl ?_
    refine co_I (pc := 4) C (k' := 47) (z' := 705) (c_X_init (xl X) (xD X) (xt X) (xv X) qx) mw_X_init lk_L_9 d_L_4 (p := 0) rfl [] (wr := []) rfl (by decide) (by decide) rfl rfl ⟨Nat.le_of_ble_eq_true rfl, Nat.le_of_ble_eq_true rfl⟩ rfl rfl ⟨Nat.le_of_ble_eq_true rfl, Nat.le_of_ble_eq_true rfl⟩ (rest := [.ref qx]) (Nat.le_of_ble_eq_true rfl) (fun r u hu => ?_)
    obtain ⟨rfl, aX, rfl, rfl⟩ := hu
    refine g_ws (ws' := woX (xt X) aX ini_X) rfl ?_
    refine g_astore_n (pc := 7) C d_L_7 rfl (Nat.le_of_ble_eq_true rfl) (lv' := [(0, .ref b), (1, .ref (aX 0))]) rfl ?_
    refine g_newO (pc := 8) C (k' := 48) (z' := 730) i_M ty_M ty_M_ok lk_L_10 in_M.1 in_M.2 (ci := 6) rfl (fs := [.null, .null, .null, .int 0, .int 0, .null, .int 0, .int 0, .int 0, .int 0, .int 0, .null, .int 0, .null, .int 0, .null, .null, .null, .null, .null, .null, .null, .int 0, .int 0, .int 0]) (by decide +kernel) d_L_8 rfl rfl ⟨Nat.le_of_ble_eq_true rfl, Nat.le_of_ble_eq_true rfl⟩ (fun qm => ?_)
    refine g_dup (pc := 11) C d_L_11 rfl ?_
    refine co_I (pc := 12) C (k' := 61) (z' := 1499) (c_M_init (xl X) (xD X) (xt X) (xv X) qm _ h0) mw_M_init lk_L_12 d_L_12 (p := 47) rfl (List.range 47) (wr := woX (xt X) aX ini_X) rfl (by decide) (by decide) rfl rfl ⟨Nat.le_of_ble_eq_true rfl, Nat.le_of_ble_eq_true rfl⟩ rfl rfl ⟨Nat.le_of_ble_eq_true rfl, Nat.le_of_ble_eq_true rfl⟩ (rest := [.ref qm]) (Nat.le_of_ble_eq_true rfl) (fun r u hu => ?_)
    obtain ⟨rfl, aM, m1, rfl, rfl, hi0⟩ := hu
    refine g_ws (ws' := woL (xt X) aX aM (ini_X, m1)) rfl ?_
    refine g_astore_n (pc := 15) C d_L_15 rfl (Nat.le_of_ble_eq_true rfl) (lv' := [(0, .ref b), (1, .ref (aX 0)), (2, .ref (aM 0))]) rfl ?_
    refine g_iconst (pc := 16) C (v := 0) d_L_16 (by decide) ?_
    refine g_istore_n (pc := 17) C d_L_17 rfl (Nat.le_of_ble_eq_true rfl) (lv' := [(0, .ref b), (1, .ref (aX 0)), (2, .ref (aM 0)), (3, .int 0)]) rfl ?_
    exact law_loop C hX2 hL aX aM I hI hend (L + 6) 0 0 ini_X m1 rfl (by omega) (by omega) hi0
  subst hXe
  exact key s.heap [] _ hP hD hS hl
