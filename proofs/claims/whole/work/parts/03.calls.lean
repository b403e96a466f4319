section GCALLS
variable {X : GX} {cc : ByteArray} {own : String} {n : Nat} {R : Room} {k z : Nat} {ws ws' : va_W} {lv lv' : List (Nat × Value)} {st : List Value} {pc tgt : Nat} {off : Int}
theorem g_getf (C : GC X cc own n R) {nm : String} {T : u_T} {N : Nat} (hi : ∀ w ∈ u_ws nm T N, w ∈ TB) {ci : Nat} (hc : classes[ci]? = some (nm, T, N)) (q0 f : Nat) {a i : Nat} {fs : List Value} {v : Value} (hk : f < N) (hlk : Cond.fieldLink own i nm (T f).2.1 (T f).2.2.1 ∈ TB) (hs : (T f).1 = nm) (d : decode cc pc = .ok (.getfield i, 3)) (he : ws[q0]? = some (a, .inr (ci, fs))) (hv : fs[f]? = some v) (h : G X k z ws lv (v :: st) (pc + 3)) : G X k z ws lv (.ref a :: st) pc :=
  fun H locs ls hP hD hS hl => va_get C.1 C.2.1 C.2.2.2.2.1 hi C.2.2.2.1 C.2.2.2.2.2.1 hP q0 he hc f hk (C.2.2.2.2.1 _ hlk) (fun x hx => by rw [← hs]; exact hx) hv d (h H locs ls hP hD hS hl)
theorem g_putf (C : GC X cc own n R) {nm : String} {T : u_T} {N : Nat} (hi : ∀ w ∈ u_ws nm T N, w ∈ TB) {ci : Nat} (hc : classes[ci]? = some (nm, T, N)) (ty0 : Nat → FieldType) (hty : ∀ k, k < N → parseFieldDescriptor (T k).2.2.1 = some (ty0 k)) (hnm : ∀ a, a < N → ∀ b, b < N → a ≠ b → (T a).2.1 ≠ (T b).2.1) (q0 f : Nat) {a i : Nat} {fs : List Value} {v : Value} (hk : f < N) (hlk : Cond.fieldLink own i nm (T f).2.1 (T f).2.2.1 ∈ TB) (hs : (T f).1 = nm) (hfin : (T f).2.2.2 = false) (d : decode cc pc = .ok (.putfield i, 3)) (he : ws[q0]? = some (a, .inr (ci, fs))) (hn : narrow (ty0 f) v = v) (hf : fits (ty0 f) v = true) (hl0 : f < fs.length) (hw : ws.set q0 (a, .inr (ci, fs.set f v)) = ws') (h : G X k z ws' lv st (pc + 3)) : G X k z ws lv (v :: .ref a :: st) pc :=
  fun H locs ls hP hD hS hl => va_put C.1 C.2.1 C.2.2.2.2.1 hi ty0 hty hnm C.2.2.2.1 C.2.2.2.2.2.1 hP hD hS q0 he hc f hk (C.2.2.2.2.1 _ hlk) (fun x hx => by rw [← hs]; exact hx) hfin (hty f hk) hn hf hl0 d (fun H1 locs1 p1 d1 s1 => h H1 locs1 ls (hw ▸ p1) (hw ▸ d1) s1 hl)
theorem g_putF (C : GC X cc own n R) (hin : (xM X).name = "<init>") {nm : String} {T : u_T} {N : Nat} (hi : ∀ w ∈ u_ws nm T N, w ∈ TB) {ci : Nat} (hc : classes[ci]? = some (nm, T, N)) (ty0 : Nat → FieldType) (hty : ∀ k, k < N → parseFieldDescriptor (T k).2.2.1 = some (ty0 k)) (hnm : ∀ a, a < N → ∀ b, b < N → a ≠ b → (T a).2.1 ≠ (T b).2.1) (q0 f : Nat) {a i : Nat} {fs : List Value} {v : Value} (hk : f < N) (hlk : Cond.fieldLink own i nm (T f).2.1 (T f).2.2.1 ∈ TB) (hs : (T f).1 = nm) (ho : own = nm) (hfin : (T f).2.2.2 = true) (d : decode cc pc = .ok (.putfield i, 3)) (he : ws[q0]? = some (a, .inr (ci, fs))) (hn : narrow (ty0 f) v = v) (hf : fits (ty0 f) v = true) (hl0 : f < fs.length) (hw : ws.set q0 (a, .inr (ci, fs.set f v)) = ws') (h : G X k z ws' lv st (pc + 3)) : G X k z ws lv (v :: .ref a :: st) pc :=
  fun H locs ls hP hD hS hl => va_putF C.1 C.2.1 C.2.2.2.2.1 hi ty0 hty hnm C.2.2.2.1 C.2.2.2.2.2.1 hP hD hS q0 he hc f hk (C.2.2.2.2.1 _ hlk) (fun x hx => by rw [← hs]; exact hx) hfin hin (by rw [ho]; exact hs) (hty f hk) hn hf hl0 d (fun H1 locs1 p1 d1 s1 => h H1 locs1 ls (hw ▸ p1) (hw ▸ d1) s1 hl)
/-- a static row of ints: its address, its length, its items -/
theorem g_gets (C : GC X cc own n R) {f : String} {a N i : Nat} {ys : List Int32} (he : E_st f a N ys (xA X) (xs X) (xs X).heap) (hlk : Cond.fieldLink own i R_X f "[I" ∈ TB) (d : decode cc pc = .ok (.getstatic i, 3)) (h : G X k z ws lv (.ref a :: st) (pc + 3)) : G X k z ws lv st pc :=
  fun H locs ls hP hD hS hl => va_gets C.1 C.2.1 he.1 hS C.2.2.2.1 (C.2.2.2.2.1 _ hlk) (fun _ h9 => h9) d (h H locs ls hP hD hS hl)
theorem g_getsN (C : GC X cc own n R) {f : String} {a N i : Nat} {ys : List Int32} (he : E_st f a N ys (xA X) (xs X) (xs X).heap) (hlk : (own, i, f) ∈ nwF) (d : decode cc pc = .ok (.getstatic i, 3)) (h : G X k z ws lv (.ref a :: st) (pc + 3)) : G X k z ws lv st pc :=
  fun H locs ls hP hD hS hl => va_getsN C.1 C.2.1 he.1 hS C.2.2.2.1 (va_Nw.use rfl (C.2.2.2.2.2.2.2.1.2.2.2.2.2.2.2.2.1 _ hlk)) (fun _ h9 => h9) d (h H locs ls hP hD hS hl)
theorem g_tload (C : GC X cc own n R) {f : String} {a N : Nat} {ys : List Int32} (he : E_st f a N ys (xA X) (xs X) (xs X).heap) {i : Int32} (d : decode cc pc = .ok (.iaload, 1)) (hin : vp_in i N) (h : G X k z ws lv (.int (ys.getD i.toNatClampNeg 0) :: st) (pc + 1)) : G X k z ws lv (.int i :: .ref a :: st) pc :=
  fun H locs ls hP hD hS hl => va_ti C.1 C.2.1 he.2 hS hin rfl d (h H locs ls hP hD hS hl)
theorem g_tlen (C : GC X cc own n R) {f : String} {a N : Nat} {ys : List Int32} (he : E_st f a N ys (xA X) (xs X) (xs X).heap) {v : Int32} (d : decode cc pc = .ok (.arraylength, 1)) (hv : Int32.ofNat N = v) (h : G X k z ws lv (.int v :: st) (pc + 1)) : G X k z ws lv (.ref a :: st) pc :=
  fun H locs ls hP hD hS hl => va_tlen C.1 C.2.1 he.2 hS hv d (h H locs ls hP hD hS hl)

/-- a call: what comes back goes on -/
def CO (X : GX) (k z mc ms : Nat) (ws : va_W) (isC : List Nat) (lv : List (Nat × Value)) (st rest : List Value) (pc : Nat) (Qp : Option Value → va_W → Prop) : Prop := (∀ r u, Qp r u → u.length = isC.length → G X (k + mc) (z + ms) (scat ws isC u) lv (r.toList ++ rest) (pc + 3)) → G X k z ws lv st pc
theorem co_run {mc ms : Nat} {isC : List Nat} {wc : va_W} {rest : List Value} {av : Array Value} {Qp : Option Value → va_W → Prop} (C : GC X cc own n R) (hC : isC.map (fun i => ws[i]?) = wc.map some) (hn : va_nd isC = true)
    (hr : ∀ (H : Heap) (locs : List Loc) (ls : Array Slot), va_P (xD X) classes ws H → va_D (xA X) ws → va_S (xA X) (xs X).heap H locs → lv_has ls (xn X) lv → va_Run (xp X) (xl X) (xe X) (xR X) (xs X) (xm X) (xa X) (xb X) (xM X) (xc X) H locs k z mc ms (F0 (xm X) pc ls st) rest (QG (xD X) (va_A wc H.size) (fun r u => Qp r u ∧ u.map Prod.fst = wc.map Prod.fst) av) (va_A wc H.size)) : CO X k z mc ms ws isC lv st rest pc Qp := by
  intro kk H locs ls hP hD hS hl T hT S
  have hFc := va_free (wc := wc) hD hS C.2.2.2.2.2.2.1 isC hC
  obtain ⟨v, st₀, t, T', L, h0, S', hL, e1, e2, ⟨⟨r, u, hv, hq, hPu, hDu⟩, hz, hk⟩, stp⟩ := hr H locs ls hP hD hS hl T hT S
  cases hv
  rw [h0] at hz hk
  have sc := scat_ok (H1 := t.heap) hP hD hC hn hk hPu hq.2
  obtain ⟨t2, a1, b1⟩ := kk _ u hq.1 (by have e1 := congrArg List.length hC; have e2 := congrArg List.length hq.2; simp at e1 e2; omega) T'.heap (locs ++ L) ls (by rw [e1]; exact sc.1) sc.2
    ⟨Nat.le_trans hS.1 (by rw [e1]; exact hz), fun q h1 h2 => by rw [e1, hk q (Nat.lt_of_lt_of_le h1 hS.1) (fun y => h2 (hFc q y))]; exact hS.2.1 q h1 h2, fun q hq => by
      rcases List.mem_append.mp hq with h | h
      · exact hS.2.2 q h
      · exact hFc _ (hL q h)⟩ hl T' rfl S'
  exact ⟨t2, stp t2 a1, b1⟩
/-- what holds at a callee's start -/
theorem co_pre (C : GC X cc own n R) {l : Launch} {wc : va_W} {av : List Value} {isC : List Nat} (hC : isC.map (fun i => ws[i]?) = wc.map some) (hn : va_nd isC = true) {H : Heap} {locs : List Loc} (hP : va_P (xD X) classes ws H) (hD : va_D (xA X) ws) (hS : va_S (xA X) (xs X).heap H locs) :
    PreS (xs X) H (va_Pc av (fun U => U.heap.size = H.size ∧ va_P (xD X) classes wc U.heap ∧ va_K (xD X) classes (tysOf (xt X)) U ∧ va_D (fun _ => True) wc ∧ ENV (xv X) (va_A wc H.size) U U.heap)) av := by
  have hFc := va_free (wc := wc) hD hS C.2.2.2.2.2.2.1 isC hC
  have hPc : va_P (xD X) classes wc H := by
    refine hP.sub isC ?_
    have h1 : isC.filterMap (fun i => ws[i]?) = (isC.map (fun i => ws[i]?)).filterMap id := by simp [List.filterMap_map, Function.comp_def]
    rw [h1, hC]
    simp [List.filterMap_map, Function.comp_def]
  have hDc := hD.sub (ws' := wc) isC hn hC
  refine ⟨fun a U g mk q => ?_, fun U hU hW => ?_⟩
  · obtain ⟨q0, q1, qP, qK, qD, qE⟩ := q
    exact ⟨q0, q1, qP, va_K.moved (u := U) (U := U.calling g mk a) (Vm.Alike.refl U.vm) qK, qD, qE.go (u := U) (U := U.calling g mk a) (fun _ _ _ => rfl) (fun _ h => h) (State.WarmedH.refl U)⟩
  · exact ⟨rfl, by rw [hU], by rw [hU]; exact hPc, va_K.moved hW.alike C.2.2.2.2.2.1, hDc.weaken (fun _ _ _ _ => trivial), C.2.2.2.2.2.2.2.1.go (by rw [hU]; exact hS.2.1) hFc hW⟩
/-- a method's words: its code, its kind -/
def MWV (y : MethodName) (b : ByteArray) (L : Nat) (ret : Option FieldType) (m : Nat) : Prop := Cond.code y b L ret ∈ TB ∧ Cond.instanceMethod y ∈ TB ∧ Cond.selects y.cls y y ∈ TB ∧ Cond.initialized y.cls ∈ TB ∧ y.cls ≠ "java/lang/invoke/MethodHandle" ∧ y.cls ≠ "java/lang/invoke/VarHandle" ∧ (parseMethodDescriptor y.desc).map (fun d => d.parameters.length) = some m
def MWS (y : MethodName) (b : ByteArray) (L : Nat) (ret : Option FieldType) (m : Nat) : Prop := Cond.code y b L ret ∈ TB ∧ Cond.static y ∈ TB ∧ Cond.initialized y.cls ∈ TB ∧ y.cls ≠ "java/lang/invoke/MethodHandle" ∧ y.cls ≠ "java/lang/invoke/VarHandle" ∧ (parseMethodDescriptor y.desc).map (fun d => d.parameters.length) = some m
theorem tb_all {w : Cond} {l : List Cond} (h : ∀ v ∈ l, v ∈ TB) (hw : w ∈ TB) : GoodIn TB (l ++ w :: TB) := fun v hv => by
  have hm : v ∈ TB := (List.mem_append.mp hv).elim (h v) (fun h => (List.mem_cons.mp h).elim (fun e => e ▸ hw) id)
  exact ⟨hm, tb_good v hm⟩
theorem co_V (C : GC X cc own n R) {y : MethodName} {b : ByteArray} {L m a i mc ms : Nat} {ret : Option FieldType} {rm : Room} {wc : va_W} {As rest : List Value} {Qp : Option Value → va_W → Prop} (hc : ConR (xl X) (xD X) (xt X) (xv X) y b L ret rm mc ms wc (.ref a :: As) (fun r u => Qp r u ∧ u.map Prod.fst = wc.map Prod.fst)) (hm : MWV y b L ret m) (hlk : Cond.methodLink own i y ∈ TB) (d : decode cc pc = .ok (.invokevirtual i, 3)) (isC : List Nat) (hC : isC.map (fun i => ws[i]?) = wc.map some) (hn : va_nd isC = true)
    (hrec : ∀ (H : Heap) (locs : List Loc), va_P (xD X) classes ws H → va_S (xA X) (xs X).heap H locs → ∃ cell : Cell, H[a]? = some cell ∧ cell.vm.isStatics = false ∧ (xs X).vm.findClass y.cls = some cell.cls)
    (hmc : rm.cells = mc) (hms : rm.slots = ms) (hR : rm.frames + 1 ≤ R.frames ∧ 8 + (L + 11) + rm.locals ≤ R.locals) (hf : k + mc ≤ R.cells ∧ z + ms ≤ R.slots) (hA : As.length = m) (hst : st = As.reverse ++ .ref a :: rest) (hr8 : (rest.map fun v => v.category).sum ≤ 8) : CO X k z mc ms ws isC lv st rest pc Qp := by
  refine co_run (wc := wc) (av := (Value.ref a :: As).toArray) C hC hn (fun H locs ls hP hD hS hl => ?_)
  have hp := co_pre (l := xl X) (av := .ref a :: As) C hC hn hP hD hS
  rw [← C.2.2.2.2.2.2.2.2.2.2] at hR hf
  exact va_runV (As := As) (rest := rest) ⟨C.1, C.2.1, C.2.2.1, C.2.2.2.1, C.2.2.2.2.1⟩ (hc H.size) (cwV m C.2.2.2.2.1 (tb_all (l := [.methodLink own i y, .instanceMethod y, .selects y.cls y y, .initialized y.cls]) (fun v hv => by
      simp only [List.mem_cons, List.not_mem_nil, or_false] at hv
      rcases hv with rfl | rfl | rfl | rfl
      · exact hlk
      · exact hm.2.1
      · exact hm.2.2.1
      · exact hm.2.2.2.1) hm.1) rfl hmc hms ⟨rfl, hm.2.2.2.2⟩ hR) ⟨hp.1, hrec H locs hP hS, hp.2⟩ rfl hA hl.1 hst (by simpa using hr8) d hf
theorem co_S (C : GC X cc own n R) {y : MethodName} {b : ByteArray} {L m i mc ms : Nat} {ret : Option FieldType} {rm : Room} {wc : va_W} {As rest : List Value} {Qp : Option Value → va_W → Prop} (hc : ConR (xl X) (xD X) (xt X) (xv X) y b L ret rm mc ms wc As (fun r u => Qp r u ∧ u.map Prod.fst = wc.map Prod.fst)) (hm : MWS y b L ret m) (hlk : Cond.methodLink own i y ∈ TB) (d : decode cc pc = .ok (.invokestatic i, 3)) (isC : List Nat) (hC : isC.map (fun i => ws[i]?) = wc.map some) (hn : va_nd isC = true)
    (hmc : rm.cells = mc) (hms : rm.slots = ms) (hR : rm.frames + 1 ≤ R.frames ∧ 8 + (L + 11) + rm.locals ≤ R.locals) (hf : k + mc ≤ R.cells ∧ z + ms ≤ R.slots) (hA : As.length = m) (hst : st = As.reverse ++ rest) (hr8 : (rest.map fun v => v.category).sum ≤ 8) : CO X k z mc ms ws isC lv st rest pc Qp := by
  refine co_run (wc := wc) (av := As.toArray) C hC hn (fun H locs ls hP hD hS hl => ?_)
  have hp := co_pre (l := xl X) (av := As) C hC hn hP hD hS
  rw [← C.2.2.2.2.2.2.2.2.2.2] at hR hf
  exact va_runS (As := As) (rest := rest) ⟨C.1, C.2.1, C.2.2.1, C.2.2.2.1, C.2.2.2.2.1⟩ (hc H.size) (va_cwS m C.2.2.2.2.1 (tb_all (l := [.methodLink own i y, .static y, .initialized y.cls]) (fun v hv => by
      simp only [List.mem_cons, List.not_mem_nil, or_false] at hv
      rcases hv with rfl | rfl | rfl
      · exact hlk
      · exact hm.2.1
      · exact hm.2.2.1) hm.1) rfl hmc hms hm.2.2.2 hR) hp rfl hA hl.1 hst (by simpa using hr8) d hf
theorem co_SN (C : GC X cc own n R) {y : MethodName} {b : ByteArray} {L m i mc ms : Nat} {ret : Option FieldType} {rm : Room} {wc : va_W} {As rest : List Value} {Qp : Option Value → va_W → Prop} (hc : ConR (xl X) (xD X) (xt X) (xv X) y b L ret rm mc ms wc As (fun r u => Qp r u ∧ u.map Prod.fst = wc.map Prod.fst)) (hm : MWS y b L ret m) (hlk : (own, i, y) ∈ nwM) (d : decode cc pc = .ok (.invokestatic i, 3)) (isC : List Nat) (hC : isC.map (fun i => ws[i]?) = wc.map some) (hn : va_nd isC = true)
    (hmc : rm.cells = mc) (hms : rm.slots = ms) (hR : rm.frames + 1 ≤ R.frames ∧ 8 + (L + 11) + rm.locals ≤ R.locals) (hf : k + mc ≤ R.cells ∧ z + ms ≤ R.slots) (hA : As.length = m) (hst : st = As.reverse ++ rest) (hr8 : (rest.map fun v => v.category).sum ≤ 8) : CO X k z mc ms ws isC lv st rest pc Qp := by
  refine co_run (wc := wc) (av := As.toArray) C hC hn (fun H locs ls hP hD hS hl => ?_)
  have hp := co_pre (l := xl X) (av := As) C hC hn hP hD hS
  rw [← C.2.2.2.2.2.2.2.2.2.2] at hR hf
  exact va_runSN (As := As) (rest := rest) ⟨C.1, C.2.1, C.2.2.1, C.2.2.2.1, C.2.2.2.2.1⟩ (hc H.size) ⟨va_cnB m C.2.2.2.2.1 (tb_all (l := []) (fun v hv => absurd hv List.not_mem_nil) hm.1) rfl hmc hms (C.2.2.2.2.2.2.2.1.2.2.2.2.2.2.2.2.2.1 _ hlk) (C.2.2.2.2.1 _ hm.2.2.1) hm.2.2.2 hR, C.2.2.2.2.1 _ hm.2.1, trivial⟩ hp rfl hA hl.1 hst (by simpa using hr8) d hf
/-- the receiver is a cell of the world -/
theorem rec_w (C : GC X cc own n R) (q0 ci : Nat) {a : Nat} {nm : String} {T : u_T} {N : Nat} {fs : List Value} (he : ws[q0]? = some (a, .inr (ci, fs))) (hc : classes[ci]? = some (nm, T, N)) : ∀ (H : Heap) (locs : List Loc), va_P (xD X) classes ws H → va_S (xA X) (xs X).heap H locs → ∃ cell : Cell, H[a]? = some cell ∧ cell.vm.isStatics = false ∧ (xs X).vm.findClass nm = some cell.cls :=
  fun H _ hP _ => va_recv C.2.2.2.2.2.1 hP hc he
/-- the receiver is a text -/
theorem rec_s (C : GC X cc own n R) {i : Nat} (hi : i < 16) : ∀ (H : Heap) (locs : List Loc), va_P (xD X) classes ws H → va_S (xA X) (xs X).heap H locs → ∃ cell : Cell, H[vaK (xv X) i]? = some cell ∧ cell.vm.isStatics = false ∧ (xs X).vm.findClass "java/lang/String" = some cell.cls :=
  fun H _ _ hS => vk_recv C.2.2.2.2.2.2.2.1.2.2.2.2.2.1 hi hS

/-- typed ends: int, long, nothing, a reference or null -/
def qI {S : Type} (W : S → va_W) (post : Int32 → S → Prop) : Option Value → va_W → Prop := fun r u => ∃ (v : Int32) (c : S), r = some (.int v) ∧ u = W c ∧ post v c
def qL {S : Type} (W : S → va_W) (post : Int64 → S → Prop) : Option Value → va_W → Prop := fun r u => ∃ (v : Int64) (c : S), r = some (.long v) ∧ u = W c ∧ post v c
def qV {S : Type} (W : S → va_W) (post : S → Prop) : Option Value → va_W → Prop := fun r u => ∃ c : S, r = none ∧ u = W c ∧ post c
def qR {S : Type} (W : S → va_W) (f : Nat → Value) (post : Nat → S → Prop) : Option Value → va_W → Prop := fun r u => ∃ (j : Nat) (c : S), r = some (f j) ∧ u = W c ∧ post j c
theorem k_I {S : Type} {W : S → va_W} {post : Int32 → S → Prop} {isC : List Nat} {rest : List Value} (co : CO X k z 0 0 ws isC lv st rest pc (qI W post)) (W' : S → va_W) (hw : ∀ c, scat ws isC (W c) = W' c) (h : ∀ v c, post v c → G X k z (W' c) lv (.int v :: rest) (pc + 3)) : G X k z ws lv st pc := co (fun r u ⟨v, c, e1, e2, hq⟩ _ => by subst e1; subst e2; rw [hw]; exact h v c hq)
theorem k_L {S : Type} {W : S → va_W} {post : Int64 → S → Prop} {isC : List Nat} {rest : List Value} (co : CO X k z 0 0 ws isC lv st rest pc (qL W post)) (W' : S → va_W) (hw : ∀ c, scat ws isC (W c) = W' c) (h : ∀ v c, post v c → G X k z (W' c) lv (.long v :: rest) (pc + 3)) : G X k z ws lv st pc := co (fun r u ⟨v, c, e1, e2, hq⟩ _ => by subst e1; subst e2; rw [hw]; exact h v c hq)
theorem k_V {S : Type} {W : S → va_W} {post : S → Prop} {isC : List Nat} {rest : List Value} (co : CO X k z 0 0 ws isC lv st rest pc (qV W post)) (W' : S → va_W) (hw : ∀ c, scat ws isC (W c) = W' c) (h : ∀ c, post c → G X k z (W' c) lv rest (pc + 3)) : G X k z ws lv st pc := co (fun r u ⟨c, e1, e2, hq⟩ _ => by subst e1; subst e2; rw [hw]; exact h c hq)
theorem k_R {S : Type} {W : S → va_W} {f : Nat → Value} {post : Nat → S → Prop} {isC : List Nat} {rest : List Value} (co : CO X k z 0 0 ws isC lv st rest pc (qR W f post)) (W' : S → va_W) (hw : ∀ c, scat ws isC (W c) = W' c) (h : ∀ v c, post v c → G X k z (W' c) lv (f v :: rest) (pc + 3)) : G X k z ws lv st pc := co (fun r u ⟨v, c, e1, e2, hq⟩ _ => by subst e1; subst e2; rw [hw]; exact h v c hq)
end GCALLS
