section GNEW
variable {X : GX} {cc : ByteArray} {own : String} {n : Nat} {R : Room} {k z k' z' : Nat} {ws ws' : va_W} {lv lv' : List (Nat × Value)} {st st' : List Value} {pc tgt : Nat} {off : Int}
theorem tw_obj : Cond.instanceMethod objectInit ∈ TB ∧ Cond.code objectInit ⟨#[0xb1]⟩ 1 none ∈ TB := ⟨tb_1 22 rfl rfl, tb_1 23 rfl rfl⟩
theorem tw_arr : Cond.arrayClass .byte ∈ TB ∧ Cond.arrayClass .char ∈ TB ∧ Cond.arrayClass .int ∈ TB ∧ Cond.arrayClass .long ∈ TB := ⟨tb_1 114 rfl rfl, tb_4 122 rfl rfl, tb_1 90 rfl rfl, tb_4 123 rfl rfl⟩
theorem g_objInit (C : GC X cc own n R) {a i : Nat} (hlk : Cond.methodLink own i objectInit ∈ TB) (hR : 1 ≤ R.frames ∧ 20 ≤ R.locals) (d : decode cc pc = .ok (.invokespecial i, 3)) (hr : (st.map fun v => v.category).sum ≤ 8) (h : G X k z ws lv st (pc + 3)) : G X k z ws lv (.ref a :: st) pc := by
  intro H locs ls hP hD hS hl
  have eR := C.2.2.2.2.2.2.2.2.2.2
  refine W.objInit C.1 C.2.1 C.2.2.2.1 (C.2.2.2.2.1 _ hlk) (C.2.2.2.2.1 _ tw_obj.1) (C.2.2.2.2.1 _ tw_obj.2) rfl (by show ls.size = _; rw [hl.1]; exact C.2.2.1.symm) rfl d (by rw [eR]; exact hR.1) (by rw [eR]; show 2 * 0 + _ + 12 ≤ _; omega) ?_
  exact h H locs ls hP hD hS hl
theorem arr_p (C : GC X cc own n R) {cA : ClassId} {ty : FieldType} (t0 : Nat) (h : va_K (xD X) classes (tysOf (xt X) ++ [(cA, ty)]) (xs X)) (ht : (tysOf (xt X))[t0]? = some (xt X t0, ty)) : cA = xt X t0 := by
  have h1 := (h.2 6 (cA, ty) rfl).2
  have h2 := (C.2.2.2.2.2.1.2 t0 _ ht).2
  cases ty with
  | object nm =>
    obtain ⟨_, _, _, _, _, e1⟩ := h1
    obtain ⟨_, _, _, _, _, e2⟩ := h2
    exact Option.some.inj (e1.symm.trans e2)
  | _ => exact Option.some.inj (h1.symm.trans h2)

theorem g_newB (C : GC X cc own n R) {v : Int32} {N : Nat} (d : decode cc pc = .ok (.newarray .byte, 2)) (hn : ¬ v < 0) (hN : v.toNatClampNeg = N) (hb : N * componentBytes .byte ≤ 536870912) (hk : k + 1 = k') (hz : z + N = z') (hc : k' ≤ R.cells ∧ z' ≤ R.slots) (h : ∀ q : Nat, G X k' z' (ws ++ [(q, .inl (xt X 0, N, .inl (fun _ => 0)))]) lv (.ref q :: st) (pc + 2)) : G X k z ws lv (.int v :: st) pc := by
  intro H locs ls hP hD hS hl
  have eR := C.2.2.2.2.2.2.2.2.2.2
  subst hk; subst hz
  refine va_newa (atype := .byte) C.1 C.2.1 (C.2.2.2.2.1 _ tw_arr.1) rfl C.2.2.2.2.2.1 hP hD hS C.2.2.2.2.2.2.1 (a0 := (N, .inl (fun _ => 0))) (fun _ => rfl) hn hN hb (by rw [eR]; exact hc.1) (by rw [eR]; exact hc.2) d (fun q cA H1 hK1 hP1 hD1 hS1 => ?_)
  have e := arr_p C 0 hK1 rfl
  subst e
  exact h q H1 locs ls hP1 hD1 hS1 hl
theorem g_newC (C : GC X cc own n R) {v : Int32} {N : Nat} (d : decode cc pc = .ok (.newarray .char, 2)) (hn : ¬ v < 0) (hN : v.toNatClampNeg = N) (hb : N * componentBytes .char ≤ 536870912) (hk : k + 1 = k') (hz : z + N = z') (hc : k' ≤ R.cells ∧ z' ≤ R.slots) (h : ∀ q : Nat, G X k' z' (ws ++ [(q, .inl (xt X 1, N, .inl (fun _ => 0)))]) lv (.ref q :: st) (pc + 2)) : G X k z ws lv (.int v :: st) pc := by
  intro H locs ls hP hD hS hl
  have eR := C.2.2.2.2.2.2.2.2.2.2
  subst hk; subst hz
  refine va_newa (atype := .char) C.1 C.2.1 (C.2.2.2.2.1 _ tw_arr.2.1) rfl C.2.2.2.2.2.1 hP hD hS C.2.2.2.2.2.2.1 (a0 := (N, .inl (fun _ => 0))) (fun _ => rfl) hn hN hb (by rw [eR]; exact hc.1) (by rw [eR]; exact hc.2) d (fun q cA H1 hK1 hP1 hD1 hS1 => ?_)
  have e := arr_p C 1 hK1 rfl
  subst e
  exact h q H1 locs ls hP1 hD1 hS1 hl
theorem g_newI (C : GC X cc own n R) {v : Int32} {N : Nat} (d : decode cc pc = .ok (.newarray .int, 2)) (hn : ¬ v < 0) (hN : v.toNatClampNeg = N) (hb : N * componentBytes .int ≤ 536870912) (hk : k + 1 = k') (hz : z + N = z') (hc : k' ≤ R.cells ∧ z' ≤ R.slots) (h : ∀ q : Nat, G X k' z' (ws ++ [(q, .inl (xt X 2, N, .inl (fun _ => 0)))]) lv (.ref q :: st) (pc + 2)) : G X k z ws lv (.int v :: st) pc := by
  intro H locs ls hP hD hS hl
  have eR := C.2.2.2.2.2.2.2.2.2.2
  subst hk; subst hz
  refine va_newa (atype := .int) C.1 C.2.1 (C.2.2.2.2.1 _ tw_arr.2.2.1) rfl C.2.2.2.2.2.1 hP hD hS C.2.2.2.2.2.2.1 (a0 := (N, .inl (fun _ => 0))) (fun _ => rfl) hn hN hb (by rw [eR]; exact hc.1) (by rw [eR]; exact hc.2) d (fun q cA H1 hK1 hP1 hD1 hS1 => ?_)
  have e := arr_p C 2 hK1 rfl
  subst e
  exact h q H1 locs ls hP1 hD1 hS1 hl
theorem g_newL (C : GC X cc own n R) {v : Int32} {N : Nat} (d : decode cc pc = .ok (.newarray .long, 2)) (hn : ¬ v < 0) (hN : v.toNatClampNeg = N) (hb : N * componentBytes .long ≤ 536870912) (hk : k + 1 = k') (hz : z + N = z') (hc : k' ≤ R.cells ∧ z' ≤ R.slots) (h : ∀ q : Nat, G X k' z' (ws ++ [(q, .inl (xt X 3, N, .inr (.inl (fun _ => 0))))]) lv (.ref q :: st) (pc + 2)) : G X k z ws lv (.int v :: st) pc := by
  intro H locs ls hP hD hS hl
  have eR := C.2.2.2.2.2.2.2.2.2.2
  subst hk; subst hz
  refine va_newa (atype := .long) C.1 C.2.1 (C.2.2.2.2.1 _ tw_arr.2.2.2) rfl C.2.2.2.2.2.1 hP hD hS C.2.2.2.2.2.2.1 (a0 := (N, .inr (.inl (fun _ => 0)))) (fun _ => rfl) hn hN hb (by rw [eR]; exact hc.1) (by rw [eR]; exact hc.2) d (fun q cA H1 hK1 hP1 hD1 hS1 => ?_)
  have e := arr_p C 3 hK1 rfl
  subst e
  exact h q H1 locs ls hP1 hD1 hS1 hl
theorem g_newQSheet (C : GC X cc own n R) {v : Int32} {N i : Nat} (hlk : Cond.classLink own i "SilenceCanal$Sheet" ∈ TB) (d : decode cc pc = .ok (.anewarray i, 3)) (hn : ¬ v < 0) (hN : v.toNatClampNeg = N) (hb : N * 4 ≤ 536870912) (hk : k + 1 = k') (hz : z + N = z') (hc : k' ≤ R.cells ∧ z' ≤ R.slots) (h : ∀ q : Nat, G X k' z' (ws ++ [(q, .inl (xt X 4, N, .inr (.inr (.inr (.inr (fun _ => none))))))]) lv (.ref q :: st) (pc + 3)) : G X k z ws lv (.int v :: st) pc := by
  intro H locs ls hP hD hS hl
  have eR := C.2.2.2.2.2.2.2.2.2.2
  subst hk; subst hz
  refine va_newq C.1 C.2.1 C.2.2.2.1 (C.2.2.2.2.1 _ hlk) C.2.2.2.2.2.2.2.1.2.2.2.2.2.2.2.2.2.2.1 C.2.2.2.2.2.1 hP hD hS C.2.2.2.2.2.2.1 hn hN hb (by rw [eR]; exact hc.1) (by rw [eR]; exact hc.2) d (fun q cA H1 hK1 hP1 hD1 hS1 => ?_)
  have e := arr_p C 4 hK1 rfl
  subst e
  exact h q H1 locs ls hP1 hD1 hS1 hl
theorem g_newQShelf (C : GC X cc own n R) {v : Int32} {N i : Nat} (hlk : Cond.classLink own i "SilenceCanal$Shelf" ∈ TB) (d : decode cc pc = .ok (.anewarray i, 3)) (hn : ¬ v < 0) (hN : v.toNatClampNeg = N) (hb : N * 4 ≤ 536870912) (hk : k + 1 = k') (hz : z + N = z') (hc : k' ≤ R.cells ∧ z' ≤ R.slots) (h : ∀ q : Nat, G X k' z' (ws ++ [(q, .inl (xt X 5, N, .inr (.inr (.inr (.inr (fun _ => none))))))]) lv (.ref q :: st) (pc + 3)) : G X k z ws lv (.int v :: st) pc := by
  intro H locs ls hP hD hS hl
  have eR := C.2.2.2.2.2.2.2.2.2.2
  subst hk; subst hz
  refine va_newq C.1 C.2.1 C.2.2.2.1 (C.2.2.2.2.1 _ hlk) C.2.2.2.2.2.2.2.1.2.2.2.2.2.2.2.2.2.2.2 C.2.2.2.2.2.1 hP hD hS C.2.2.2.2.2.2.1 hn hN hb (by rw [eR]; exact hc.1) (by rw [eR]; exact hc.2) d (fun q cA H1 hK1 hP1 hD1 hS1 => ?_)
  have e := arr_p C 5 hK1 rfl
  subst e
  exact h q H1 locs ls hP1 hD1 hS1 hl
theorem g_newO (C : GC X cc own n R) {nm : String} {T : u_T} {N ci i : Nat} (hi : ∀ w ∈ u_ws nm T N, w ∈ TB) (ty0 : Nat → FieldType) (hty : ∀ k, k < N → parseFieldDescriptor (T k).2.2.1 = some (ty0 k)) (hlk : Cond.classLink own i nm ∈ TB) (hin : Cond.instantiable nm N ∈ TB) (hini : Cond.initialized nm ∈ TB) (hcl : classes[ci]? = some (nm, T, N)) {fs : List Value} (hfs : ∀ j, j < N → defaultValue (ty0 j) = vp_V fs j) (d : decode cc pc = .ok (.new i, 3)) (hk : k + 1 = k') (hz : z + N = z') (hc : k' ≤ R.cells ∧ z' ≤ R.slots) (h : ∀ q : Nat, G X k' z' (ws ++ [(q, .inr (ci, fs))]) lv (.ref q :: st) (pc + 3)) : G X k z ws lv st pc := by
  intro H locs ls hP hD hS hl
  have eR := C.2.2.2.2.2.2.2.2.2.2
  subst hk; subst hz
  exact va_new C.1 C.2.1 C.2.2.2.2.1 hi ty0 hty C.2.2.2.1 (C.2.2.2.2.1 _ hlk) (C.2.2.2.2.1 _ hin) (C.2.2.2.2.1 _ hini) C.2.2.2.2.2.1 hP hD hS C.2.2.2.2.2.2.1 hcl hfs (by rw [eR]; exact hc.1) (by rw [eR]; exact hc.2) d (fun q H1 hP1 hD1 hS1 => h q H1 locs ls hP1 hD1 hS1 hl)
theorem g_aast (C : GC X cc own n R) (q0 t0 qk ci : Nat) {a v N M : Nat} {vs : List Value} {f : Nat → Option Nat} {i : Int32} {nm : String} {T : u_T} (d : decode cc pc = .ok (.aastore, 1)) (he : ws[q0]? = some (a, .inl (xt X t0, N, .inr (.inr (.inr (.inr f)))))) (ht : (tysOf (xt X))[t0]? = some (xt X t0, .object nm)) (hv : ws[qk]? = some (v, .inr (ci, vs))) (hcl : classes[ci]? = some (nm, T, M)) (hin : vp_in i N) (hw : ws.set q0 (a, .inl (xt X t0, N, .inr (.inr (.inr (.inr (va_up f i.toNatClampNeg (some v))))))) = ws') (h : G X k z ws' lv st (pc + 1)) : G X k z ws lv (.ref v :: .int i :: .ref a :: st) pc :=
  fun H locs ls hP hD hS hl => va_astq C.1 C.2.1 C.2.2.2.2.2.1 hP hD hS q0 t0 qk ci (r := (nm, T, M)) he ht hv hcl hin d (fun H1 locs1 p1 d1 s1 => h H1 locs1 ls (hw ▸ p1) (hw ▸ d1) s1 hl)
theorem g_perm (is : List Nat) (hn : va_nd is = true) (hs : is.map (fun i => ws[i]?) = ws'.map some) (h : G X k z ws' lv st pc) : G X k z ws lv st pc := by
  intro H locs ls hP hD hS hl
  refine h H locs ls (hP.sub is ?_) (hD.sub is hn hs) hS hl
  have h1 : is.filterMap (fun i => ws[i]?) = (is.map (fun i => ws[i]?)).filterMap id := by simp [List.filterMap_map, Function.comp_def]
  rw [h1, hs]
  simp [List.filterMap_map, Function.comp_def]
/-- the words of a constructor -/
def MWI (y : MethodName) (b : ByteArray) (L : Nat) : Prop := Cond.code y b L none ∈ TB ∧ Cond.instanceMethod y ∈ TB ∧ Cond.initialized y.cls ∈ TB ∧ y.name = "<init>" ∧ y.cls ≠ "java/lang/invoke/MethodHandle" ∧ y.cls ≠ "java/lang/invoke/VarHandle" ∧ (parseMethodDescriptor y.desc).map (fun d => d.parameters.length) = some 0
theorem co_new (C : GC X cc own n R) {mc ms p : Nat} {wr : va_W} {q : Nat × va_E} {rest : List Value} {av : Array Value} {Qp : Option Value → va_W → Prop} (hp : ws[p]? = some q) (isR : List Nat) (hR : isR.map (fun i => ws[i]?) = wr.map some) (hnR : va_nd isR = true) (hdis : p ∉ isR)
    (hr : ∀ (H : Heap) (locs : List Loc) (ls : Array Slot), va_P (xD X) classes ws H → va_D (xA X) ws → va_S (xA X) (xs X).heap H locs → lv_has ls (xn X) lv → va_Run (xp X) (xl X) (xe X) (xR X) (xs X) (xm X) (xa X) (xb X) (xM X) (xc X) H locs k z mc ms (F0 (xm X) pc ls st) rest (QG (xD X) (va_A [q] H.size) Qp av) (va_A [q] H.size)) (kk : ∀ r u, Qp r u → G X (k + mc) (z + ms) (wr ++ u) lv (r.toList ++ rest) (pc + 3)) : G X k z ws lv st pc := by
  intro H locs ls hP hD hS hl T hT S
  have hC : [p].map (fun i => ws[i]?) = [q].map some := by simp [hp]
  have hFc := va_free (wc := [q]) hD hS C.2.2.2.2.2.2.1 [p] hC
  obtain ⟨v, st₀, t, T', L, h0, S', hL, e1, e2, ⟨⟨r, u, hv, hq, hPu, hDu⟩, hz, hk⟩, stp⟩ := hr H locs ls hP hD hS hl T hT S
  cases hv
  rw [h0] at hz hk
  have sc := va_join (H1 := t.heap) hP hD [p] isR hC hR hnR (fun i hi h => hdis (by rw [List.mem_singleton] at h; rw [← h]; exact hi)) hk hFc hPu hDu
  obtain ⟨t2, a1, b1⟩ := kk _ u hq T'.heap (locs ++ L) ls (by rw [e1]; exact sc.1) sc.2
    ⟨Nat.le_trans hS.1 (by rw [e1]; exact hz), fun q h1 h2 => by rw [e1, hk q (Nat.lt_of_lt_of_le h1 hS.1) (fun y => h2 (hFc q y))]; exact hS.2.1 q h1 h2, fun q hq => by
      rcases List.mem_append.mp hq with h | h
      · exact hS.2.2 q h
      · exact hFc _ (hL q h)⟩ hl T' rfl S'
  exact ⟨t2, stp t2 a1, b1⟩
theorem co_I (C : GC X cc own n R) {y : MethodName} {b : ByteArray} {L i mc ms p : Nat} {rm : Room} {wr : va_W} {q : Nat × va_E} {rest : List Value} {Qp : Option Value → va_W → Prop} (hc : ConR (xl X) (xD X) (xt X) (xv X) y b L none rm mc ms [q] [.ref q.1] Qp) (hm : MWI y b L) (hlk : Cond.methodLink own i y ∈ TB) (d : decode cc pc = .ok (.invokespecial i, 3)) (hp : ws[p]? = some q) (isR : List Nat) (hR : isR.map (fun i => ws[i]?) = wr.map some) (hnR : va_nd isR = true) (hdis : p ∉ isR)
    (hmc : rm.cells = mc) (hms : rm.slots = ms) (hRm : rm.frames + 1 ≤ R.frames ∧ 8 + (L + 11) + rm.locals ≤ R.locals) (hk : k + mc = k') (hz : z + ms = z') (hf : k' ≤ R.cells ∧ z' ≤ R.slots) (hr8 : (rest.map fun v => v.category).sum ≤ 8) (kk : ∀ r u, Qp r u → G X k' z' (wr ++ u) lv (r.toList ++ rest) (pc + 3)) : G X k z ws lv (.ref q.1 :: rest) pc := by
  subst hk; subst hz
  refine co_new (av := [Value.ref q.1].toArray) C hp isR hR hnR hdis (fun H locs ls hP hD hS hl => ?_) kk
  have hC : [p].map (fun i => ws[i]?) = [q].map some := by simp [hp]
  have hpr := co_pre (l := xl X) (av := [.ref q.1]) C hC rfl hP hD hS
  rw [← C.2.2.2.2.2.2.2.2.2.2] at hRm hf
  exact va_runI (As := []) (rest := rest) ⟨C.1, C.2.1, C.2.2.1, C.2.2.2.1, C.2.2.2.2.1⟩ (hc H.size) (cwI 0 C.2.2.2.2.1 (tb_all (l := []) (fun v hv => absurd hv List.not_mem_nil) hm.1) rfl hmc hms (C.2.2.2.2.1 _ hm.2.2.1) (C.2.2.2.2.1 _ hlk) (C.2.2.2.2.1 _ hm.2.1) hm.2.2.2.1 hm.2.2.2.2 hRm) hpr rfl rfl hl.1 rfl (by simpa using hr8) d hf
theorem co_IN (C : GC X cc own n R) {y : MethodName} {b : ByteArray} {L i mc ms p : Nat} {rm : Room} {wr : va_W} {q : Nat × va_E} {rest : List Value} {Qp : Option Value → va_W → Prop} (hc : ConR (xl X) (xD X) (xt X) (xv X) y b L none rm mc ms [q] [.ref q.1] Qp) (hm : MWI y b L) (hlk : (own, i, y) ∈ nwM) (d : decode cc pc = .ok (.invokespecial i, 3)) (hp : ws[p]? = some q) (isR : List Nat) (hR : isR.map (fun i => ws[i]?) = wr.map some) (hnR : va_nd isR = true) (hdis : p ∉ isR)
    (hmc : rm.cells = mc) (hms : rm.slots = ms) (hRm : rm.frames + 1 ≤ R.frames ∧ 8 + (L + 11) + rm.locals ≤ R.locals) (hk : k + mc = k') (hz : z + ms = z') (hf : k' ≤ R.cells ∧ z' ≤ R.slots) (hr8 : (rest.map fun v => v.category).sum ≤ 8) (kk : ∀ r u, Qp r u → G X k' z' (wr ++ u) lv (r.toList ++ rest) (pc + 3)) : G X k z ws lv (.ref q.1 :: rest) pc := by
  subst hk; subst hz
  refine co_new (av := [Value.ref q.1].toArray) C hp isR hR hnR hdis (fun H locs ls hP hD hS hl => ?_) kk
  have hC : [p].map (fun i => ws[i]?) = [q].map some := by simp [hp]
  have hpr := co_pre (l := xl X) (av := [.ref q.1]) C hC rfl hP hD hS
  rw [← C.2.2.2.2.2.2.2.2.2.2] at hRm hf
  exact va_runIN (As := []) (rest := rest) ⟨C.1, C.2.1, C.2.2.1, C.2.2.2.1, C.2.2.2.2.1⟩ (hc H.size) ⟨va_cnB 0 C.2.2.2.2.1 (tb_all (l := []) (fun v hv => absurd hv List.not_mem_nil) hm.1) rfl hmc hms (C.2.2.2.2.2.2.2.1.2.2.2.2.2.2.2.2.2.1 _ hlk) (C.2.2.2.2.1 _ hm.2.2.1) hm.2.2.2.2 hRm, hm.2.2.2.1, C.2.2.2.2.1 _ hm.2.1⟩ hpr rfl rfl hl.1 rfl (by simpa using hr8) d hf
end GNEW
theorem mw_A_init : MWI y_A_init b_A_init 1 := ⟨tb_1 123 rfl rfl, tb_1 122 rfl rfl, tb_1 6 rfl rfl, by decide +kernel, by decide +kernel, by decide +kernel, by decide +kernel⟩
theorem in_A : Cond.instantiable R_A 6 ∈ TB ∧ Cond.initialized R_A ∈ TB := ⟨tb_1 120 rfl rfl, tb_1 6 rfl rfl⟩
theorem mw_C_init : MWI y_C_init b_C_init 1 := ⟨tb_1 28 rfl rfl, tb_1 27 rfl rfl, tb_1 2 rfl rfl, by decide +kernel, by decide +kernel, by decide +kernel, by decide +kernel⟩
theorem in_C : Cond.instantiable R_C 12 ∈ TB ∧ Cond.initialized R_C ∈ TB := ⟨tb_1 25 rfl rfl, tb_1 2 rfl rfl⟩
theorem mw_S_init : MWI y_S_init b_S_init 1 := ⟨tb_1 149 rfl rfl, tb_1 148 rfl rfl, tb_1 7 rfl rfl, by decide +kernel, by decide +kernel, by decide +kernel, by decide +kernel⟩
theorem in_S : Cond.instantiable R_S 3 ∈ TB ∧ Cond.initialized R_S ∈ TB := ⟨tb_1 146 rfl rfl, tb_1 7 rfl rfl⟩
theorem mw_H_init : MWI y_H_init b_H_init 1 := ⟨tb_1 167 rfl rfl, tb_1 166 rfl rfl, tb_1 8 rfl rfl, by decide +kernel, by decide +kernel, by decide +kernel, by decide +kernel⟩
theorem in_H : Cond.instantiable R_H 4 ∈ TB ∧ Cond.initialized R_H ∈ TB := ⟨tb_1 164 rfl rfl, tb_1 8 rfl rfl⟩
theorem mw_T_init : MWI y_T_init b_T_init 1 := ⟨tb_1 95 rfl rfl, tb_1 94 rfl rfl, tb_1 5 rfl rfl, by decide +kernel, by decide +kernel, by decide +kernel, by decide +kernel⟩
theorem in_T : Cond.instantiable R_T 5 ∈ TB ∧ Cond.initialized R_T ∈ TB := ⟨tb_1 92 rfl rfl, tb_1 5 rfl rfl⟩
theorem mw_X_init : MWI y_X_init b_X_init 2 := ⟨tb_1 20 rfl rfl, tb_1 19 rfl rfl, tb_1 1 rfl rfl, by decide +kernel, by decide +kernel, by decide +kernel, by decide +kernel⟩
theorem in_X : Cond.instantiable R_X 10 ∈ TB ∧ Cond.initialized R_X ∈ TB := ⟨tb_1 17 rfl rfl, tb_1 1 rfl rfl⟩
theorem mw_M_init : MWI y_M_init b_M_init 1 := ⟨tb_4 40 rfl rfl, tb_4 39 rfl rfl, tb_1 9 rfl rfl, by decide +kernel, by decide +kernel, by decide +kernel, by decide +kernel⟩
theorem in_M : Cond.instantiable R_M 25 ∈ TB ∧ Cond.initialized R_M ∈ TB := ⟨tb_4 37 rfl rfl, tb_1 9 rfl rfl⟩
