/-! ===== the judgement G: the machine at a method's frame, over a world of cells, locals and operands as lists ===== -/
/-- where a walk runs: machine, launch, environment, room, state at entry, method, arguments, frames below, method row, code, class numbers, array classes, what may be written, number of locals, goal, addresses of static rows and texts -/
abbrev GX : Type := Program × Launch × Env × Room × State × MethodId × Array Value × List Frame × Method × Code × va_G × (Nat → ClassId) × (Nat → Prop) × Nat × (State → Prop) × (Nat → Nat)
def xp (X : GX) : Program := X.1
def xl (X : GX) : Launch := X.2.1
def xe (X : GX) : Env := X.2.2.1
def xR (X : GX) : Room := X.2.2.2.1
def xs (X : GX) : State := X.2.2.2.2.1
def xm (X : GX) : MethodId := X.2.2.2.2.2.1
def xa (X : GX) : Array Value := X.2.2.2.2.2.2.1
def xb (X : GX) : List Frame := X.2.2.2.2.2.2.2.1
def xM (X : GX) : Method := X.2.2.2.2.2.2.2.2.1
def xc (X : GX) : Code := X.2.2.2.2.2.2.2.2.2.1
def xD (X : GX) : va_G := X.2.2.2.2.2.2.2.2.2.2.1
def xt (X : GX) : Nat → ClassId := X.2.2.2.2.2.2.2.2.2.2.2.1
def xA (X : GX) : Nat → Prop := X.2.2.2.2.2.2.2.2.2.2.2.2.1
def xn (X : GX) : Nat := X.2.2.2.2.2.2.2.2.2.2.2.2.2.1
def xQ (X : GX) : State → Prop := X.2.2.2.2.2.2.2.2.2.2.2.2.2.2.1
def xv (X : GX) : Nat → Nat := X.2.2.2.2.2.2.2.2.2.2.2.2.2.2.2
abbrev tysOf (t : Nat → ClassId) : List (ClassId × FieldType) := [(t 0, .byte), (t 1, .char), (t 2, .int), (t 3, .long), (t 4, .object "SilenceCanal$Sheet"), (t 5, .object "SilenceCanal$Shelf")]
/-- the static rows, as ints -/
def tbFirst : List Int32 := [3, 2, 1, 20]
def tbMost : List Int32 := [9, 9, 9, 99]
def tbAbove : List Int32 := [-1, 0, 0, 1, 2, 0]
def tbBodies : List Int32 := [10, 11, 12, 13, 10, 20, 12, 13, 30, 11, 12, 31, 51, 20, 50, 13, 40, 41, 12, 31, 10, 11, 61, 60]
/-- the texts: place in the constants of SilenceCanal$Text, text -/
def txAt : List (Nat × String) := [(114, "barge"), (104, "mute"), (106, "lover"), (108, "bishop"), (110, "miller"), (112, "dealer"), (66, "at"), (72, "for"), (74, "load"), (76, "other"), (97, "is"), (56, "noise"), (116, "echo"), (118, "hush"), (120, "wind"), (122, "laugh")]
def txLen : List Nat := txAt.map fun q => q.2.length
def txByt : List (List Int32) := txAt.map fun q => q.2.toList.map fun c => Int32.ofNat c.toNat
def vaK (ev : Nat → Nat) : Nat → Nat := fun i => ev (8 + i)
def vaV (ev : Nat → Nat) : Nat → Nat := fun i => ev (32 + i)
def E_st (f : String) (a N : Nat) (xs : List Int32) (A : Nat → Prop) (U : State) (H : Heap) : Prop := va_Z R_X f "[I" (.ref a) A U H ∧ va_T .int a N (fun j => .int (xs.getD j 0)) A U H
/-- links between nest mates: a class, a place among its constants, a static field of SilenceCanal, or a method -/
def nwF : List (String × Nat × String) := [(R_C, 49, "LAWS_AT_FIRST"), (R_T, 90, "LAWS_AT_MOST"), (R_A, 40, "BODIES")]
def nwM : List (String × Nat × MethodName) := [(R_X, 28, y_T_init), (R_X, 55, y_A_init), (R_X, 60, y_S_init), (R_X, 61, y_H_init), (R_T, 86, y_X_isLaw), (R_T, 99, y_X_isLock), (R_C, 68, y_X_isLock), (R_C, 104, y_X_heldLoad)]
/-- what stands before and is never written: static rows, texts -/
def ENV (ev : Nat → Nat) (A : Nat → Prop) (U : State) (H : Heap) : Prop :=
  E_st "LAWS_AT_FIRST" (ev 0) 4 tbFirst A U H ∧ E_st "LAWS_AT_MOST" (ev 1) 4 tbMost A U H ∧ E_st "KIND_ABOVE" (ev 2) 6 tbAbove A U H ∧ E_st "BODIES" (ev 3) 24 tbBodies A U H ∧ va_Z "java/lang/String" "COMPACT_STRINGS" "Z" (.int 1) A U H ∧ vk_S 16 txLen txByt (vaK ev) (vaV ev) A U H ∧ va_Zq "jdk/internal/util/Preconditions" "SIOOBE_FORMATTER" "Ljava/util/function/BiFunction;" A U H ∧ (∀ i q, txAt[i]? = some q → vk_R "SilenceCanal$Text" q.1 q.2 (vaK ev i) U) ∧ (∀ q ∈ nwF, va_Nw (.fieldLinkNest q.1 q.2.1 R_X q.2.2 "[I" R_X) U) ∧ (∀ q ∈ nwM, va_Nw (.methodLinkNest q.1 q.2.1 q.2.2 R_X) U) ∧ va_AO "SilenceCanal$Sheet" U ∧ va_AO "SilenceCanal$Shelf" U
theorem E_st.go {f : String} {a N : Nat} {xs : List Int32} {A B : Nat → Prop} {u U : State} {H H1 : Heap} (h : E_st f a N xs A u H) (hq : ∀ q : Nat, q < H.size → ¬ A q → H1[q]? = H[q]?) (hAB : ∀ q, B q → A q) (hvm : u.vm.Alike U.vm) : E_st f a N xs B U H1 :=
  ⟨((h.1.kept hq).narrow hAB).moved hvm, ((h.2.kept hq).narrow hAB).moved hvm⟩
theorem ENV.go {ev : Nat → Nat} {A B : Nat → Prop} {u U : State} {H H1 : Heap} (h : ENV ev A u H) (hq : ∀ q : Nat, q < H.size → ¬ A q → H1[q]? = H[q]?) (hAB : ∀ q, B q → A q) (hW : u.WarmedH U.vm) : ENV ev B U H1 :=
  ⟨h.1.go hq hAB hW.alike, h.2.1.go hq hAB hW.alike, h.2.2.1.go hq hAB hW.alike, h.2.2.2.1.go hq hAB hW.alike, ((h.2.2.2.2.1.kept hq).narrow hAB).moved hW.alike, ((h.2.2.2.2.2.1.kept hq).narrow hAB).moved hW.alike, ((h.2.2.2.2.2.2.1.kept hq).narrow hAB).moved hW.alike, fun i q hi => (h.2.2.2.2.2.2.2.1 i q hi).warm hW, fun q hi => (h.2.2.2.2.2.2.2.2.1 q hi).warmF hW, fun q hi => (h.2.2.2.2.2.2.2.2.2.1 q hi).warmM hW, h.2.2.2.2.2.2.2.2.2.2.1.moved hW.alike, h.2.2.2.2.2.2.2.2.2.2.2.moved hW.alike⟩
def G (X : GX) (k z : Nat) (ws : va_W) (lv : List (Nat × Value)) (st : List Value) (pc : Nat) : Prop :=
  ∀ (H : Heap) (locs : List Loc) (ls : Array Slot), va_P (xD X) classes ws H → va_D (xA X) ws → va_S (xA X) (xs X).heap H locs → lv_has ls (xn X) lv → W (xp X) (xl X) (xe X) (xR X) (xs X) (xm X) (xa X) (xb X) (xM X) (xc X) H locs k z (xQ X) (F0 (xm X) pc ls st)
def rmd (d : Nat) : Room := { frames := d, cells := 0, slots := 0, locals := 40 * d }
/-- what a walk may use: its bytes, its class, its locals, its room -/
def GC (X : GX) (cc : ByteArray) (own : String) (n : Nat) (R : Room) : Prop :=
  (xp X).tables.exec = Jvm.exec ∧ (xc X).code = cc ∧ (xc X).maxLocals = xn X ∧ (xs X).vm.findClass own = some (xm X).cls ∧ (∀ w ∈ TB, w.before (xa X) (xs X) = true) ∧ va_K (xD X) classes (tysOf (xt X)) (xs X) ∧ (∀ q, (xs X).heap.size ≤ q → xA X q) ∧ ENV (xv X) (xA X) (xs X) (xs X).heap ∧ (xM X).locks = false ∧ xn X = n ∧ xR X = R
/-- a contract's end -/
def QG (D : va_G) (A : Nat → Prop) (Qp : Option Value → va_W → Prop) : Array Value → State → Outcome → State → Prop := fun _ st oc t => (∃ (r : Option Value) (u : va_W), oc = .returned r ∧ Qp r u ∧ va_P D classes u t.heap ∧ va_D A u) ∧ va_F A st t
def RC (X : GX) (ret : Option FieldType) (Qp : Option Value → va_W → Prop) (mc ms : Nat) : Prop := (xM X).sig.returnType = ret ∧ xQ X = MQ (xb X) (QG (xD X) (xA X) Qp) (xa X) (xs X) mc ms (xA X)
/-- a contract: over the cells ws, with the arguments av, the method returns r with the cells u, and Qp r u -/
def ConR (l : Launch) (D : va_G) (t : Nat → ClassId) (ev : Nat → Nat) (y : MethodName) (b : ByteArray) (L : Nat) (ret : Option FieldType) (rm : Room) (mc ms : Nat) (ws : va_W) (av : List Value) (Qp : Option Value → va_W → Prop) : Prop :=
  ∀ sz : Nat, Met l y (.code y b L ret :: TB) rm (va_Pc av (fun U => U.heap.size = sz ∧ va_P D classes ws U.heap ∧ va_K D classes (tysOf t) U ∧ va_D (fun _ => True) ws ∧ ENV ev (va_A ws sz) U U.heap)) (QG D (va_A ws sz) Qp) mc ms (va_A ws sz)
def Con (l : Launch) (D : va_G) (t : Nat → ClassId) (ev : Nat → Nat) (y : MethodName) (b : ByteArray) (L : Nat) (ret : Option FieldType) (d : Nat) (ws : va_W) (av : List Value) (Qp : Option Value → va_W → Prop) : Prop := ConR l D t ev y b L ret (rmd d) 0 0 ws av (fun r u => Qp r u ∧ u.map Prod.fst = ws.map Prod.fst)
theorem ConR.of {l : Launch} {D : va_G} {t : Nat → ClassId} {ev : Nat → Nat} {y : MethodName} {b : ByteArray} {L : Nat} {ret : Option FieldType} {rm : Room} {mc ms : Nat} {ws : va_W} {av : List Value} {Qp : Option Value → va_W → Prop} (hy : plainFor y = true) (hal : (lg_sl av).length ≤ L)
    (h : ∀ X : GX, xl X = l → xD X = D → xt X = t → xv X = ev → GC X b y.cls L rm → RC X ret Qp mc ms → (y.name = "<init>" → (xM X).name = "<init>") → G X 0 0 ws (lv_args 0 av) [] 0) : ConR l D t ev y b L ret rm mc ms ws av Qp := by
  intro sz
  refine va_MetF (cc := b) (maxL := L) (ret := ret) hy rfl ?_
  intro p e s m args below meth c s₁ B hml hv
  obtain ⟨rfl, hsz, hP, hK, hD0, hE⟩ := hv
  have hts := atoms_spec (ws := Cond.code y b L ret :: TB) B.pre
  subst hsz
  have hA : ∀ q : Nat, s.heap.size ≤ q → va_A ws s.heap.size q := fun q h => Or.inr h
  have hl := lv_entry av (n := L) hal
  rw [lg_entry_eq]
  have := h (p, l, e, rm, s, m, av.toArray, below, meth, c, D, t, va_A ws s.heap.size, L, MQ below (QG D (va_A ws s.heap.size) Qp) av.toArray s mc ms (va_A ws s.heap.size), ev) rfl rfl rfl rfl
    ⟨B.exec, B.bytes, hml, findClass_of_methodNamed B.named, fun w hw => hts w (List.mem_cons_of_mem _ hw), hK, hA, hE, B.notSynchronized, rfl, rfl⟩ ⟨B.returns, rfl⟩ (fun hn => (name_of_methodNamed B.named B.method).1.trans hn)
  exact this s.heap [] _ hP hD0.self va_S.rf hl
/-- a local set, the list kept in order -/
def lvins (i : Nat) (v : Value) : List (Nat × Value) → List (Nat × Value)
  | [] => [(i, v)]
  | q :: r => if q.1 < i then q :: lvins i v r else (i, v) :: q :: r
theorem lvins_mem {i : Nat} {v : Value} {q : Nat × Value} : ∀ {l : List (Nat × Value)}, q ∈ lvins i v l → q = (i, v) ∨ q ∈ l
  | [], h => by simpa [lvins] using h
  | p :: r, h => by
    unfold lvins at h
    split at h
    · rcases List.mem_cons.mp h with rfl | h
      · exact Or.inr List.mem_cons_self
      · rcases lvins_mem h with h | h
        · exact Or.inl h
        · exact Or.inr (List.mem_cons_of_mem _ h)
    · exact List.mem_cons.mp h
theorem lvins_has {ls : Array Slot} {n i : Nat} {v : Value} {l : List (Nat × Value)} (h : lv_has ls n ((i, v) :: l)) : lv_has ls n (lvins i v l) :=
  ⟨h.1, h.2.1, fun q hq => h.2.2 q (List.mem_cons.mpr (lvins_mem hq))⟩
abbrev lvp (i : Nat) (v : Value) (l : List (Nat × Value)) : List (Nat × Value) := lvins i v (l.filter (fun q => !(q.1 == i) && !(q.1 + 1 == i && q.2.category == 2)))
abbrev lvq (i : Nat) (v : Value) (l : List (Nat × Value)) : List (Nat × Value) := lvins i v (l.filter (fun q => !(q.1 == i) && (!(q.1 == i + 1) && !(q.1 + 1 == i && q.2.category == 2))))
/-- a world with some cells put anew -/
def scat : va_W → List Nat → va_W → va_W
  | ws, i :: is, e :: es => scat (ws.set i e) is es
  | ws, _, _ => ws
theorem scat_out : ∀ (is : List Nat) (u ws : va_W) (k : Nat), k ∉ is → (scat ws is u)[k]? = ws[k]?
  | [], _, _, _, _ => by simp [scat]
  | i :: is, [], _, _, _ => by simp [scat]
  | i :: is, e :: es, ws, k, h => by
    rw [scat, scat_out is es _ k (fun h2 => h (List.mem_cons_of_mem _ h2))]
    exact List.getElem?_set_ne (fun (q : i = k) => h (by rw [q]; exact List.mem_cons_self))
theorem scat_len : ∀ (is : List Nat) (u ws : va_W), (scat ws is u).length = ws.length
  | [], _, _ => by simp [scat]
  | i :: is, [], _ => by simp [scat]
  | i :: is, e :: es, ws => by rw [scat, scat_len]; simp
theorem scat_in : ∀ (is : List Nat) (u ws : va_W) (j k : Nat) (e : Nat × va_E), va_nd is = true → is[j]? = some k → u[j]? = some e → k < ws.length → (scat ws is u)[k]? = some e
  | [], _, _, j, _, _, _, h, _, _ => by simp at h
  | i :: is, [], _, j, _, _, _, _, h, _ => by simp at h
  | i :: is, e0 :: es, ws, j, k, e, hn, h1, h2, h3 => by
    rw [scat]
    have hnd : i ∉ is ∧ va_nd is = true := by simpa [va_nd] using hn
    match j, h1, h2 with
    | 0, h1, h2 =>
      simp at h1 h2
      subst h1; subst h2
      rw [scat_out is es _ _ hnd.1]
      simp [h3]
    | j + 1, h1, h2 => exact scat_in is es _ j k e hnd.2 (by simpa using h1) (by simpa using h2) (by simpa using h3)
theorem scat_ok {D : va_G} {A : Nat → Prop} {ws wc u : va_W} {isC : List Nat} {H H1 : Heap} (hP : va_P D classes ws H) (hD : va_D A ws) (hC : isC.map (fun i => ws[i]?) = wc.map some) (hn : va_nd isC = true)
    (hk : ∀ q : Nat, q < H.size → ¬ va_A wc H.size q → H1[q]? = H[q]?) (hP1 : va_P D classes u H1) (hu : u.map Prod.fst = wc.map Prod.fst) : va_P D classes (scat ws isC u) H1 ∧ va_D A (scat ws isC u) := by
  have hl1 : isC.length = wc.length := by simpa using congrArg List.length hC
  have hl2 : u.length = wc.length := by simpa using congrArg List.length hu
  have hat : ∀ (j k : Nat), isC[j]? = some k → ws[k]? = wc[j]? := by
    intro j k hj
    have := congrArg (fun l => l[j]?) hC
    simp only [List.getElem?_map, hj, Option.map_some] at this
    cases hw : wc[j]? with
    | none => rw [hw] at this; simp at this
    | some q => rw [hw] at this; simpa using this
  have key : ∀ (k : Nat) (q : Nat × va_E), (scat ws isC u)[k]? = some q → (∃ j : Nat, isC[j]? = some k ∧ u[j]? = some q) ∨ (k ∉ isC ∧ ws[k]? = some q) := by
    intro k q hq
    by_cases hm : k ∈ isC
    · obtain ⟨j, hj, hjk⟩ := List.getElem_of_mem hm
      have hj1 : isC[j]? = some k := by rw [List.getElem?_eq_getElem hj, hjk]
      have hj2 : j < u.length := by omega
      have hjw : j < wc.length := by omega
      have hkl : k < ws.length := by
        have := hat j k hj1
        rw [List.getElem?_eq_getElem hjw] at this
        exact (List.getElem?_eq_some_iff.mp this).1
      have := scat_in isC u ws j k u[j] hn hj1 (List.getElem?_eq_getElem hj2) hkl
      rw [this] at hq
      cases hq
      exact Or.inl ⟨j, hj1, List.getElem?_eq_getElem hj2⟩
    · rw [scat_out isC u ws k hm] at hq
      exact Or.inr ⟨hm, hq⟩
  have adr : ∀ (k : Nat) (q : Nat × va_E), (scat ws isC u)[k]? = some q → ∃ q' : Nat × va_E, ws[k]? = some q' ∧ q'.1 = q.1 := by
    intro k q hq
    rcases key k q hq with ⟨j, h1, h2⟩ | ⟨-, h2⟩
    · have hjl : j < wc.length := by have := (List.getElem?_eq_some_iff.mp h2).1; omega
      have h3 := hat j k h1
      rw [List.getElem?_eq_getElem hjl] at h3
      refine ⟨_, h3, ?_⟩
      have := congrArg (fun l => l[j]?) hu
      simp only [List.getElem?_map, h2, Option.map_some, List.getElem?_eq_getElem hjl] at this
      exact (Option.some.inj this).symm
    · exact ⟨q, h2, rfl⟩
  refine ⟨fun k q hq => ?_, fun i j p q hi hj he => ?_, fun k q hq => ?_⟩
  · rcases key k q hq with ⟨j, -, h2⟩ | ⟨h1, h2⟩
    · exact hP1 j q h2
    · have ha := hP k q h2
      refine ha.kept (hk _ ha.lt ?_)
      rintro (⟨j, e, hj⟩ | hge)
      · have hjl : j < isC.length := by have := (List.getElem?_eq_some_iff.mp hj).1; omega
        have h3 := hat j isC[j] (List.getElem?_eq_getElem hjl)
        rw [hj] at h3
        exact h1 ((hD.1 k isC[j] q _ h2 h3 rfl) ▸ List.getElem_mem hjl)
      · exact absurd ha.lt (by omega)
  · obtain ⟨p', h1, e1⟩ := adr i p hi
    obtain ⟨q', h2, e2⟩ := adr j q hj
    exact hD.1 i j p' q' h1 h2 (by rw [e1, e2]; exact he)
  · obtain ⟨q', h1, e1⟩ := adr k q hq
    rw [← e1]
    exact hD.2 k q' h1
section GROWS
variable {X : GX} {cc : ByteArray} {own : String} {n : Nat} {R : Room} {k z : Nat} {ws ws' : va_W} {lv lv' : List (Nat × Value)} {st : List Value} {pc tgt : Nat} {off : Int}

theorem g_iadd (C : GC X cc own n R) {x y : Int32} (d : decode cc pc = .ok (.iadd, 1))  (h : G X k z ws lv (.int (x + y) :: st) (pc + 1)) : G X k z ws lv (.int y :: .int x :: st) pc := fun H locs ls hP hD hS hl => lv_iadd C.1 C.2.1 d (h H locs ls hP hD hS hl)
theorem g_isub (C : GC X cc own n R) {x y : Int32} (d : decode cc pc = .ok (.isub, 1))  (h : G X k z ws lv (.int (x - y) :: st) (pc + 1)) : G X k z ws lv (.int y :: .int x :: st) pc := fun H locs ls hP hD hS hl => lv_isub C.1 C.2.1 d (h H locs ls hP hD hS hl)
theorem g_imul (C : GC X cc own n R) {x y : Int32} (d : decode cc pc = .ok (.imul, 1))  (h : G X k z ws lv (.int (x * y) :: st) (pc + 1)) : G X k z ws lv (.int y :: .int x :: st) pc := fun H locs ls hP hD hS hl => lv_imul C.1 C.2.1 d (h H locs ls hP hD hS hl)
theorem g_iand (C : GC X cc own n R) {x y : Int32} (d : decode cc pc = .ok (.iand, 1))  (h : G X k z ws lv (.int (x &&& y) :: st) (pc + 1)) : G X k z ws lv (.int y :: .int x :: st) pc := fun H locs ls hP hD hS hl => lv_iand C.1 C.2.1 d (h H locs ls hP hD hS hl)
theorem g_ior (C : GC X cc own n R) {x y : Int32} (d : decode cc pc = .ok (.ior, 1))  (h : G X k z ws lv (.int (x ||| y) :: st) (pc + 1)) : G X k z ws lv (.int y :: .int x :: st) pc := fun H locs ls hP hD hS hl => lv_ior C.1 C.2.1 d (h H locs ls hP hD hS hl)
theorem g_ixor (C : GC X cc own n R) {x y : Int32} (d : decode cc pc = .ok (.ixor, 1))  (h : G X k z ws lv (.int (x ^^^ y) :: st) (pc + 1)) : G X k z ws lv (.int y :: .int x :: st) pc := fun H locs ls hP hD hS hl => lv_ixor C.1 C.2.1 d (h H locs ls hP hD hS hl)
theorem g_ishl (C : GC X cc own n R) {x y : Int32} (d : decode cc pc = .ok (.ishl, 1))  (h : G X k z ws lv (.int (x <<< (y &&& 31)) :: st) (pc + 1)) : G X k z ws lv (.int y :: .int x :: st) pc := fun H locs ls hP hD hS hl => lv_ishl C.1 C.2.1 d (h H locs ls hP hD hS hl)
theorem g_ishr (C : GC X cc own n R) {x y : Int32} (d : decode cc pc = .ok (.ishr, 1))  (h : G X k z ws lv (.int (x >>> (y &&& 31)) :: st) (pc + 1)) : G X k z ws lv (.int y :: .int x :: st) pc := fun H locs ls hP hD hS hl => lv_ishr C.1 C.2.1 d (h H locs ls hP hD hS hl)
theorem g_idiv (C : GC X cc own n R) {x y : Int32} (d : decode cc pc = .ok (.idiv, 1)) (hn : ¬ y = 0) (h : G X k z ws lv (.int (x / y) :: st) (pc + 1)) : G X k z ws lv (.int y :: .int x :: st) pc := fun H locs ls hP hD hS hl => lv_idiv C.1 C.2.1 d hn (h H locs ls hP hD hS hl)
theorem g_irem (C : GC X cc own n R) {x y : Int32} (d : decode cc pc = .ok (.irem, 1)) (hn : ¬ y = 0) (h : G X k z ws lv (.int (x - x / y * y) :: st) (pc + 1)) : G X k z ws lv (.int y :: .int x :: st) pc := fun H locs ls hP hD hS hl => lv_irem C.1 C.2.1 d hn (h H locs ls hP hD hS hl)
theorem g_iushr (C : GC X cc own n R) {x y : Int32} (d : decode cc pc = .ok (.iushr, 1))  (h : G X k z ws lv (.int ((x.toUInt32 >>> (y.toUInt32 &&& Int32.toUInt32 31)).toInt32) :: st) (pc + 1)) : G X k z ws lv (.int y :: .int x :: st) pc := fun H locs ls hP hD hS hl => lv_iushr C.1 C.2.1 d rfl (h H locs ls hP hD hS hl)
theorem g_ineg (C : GC X cc own n R) {x : Int32} (d : decode cc pc = .ok (.ineg, 1))  (h : G X k z ws lv (.int (-x) :: st) (pc + 1)) : G X k z ws lv (.int x :: st) pc := fun H locs ls hP hD hS hl => lv_ineg C.1 C.2.1 d (h H locs ls hP hD hS hl)
theorem g_ladd (C : GC X cc own n R) {x y : Int64} (d : decode cc pc = .ok (.ladd, 1))  (h : G X k z ws lv (.long (x + y) :: st) (pc + 1)) : G X k z ws lv (.long y :: .long x :: st) pc := fun H locs ls hP hD hS hl => lv_ladd C.1 C.2.1 d (h H locs ls hP hD hS hl)
theorem g_lsub (C : GC X cc own n R) {x y : Int64} (d : decode cc pc = .ok (.lsub, 1))  (h : G X k z ws lv (.long (x - y) :: st) (pc + 1)) : G X k z ws lv (.long y :: .long x :: st) pc := fun H locs ls hP hD hS hl => lv_lsub C.1 C.2.1 d (h H locs ls hP hD hS hl)
theorem g_lmul (C : GC X cc own n R) {x y : Int64} (d : decode cc pc = .ok (.lmul, 1))  (h : G X k z ws lv (.long (x * y) :: st) (pc + 1)) : G X k z ws lv (.long y :: .long x :: st) pc := fun H locs ls hP hD hS hl => lv_lmul C.1 C.2.1 d (h H locs ls hP hD hS hl)
theorem g_land (C : GC X cc own n R) {x y : Int64} (d : decode cc pc = .ok (.land, 1))  (h : G X k z ws lv (.long (x &&& y) :: st) (pc + 1)) : G X k z ws lv (.long y :: .long x :: st) pc := fun H locs ls hP hD hS hl => lv_land C.1 C.2.1 d (h H locs ls hP hD hS hl)
theorem g_lor (C : GC X cc own n R) {x y : Int64} (d : decode cc pc = .ok (.lor, 1))  (h : G X k z ws lv (.long (x ||| y) :: st) (pc + 1)) : G X k z ws lv (.long y :: .long x :: st) pc := fun H locs ls hP hD hS hl => lv_lor C.1 C.2.1 d (h H locs ls hP hD hS hl)
theorem g_lxor (C : GC X cc own n R) {x y : Int64} (d : decode cc pc = .ok (.lxor, 1))  (h : G X k z ws lv (.long (x ^^^ y) :: st) (pc + 1)) : G X k z ws lv (.long y :: .long x :: st) pc := fun H locs ls hP hD hS hl => lv_lxor C.1 C.2.1 d (h H locs ls hP hD hS hl)
theorem g_ldiv (C : GC X cc own n R) {x y : Int64} (d : decode cc pc = .ok (.ldiv, 1)) (hn : ¬ y = 0) (h : G X k z ws lv (.long (x / y) :: st) (pc + 1)) : G X k z ws lv (.long y :: .long x :: st) pc := fun H locs ls hP hD hS hl => lv_ldiv C.1 C.2.1 d hn (h H locs ls hP hD hS hl)
theorem g_lrem (C : GC X cc own n R) {x y : Int64} (d : decode cc pc = .ok (.lrem, 1)) (hn : ¬ y = 0) (h : G X k z ws lv (.long (x - x / y * y) :: st) (pc + 1)) : G X k z ws lv (.long y :: .long x :: st) pc := fun H locs ls hP hD hS hl => lv_lrem C.1 C.2.1 d hn (h H locs ls hP hD hS hl)
theorem g_lshl (C : GC X cc own n R) {x : Int64} {y : Int32} (d : decode cc pc = .ok (.lshl, 1))  (h : G X k z ws lv (.long (x <<< (y.toInt64 &&& 63)) :: st) (pc + 1)) : G X k z ws lv (.int y :: .long x :: st) pc := fun H locs ls hP hD hS hl => lv_lshl C.1 C.2.1 d rfl (h H locs ls hP hD hS hl)
theorem g_lshr (C : GC X cc own n R) {x : Int64} {y : Int32} (d : decode cc pc = .ok (.lshr, 1))  (h : G X k z ws lv (.long (x >>> (y.toInt64 &&& 63)) :: st) (pc + 1)) : G X k z ws lv (.int y :: .long x :: st) pc := fun H locs ls hP hD hS hl => lv_lshr C.1 C.2.1 d rfl (h H locs ls hP hD hS hl)
theorem g_lushr (C : GC X cc own n R) {x : Int64} {y : Int32} (d : decode cc pc = .ok (.lushr, 1))  (h : G X k z ws lv (.long ((x.toUInt64 >>> (y.toInt64.toUInt64 &&& Int64.toUInt64 63)).toInt64) :: st) (pc + 1)) : G X k z ws lv (.int y :: .long x :: st) pc := fun H locs ls hP hD hS hl => lv_lushr C.1 C.2.1 d rfl (h H locs ls hP hD hS hl)
theorem g_lcmp (C : GC X cc own n R) {x y : Int64} (d : decode cc pc = .ok (.lcmp, 1))  (h : G X k z ws lv (.int (lg_cmp x y) :: st) (pc + 1)) : G X k z ws lv (.long y :: .long x :: st) pc := fun H locs ls hP hD hS hl => W.lcmp C.1 C.2.1 d (h H locs ls hP hD hS hl)
theorem g_i2l (C : GC X cc own n R) {x : Int32} (d : decode cc pc = .ok (.i2l, 1))  (h : G X k z ws lv (.long (x.toInt64) :: st) (pc + 1)) : G X k z ws lv (.int x :: st) pc := fun H locs ls hP hD hS hl => lv_i2l C.1 C.2.1 d rfl (h H locs ls hP hD hS hl)
theorem g_l2i (C : GC X cc own n R) {x : Int64} (d : decode cc pc = .ok (.l2i, 1))  (h : G X k z ws lv (.int (x.toInt32) :: st) (pc + 1)) : G X k z ws lv (.long x :: st) pc := fun H locs ls hP hD hS hl => lv_l2i C.1 C.2.1 d rfl (h H locs ls hP hD hS hl)
theorem g_i2b (C : GC X cc own n R) {x : Int32} (d : decode cc pc = .ok (.i2b, 1))  (h : G X k z ws lv (.int (x.toInt8.toInt32) :: st) (pc + 1)) : G X k z ws lv (.int x :: st) pc := fun H locs ls hP hD hS hl => lv_i2b C.1 C.2.1 d rfl (h H locs ls hP hD hS hl)
theorem g_i2s (C : GC X cc own n R) {x : Int32} (d : decode cc pc = .ok (.i2s, 1))  (h : G X k z ws lv (.int (x.toInt16.toInt32) :: st) (pc + 1)) : G X k z ws lv (.int x :: st) pc := fun H locs ls hP hD hS hl => lv_i2s C.1 C.2.1 d rfl (h H locs ls hP hD hS hl)
theorem g_i2c (C : GC X cc own n R) {x : Int32} (d : decode cc pc = .ok (.i2c, 1))  (h : G X k z ws lv (.int ((x.toUInt32 % 65536).toInt32) :: st) (pc + 1)) : G X k z ws lv (.int x :: st) pc := fun H locs ls hP hD hS hl => lv_i2c C.1 C.2.1 d rfl (h H locs ls hP hD hS hl)
theorem g_iconst (C : GC X cc own n R) {i : Int} {v : Int32} (d : decode cc pc = .ok (.iconst i, 1)) (hv : Int32.ofInt i = v) (h : G X k z ws lv (.int v :: st) (pc + 1)) : G X k z ws lv (st) pc := fun H locs ls hP hD hS hl => lv_iconst C.1 C.2.1 d hv (h H locs ls hP hD hS hl)
theorem g_lconst (C : GC X cc own n R) {i : Fin 2} {v : Int64} (d : decode cc pc = .ok (.lconst i, 1)) (hv : Int64.ofNat (i : Nat) = v) (h : G X k z ws lv (.long v :: st) (pc + 1)) : G X k z ws lv (st) pc := fun H locs ls hP hD hS hl => lv_lconst C.1 C.2.1 d hv (h H locs ls hP hD hS hl)
theorem g_bipush (C : GC X cc own n R) {i : Int} {v : Int32} (d : decode cc pc = .ok (.bipush i, 2)) (hv : (Int8.ofInt i).toInt32 = v) (h : G X k z ws lv (.int v :: st) (pc + 2)) : G X k z ws lv (st) pc := fun H locs ls hP hD hS hl => lv_bipush C.1 C.2.1 d hv (h H locs ls hP hD hS hl)
theorem g_sipush (C : GC X cc own n R) {i : Int} {v : Int32} (d : decode cc pc = .ok (.sipush i, 3)) (hv : (Int16.ofInt i).toInt32 = v) (h : G X k z ws lv (.int v :: st) (pc + 3)) : G X k z ws lv (st) pc := fun H locs ls hP hD hS hl => lv_sipush C.1 C.2.1 d hv (h H locs ls hP hD hS hl)
theorem g_ldc (C : GC X cc own n R) {i : Nat} {v : Int32} (d : decode cc pc = .ok (.ldc i, 2)) (hv : Cond.constant own i v ∈ TB) (h : G X k z ws lv (.int v :: st) (pc + 2)) : G X k z ws lv (st) pc := fun H locs ls hP hD hS hl => lv_ldc C.1 C.2.1 C.2.2.2.1 (C.2.2.2.2.1 _ hv) d (h H locs ls hP hD hS hl)
theorem g_ldc_w (C : GC X cc own n R) {i : Nat} {v : Int32} (d : decode cc pc = .ok (.ldc_w i, 3)) (hv : Cond.constant own i v ∈ TB) (h : G X k z ws lv (.int v :: st) (pc + 3)) : G X k z ws lv (st) pc := fun H locs ls hP hD hS hl => lv_ldcw C.1 C.2.1 C.2.2.2.1 (C.2.2.2.2.1 _ hv) d (h H locs ls hP hD hS hl)
theorem g_ldc2_w (C : GC X cc own n R) {i : Nat} {v : Int64} (d : decode cc pc = .ok (.ldc2_w i, 3)) (hv : Cond.constantLong own i v ∈ TB) (h : G X k z ws lv (.long v :: st) (pc + 3)) : G X k z ws lv (st) pc := fun H locs ls hP hD hS hl => lv_ldc2 C.1 C.2.1 C.2.2.2.1 (C.2.2.2.2.1 _ hv) d (h H locs ls hP hD hS hl)
theorem g_null (C : GC X cc own n R)  (d : decode cc pc = .ok (.aconst_null, 1))  (h : G X k z ws lv (.null :: st) (pc + 1)) : G X k z ws lv (st) pc := fun H locs ls hP hD hS hl => lv_null C.1 C.2.1 d (h H locs ls hP hD hS hl)
theorem g_dup (C : GC X cc own n R) {v : Value} (d : decode cc pc = .ok (.dup, 1)) (hc : v.category = 1) (h : G X k z ws lv (v :: v :: st) (pc + 1)) : G X k z ws lv (v :: st) pc := fun H locs ls hP hD hS hl => lv_dup C.1 C.2.1 d hc (h H locs ls hP hD hS hl)
theorem g_pop (C : GC X cc own n R) {v : Value} (d : decode cc pc = .ok (.pop, 1)) (hc : v.category = 1) (h : G X k z ws lv (st) (pc + 1)) : G X k z ws lv (v :: st) pc := fun H locs ls hP hD hS hl => lv_pop C.1 C.2.1 d hc (h H locs ls hP hD hS hl)
theorem g_dup2 (C : GC X cc own n R) {v w : Value} (d : decode cc pc = .ok (.dup2, 1)) (hc : v.category = 1) (hd : w.category = 1) (h : G X k z ws lv (v :: w :: v :: w :: st) (pc + 1)) : G X k z ws lv (v :: w :: st) pc := fun H locs ls hP hD hS hl => lv_dup2_11 C.1 C.2.1 d hc hd (h H locs ls hP hD hS hl)
theorem g_dup_x1 (C : GC X cc own n R) {v w : Value} (d : decode cc pc = .ok (.dup_x1, 1)) (hc : v.category = 1) (hd : w.category = 1) (h : G X k z ws lv (v :: w :: v :: st) (pc + 1)) : G X k z ws lv (v :: w :: st) pc := fun H locs ls hP hD hS hl => lv_dup_x1 C.1 C.2.1 d hc hd (h H locs ls hP hD hS hl)
theorem g_iload_n (C : GC X cc own n R) {i : Fin 4} {w : Nat} {x : Int32} (d : decode cc pc = .ok (.iload_n i, 1)) (j : Nat) (hi : (i : Nat) = w) (hj : lv[j]? = some (w, .int x)) (h : G X k z ws lv (.int x :: st) (pc + 1)) : G X k z ws lv st pc := fun H locs ls hP hD hS hl => lv_iload_n C.1 C.2.1 d hi (lv_at hl j hj) (h H locs ls hP hD hS hl)
theorem g_iload (C : GC X cc own n R) {i : Nat} {x : Int32} (d : decode cc pc = .ok (.iload i, 2)) (j : Nat) (hj : lv[j]? = some (i, .int x)) (h : G X k z ws lv (.int x :: st) (pc + 2)) : G X k z ws lv st pc := fun H locs ls hP hD hS hl => lv_iload C.1 C.2.1 d (lv_at hl j hj) (h H locs ls hP hD hS hl)
theorem g_istore_n (C : GC X cc own n R) {w : Fin 4} {i : Nat} {x : Int32} (d : decode cc pc = .ok (.istore_n w, 1)) (hi : (w : Nat) = i) (hn : i < n) (hl : lvp i (.int x) lv = lv') (h : G X k z ws lv' st (pc + 1)) : G X k z ws lv (.int x :: st) pc := fun H locs ls hP hD hS hv => lv_istore_n C.1 C.2.1 d hi hv (by rw [C.2.2.2.2.2.2.2.2.2.1]; exact hn) rfl (fun ls1 h1 => h H locs ls1 hP hD hS (hl ▸ lvins_has h1))
theorem g_istore (C : GC X cc own n R) {i : Nat} {x : Int32} (d : decode cc pc = .ok (.istore i, 2)) (hn : i < n) (hl : lvp i (.int x) lv = lv') (h : G X k z ws lv' st (pc + 2)) : G X k z ws lv (.int x :: st) pc := fun H locs ls hP hD hS hv => lv_istore C.1 C.2.1 d hv (by rw [C.2.2.2.2.2.2.2.2.2.1]; exact hn) rfl (fun ls1 h1 => h H locs ls1 hP hD hS (hl ▸ lvins_has h1))
theorem g_lload_n (C : GC X cc own n R) {i : Fin 4} {w : Nat} {x : Int64} (d : decode cc pc = .ok (.lload_n i, 1)) (j : Nat) (hi : (i : Nat) = w) (hj : lv[j]? = some (w, .long x)) (h : G X k z ws lv (.long x :: st) (pc + 1)) : G X k z ws lv st pc := fun H locs ls hP hD hS hl => lv_lload_n C.1 C.2.1 d hi (lv_at hl j hj) (h H locs ls hP hD hS hl)
theorem g_lload (C : GC X cc own n R) {i : Nat} {x : Int64} (d : decode cc pc = .ok (.lload i, 2)) (j : Nat) (hj : lv[j]? = some (i, .long x)) (h : G X k z ws lv (.long x :: st) (pc + 2)) : G X k z ws lv st pc := fun H locs ls hP hD hS hl => lv_lload C.1 C.2.1 d (lv_at hl j hj) (h H locs ls hP hD hS hl)
theorem g_lstore_n (C : GC X cc own n R) {w : Fin 4} {i : Nat} {x : Int64} (d : decode cc pc = .ok (.lstore_n w, 1)) (hi : (w : Nat) = i) (hn : i + 1 < n) (hl : lvq i (.long x) lv = lv') (h : G X k z ws lv' st (pc + 1)) : G X k z ws lv (.long x :: st) pc := fun H locs ls hP hD hS hv => lv_lstore_n C.1 C.2.1 d hi hv (by rw [C.2.2.2.2.2.2.2.2.2.1]; exact hn) rfl (fun ls1 h1 => h H locs ls1 hP hD hS (hl ▸ lvins_has h1))
theorem g_lstore (C : GC X cc own n R) {i : Nat} {x : Int64} (d : decode cc pc = .ok (.lstore i, 2)) (hn : i + 1 < n) (hl : lvq i (.long x) lv = lv') (h : G X k z ws lv' st (pc + 2)) : G X k z ws lv (.long x :: st) pc := fun H locs ls hP hD hS hv => lv_lstore C.1 C.2.1 d hv (by rw [C.2.2.2.2.2.2.2.2.2.1]; exact hn) rfl (fun ls1 h1 => h H locs ls1 hP hD hS (hl ▸ lvins_has h1))
theorem g_aload_n (C : GC X cc own n R) {i : Fin 4} {w : Nat} {x : Nat} (d : decode cc pc = .ok (.aload_n i, 1)) (j : Nat) (hi : (i : Nat) = w) (hj : lv[j]? = some (w, .ref x)) (h : G X k z ws lv (.ref x :: st) (pc + 1)) : G X k z ws lv st pc := fun H locs ls hP hD hS hl => lv_aload_n C.1 C.2.1 d hi (lv_at hl j hj) (h H locs ls hP hD hS hl)
theorem g_aload (C : GC X cc own n R) {i : Nat} {x : Nat} (d : decode cc pc = .ok (.aload i, 2)) (j : Nat) (hj : lv[j]? = some (i, .ref x)) (h : G X k z ws lv (.ref x :: st) (pc + 2)) : G X k z ws lv st pc := fun H locs ls hP hD hS hl => lv_aload C.1 C.2.1 d (lv_at hl j hj) (h H locs ls hP hD hS hl)
theorem g_astore_n (C : GC X cc own n R) {w : Fin 4} {i : Nat} {x : Nat} (d : decode cc pc = .ok (.astore_n w, 1)) (hi : (w : Nat) = i) (hn : i < n) (hl : lvp i (.ref x) lv = lv') (h : G X k z ws lv' st (pc + 1)) : G X k z ws lv (.ref x :: st) pc := fun H locs ls hP hD hS hv => lv_astore_n C.1 C.2.1 d hi hv (by rw [C.2.2.2.2.2.2.2.2.2.1]; exact hn) rfl (fun ls1 h1 => h H locs ls1 hP hD hS (hl ▸ lvins_has h1))
theorem g_astore (C : GC X cc own n R) {i : Nat} {x : Nat} (d : decode cc pc = .ok (.astore i, 2)) (hn : i < n) (hl : lvp i (.ref x) lv = lv') (h : G X k z ws lv' st (pc + 2)) : G X k z ws lv (.ref x :: st) pc := fun H locs ls hP hD hS hv => lv_astore C.1 C.2.1 d hv (by rw [C.2.2.2.2.2.2.2.2.2.1]; exact hn) rfl (fun ls1 h1 => h H locs ls1 hP hD hS (hl ▸ lvins_has h1))
theorem g_aload_nN (C : GC X cc own n R) {i : Fin 4} {w : Nat} (d : decode cc pc = .ok (.aload_n i, 1)) (j : Nat) (hi : (i : Nat) = w) (hj : lv[j]? = some (w, .null)) (h : G X k z ws lv (.null :: st) (pc + 1)) : G X k z ws lv st pc := fun H locs ls hP hD hS hl => lv_aload_nN C.1 C.2.1 d hi (lv_at hl j hj) (h H locs ls hP hD hS hl)
theorem g_aloadN (C : GC X cc own n R) {w : Nat} (d : decode cc pc = .ok (.aload w, 2)) (j : Nat)  (hj : lv[j]? = some (w, .null)) (h : G X k z ws lv (.null :: st) (pc + 2)) : G X k z ws lv st pc := fun H locs ls hP hD hS hl => lv_aloadN C.1 C.2.1 d  (lv_at hl j hj) (h H locs ls hP hD hS hl)
theorem g_astore_nN (C : GC X cc own n R) {w : Fin 4} {i : Nat} (d : decode cc pc = .ok (.astore_n w, 1)) (hi : (w : Nat) = i) (hn : i < n) (hl : lvp i .null lv = lv') (h : G X k z ws lv' st (pc + 1)) : G X k z ws lv (.null :: st) pc := fun H locs ls hP hD hS hv => lv_astore_nN C.1 C.2.1 d hi hv (by rw [C.2.2.2.2.2.2.2.2.2.1]; exact hn) rfl (fun ls1 h1 => h H locs ls1 hP hD hS (hl ▸ lvins_has h1))
theorem g_astoreN (C : GC X cc own n R) {i : Nat} (d : decode cc pc = .ok (.astore i, 2))  (hn : i < n) (hl : lvp i .null lv = lv') (h : G X k z ws lv' st (pc + 2)) : G X k z ws lv (.null :: st) pc := fun H locs ls hP hD hS hv => lv_astoreN C.1 C.2.1 d  hv (by rw [C.2.2.2.2.2.2.2.2.2.1]; exact hn) rfl (fun ls1 h1 => h H locs ls1 hP hD hS (hl ▸ lvins_has h1))
theorem g_iinc (C : GC X cc own n R) {i : Nat} {m : Int} {x v : Int32} (d : decode cc pc = .ok (.iinc i m, 3)) (j : Nat) (hj : lv[j]? = some (i, .int x)) (hv : x + Int32.ofInt m = v) (hn : i < n) (hl : lvp i (.int v) lv = lv') (h : G X k z ws lv' st (pc + 3)) : G X k z ws lv st pc := fun H locs ls hP hD hS hh => lv_iinc C.1 C.2.1 d hh hj hv (by rw [C.2.2.2.2.2.2.2.2.2.1]; exact hn) rfl (fun ls1 h1 => h H locs ls1 hP hD hS (hl ▸ lvins_has h1))
theorem g_if_eq (C : GC X cc own n R) {x : Int32} (d : decode cc pc = .ok (.ifCond .eq off, 3)) (ht : (pc : Int) + off = (tgt : Int)) (h1 : x = 0 → G X k z ws lv st tgt) (h2 : ¬ x = 0 → G X k z ws lv st (pc + 3)) : G X k z ws lv (.int x :: st) pc := fun H locs ls hP hD hS hl => lv_if_eq C.1 C.2.1 d ht (fun q => h1 q H locs ls hP hD hS hl) (fun q => h2 q H locs ls hP hD hS hl)
theorem g_if_ne (C : GC X cc own n R) {x : Int32} (d : decode cc pc = .ok (.ifCond .ne off, 3)) (ht : (pc : Int) + off = (tgt : Int)) (h1 : ¬ x = 0 → G X k z ws lv st tgt) (h2 : x = 0 → G X k z ws lv st (pc + 3)) : G X k z ws lv (.int x :: st) pc := fun H locs ls hP hD hS hl => lv_if_ne C.1 C.2.1 d ht (fun q => h1 q H locs ls hP hD hS hl) (fun q => h2 q H locs ls hP hD hS hl)
theorem g_if_lt (C : GC X cc own n R) {x : Int32} (d : decode cc pc = .ok (.ifCond .lt off, 3)) (ht : (pc : Int) + off = (tgt : Int)) (h1 : x < 0 → G X k z ws lv st tgt) (h2 : ¬ x < 0 → G X k z ws lv st (pc + 3)) : G X k z ws lv (.int x :: st) pc := fun H locs ls hP hD hS hl => lv_if_lt C.1 C.2.1 d ht (fun q => h1 q H locs ls hP hD hS hl) (fun q => h2 q H locs ls hP hD hS hl)
theorem g_if_ge (C : GC X cc own n R) {x : Int32} (d : decode cc pc = .ok (.ifCond .ge off, 3)) (ht : (pc : Int) + off = (tgt : Int)) (h1 : 0 ≤ x → G X k z ws lv st tgt) (h2 : ¬ 0 ≤ x → G X k z ws lv st (pc + 3)) : G X k z ws lv (.int x :: st) pc := fun H locs ls hP hD hS hl => lv_if_ge C.1 C.2.1 d ht (fun q => h1 q H locs ls hP hD hS hl) (fun q => h2 q H locs ls hP hD hS hl)
theorem g_if_gt (C : GC X cc own n R) {x : Int32} (d : decode cc pc = .ok (.ifCond .gt off, 3)) (ht : (pc : Int) + off = (tgt : Int)) (h1 : 0 < x → G X k z ws lv st tgt) (h2 : ¬ 0 < x → G X k z ws lv st (pc + 3)) : G X k z ws lv (.int x :: st) pc := fun H locs ls hP hD hS hl => lv_if_gt C.1 C.2.1 d ht (fun q => h1 q H locs ls hP hD hS hl) (fun q => h2 q H locs ls hP hD hS hl)
theorem g_if_le (C : GC X cc own n R) {x : Int32} (d : decode cc pc = .ok (.ifCond .le off, 3)) (ht : (pc : Int) + off = (tgt : Int)) (h1 : x ≤ 0 → G X k z ws lv st tgt) (h2 : ¬ x ≤ 0 → G X k z ws lv st (pc + 3)) : G X k z ws lv (.int x :: st) pc := fun H locs ls hP hD hS hl => lv_if_le C.1 C.2.1 d ht (fun q => h1 q H locs ls hP hD hS hl) (fun q => h2 q H locs ls hP hD hS hl)
theorem g_icmp_eq (C : GC X cc own n R) {x y : Int32} (d : decode cc pc = .ok (.if_icmp .eq off, 3)) (ht : (pc : Int) + off = (tgt : Int)) (h1 : x = y → G X k z ws lv st tgt) (h2 : ¬ x = y → G X k z ws lv st (pc + 3)) : G X k z ws lv (.int y :: .int x :: st) pc := fun H locs ls hP hD hS hl => lv_icmp_eq C.1 C.2.1 d ht (fun q => h1 q H locs ls hP hD hS hl) (fun q => h2 q H locs ls hP hD hS hl)
theorem g_icmp_ne (C : GC X cc own n R) {x y : Int32} (d : decode cc pc = .ok (.if_icmp .ne off, 3)) (ht : (pc : Int) + off = (tgt : Int)) (h1 : ¬ x = y → G X k z ws lv st tgt) (h2 : x = y → G X k z ws lv st (pc + 3)) : G X k z ws lv (.int y :: .int x :: st) pc := fun H locs ls hP hD hS hl => lv_icmp_ne C.1 C.2.1 d ht (fun q => h1 q H locs ls hP hD hS hl) (fun q => h2 q H locs ls hP hD hS hl)
theorem g_icmp_lt (C : GC X cc own n R) {x y : Int32} (d : decode cc pc = .ok (.if_icmp .lt off, 3)) (ht : (pc : Int) + off = (tgt : Int)) (h1 : x < y → G X k z ws lv st tgt) (h2 : ¬ x < y → G X k z ws lv st (pc + 3)) : G X k z ws lv (.int y :: .int x :: st) pc := fun H locs ls hP hD hS hl => lv_icmp_lt C.1 C.2.1 d ht (fun q => h1 q H locs ls hP hD hS hl) (fun q => h2 q H locs ls hP hD hS hl)
theorem g_icmp_ge (C : GC X cc own n R) {x y : Int32} (d : decode cc pc = .ok (.if_icmp .ge off, 3)) (ht : (pc : Int) + off = (tgt : Int)) (h1 : y ≤ x → G X k z ws lv st tgt) (h2 : ¬ y ≤ x → G X k z ws lv st (pc + 3)) : G X k z ws lv (.int y :: .int x :: st) pc := fun H locs ls hP hD hS hl => lv_icmp_ge C.1 C.2.1 d ht (fun q => h1 q H locs ls hP hD hS hl) (fun q => h2 q H locs ls hP hD hS hl)
theorem g_icmp_gt (C : GC X cc own n R) {x y : Int32} (d : decode cc pc = .ok (.if_icmp .gt off, 3)) (ht : (pc : Int) + off = (tgt : Int)) (h1 : y < x → G X k z ws lv st tgt) (h2 : ¬ y < x → G X k z ws lv st (pc + 3)) : G X k z ws lv (.int y :: .int x :: st) pc := fun H locs ls hP hD hS hl => lv_icmp_gt C.1 C.2.1 d ht (fun q => h1 q H locs ls hP hD hS hl) (fun q => h2 q H locs ls hP hD hS hl)
theorem g_icmp_le (C : GC X cc own n R) {x y : Int32} (d : decode cc pc = .ok (.if_icmp .le off, 3)) (ht : (pc : Int) + off = (tgt : Int)) (h1 : x ≤ y → G X k z ws lv st tgt) (h2 : ¬ x ≤ y → G X k z ws lv st (pc + 3)) : G X k z ws lv (.int y :: .int x :: st) pc := fun H locs ls hP hD hS hl => lv_icmp_le C.1 C.2.1 d ht (fun q => h1 q H locs ls hP hD hS hl) (fun q => h2 q H locs ls hP hD hS hl)
theorem g_goto (C : GC X cc own n R) (d : decode cc pc = .ok (.goto off, 3)) (ht : (pc : Int) + off = (tgt : Int)) (h : G X k z ws lv st tgt) : G X k z ws lv st pc := fun H locs ls hP hD hS hl => lv_goto C.1 C.2.1 d ht (h H locs ls hP hD hS hl)
theorem g_ifnull (C : GC X cc own n R) {x : Nat} (d : decode cc pc = .ok (.ifnull off, 3)) (h : G X k z ws lv st (pc + 3)) : G X k z ws lv (.ref x :: st) pc := fun H locs ls hP hD hS hl => lv_ifnull C.1 C.2.1 d (h H locs ls hP hD hS hl)
theorem g_ifnullN (C : GC X cc own n R) (d : decode cc pc = .ok (.ifnull off, 3)) (ht : (pc : Int) + off = (tgt : Int)) (h : G X k z ws lv st tgt) : G X k z ws lv (.null :: st) pc := fun H locs ls hP hD hS hl => lv_ifnullN C.1 C.2.1 d ht (h H locs ls hP hD hS hl)
theorem g_ifnonnull (C : GC X cc own n R) {x : Nat} (d : decode cc pc = .ok (.ifnonnull off, 3)) (ht : (pc : Int) + off = (tgt : Int)) (h : G X k z ws lv st tgt) : G X k z ws lv (.ref x :: st) pc := fun H locs ls hP hD hS hl => lv_ifnonnull C.1 C.2.1 d ht (h H locs ls hP hD hS hl)
theorem g_ifnonnullN (C : GC X cc own n R) (d : decode cc pc = .ok (.ifnonnull off, 3)) (h : G X k z ws lv st (pc + 3)) : G X k z ws lv (.null :: st) pc := fun H locs ls hP hD hS hl => lv_ifnonnullN C.1 C.2.1 d (h H locs ls hP hD hS hl)
theorem g_lookup (C : GC X cc own n R) {x : Int32} {df : Int} {ps : Array (Int × Int)} {len : Nat} (d : decode cc pc = .ok (.lookupswitch df ps, len)) (hp : (ps.toList.zip (ps.toList.drop 1)).all (fun (a, next) => a.1 < next.1) = true) (ho : Op.lookupswitch.offset ps.toList df x.toInt = off) (ht : (pc : Int) + off = (tgt : Int)) (h : G X k z ws lv st tgt) : G X k z ws lv (.int x :: st) pc := fun H locs ls hP hD hS hl => lv_lookup C.1 C.2.1 d hp ho ht (h H locs ls hP hD hS hl)
theorem g_tabOut (C : GC X cc own n R) {x : Int32} {df lo hi : Int} {offs : Array Int} {len : Nat} (d : decode cc pc = .ok (.tableswitch df lo hi offs, len)) (hx : x.toInt < lo ∨ hi < x.toInt) (ht : (pc : Int) + df = (tgt : Int)) (h : G X k z ws lv st tgt) : G X k z ws lv (.int x :: st) pc := fun H locs ls hP hD hS hl => lv_tableOut C.1 C.2.1 d hx ht (h H locs ls hP hD hS hl)
theorem g_tabIn (C : GC X cc own n R) {x : Int32} {df lo hi : Int} {offs : Array Int} {len : Nat} (d : decode cc pc = .ok (.tableswitch df lo hi offs, len)) (h1 : ¬ x.toInt < lo) (h2 : ¬ hi < x.toInt) (ho : offs[(x.toInt - lo).toNat]? = some off) (ht : (pc : Int) + off = (tgt : Int)) (h : G X k z ws lv st tgt) : G X k z ws lv (.int x :: st) pc := fun H locs ls hP hD hS hl => lv_tableIn C.1 C.2.1 d h1 h2 ho ht (h H locs ls hP hD hS hl)
theorem g_ws (e : ws = ws') (h : G X k z ws' lv st pc) : G X k z ws lv st pc := e ▸ h
theorem g_iret (C : GC X cc own n R) {Qp : Option Value → va_W → Prop} (q : RC X (some .int) Qp k z) {v : Int32} (d : decode cc pc = .ok (.ireturn, 1)) (h : Qp (some (.int v)) ws) : G X k z ws lv [.int v] pc := by
  intro H locs ls hP hD hS hl
  have hlk := C.2.2.2.2.2.2.2.2.1
  rw [q.2]
  exact W.iret C.1 C.2.1 q.1 (fun t ht hW => ⟨⟨_, ws, rfl, h, by rw [ht]; exact hP, hD⟩, hS.F ht⟩) hS.2.2 d hlk
theorem g_zret (C : GC X cc own n R) {Qp : Option Value → va_W → Prop} {ty : FieldType} (q : RC X (some ty) Qp k z) {v : Int32} (d : decode cc pc = .ok (.ireturn, 1)) (hn : narrow ty (.int v) = .int v) (h : Qp (some (.int v)) ws) : G X k z ws lv [.int v] pc := by
  intro H locs ls hP hD hS hl
  have hlk := C.2.2.2.2.2.2.2.2.1
  rw [q.2]
  exact W.zret C.1 C.2.1 q.1 hn (fun t ht hW => ⟨⟨_, ws, rfl, h, by rw [ht]; exact hP, hD⟩, hS.F ht⟩) hS.2.2 d hlk
theorem g_lret (C : GC X cc own n R) {Qp : Option Value → va_W → Prop} (q : RC X (some .long) Qp k z) {v : Int64} (d : decode cc pc = .ok (.lreturn, 1)) (h : Qp (some (.long v)) ws) : G X k z ws lv [.long v] pc := by
  intro H locs ls hP hD hS hl
  have hlk := C.2.2.2.2.2.2.2.2.1
  rw [q.2]
  exact W.lret C.1 C.2.1 q.1 (fun t ht hW => ⟨⟨_, ws, rfl, h, by rw [ht]; exact hP, hD⟩, hS.F ht⟩) hS.2.2 d hlk
theorem g_vret (C : GC X cc own n R) {Qp : Option Value → va_W → Prop} (q : RC X none Qp k z) (d : decode cc pc = .ok (.return_, 1)) (h : Qp none ws) : G X k z ws lv [] pc := by
  intro H locs ls hP hD hS hl
  have hlk := C.2.2.2.2.2.2.2.2.1
  rw [q.2]
  exact W.vret C.1 C.2.1 q.1 (fun t ht hW => ⟨⟨_, ws, rfl, h, by rw [ht]; exact hP, hD⟩, hS.F ht⟩) hS.2.2 d hlk
theorem g_aret (C : GC X cc own n R) {Qp : Option Value → va_W → Prop} {nm : String} (q : RC X (some (.object nm)) Qp k z) {v : Value} (d : decode cc pc = .ok (.areturn, 1)) (hv : v = .null ∨ ∃ a, v = .ref a) (h : Qp (some v) ws) : G X k z ws lv [v] pc := by
  intro H locs ls hP hD hS hl
  have hlk := C.2.2.2.2.2.2.2.2.1
  rw [q.2]
  exact W.aret C.1 C.2.1 q.1 (Or.inl ⟨nm, rfl⟩) hv (fun t ht hW => ⟨⟨_, ws, rfl, h, by rw [ht]; exact hP, hD⟩, hS.F ht⟩) hS.2.2 d hlk
theorem g_iaload (C : GC X cc own n R) (q0 : Nat) {a N : Nat} {f : Nat → Int32} {i : Int32} (d : decode cc pc = .ok (.iaload, 1)) (he : ws[q0]? = some (a, .inl (xt X 2, N, .inl f))) (hin : vp_in i N) (h : G X k z ws lv (.int (f i.toNatClampNeg) :: st) (pc + 1)) : G X k z ws lv (.int i :: .ref a :: st) pc := fun H locs ls hP hD hS hl => va_iald C.1 C.2.1 C.2.2.2.2.2.1 hP q0 2 he rfl hin d (h H locs ls hP hD hS hl)
theorem g_baload (C : GC X cc own n R) (q0 : Nat) {a N : Nat} {f : Nat → Int32} {i : Int32} (d : decode cc pc = .ok (.baload, 1)) (he : ws[q0]? = some (a, .inl (xt X 0, N, .inl f))) (hin : vp_in i N) (h : G X k z ws lv (.int (f i.toNatClampNeg) :: st) (pc + 1)) : G X k z ws lv (.int i :: .ref a :: st) pc := fun H locs ls hP hD hS hl => va_bald C.1 C.2.1 C.2.2.2.2.2.1 hP q0 0 he rfl hin d (h H locs ls hP hD hS hl)
theorem g_caload (C : GC X cc own n R) (q0 : Nat) {a N : Nat} {f : Nat → Int32} {i : Int32} (d : decode cc pc = .ok (.caload, 1)) (he : ws[q0]? = some (a, .inl (xt X 1, N, .inl f))) (hin : vp_in i N) (h : G X k z ws lv (.int (f i.toNatClampNeg) :: st) (pc + 1)) : G X k z ws lv (.int i :: .ref a :: st) pc := fun H locs ls hP hD hS hl => va_cald C.1 C.2.1 C.2.2.2.2.2.1 hP q0 1 he rfl hin d (h H locs ls hP hD hS hl)
theorem g_laload (C : GC X cc own n R) (q0 : Nat) {a N : Nat} {f : Nat → Int64} {i : Int32} (d : decode cc pc = .ok (.laload, 1)) (he : ws[q0]? = some (a, .inl (xt X 3, N, .inr (.inl f)))) (hin : vp_in i N) (h : G X k z ws lv (.long (f i.toNatClampNeg) :: st) (pc + 1)) : G X k z ws lv (.int i :: .ref a :: st) pc := fun H locs ls hP hD hS hl => va_lald C.1 C.2.1 C.2.2.2.2.2.1 hP q0 3 he rfl hin d (h H locs ls hP hD hS hl)
theorem g_iastore (C : GC X cc own n R) (q0 : Nat) {a N : Nat} {f : Nat → Int32} {i : Int32} {x : Int32} (d : decode cc pc = .ok (.iastore, 1)) (he : ws[q0]? = some (a, .inl (xt X 2, N, .inl f))) (hin : vp_in i N) (hw : ws.set q0 (a, .inl (xt X 2, N, .inl (upd f i.toNatClampNeg x))) = ws') (h : G X k z ws' lv st (pc + 1)) : G X k z ws lv (.int x :: .int i :: .ref a :: st) pc := fun H locs ls hP hD hS hl => va_iast C.1 C.2.1 C.2.2.2.2.2.1 hP hD hS q0 2 he rfl hin d (fun H1 locs1 p1 d1 s1 => h H1 locs1 ls (hw ▸ p1) (hw ▸ d1) s1 hl)
theorem g_bastore (C : GC X cc own n R) (q0 : Nat) {a N : Nat} {f : Nat → Int32} {i : Int32} {x : Int32} (d : decode cc pc = .ok (.bastore, 1)) (he : ws[q0]? = some (a, .inl (xt X 0, N, .inl f))) (hin : vp_in i N) (hw : ws.set q0 (a, .inl (xt X 0, N, .inl (upd f i.toNatClampNeg (vp_nar .byte x)))) = ws') (h : G X k z ws' lv st (pc + 1)) : G X k z ws lv (.int x :: .int i :: .ref a :: st) pc := fun H locs ls hP hD hS hl => va_bast C.1 C.2.1 C.2.2.2.2.2.1 hP hD hS q0 0 he rfl hin d (fun H1 locs1 p1 d1 s1 => h H1 locs1 ls (hw ▸ p1) (hw ▸ d1) s1 hl)
theorem g_castore (C : GC X cc own n R) (q0 : Nat) {a N : Nat} {f : Nat → Int32} {i : Int32} {x : Int32} (d : decode cc pc = .ok (.castore, 1)) (he : ws[q0]? = some (a, .inl (xt X 1, N, .inl f))) (hin : vp_in i N) (hw : ws.set q0 (a, .inl (xt X 1, N, .inl (upd f i.toNatClampNeg (vp_nar .char x)))) = ws') (h : G X k z ws' lv st (pc + 1)) : G X k z ws lv (.int x :: .int i :: .ref a :: st) pc := fun H locs ls hP hD hS hl => va_cast C.1 C.2.1 C.2.2.2.2.2.1 hP hD hS q0 1 he rfl hin d (fun H1 locs1 p1 d1 s1 => h H1 locs1 ls (hw ▸ p1) (hw ▸ d1) s1 hl)
theorem g_lastore (C : GC X cc own n R) (q0 : Nat) {a N : Nat} {f : Nat → Int64} {i : Int32} {x : Int64} (d : decode cc pc = .ok (.lastore, 1)) (he : ws[q0]? = some (a, .inl (xt X 3, N, .inr (.inl f)))) (hin : vp_in i N) (hw : ws.set q0 (a, .inl (xt X 3, N, .inr (.inl (vp_updL f i.toNatClampNeg x)))) = ws') (h : G X k z ws' lv st (pc + 1)) : G X k z ws lv (.long x :: .int i :: .ref a :: st) pc := fun H locs ls hP hD hS hl => va_last C.1 C.2.1 C.2.2.2.2.2.1 hP hD hS q0 3 he rfl hin d (fun H1 locs1 p1 d1 s1 => h H1 locs1 ls (hw ▸ p1) (hw ▸ d1) s1 hl)
theorem g_alen (C : GC X cc own n R) (q0 t0 : Nat) {a : Nat} {x : vp_A} {ty : FieldType} {v : Int32} (d : decode cc pc = .ok (.arraylength, 1)) (he : ws[q0]? = some (a, .inl (xt X t0, x))) (ht : (tysOf (xt X))[t0]? = some (xt X t0, ty)) (hv : Int32.ofNat x.1 = v) (h : G X k z ws lv (.int v :: st) (pc + 1)) : G X k z ws lv (.ref a :: st) pc := fun H locs ls hP hD hS hl => va_alen C.1 C.2.1 C.2.2.2.2.2.1 hP q0 t0 he ht hv d (h H locs ls hP hD hS hl)
theorem g_aaload (C : GC X cc own n R) (q0 t0 : Nat) {a N : Nat} {f : Nat → Option Nat} {nm : String} {i : Int32} (d : decode cc pc = .ok (.aaload, 1)) (he : ws[q0]? = some (a, .inl (xt X t0, N, .inr (.inr (.inr (.inr f)))))) (ht : (tysOf (xt X))[t0]? = some (xt X t0, .object nm)) (hin : vp_in i N) (h : G X k z ws lv (va_rf (f i.toNatClampNeg) :: st) (pc + 1)) : G X k z ws lv (.int i :: .ref a :: st) pc := fun H locs ls hP hD hS hl => va_aldq C.1 C.2.1 C.2.2.2.2.2.1 hP q0 t0 he ht hin d (h H locs ls hP hD hS hl)
end GROWS
