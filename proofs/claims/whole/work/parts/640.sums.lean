/-! ===== sums and sets ===== -/
def sumE (e : Gh) (s : Nat) : Nat → Int
  | 0 => 0
  | n + 1 => sumE e s n + e (s + n)
theorem sumE_b {e : Gh} {s : Nat} {M : Int} : ∀ n : Nat, (∀ k, k < n → 0 ≤ e (s + k) ∧ e (s + k) ≤ M) → 0 ≤ sumE e s n ∧ sumE e s n ≤ n * M := by
  intro n
  induction n with
  | zero => intro _; simp [sumE]
  | succ n ih =>
    intro h
    obtain ⟨a, b⟩ := ih (fun k hk => h k (by omega))
    obtain ⟨c, d⟩ := h n (by omega)
    unfold sumE
    have e1 : ((n + 1 : Nat) : Int) * M = n * M + M := by rw [Int.natCast_add, Int.add_mul]; simp
    omega
def setI (p : Nat → Bool) : Nat → Int32
  | 0 => 0
  | n + 1 => if p n = true then setI p n ||| (1 <<< (nI n &&& 31)) else setI p n
def plI (e : Gh) : Nat → Int32
  | 0 => 0
  | n + 1 => plI e n ||| (1 <<< (iI (e (51 + n)) &&& 31))
def ldB (e : Gh) (b : Nat) : Bool := decide (e (51 + b) = e (59 + b))
def atB (e : Gh) (l : Int) (b : Nat) : Bool := decide (e (51 + b) = l)
def cnE (e : Gh) : Nat → Int
  | 0 => 0
  | n + 1 => cnE e n + if 0 < e (17 + n) then 1 else 0
def loB (e : Gh) : Nat → Nat
  | 0 => 0
  | n + 1 => if e (17 + loB e n) < e (17 + n) then n else loB e n
def loE (e : Gh) : Int := if e (17 + loB e 10) = 0 then 10 else (loB e 10 : Int)
theorem or0 (x : Int32) : x ||| 0 = x := Int32.or_zero
theorem loB_lt (e : Gh) : ∀ n, n ≤ 10 → loB e n < 10 := by
  intro n
  induction n with
  | zero => intro _; simp [loB]
  | succ n ih =>
    intro h
    unfold loB
    split
    · omega
    · exact ih (by omega)
theorem M_loads_ok {h : Int} {m : MSt} {e : Gh} {post : Int32 → MSt → Prop} (hr : RelD (M_d m) e) (w : Wf h e) (hp : post (iI (sumE e 35 (e 4).toNat)) m) : wp_M_loads m post := by
  have w4 := w.1
  have key : ∀ (n i : Nat), (i : Int) ≤ e 4 → (e 4).toNat - i < n → w_M_loads_4 post n m (iI (sumE e 35 i)) (nI i) := by
    intro n
    induction n with
    | zero => intro i _ hn; omega
    | succ n ih =>
      intro i hi hn
      rw [w_M_loads_4]
      refine t_le (a := e 4) (b := i) (hr 4 (by omega)) rfl (fun q => ?_) (fun q => ?_)
      · rw [show i = (e 4).toNat by omega]; exact hp
      · refine M_get_ok (w := 1) hr (by omega) (by omega) ?_
        intro y1 e1 y2 e2
        have e1' : y1 = iI (sumE e 35 (i + 1)) := by rw [e1, show 27 + 8 * 1 + i = 35 + i by omega, iI_add]; rfl
        rw [e1', e2, nI_1]
        exact ih (i + 1) (by omega) (by omega)
  unfold wp_M_loads
  exact key 2000 0 (by omega) (by omega)
theorem C_loads_ok {h : Int} {c : CSt} {e : Gh} {post : Int32 → CSt → Prop} (hr : RelC c e) (w : Wf h e) (hp : post (iI (sumE e 35 (e 4).toNat)) c) : wp_C_allLoads c post := by
  have w4 := w.1
  have key : ∀ (n i : Nat), (i : Int) ≤ e 4 → (e 4).toNat - i < n → w_C_allLoads_4 post n c (iI (sumE e 35 i)) (nI i) := by
    intro n
    induction n with
    | zero => intro i _ hn; omega
    | succ n ih =>
      intro i hi hn
      rw [w_C_allLoads_4]
      refine t_le (a := e 4) (b := i) hr.2.2.2.1 rfl (fun q => ?_) (fun q => ?_)
      · rw [show i = (e 4).toNat by omega]; exact hp
      · refine t_le (a := 8) (b := i) rfl rfl (fun z => by omega) (fun _ => ?_)
        refine ⟨vp_in_nI (by omega) (by omega), fun y1 e1 y2 e2 => ?_⟩
        have e1' : y1 = iI (sumE e 35 (i + 1)) := by rw [e1, nI_clamp (by omega), (hr.2.2.2.2.2.2 i q).2.1, iI_add]; rfl
        rw [e1', e2, nI_1]
        exact ih (i + 1) (by omega) (by omega)
  unfold wp_C_allLoads
  exact key 2000 0 (by omega) (by omega)
theorem M_lostAll_ok {m : MSt} {e : Gh} {post : Int32 → MSt → Prop} (hr : RelD (M_d m) e) (hp : post (iI (sumE e 17 10)) m) : wp_M_lostAll m post := by
  have key : ∀ (n i : Nat), i ≤ 10 → 10 - i < n → w_M_lostAll_4 post n m (iI (sumE e 17 i)) (nI i) := by
    intro n
    induction n with
    | zero => intro i _ hn; omega
    | succ n ih =>
      intro i hi hn
      rw [w_M_lostAll_4]
      refine t_le (a := 10) (b := i) rfl rfl (fun q => ?_) (fun q => ?_)
      · rw [show i = 10 by omega]; exact hp
      · intro y0 e0
        have e0' : y0 = nI (17 + i) := by rw [e0]; exact nI_add 17 i
        rw [e0']
        refine ⟨vp_in_nI (by omega) (by omega), fun y1 e1 y2 e2 => ?_⟩
        have e1' : y1 = iI (sumE e 17 (i + 1)) := by rw [e1, nI_clamp (by omega), hr _ (by omega), iI_add]; rfl
        rw [e1', e2, nI_1]
        exact ih (i + 1) (by omega) (by omega)
  unfold wp_M_lostAll
  exact key 2000 0 (by omega) (by omega)
theorem C_lostAll_ok {c : CSt} {e : Gh} {post : Int32 → CSt → Prop} (hr : RelC c e) (hp : post (iI (sumE e 17 10)) c) : wp_C_allLost c post := by
  have key : ∀ (n i : Nat), i ≤ 10 → 10 - i < n → w_C_allLost_4 post n c (iI (sumE e 17 i)) (nI i) := by
    intro n
    induction n with
    | zero => intro i _ hn; omega
    | succ n ih =>
      intro i hi hn
      rw [w_C_allLost_4]
      refine t_le (a := 10) (b := i) rfl rfl (fun q => ?_) (fun q => ?_)
      · rw [show i = 10 by omega]; exact hp
      · refine ⟨vp_in_nI (by omega) (by omega), fun y1 e1 y2 e2 => ?_⟩
        have e1' : y1 = iI (sumE e 17 (i + 1)) := by rw [e1, nI_clamp (by omega), hr.2.2.1 _ (by omega), iI_add]; rfl
        rw [e1', e2, nI_1]
        exact ih (i + 1) (by omega) (by omega)
  unfold wp_C_allLost
  exact key 2000 0 (by omega) (by omega)
theorem setI_s {p : Nat → Bool} {n : Nat} : setI p (n + 1) = if p n = true then setI p n ||| (1 <<< (nI n &&& 31)) else setI p n := rfl
theorem M_landedS_ok {h : Int} {m : MSt} {e : Gh} {post : Int32 → MSt → Prop} (hr : RelD (M_d m) e) (w : Wf h e) (hp : post (setI (ldB e) (e 4).toNat) m) : wp_M_landed m post := by
  have w4 := w.1
  have key : ∀ (n i : Nat), (i : Int) ≤ e 4 → (e 4).toNat - i < n → w_M_landed_4 post n m (setI (ldB e) i) (nI i) := by
    intro n
    induction n with
    | zero => intro i _ hn; omega
    | succ n ih =>
      intro i hi hn
      rw [w_M_landed_4]
      refine t_le (a := e 4) (b := i) (hr 4 (by omega)) rfl (fun q => ?_) (fun q => ?_)
      · rw [show i = (e 4).toNat by omega]; exact hp
      · have wb := w.2.2.2.2.2.2.2.2 i q
        refine M_landed_ok hr (by omega) wb.2.2.2.1 wb.2.2.2.2 (fun z => ?_) (fun z => ?_)
        · refine ⟨fun y => absurd y (by decide), fun _ y5 e5 y6 e6 y7 e7 => ?_⟩
          have e6' : y6 = setI (ldB e) (i + 1) := by rw [setI_s, if_pos (by simp [ldB, z]), e6, e5]
          rw [e6', e7, nI_1]
          exact ih (i + 1) (by omega) (by omega)
        · refine ⟨fun _ y3 e3 y4 e4 => ?_, fun y => absurd rfl y⟩
          have e3' : y3 = setI (ldB e) (i + 1) := by rw [setI_s, if_neg (by simp [ldB, z]), e3, or0]
          rw [e3', e4, nI_1]
          exact ih (i + 1) (by omega) (by omega)
  unfold wp_M_landed
  exact key 2000 0 (by omega) (by omega)
theorem C_landedS_ok {h : Int} {c : CSt} {e : Gh} {post : Int32 → CSt → Prop} (hr : RelC c e) (w : Wf h e) (hp : post (setI (ldB e) (e 4).toNat) c) : wp_C_landedSet c post := by
  have w4 := w.1
  have key : ∀ (n i : Nat), (i : Int) ≤ e 4 → (e 4).toNat - i < n → w_C_landedSet_4 post n c (setI (ldB e) i) (nI i) := by
    intro n
    induction n with
    | zero => intro i _ hn; omega
    | succ n ih =>
      intro i hi hn
      rw [w_C_landedSet_4]
      refine t_le (a := e 4) (b := i) hr.2.2.2.1 rfl (fun q => ?_) (fun q => ?_)
      · rw [show i = (e 4).toNat by omega]; exact hp
      · refine t_le (a := 8) (b := i) rfl rfl (fun z => by omega) (fun _ => ?_)
        refine C_landed_ok hr w q (fun z => ?_) (fun z => ?_)
        · refine ⟨fun y => absurd y (by decide), fun _ y6 e6 y7 e7 => ?_⟩
          have e6' : y6 = setI (ldB e) (i + 1) := by rw [setI_s, if_pos (by simp [ldB, z]), e6]
          rw [e6', e7, nI_1]
          exact ih (i + 1) (by omega) (by omega)
        · refine ⟨fun _ y4 e4 => ?_, fun y => absurd rfl y⟩
          have e3' : setI (ldB e) i = setI (ldB e) (i + 1) := by rw [setI_s, if_neg (by simp [ldB, z])]
          rw [e3', e4, nI_1]
          exact ih (i + 1) (by omega) (by omega)
  unfold wp_C_landedSet
  exact key 2000 0 (by omega) (by omega)
theorem M_places_ok {h : Int} {m : MSt} {e : Gh} {post : Int32 → MSt → Prop} (hr : RelD (M_d m) e) (w : Wf h e) (hp : post (plI e (e 4).toNat) m) : wp_M_places m post := by
  have w4 := w.1
  have key : ∀ (n i : Nat), (i : Int) ≤ e 4 → (e 4).toNat - i < n → w_M_places_4 post n m (plI e i) (nI i) := by
    intro n
    induction n with
    | zero => intro i _ hn; omega
    | succ n ih =>
      intro i hi hn
      rw [w_M_places_4]
      refine t_le (a := e 4) (b := i) (hr 4 (by omega)) rfl (fun q => ?_) (fun q => ?_)
      · rw [show i = (e 4).toNat by omega]; exact hp
      · refine M_get_ok (w := 3) hr (by omega) (by omega) ?_
        intro y1 e1 y2 e2
        have e1' : y1 = plI e (i + 1) := by rw [e1, show 27 + 8 * 3 + i = 51 + i by omega]; rfl
        rw [e1', e2, nI_1]
        exact ih (i + 1) (by omega) (by omega)
  unfold wp_M_places
  exact key 2000 0 (by omega) (by omega)
theorem C_places_ok {h : Int} {c : CSt} {e : Gh} {post : Int32 → CSt → Prop} (hr : RelC c e) (w : Wf h e) (hp : post (plI e (e 4).toNat) c) : wp_C_usedLocks c post := by
  have w4 := w.1
  have key : ∀ (n i : Nat), (i : Int) ≤ e 4 → (e 4).toNat - i < n → w_C_usedLocks_4 post n c (plI e i) (nI i) := by
    intro n
    induction n with
    | zero => intro i _ hn; omega
    | succ n ih =>
      intro i hi hn
      rw [w_C_usedLocks_4]
      refine t_le (a := e 4) (b := i) hr.2.2.2.1 rfl (fun q => ?_) (fun q => ?_)
      · rw [show i = (e 4).toNat by omega]; exact hp
      · refine t_le (a := 8) (b := i) rfl rfl (fun z => by omega) (fun _ => ?_)
        refine ⟨vp_in_nI (by omega) (by omega), fun y1 e1 y2 e2 => ?_⟩
        have e1' : y1 = plI e (i + 1) := by rw [e1, nI_clamp (by omega), (hr.2.2.2.2.2.2 i q).2.2.2.1]; rfl
        rw [e1', e2, nI_1]
        exact ih (i + 1) (by omega) (by omega)
  unfold wp_C_usedLocks
  exact key 2000 0 (by omega) (by omega)
theorem C_bargesAt_ok {h : Int} {c : CSt} {e : Gh} {l : Int} {post : Int32 → CSt → Prop} (hr : RelC c e) (w : Wf h e) (hl : 0 ≤ l ∧ l ≤ 9) (hp : post (setI (atB e l) (e 4).toNat) c) : wp_C_bargesAt c (iI l) post := by
  have w4 := w.1
  have key : ∀ (n i : Nat), (i : Int) ≤ e 4 → (e 4).toNat - i < n → w_C_bargesAt_4 post n c (iI l) (setI (atB e l) i) (nI i) := by
    intro n
    induction n with
    | zero => intro i _ hn; omega
    | succ n ih =>
      intro i hi hn
      rw [w_C_bargesAt_4]
      refine t_le (a := e 4) (b := i) hr.2.2.2.1 rfl (fun q => ?_) (fun q => ?_)
      · rw [show i = (e 4).toNat by omega]; exact hp
      · refine t_le (a := 8) (b := i) rfl rfl (fun z => by omega) (fun _ => ?_)
        have wb := (w.2.2.2.2.2.2.2.2 i q).2.2.2.1
        refine ⟨vp_in_nI (by omega) (by omega), ?_⟩
        rw [nI_clamp (by omega)]
        refine t_eq (a := e (51 + i)) (b := l) (hr.2.2.2.2.2.2 i q).2.2.2.1 rfl (fun z y6 e6 y7 e7 => ?_) (fun z y4 e4 => ?_)
        · have e6' : y6 = setI (atB e l) (i + 1) := by rw [setI_s, if_pos (by simp [atB, z]), e6]
          rw [e6', e7, nI_1]
          exact ih (i + 1) (by omega) (by omega)
        · have e3' : setI (atB e l) i = setI (atB e l) (i + 1) := by rw [setI_s, if_neg (by simp [atB, z])]
          rw [e3', e4, nI_1]
          exact ih (i + 1) (by omega) (by omega)
  unfold wp_C_bargesAt
  exact key 2000 0 (by omega) (by omega)
theorem M_spoiltL_ok {h : Int} {m : MSt} {e : Gh} {post : Int32 → MSt → Prop} (hr : RelD (M_d m) e) (w : Wf h e) (hp : post (iI (cnE e 10)) m) : wp_M_spoiltLocks m post := by
  have key : ∀ (n i : Nat), i ≤ 10 → 10 - i < n → w_M_spoiltLocks_4 post n m (iI (cnE e i)) (nI i) := by
    intro n
    induction n with
    | zero => intro i _ hn; omega
    | succ n ih =>
      intro i hi hn
      rw [w_M_spoiltLocks_4]
      refine t_le (a := 10) (b := i) rfl rfl (fun q => ?_) (fun q => ?_)
      · rw [show i = 10 by omega]; exact hp
      · intro y0 e0
        have e0' : y0 = nI (17 + i) := by rw [e0]; exact nI_add 17 i
        rw [e0']
        have wl := w.2.2.2.2.2.2.2.1 i (by omega)
        refine ⟨vp_in_nI (by omega) (by omega), ?_⟩
        rw [nI_clamp (by omega)]
        refine t_le (a := e (17 + i)) (b := 0) (hr _ (by omega)) rfl (fun z y1 e1 y2 e2 => ?_) (fun z y1 e1 y2 e2 => ?_)
        · have e1' : y1 = iI (cnE e (i + 1)) := by rw [e1]; show iI _ + iI 0 = iI (cnE e i + _); rw [iI_add, if_neg (by omega)]
          rw [e1', e2, nI_1]
          exact ih (i + 1) (by omega) (by omega)
        · have e1' : y1 = iI (cnE e (i + 1)) := by rw [e1]; show iI _ + iI 1 = iI (cnE e i + _); rw [iI_add, if_pos z]
          rw [e1', e2, nI_1]
          exact ih (i + 1) (by omega) (by omega)
  unfold wp_M_spoiltLocks
  exact key 2000 0 (by omega) (by omega)
theorem C_spoiltL_ok {h : Int} {c : CSt} {e : Gh} {post : Int32 → CSt → Prop} (hr : RelC c e) (w : Wf h e) (hp : post (iI (cnE e 10)) c) : wp_C_locksWithLoss c post := by
  have key : ∀ (n i : Nat), i ≤ 10 → 10 - i < n → w_C_locksWithLoss_4 post n c (iI (cnE e i)) (nI i) := by
    intro n
    induction n with
    | zero => intro i _ hn; omega
    | succ n ih =>
      intro i hi hn
      rw [w_C_locksWithLoss_4]
      refine t_le (a := 10) (b := i) rfl rfl (fun q => ?_) (fun q => ?_)
      · rw [show i = 10 by omega]; exact hp
      · have wl := w.2.2.2.2.2.2.2.1 i (by omega)
        refine ⟨vp_in_nI (by omega) (by omega), ?_⟩
        rw [nI_clamp (by omega)]
        refine t_le (a := e (17 + i)) (b := 0) (hr.2.2.1 _ (by omega)) rfl (fun z y2 e2 => ?_) (fun z y1 e1 y2 e2 => ?_)
        · have e1' : iI (cnE e i) = iI (cnE e (i + 1)) := by show _ = iI (cnE e i + _); rw [if_neg (by omega), Int.add_zero]
          rw [e1', e2, nI_1]
          exact ih (i + 1) (by omega) (by omega)
        · have e1' : y1 = iI (cnE e (i + 1)) := by rw [e1]; show iI _ + iI 1 = iI (cnE e i + _); rw [iI_add, if_pos z]
          rw [e1', e2, nI_1]
          exact ih (i + 1) (by omega) (by omega)
  unfold wp_C_locksWithLoss
  exact key 2000 0 (by omega) (by omega)
theorem M_loudest_ok {h : Int} {m : MSt} {e : Gh} {post : Int32 → MSt → Prop} (hr : RelD (M_d m) e) (w : Wf h e) (hp : post (iI (loE e)) m) : wp_M_loudest m post := by
  have wl := w.2.2.2.2.2.2.2.1
  have key : ∀ (n i : Nat), i ≤ 10 → 10 - i < n → w_M_loudest_4 post n m (nI (loB e i)) (nI i) := by
    intro n
    induction n with
    | zero => intro i _ hn; omega
    | succ n ih =>
      intro i hi hn
      have hlo := loB_lt e i hi
      have wb := wl (loB e i) hlo
      rw [w_M_loudest_4]
      refine t_le (a := 10) (b := i) rfl rfl (fun q => ?_) (fun q => ?_)
      · intro y0 e0
        have e0' : y0 = nI (17 + loB e i) := by rw [e0]; exact nI_add 17 _
        rw [e0']
        refine ⟨vp_in_nI (by omega) (by omega), ?_⟩
        rw [nI_clamp (by omega)]
        have i10 : i = 10 := by omega
        subst i10
        unfold loE at hp
        refine t_eq (a := e (17 + loB e 10)) (b := 0) (hr _ (by omega)) rfl (fun z => ?_) (fun z => ?_)
        · rw [if_pos z] at hp; exact hp
        · rw [if_neg z] at hp; exact hp
      · intro y0 e0
        have e0' : y0 = nI (17 + i) := by rw [e0]; exact nI_add 17 i
        rw [e0']
        refine ⟨vp_in_nI (by omega) (by omega), fun y1 e1 => ?_⟩
        have e1' : y1 = nI (17 + loB e i) := by rw [e1]; exact nI_add 17 _
        rw [e1']
        refine ⟨vp_in_nI (by omega) (by omega), ?_⟩
        rw [nI_clamp (by omega), nI_clamp (by omega)]
        have wi := wl i (by omega)
        refine t_le (a := e (17 + i)) (b := e (17 + loB e i)) (hr _ (by omega)) (hr _ (by omega)) (fun z y2 e2 => ?_) (fun z y2 e2 => ?_)
        · have e3 : loB e (i + 1) = loB e i := by show (if _ then _ else _) = _; rw [if_neg (by omega)]
          rw [e2, nI_1, ← e3]
          exact ih (i + 1) (by omega) (by omega)
        · have e3 : loB e (i + 1) = i := by show (if _ then _ else _) = _; rw [if_pos z]
          have := ih (i + 1) (by omega) (by omega)
          rw [e3] at this
          rw [e2, nI_1]
          exact this
  unfold wp_M_loudest
  exact key 2000 0 (by omega) (by omega)
theorem C_loudest_ok {h : Int} {c : CSt} {e : Gh} {post : Int32 → CSt → Prop} (hr : RelC c e) (w : Wf h e) (hp : post (iI (loE e)) c) : wp_C_loudest c post := by
  have wl := w.2.2.2.2.2.2.2.1
  have key : ∀ (n i : Nat) (B M : Int), i ≤ 10 → 10 - i < n → ((i = 0 ∧ B = 10 ∧ M = 0) ∨ (0 < i ∧ B = (if e (17 + loB e i) = 0 then 10 else (loB e i : Int)) ∧ M = e (17 + loB e i))) → w_C_loudest_7 post n c (iI B) (iI M) (nI i) := by
    intro n
    induction n with
    | zero => intro i B M _ hn; omega
    | succ n ih =>
      intro i B M hi hn hBM
      have hlo := loB_lt e i hi
      have wb := wl (loB e i) hlo
      have hM : 0 ≤ M ∧ M ≤ 9999 := by rcases hBM with ⟨_, _, q⟩ | ⟨_, _, q⟩ <;> omega
      rw [w_C_loudest_7]
      refine t_le (a := 10) (b := i) rfl rfl (fun q => ?_) (fun q => ?_)
      · have i10 : i = 10 := by omega
        subst i10
        rcases hBM with ⟨z, _, _⟩ | ⟨_, z, _⟩
        · omega
        · rw [z]; exact hp
      · have hin : vp_in (nI i) 10 := vp_in_nI (by omega) (by omega)
        have wi := wl i (by omega)
        refine ⟨hin, ?_⟩
        rw [nI_clamp (by omega)]
        have hlost := hr.2.2.1 i (by omega)
        have es : loB e (i + 1) = if e (17 + loB e i) < e (17 + i) then i else loB e i := rfl
        refine t_le (a := e (17 + i)) (b := M) hlost rfl (fun z y2 e2 => ?_) (fun z => ⟨hin, fun y2 e2 => ?_⟩)
        · rw [e2, nI_1]
          refine ih (i + 1) B M (by omega) (by omega) (Or.inr ⟨by omega, ?_⟩)
          rcases hBM with ⟨z1, z2, z3⟩ | ⟨z1, z2, z3⟩
          · subst z1
            have l1 : loB e (0 + 1) = 0 := by rw [es, show loB e 0 = 0 from rfl, if_neg (by omega)]
            rw [l1]
            have h0 : e (17 + 0) = 0 := by omega
            rw [if_pos h0]
            exact ⟨z2, by omega⟩
          · have l1 : loB e (i + 1) = loB e i := by rw [es, if_neg (by omega)]
            rw [l1]
            exact ⟨z2, z3⟩
        · rw [e2, nI_1, hlost]
          refine ih (i + 1) (i : Int) (e (17 + i)) (by omega) (by omega) (Or.inr ⟨by omega, ?_⟩)
          have l1 : loB e (i + 1) = i := by
            rcases hBM with ⟨z1, z2, z3⟩ | ⟨z1, z2, z3⟩
            · subst z1
              rw [es, show loB e 0 = 0 from rfl, if_neg (by omega)]
            · rw [es, if_pos (by omega)]
          rw [l1, if_neg (by omega)]
          exact ⟨rfl, rfl⟩
  unfold wp_C_loudest
  exact key 2000 0 10 0 (by omega) (by omega) (Or.inl ⟨rfl, rfl, rfl⟩)
