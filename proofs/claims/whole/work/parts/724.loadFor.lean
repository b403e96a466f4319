def lfV (e : Gh) (b N i : Nat) : Int := hoursE (-1) N (uE e (35 + b) i) (35 + b)
def lfE (e : Gh) (b N : Nat) (v : Int) : Nat → Nat → Int32
  | 0, _ => -3
  | f + 1, i => if lfV e b N i < v then lfE e b N v f (i + 1) else nI i
theorem lfE_s (e : Gh) (b N f i : Nat) (v : Int) : lfE e b N v (f + 1) i = if lfV e b N i < v then lfE e b N v f (i + 1) else nI i := rfl
theorem lfV_b {h : Int} {e : Gh} {b N i : Nat} (w : Wf h e) (hb : (b : Int) < e 4) (hi : i < 100) : 0 ≤ lfV e b N i ∧ lfV e b N i ≤ 99 := by
  have w1 := w.load hb (v := (i : Int)) (by omega)
  obtain ⟨w2, w3, _⟩ := Wf.hours (s := -1) N w1
  exact (w2.2.2.2.2.2.2.2.2 b (by rw [w3, uE_n (by omega)]; exact hb)).2.1
theorem X_loadForL_ok {x : XSt} {e : Gh} {h v : Int} {b N : Nat} {post : Int32 → XSt → Prop} (r : RelC (X_now x) e) (w : Wf h e) (hh : h ≤ 900000) (hb : (b : Int) < e 4) (hN : N ≤ 60) (hv : 0 ≤ v ∧ v ≤ 99) : ∀ (n f i : Nat) (c : CSt), f + i = 100 → f < n → (∀ c', post (lfE e b N v f i) (X_tried_ x c')) → w_X_loadFor_31 post n (X_tried_ x c) (nI b) (nI N) (iI v) (nI i) := by
  intro n
  have w4 := w.1
  induction n with
  | zero => intro f i c _ hn; omega
  | succ n ih =>
    intro f i c hf hn hp
    rw [w_X_loadFor_31]
    refine t_lt (a := 99) (b := i) rfl rfl (fun g => ?_) (fun g => ?_)
    · have : f = 0 := by omega
      subst this
      exact hp c
    obtain ⟨g2, rfl⟩ : ∃ g, f = g + 1 := ⟨f - 1, by omega⟩
    rw [lfE_s] at hp
    have vb := lfV_b (N := N) w hb (i := i) (by omega)
    have w1 := w.load hb (v := (i : Int)) (by omega)
    refine C_copy_ok (p := (X_tried (X_tried_ x c), X_now (X_tried_ x c))) r w (fun c1 r1 s1 => ?_)
    refine ⟨vp_in_nI (by omega) (by omega), ?_⟩
    rw [nI_clamp (by omega)]
    refine X_triedFreight_ok (x := X_tried_ x (C_load_ c1 (upd (C_load c1) b (nI i)))) (h := h) (s := -1) (e := uE e (35 + b) i) (e0 := e) (by omega) (by omega) s1 (by omega) (r1.load hb w4.2 (i : Int)) w1 r w (by rw [uE_n (by omega)]; exact hb) (by rw [uE_n (by omega)]) (fun c2 => ?_)
    refine t_lt (a := lfV e b N i) (b := v) rfl rfl (fun l => ?_) (fun l => ?_)
    · intro y hy
      rw [if_pos l] at hp
      rw [hy, nI_1]
      exact ih g2 (i + 1) c2 (by omega) (by omega) hp
    · rw [if_neg (by omega)] at hp
      exact hp c2
theorem M_loadForL_ok {m : MSt} {e : Gh} {h v : Int} {b N : Nat} {post : Int32 → MSt → Prop} (t : M_still m = iI (-1)) (ha : RelD (M_aside m) e) (w : Wf h e) (hh : h ≤ 900000) (hb : (b : Int) < e 4) (hN : N ≤ 60) (hv : 0 ≤ v ∧ v ≤ 99) : ∀ (n f i : Nat) (d : Nat → Int32), RelD d e → f + i = 100 → f < n → (∀ d', RelD d' e → post (lfE e b N v f i) (M_d_ m d')) → w_M_loadFor_36 post n (M_d_ m d) (nI b) (nI N) (iI v) (nI i) := by
  intro n
  have w4 := w.1
  induction n with
  | zero => intro f i d _ _ hn; omega
  | succ n ih =>
    intro f i d q hf hn hp
    rw [w_M_loadFor_36]
    refine t_lt (a := 99) (b := i) rfl rfl (fun g => ?_) (fun g => ?_)
    · have : f = 0 := by omega
      subst this
      exact hp d q
    obtain ⟨g2, rfl⟩ : ∃ g, f = g + 1 := ⟨f - 1, by omega⟩
    rw [lfE_s] at hp
    have vb := lfV_b (N := N) w hb (i := i) (by omega)
    have w1 := w.load hb (v := (i : Int)) (by omega)
    refine M_puts_ok (w := 1) (m := M_d_ m d) (v := (i : Int)) q (by omega) (by omega) (fun d1 q1 => ?_)
    unfold wp_M_loadOf
    rw [show (35 : Int32) = nI 35 from rfl, nI_add]
    refine M_behind_ok (m := m) (d := d1) (h := h) (s := -1) (e := uE e (35 + b) i) (e0 := e) (by omega) (by omega) t (by omega) q1 w1 (by omega) ha (fun d2 q2 => ?_)
    refine t_lt (a := lfV e b N i) (b := v) rfl rfl (fun l => ?_) (fun l => ?_)
    · intro y hy
      rw [if_pos l] at hp
      rw [hy, nI_1]
      exact ih g2 (i + 1) d2 q2 (by omega) (by omega) hp
    · rw [if_neg (by omega)] at hp
      exact hp d2 q2
theorem l_loadFor {h : Int} {x : XSt} {m : MSt} {a1 a2 a3 a4 : Int32} {K : XSt → MSt → Prop} (hh : h ≤ 900000) (n : Now h x m) (hK : ∀ x' m', Now h x' m' → x'.2.2 = x.2.2 → m'.2.2 = m.2.2 → K x' m') : wpl_loadFor x m a1 a2 a3 a4 K := by
  have k0 : K x m := hK x m n rfl rfl
  obtain ⟨e, w, r, s, q, t⟩ := n
  have w4 := w.1
  have no : ¬ ((0 ≤ a1.toInt ∧ a1.toInt < e 4) ∧ (1 ≤ a2.toInt ∧ a2.toInt ≤ 30) ∧ (0 ≤ a3.toInt ∧ a3.toInt ≤ 99)) → wp_M_loadFor m a1 a2 a3 (fun v2 m1 => (-1) = v2 ∧ K x m1) := by
    intro P
    unfold wp_M_loadFor
    exact M_barge_ok q w (fun z1 => if1 (M_short_ok (fun z2 => if1 (I_in (a := a3) (fun z3 => absurd ⟨z1, z2, z3⟩ P) (fun _ => if0 ⟨rfl, k0⟩))) (fun _ => if0 ⟨rfl, k0⟩))) (fun _ => if0 ⟨rfl, k0⟩)
  unfold wpl_loadFor wp_X_loadFor
  refine X_barge_ok r w (fun z1 => if1 ?_) (fun z1 => if0 (no (fun z => z1 z.1)))
  refine t_lo (k := 1) rfl (fun h1 => no (by omega)) (fun h1 => ?_)
  refine t_lt (a := 30) (b := a2.toInt) rfl (iI_of a2).symm (fun h2 => no (by omega)) (fun h2 => ?_) (by omega) (i32b a2)
  refine X_load_ok (fun z3 => if1 ?_) (fun z3 => if0 (no (fun z => z3 z.2.2)))
  obtain ⟨b, hb, hb8, ha⟩ := bg_of w z1
  obtain ⟨N, hN, ha2⟩ : ∃ N : Nat, N ≤ 30 ∧ a2 = nI N := ⟨a2.toInt.toNat, by omega, i_nat (by omega)⟩
  subst ha
  subst ha2
  have go := X_loadForL_ok (x := x) (N := N) (post := fun v1 x1 => wp_M_loadFor m (nI b) (nI N) a3 (fun v2 m1 => v1 = v2 ∧ K x1 m1)) r w hh hb (by omega) z3 2000 100 0 (X_tried x) (by omega) (by omega) (fun c => ?_)
  · rw [iI_of] at go
    exact go
  unfold wp_M_loadFor
  refine M_barge_ok q w (fun _ => if1 (M_short_ok (fun _ => if1 (I_in (a := a3) (fun _ => if1 ?_) (fun z => absurd z3 z))) (fun z => absurd ⟨h1, h2⟩ z))) (fun z => absurd z1 z)
  refine M_keepAside_ok q (fun a ra => ?_)
  have go := M_loadForL_ok (m := M_aside_ m a) (N := N) (post := fun v2 m1 => lfE e b N a3.toInt 100 0 = v2 ∧ K (X_tried_ x c) m1) t ra w hh hb (by omega) z3 2000 100 0 (M_d m) q (by omega) (by omega) (fun d1 q1 => ⟨rfl, hK _ _ ⟨e, w, r, s, q1, t⟩ rfl rfl⟩)
  rw [iI_of] at go
  exact go
