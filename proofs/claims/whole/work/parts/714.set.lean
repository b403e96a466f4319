theorem Wf.law {h : Int} {e : Gh} (w : Wf h e) {k : Nat} (hk : k < 4) {v : Int} (hv : 0 ≤ v ∧ v ≤ if k = 3 then 99 else 9) : Wf h (uE e k v) := by
  unfold Wf bgE at *
  obtain ⟨a0, a1, a2, a3, a4, a5, a6, a7, a8⟩ := w
  have f : ∀ j M, (0 ≤ e j ∧ e j ≤ M) → (j = k → (if k = 3 then (99 : Int) else 9) ≤ M) → 0 ≤ uE e k v j ∧ uE e k v j ≤ M := by
    intro j M hj hM
    by_cases g : j = k
    · have := hM g
      rw [g, uE_s]
      omega
    · rw [uE_n g]
      exact hj
  refine ⟨f 4 _ a0 (by omega), f 0 _ a1 (fun g => by rw [if_neg (by omega)]; omega), f 1 _ a2 (fun g => by rw [if_neg (by omega)]; omega), f 2 _ a3 (fun g => by rw [if_neg (by omega)]; omega), f 3 _ a4 (fun g => by rw [if_pos (by omega)]; omega), f 5 _ a5 (by omega), fun j hj => f _ _ (a6 j hj) (by omega), fun j hj => f _ _ (a7 j hj) (by omega), fun j hj => ?_⟩
  rw [uE_n (by omega)] at hj
  obtain ⟨b1, b2, b3, b4, b5⟩ := a8 j hj
  refine ⟨?_, ?_, ?_, ?_, ?_⟩ <;> (rw [uE_n (by omega)]; assumption)
theorem tbM : ∀ k, k < 4 → tbMost.getD k 0 = iI (if k = 3 then 99 else 9) := by decide
theorem M_isLaw_ok {k : Nat} {a : Int32} {post : Int32 → Prop} (hk : k < 4) (h1 : (0 ≤ a.toInt ∧ a.toInt ≤ if k = 3 then 99 else 9) → post 1) (h0 : ¬ (0 ≤ a.toInt ∧ a.toInt ≤ if k = 3 then 99 else 9) → post 0) : wp_M_isLaw (nI k) a post := by
  have hi : (nI k).toInt = k := by rw [nI_iI]; exact iI_toInt (by omega) (by omega)
  unfold wp_M_isLaw
  refine I_in (a := nI k) (fun _ => if1 ?_) (fun z => absurd ⟨?_, ?_⟩ z)
  · intro y hy
    refine ⟨fun g => ?_, fun g => ?_⟩
    · have k3 : k = 3 := by
        rw [g] at hi
        have : (3 : Int32).toInt = 3 := rfl
        omega
      rw [if_pos k3] at h1 h0
      unfold w_M_isLaw_29
      exact I_in (a := a) (lo := 0) (hi := 99) (fun z => if1 (h1 z)) (fun z => if0 (h0 z)) y hy
    · have k3 : ¬ k = 3 := fun z => g (by rw [z]; rfl)
      rw [if_neg k3] at h1 h0
      unfold w_M_isLaw_29
      exact I_in (a := a) (lo := 0) (hi := 9) (fun z => if1 (h1 z)) (fun z => if0 (h0 z)) y hy
  · show 0 ≤ (nI k).toInt
    omega
  · show (nI k).toInt ≤ 3
    omega
theorem l_set {h : Int} {x : XSt} {m : MSt} {a1 a2 a3 a4 : Int32} {K : XSt → MSt → Prop} (n : Now h x m) (hK : ∀ x' m', Now h x' m' → x'.2.2 = x.2.2 → m'.2.2 = m.2.2 → K x' m') : wpl_set x m a1 a2 a3 a4 K := by
  have k0 : K x m := hK x m n rfl rfl
  obtain ⟨e, w, r, s, q, t⟩ := n
  unfold wpl_set wp_X_set
  refine X_isLaw_ok (fun z => if1 ?_) (fun z => if0 ?_)
  · obtain ⟨k, hk, ha⟩ : ∃ N : Nat, N < 4 ∧ a1 = nI N := ⟨a1.toInt.toNat, by omega, i_nat (by omega)⟩
    subst ha
    have no : ¬ (0 ≤ a2.toInt ∧ a2.toInt ≤ if k = 3 then 99 else 9) → wp_M_set m (nI k) a2 (fun v2 m1 => (-1) = v2 ∧ K x m1) := by
      intro P
      unfold wp_M_set
      exact M_isLaw_ok hk (fun z => absurd z P) (fun _ => if0 ⟨rfl, k0⟩)
    have vb : vp_in (nI k) 4 := vp_in_nI (by omega) (by omega)
    refine t_lo (k := 0) rfl (fun h1 => no (by omega)) (fun h1 => ?_)
    refine ⟨vb, ?_⟩
    rw [nI_clamp (by omega)]
    refine t_hi (k := if k = 3 then 99 else 9) (tbM k hk) (fun h2 => ?_) (fun h2 => no (by omega)) (by split <;> omega)
    refine ⟨vb, vb, ?_⟩
    unfold wp_M_set
    refine M_isLaw_ok hk (fun _ => if1 ?_) (fun z => absurd ⟨h1, h2⟩ z)
    refine M_becomes_ok q (by omega) (fun d1 q1 => ⟨r.1 k hk, ?_⟩)
    have r1 := r.laws hk w.1.2 a2.toInt
    rw [iI_of] at r1
    exact hK _ _ ⟨_, w.law hk ⟨h1, h2⟩, r1, s, q1, t⟩ rfl rfl
  · unfold wp_M_set wp_M_isLaw
    exact I_in (a := a1) (fun z2 => absurd z2 z) (fun _ => if0 (if0 ⟨rfl, k0⟩))
def mtB (b1 b2 : Nat) (e : Gh) : Bool := decide (e (51 + b1) = e (51 + b2))
theorem at_eq {h : Int} {e : Gh} {b1 b2 : Nat} (w : Wf h e) (g1 : (b1 : Int) < e 4) (g2 : (b2 : Int) < e 4) : iI (e (51 + b1)) = iI (e (51 + b2)) ↔ mtB b1 b2 e = true := by
  have u1 := (w.2.2.2.2.2.2.2.2 b1 g1).2.2.2.1
  have u2 := (w.2.2.2.2.2.2.2.2 b2 g2).2.2.2.1
  rw [iI_eq (by omega) (by omega)]
  exact ⟨decide_eq_true, of_decide_eq_true⟩
theorem X_meets_ok {b1 b2 : Nat} {x : XSt} {post : Int32 → XSt → Prop} : ∀ (n f i : Nat) (h : Int) (c : CSt) (e : Gh), RelC c e → C_heldBack c = iI (-1) → Wf h e → (b1 : Int) < e 4 → (b2 : Int) < e 4 → f + i = 61 → f < n → h + f ≤ 1000000 → (∀ c', post (seekE (mtB b1 b2) f e i) (X_tried_ x c')) → w_X_meets_36 post n (X_tried_ x c) (nI b1) (nI b2) (nI i) := by
  intro n
  induction n with
  | zero => intro f i h c e _ _ _ _ _ _ hn; omega
  | succ n ih =>
    intro f i h c e r s w g1 g2 hf hn hh hp
    have w4 := w.1
    rw [w_X_meets_36]
    refine t_lt (a := 60) (b := i) rfl rfl (fun z => ?_) (fun z => ?_)
    · have : f = 0 := by omega
      subst this
      exact hp c
    obtain ⟨g, rfl⟩ : ∃ g, f = g + 1 := ⟨f - 1, by omega⟩
    rw [seek_s] at hp
    refine ⟨vp_in_nI (by omega) (by omega), vp_in_nI (by omega) (by omega), ?_⟩
    have e1 : C_at (X_tried (X_tried_ x c)) (nI b1).toNatClampNeg = iI (e (51 + b1)) := by
      rw [nI_clamp (by omega)]
      exact (r.2.2.2.2.2.2 b1 g1).2.2.2.1
    have e2 : C_at (X_tried (X_tried_ x c)) (nI b2).toNatClampNeg = iI (e (51 + b2)) := by
      rw [nI_clamp (by omega)]
      exact (r.2.2.2.2.2.2 b2 g2).2.2.2.1
    rw [e1, e2]
    refine tst (at_eq w g1 g2) (fun l => ?_) (fun l => ?_)
    · rw [if_pos l] at hp
      exact hp c
    · rw [if_neg l] at hp
      refine C_hour_ok (h := h) (by omega) s (by omega) r w (fun c1 r1 s1 => ?_)
      intro y hy
      rw [hy, nI_1]
      exact ih g (i + 1) (h + 1) c1 _ r1 s1 w.hour.1 (by rw [w.hour.2.1]; exact g1) (by rw [w.hour.2.1]; exact g2) (by omega) (by omega) (by omega) hp
theorem M_meets_ok {b1 b2 : Nat} {m : MSt} {e0 : Gh} {post : Int32 → MSt → Prop} (t : M_still m = iI (-1)) (ha : RelD (M_aside m) e0) : ∀ (n f i : Nat) (h : Int) (d : Nat → Int32) (e : Gh), RelD d e → Wf h e → (b1 : Int) < e 4 → (b2 : Int) < e 4 → f + i = 61 → 1 ≤ f → f ≤ n → h + f ≤ 1000000 → (∀ d', RelD d' e0 → post (seekE (mtB b1 b2) f e i) (M_d_ m d')) → w_M_meets_29 post n (M_d_ m d) (nI b1) (nI b2) (nI i) := by
  intro n
  induction n with
  | zero => intro f i h d e _ _ _ _ _ _ hn; omega
  | succ n ih =>
    intro f i h d e q w g1 g2 hf h1 hn hh hp
    have w4 := w.1
    obtain ⟨g, rfl⟩ : ∃ g, f = g + 1 := ⟨f - 1, by omega⟩
    rw [seek_s] at hp
    have endY : mtB b1 b2 e = true → w_M_meets_60 post (M_d_ m d) (nI b1) (nI b2) (nI i) := by
      intro hl
      rw [if_pos hl] at hp
      unfold w_M_meets_60
      refine M_get_ok (w := 3) (m := M_d_ m d) q (by omega) (by omega) ?_
      refine M_get_ok (w := 3) (m := M_d_ m d) q (by omega) (by omega) ?_
      refine ifp ((at_eq w g1 g2).mpr hl) ?_
      unfold w_M_meets_80
      exact M_putBack_ok (m := M_d_ m d) ha (fun d2 q2 => if1 (hp d2 q2))
    rw [w_M_meets_29]
    refine t_le (a := 60) (b := i) rfl rfl (fun z => ?_) (fun z => ?_)
    · have : g = 0 := by omega
      subst this
      by_cases hl : mtB b1 b2 e = true
      · exact endY hl
      · rw [if_neg hl] at hp
        unfold w_M_meets_60
        refine M_get_ok (w := 3) (m := M_d_ m d) q (by omega) (by omega) ?_
        refine M_get_ok (w := 3) (m := M_d_ m d) q (by omega) (by omega) ?_
        refine ifn (fun z => hl ((at_eq w g1 g2).mp z)) ?_
        unfold w_M_meets_80
        exact M_putBack_ok (m := M_d_ m d) ha (fun d2 q2 => if0 (hp d2 q2))
    · refine M_get_ok (w := 3) (m := M_d_ m d) q (by omega) (by omega) ?_
      refine M_get_ok (w := 3) (m := M_d_ m d) q (by omega) (by omega) ?_
      refine tst (at_eq w g1 g2) (fun l => endY l) (fun hl => ?_)
      rw [if_neg hl] at hp
      refine M_hour_ok (h := h) (by omega) t (by omega) q w (fun d1 q1 => ?_)
      intro y hy
      rw [hy, nI_1]
      exact ih g (i + 1) (h + 1) d1 _ q1 w.hour.1 (by rw [w.hour.2.1]; exact g1) (by rw [w.hour.2.1]; exact g2) (by omega) (by omega) (by omega) (by omega) hp
theorem l_meets {h : Int} {x : XSt} {m : MSt} {a1 a2 a3 a4 : Int32} {K : XSt → MSt → Prop} (hh : h ≤ 900000) (n : Now h x m) (hK : ∀ x' m', Now h x' m' → x'.2.2 = x.2.2 → m'.2.2 = m.2.2 → K x' m') : wpl_meets x m a1 a2 a3 a4 K := by
  have k0 : K x m := hK x m n rfl rfl
  obtain ⟨e, w, r, s, q, t⟩ := n
  have no : ¬ ((0 ≤ a1.toInt ∧ a1.toInt < e 4) ∧ (0 ≤ a2.toInt ∧ a2.toInt < e 4) ∧ ¬ a1 = a2) → wp_M_meets m a1 a2 (fun v2 m1 => (-1) = v2 ∧ K x m1) := by
    intro P
    unfold wp_M_meets
    exact M_barge_ok q w (fun z1 => if1 (M_barge_ok q w (fun z2 => if1 ⟨fun _ => ⟨rfl, k0⟩, fun z3 => absurd ⟨z1, z2, z3⟩ P⟩) (fun _ => if0 ⟨rfl, k0⟩))) (fun _ => if0 ⟨rfl, k0⟩)
  unfold wpl_meets wp_X_meets
  refine X_barge_ok r w (fun z1 => if1 ?_) (fun z1 => if0 (no (fun z => z1 z.1)))
  refine X_barge_ok r w (fun z2 => if1 ?_) (fun z2 => if0 (no (fun z => z2 z.2.1)))
  refine ⟨fun z3 => no (fun z => z.2.2 z3), fun z3 => ?_⟩
  obtain ⟨b1, g1, _, ha⟩ := bg_of w z1
  obtain ⟨b2, g2, _, hb⟩ := bg_of w z2
  subst ha
  subst hb
  refine C_copy_ok r w (fun c1 r1 s1 => ?_)
  refine X_meets_ok (x := x) 2000 61 0 h c1 e r1 s1 w g1 g2 (by omega) (by omega) (by omega) (fun c2 => ?_)
  unfold wp_M_meets
  refine M_barge_ok q w (fun _ => if1 (M_barge_ok q w (fun _ => if1 (ifn z3 ?_)) (fun z => absurd z2 z))) (fun z => absurd z1 z)
  refine M_keepAside_ok q (fun a ra => ?_)
  exact M_meets_ok (m := M_aside_ m a) t ra 2000 61 0 h (M_d m) e q w g1 g2 (by omega) (by omega) (by omega) (by omega) (fun d1 q1 => ⟨rfl, hK _ _ ⟨e, w, r, s, q1, t⟩ rfl rfl⟩)
