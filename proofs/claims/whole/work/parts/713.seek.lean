/-! ===== the first hour at which something holds ===== -/
def seekE (p : Gh → Bool) : Nat → Gh → Nat → Int32
  | 0, _, _ => -3
  | f + 1, e, i => if p e = true then nI i else seekE p f (hourE (-1) e) (i + 1)
theorem seek_s (p : Gh → Bool) (f : Nat) (e : Gh) (i : Nat) : seekE p (f + 1) e i = if p e = true then nI i else seekE p f (hourE (-1) e) (i + 1) := rfl
theorem X_lands_ok {b : Nat} {x : XSt} {post : Int32 → XSt → Prop} : ∀ (n f i : Nat) (h : Int) (c : CSt) (e : Gh), RelC c e → C_heldBack c = iI (-1) → Wf h e → (b : Int) < e 4 → f + i = 61 → f < n → h + f ≤ 1000000 → (∀ c', post (seekE (fun e => ldB e b) f e i) (X_tried_ x c')) → w_X_lands_23 post n (X_tried_ x c) (nI b) (nI i) := by
  intro n
  induction n with
  | zero => intro f i h c e _ _ _ _ _ hn; omega
  | succ n ih =>
    intro f i h c e r s w hb hf hn hh hp
    rw [w_X_lands_23]
    refine t_lt (a := 60) (b := i) rfl rfl (fun z => ?_) (fun z => ?_)
    · have : f = 0 := by omega
      subst this
      exact hp c
    obtain ⟨g, rfl⟩ : ∃ g, f = g + 1 := ⟨f - 1, by omega⟩
    rw [seek_s] at hp
    refine C_landed_ok (c := c) r w hb (fun l => if1 ?_) (fun l => if0 ?_)
    · have hl : ldB e b = true := decide_eq_true l
      rw [if_pos hl] at hp
      exact hp c
    · have hl : ¬ ldB e b = true := fun z => l (of_decide_eq_true z)
      rw [if_neg hl] at hp
      refine C_hour_ok (h := h) (by omega) s (by omega) r w (fun c1 r1 s1 => ?_)
      intro y hy
      rw [hy, nI_1]
      exact ih g (i + 1) (h + 1) c1 _ r1 s1 w.hour.1 (by rw [w.hour.2.1]; exact hb) (by omega) (by omega) (by omega) hp
theorem M_lands_ok {b : Nat} {m : MSt} {e0 : Gh} {post : Int32 → MSt → Prop} (t : M_still m = iI (-1)) (ha : RelD (M_aside m) e0) : ∀ (n f i : Nat) (h : Int) (d : Nat → Int32) (e : Gh), RelD d e → Wf h e → (b : Int) < e 4 → f + i = 61 → 1 ≤ f → f ≤ n → h + f ≤ 1000000 → (∀ d', RelD d' e0 → post (seekE (fun e => ldB e b) f e i) (M_d_ m d')) → w_M_lands_16 post n (M_d_ m d) (nI b) (nI i) := by
  intro n
  induction n with
  | zero => intro f i h d e _ _ _ _ _ hn; omega
  | succ n ih =>
    intro f i h d e q w hb hf h1 hn hh hp
    have w4 := w.1
    have bw := w.2.2.2.2.2.2.2.2 b hb
    obtain ⟨g, rfl⟩ : ∃ g, f = g + 1 := ⟨f - 1, by omega⟩
    rw [seek_s] at hp
    have endY : ldB e b = true → w_M_lands_40 post (M_d_ m d) (nI b) (nI i) := by
      intro hl
      rw [if_pos hl] at hp
      unfold w_M_lands_40
      refine M_landed_ok (m := M_d_ m d) q (by omega) bw.2.2.2.1 bw.2.2.2.2 (fun _ => ?_) (fun z => absurd (of_decide_eq_true hl) z)
      exact M_putBack_ok (m := M_d_ m d) ha (fun d2 q2 => if1 (hp d2 q2))
    rw [w_M_lands_16]
    refine t_le (a := 60) (b := i) rfl rfl (fun z => ?_) (fun z => ?_)
    · have : g = 0 := by omega
      subst this
      by_cases hl : ldB e b = true
      · exact endY hl
      · rw [if_neg hl] at hp
        unfold w_M_lands_40
        refine M_landed_ok (m := M_d_ m d) q (by omega) bw.2.2.2.1 bw.2.2.2.2 (fun z => absurd (decide_eq_true z) hl) (fun _ => ?_)
        exact M_putBack_ok (m := M_d_ m d) ha (fun d2 q2 => if0 (hp d2 q2))
    · refine M_landed_ok (m := M_d_ m d) q (by omega) bw.2.2.2.1 bw.2.2.2.2 (fun l => if1 (endY (decide_eq_true l))) (fun l => if0 ?_)
      have hl : ¬ ldB e b = true := fun z => l (of_decide_eq_true z)
      rw [if_neg hl] at hp
      refine M_hour_ok (h := h) (by omega) t (by omega) q w (fun d1 q1 => ?_)
      intro y hy
      rw [hy, nI_1]
      exact ih g (i + 1) (h + 1) d1 _ q1 w.hour.1 (by rw [w.hour.2.1]; exact hb) (by omega) (by omega) (by omega) (by omega) hp
theorem l_lands {h : Int} {x : XSt} {m : MSt} {a1 a2 a3 a4 : Int32} {K : XSt → MSt → Prop} (hh : h ≤ 900000) (n : Now h x m) (hK : ∀ x' m', Now h x' m' → x'.2.2 = x.2.2 → m'.2.2 = m.2.2 → K x' m') : wpl_lands x m a1 a2 a3 a4 K := by
  have k0 : K x m := hK x m n rfl rfl
  obtain ⟨e, w, r, s, q, t⟩ := n
  unfold wpl_lands wp_X_lands
  refine X_barge_ok r w (fun z1 => if1 ?_) (fun z1 => if0 ?_)
  · obtain ⟨b, hb, hb8, ha⟩ := bg_of w z1
    subst ha
    refine C_copy_ok r w (fun c1 r1 s1 => ?_)
    refine X_lands_ok (x := x) 2000 61 0 h c1 e r1 s1 w hb (by omega) (by omega) (by omega) (fun c2 => ?_)
    unfold wp_M_lands
    refine M_barge_ok q w (fun _ => if1 ?_) (fun z => absurd z1 z)
    refine M_keepAside_ok q (fun a ra => ?_)
    exact M_lands_ok (m := M_aside_ m a) t ra 2000 61 0 h (M_d m) e q w hb (by omega) (by omega) (by omega) (by omega) (fun d1 q1 => ⟨rfl, hK _ _ ⟨e, w, r, s, q1, t⟩ rfl rfl⟩)
  · unfold wp_M_lands
    exact M_barge_ok q w (fun z => absurd z z1) (fun _ => if0 ⟨rfl, k0⟩)
def alB (e : Gh) : Bool := decide (setI (ldB e) (e 4).toNat = (1 <<< (iI (e 4) &&& 31)) - 1)
theorem X_quiet_ok {x : XSt} {post : Int32 → XSt → Prop} : ∀ (n f i : Nat) (h : Int) (c : CSt) (e : Gh), RelC c e → C_heldBack c = iI (-1) → Wf h e → f + i = 61 → f < n → h + f ≤ 1000000 → (∀ c', post (seekE alB f e i) (X_tried_ x c')) → w_X_quiet_13 post n (X_tried_ x c) (nI i) := by
  intro n
  induction n with
  | zero => intro f i h c e _ _ _ _ hn; omega
  | succ n ih =>
    intro f i h c e r s w hf hn hh hp
    rw [w_X_quiet_13]
    refine t_lt (a := 60) (b := i) rfl rfl (fun z => ?_) (fun z => ?_)
    · have : f = 0 := by omega
      subst this
      exact hp c
    obtain ⟨g, rfl⟩ : ∃ g, f = g + 1 := ⟨f - 1, by omega⟩
    rw [seek_s] at hp
    refine C_allLanded_ok (c := c) r w (fun l => if1 ?_) (fun l => if0 ?_)
    · have hl : alB e = true := decide_eq_true l
      rw [if_pos hl] at hp
      exact hp c
    · have hl : ¬ alB e = true := fun z => l (of_decide_eq_true z)
      rw [if_neg hl] at hp
      refine C_hour_ok (h := h) (by omega) s (by omega) r w (fun c1 r1 s1 => ?_)
      intro y hy
      rw [hy, nI_1]
      exact ih g (i + 1) (h + 1) c1 _ r1 s1 w.hour.1 (by omega) (by omega) (by omega) hp
theorem M_quiet_ok {m : MSt} {e0 : Gh} {y3 : Int32} {post : Int32 → MSt → Prop} (t : M_still m = iI (-1)) (ha : RelD (M_aside m) e0) : ∀ (n f i : Nat) (h : Int) (d : Nat → Int32) (e : Gh), RelD d e → Wf h e → y3 = (1 <<< (iI (e 4) &&& 31)) - 1 → f + i = 61 → 1 ≤ f → f ≤ n → h + f ≤ 1000000 → (∀ d', RelD d' e0 → post (seekE alB f e i) (M_d_ m d')) → w_M_quiet_17 post n (M_d_ m d) y3 (nI i) := by
  intro n
  induction n with
  | zero => intro f i h d e _ _ _ _ _ hn; omega
  | succ n ih =>
    intro f i h d e q w hy3 hf h1 hn hh hp
    obtain ⟨g, rfl⟩ : ∃ g, f = g + 1 := ⟨f - 1, by omega⟩
    rw [seek_s] at hp
    have endY : alB e = true → w_M_quiet_41 post (M_d_ m d) y3 (nI i) := by
      intro hl
      rw [if_pos hl] at hp
      unfold w_M_quiet_41
      refine M_landedS_ok (m := M_d_ m d) q w (ifp (by rw [hy3]; exact of_decide_eq_true hl) ?_)
      unfold w_M_quiet_54
      exact M_putBack_ok (m := M_d_ m d) ha (fun d2 q2 => if1 (hp d2 q2))
    rw [w_M_quiet_17]
    refine t_le (a := 60) (b := i) rfl rfl (fun z => ?_) (fun z => ?_)
    · have : g = 0 := by omega
      subst this
      by_cases hl : alB e = true
      · exact endY hl
      · rw [if_neg hl] at hp
        unfold w_M_quiet_41
        refine M_landedS_ok (m := M_d_ m d) q w (ifn (by rw [hy3]; exact fun z => hl (decide_eq_true z)) ?_)
        unfold w_M_quiet_54
        exact M_putBack_ok (m := M_d_ m d) ha (fun d2 q2 => if0 (hp d2 q2))
    · refine M_landedS_ok (m := M_d_ m d) q w ⟨fun l => endY (decide_eq_true (by rw [l, hy3])), fun l => ?_⟩
      have hl : ¬ alB e = true := fun z => l (by rw [hy3]; exact of_decide_eq_true z)
      rw [if_neg hl] at hp
      refine M_hour_ok (h := h) (by omega) t (by omega) q w (fun d1 q1 => ?_)
      intro y hy
      rw [hy, nI_1]
      exact ih g (i + 1) (h + 1) d1 _ q1 w.hour.1 (by rw [w.hour.2.1]; exact hy3) (by omega) (by omega) (by omega) (by omega) hp
theorem l_quiet {h : Int} {x : XSt} {m : MSt} {a1 a2 a3 a4 : Int32} {K : XSt → MSt → Prop} (hh : h ≤ 900000) (n : Now h x m) (hK : ∀ x' m', Now h x' m' → x'.2.2 = x.2.2 → m'.2.2 = m.2.2 → K x' m') : wpl_quiet x m a1 a2 a3 a4 K := by
  obtain ⟨e, w, r, s, q, t⟩ := n
  unfold wpl_quiet wp_X_quiet
  refine C_copy_ok r w (fun c1 r1 s1 => ?_)
  refine X_quiet_ok (x := x) 2000 61 0 h c1 e r1 s1 w (by omega) (by omega) (by omega) (fun c2 => ?_)
  unfold wp_M_quiet
  refine M_keepAside_ok q (fun a ra => ?_)
  intro y2 h2 y3 h3
  have h4 : M_d (M_aside_ m a) 4 = iI (e 4) := q 4 (by omega)
  rw [h4] at h2
  rw [h2] at h3
  exact M_quiet_ok (m := M_aside_ m a) t ra 2000 61 0 h (M_d m) e q w h3 (by omega) (by omega) (by omega) (by omega) (fun d1 q1 => ⟨rfl, hK _ _ ⟨e, w, r, s, q1, t⟩ rfl rfl⟩)
