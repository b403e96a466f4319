theorem X_triedCargoH_ok {h s : Int} {x : XSt} {e : Gh} {N : Nat} {post : Int32 → XSt → Prop} (hN : N ≤ 1000) (hh : h + N ≤ 1000000) (hs : -1 ≤ s ∧ s ≤ 8) (hr : RelC (X_now x) e) (w : Wf h e) (hp : ∀ c, post (iI (sumE (hoursE s N e) 35 (e 4).toNat)) (X_tried_ x c)) : wp_X_triedCargo x (nI N) 0 (iI s) post := by
  unfold wp_X_triedCargo
  refine C_copy_ok hr w (fun c1 r1 s1 => ?_)
  unfold wp_C_still
  refine C_still0_ok ?_ 2000 0 (by omega) (by omega)
  obtain ⟨w1, w2, w3⟩ := Wf.hours (s := s) N w
  refine C_passHours_ok (s := s) (N := N) (h := h) hN hh rfl hs (e := e) r1 w (fun c2 r2 s2 => ?_)
  refine C_loads_ok r2 w1 ?_
  rw [w2]
  exact hp c2
def hfV (e : Gh) (N i : Nat) : Int := sumE (hoursE i N e) 35 (e 4).toNat
def hfE (e : Gh) (N : Nat) : Nat → Nat → Int → Int → Int
  | 0, _, _, k => k
  | f + 1, i, v, k => if hfV e N i ≤ v then hfE e N f (i + 1) v k else hfE e N f (i + 1) (hfV e N i) i
theorem hfE_s (e : Gh) (N f i : Nat) (v k : Int) : hfE e N (f + 1) i v k = if hfV e N i ≤ v then hfE e N f (i + 1) v k else hfE e N f (i + 1) (hfV e N i) i := rfl
theorem sumH_b {h s : Int} {e : Gh} {N : Nat} (w : Wf h e) : 0 ≤ sumE (hoursE s N e) 35 (e 4).toNat ∧ sumE (hoursE s N e) 35 (e 4).toNat ≤ 1000 := by
  obtain ⟨w1, w2, w3⟩ := Wf.hours (s := s) N w
  have := sum_b w1
  rw [w2] at this
  exact this
theorem X_holdForL_ok {x : XSt} {e : Gh} {h : Int} {N : Nat} {post : Int32 → XSt → Prop} (r : RelC (X_now x) e) (w : Wf h e) (hh : h ≤ 900000) (hN : N ≤ 60) : ∀ (n f i : Nat) (v k : Int) (c : CSt), f + i = (e 4).toNat → f < n → 0 ≤ v ∧ v ≤ 1000 → (∀ c', post (iI (hfE e N f i v k)) (X_tried_ x c')) → w_X_holdFor_27 post n (X_tried_ x c) (nI N) (iI v) (iI k) (nI i) := by
  intro n
  have w4 := w.1
  induction n with
  | zero => intro f i v k c _ hn; omega
  | succ n ih =>
    intro f i v k c hf hn hv hp
    rw [w_X_holdFor_27]
    refine t_le (a := e 4) (b := i) r.2.2.2.1 rfl (fun g => ?_) (fun g => ?_)
    · have : f = 0 := by omega
      subst this
      exact hp c
    obtain ⟨g2, rfl⟩ : ∃ g, f = g + 1 := ⟨f - 1, by omega⟩
    rw [hfE_s] at hp
    have vb : 0 ≤ hfV e N i ∧ hfV e N i ≤ 1000 := sumH_b w
    refine X_triedCargoH_ok (x := X_tried_ x c) (s := (i : Int)) (h := h) (by omega) (by omega) (by omega) r w (fun c2 => ?_)
    refine t_le (a := hfV e N i) (b := v) rfl rfl (fun l => ?_) (fun l => ?_)
    · intro y hy
      rw [if_pos l] at hp
      rw [hy, nI_1]
      exact ih g2 (i + 1) v k c2 (by omega) (by omega) hv hp
    · intro y hy
      rw [if_neg (by omega)] at hp
      rw [hy, nI_1]
      exact ih g2 (i + 1) (hfV e N i) i c2 (by omega) (by omega) vb hp
