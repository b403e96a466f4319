theorem X_triedCargoH_ok {h s : Int} {x : XSt} {e : Gh} {N : Nat} {post : Int32 → XSt → Prop} (hN : N ≤ 1000) (hh : h + N ≤ 1000000) (hs : -1 ≤ s ∧ s ≤ 8) (hr : RelC (X_now x) e) (w : Wf h e) (hp : ∀ c, post (iI (sumE (hoursE s N e) 35 (e 4).toNat)) (X_tried_ x c)) : wp_X_triedCargo x (nI N) 0 (iI s) post := by
  unfold wp_X_triedCargo
  refine C_copy_ok hr w (fun c1 r1 s1 => ?_)
  unfold wp_C_still
  refine C_still0_ok ?_ 2000 0 (by omega) (by omega)
  obtain ⟨w1, w2, w3⟩ := Wf.hours (s := s) N w
  refine C_passHours_ok (s := s) (N := N) (h := h) hN hh rfl hs (e := e) r1 w (fun c2 r2 s2 => ?_)
  refine C_loads_ok r2 w1 ?_
  rw [w2]
  exact hp c2
def hfV (e : Gh) (N i : Nat) : Int := sumE (hoursE i N e) 35 (e 4).toNat
def hfE (e : Gh) (N : Nat) : Nat → Nat → Int → Int → Int
  | 0, _, _, k => k
  | f + 1, i, v, k => if hfV e N i ≤ v then hfE e N f (i + 1) v k else hfE e N f (i + 1) (hfV e N i) i
theorem hfE_s (e : Gh) (N f i : Nat) (v k : Int) : hfE e N (f + 1) i v k = if hfV e N i ≤ v then hfE e N f (i + 1) v k else hfE e N f (i + 1) (hfV e N i) i := rfl
theorem sumH_b {h s : Int} {e : Gh} {N : Nat} (w : Wf h e) : 0 ≤ sumE (hoursE s N e) 35 (e 4).toNat ∧ sumE (hoursE s N e) 35 (e 4).toNat ≤ 1000 := by
  obtain ⟨w1, w2, w3⟩ := Wf.hours (s := s) N w
  have := sum_b w1
  rw [w2] at this
  exact this
