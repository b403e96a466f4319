/-! ===== the class's hours, over the numbers ===== -/
theorem X_isLock_ok {l : Int} {post : Int32 → Prop} (hl : -2147483648 ≤ l ∧ l ≤ 2147483647) (h1 : 0 ≤ l ∧ l < 10 → post 1) (h0 : ¬ (0 ≤ l ∧ l < 10) → post 0) : wp_X_isLock (iI l) post := by
  unfold wp_X_isLock
  refine t_lt (a := l) (b := 0) rfl rfl (fun q => h0 (by omega)) (fun q => ?_)
  exact t_le (a := 10) (b := l) rfl rfl (fun q2 => h0 (by omega)) (fun q2 => h1 (by omega))
theorem X_heldLoad_ok {v : Int} {post : Int32 → Prop} (hv : -2147483648 ≤ v ∧ v ≤ 2147483647) (h : post (iI (cl 0 99 v))) : wp_X_heldLoad (iI v) post := by
  unfold wp_X_heldLoad
  unfold cl at h
  refine t_le (a := 0) (b := v) rfl rfl (fun h1 => ?_) (fun h1 => ?_)
  · rw [if_neg (by omega)] at h
    refine t_le (a := v) (b := 99) rfl rfl (fun h2 => ?_) (fun h2 => ?_)
    · rw [if_neg (by omega)] at h; exact h
    · rw [if_pos h2] at h; exact h
  · rw [if_pos h1] at h; exact h
theorem C_landed_ok {c : CSt} {h : Int} {e : Gh} {b : Nat} {post : Int32 → CSt → Prop} (hr : RelC c e) (w : Wf h e) (hb : (b : Int) < e 4) (h1 : e (51 + b) = e (59 + b) → post 1 c) (h0 : ¬ e (51 + b) = e (59 + b) → post 0 c) : wp_C_hasLanded c (nI b) post := by
  have w4 := w.1
  obtain ⟨hk, hl, hs, ha, hbd⟩ := w.2.2.2.2.2.2.2.2 b hb
  obtain ⟨q1, q2, q3, q4, q5⟩ := hr.2.2.2.2.2.2 b hb
  unfold wp_C_hasLanded
  have hin : vp_in (nI b) 8 := vp_in_nI (by omega) (by omega)
  refine ⟨hin, hin, ?_⟩
  rw [nI_clamp (by omega)]
  exact t_eq (a := e (51 + b)) (b := e (59 + b)) q4 q5 h1 h0
theorem C_noiseAt_ok {c : CSt} {h : Int} {e : Gh} {l : Int} {post : Int32 → CSt → Prop} (hr : RelC c e) (hl : 0 ≤ l ∧ l ≤ 9) (hp : post (iI (e (7 + l.toNat))) c) : wp_C_noiseAt c (iI l) post := by
  unfold wp_C_noiseAt
  refine X_isLock_ok (by omega) (fun q => ⟨fun z => absurd z (by decide), fun _ => ⟨iI_in (by omega) (by omega) (by omega), ?_⟩⟩) (fun q => absurd ⟨by omega, by omega⟩ q)
  rw [iI_clamp (by omega) (by omega), hr.2.1 _ (by omega)]
  exact hp
theorem and1 {a : Int} (h : 0 ≤ a ∧ a ≤ 2147483647) : iI a &&& 1 = iI (a % 2) := by
  rw [iI_nat h.1, pk_andN (k := 1) (by omega) (by decide), nI_iI]
  congr 1
  omega
theorem C_paceOf_ok {c : CSt} {h : Int} {e : Gh} {b : Nat} {post : Int32 → CSt → Prop} (hr : RelC c e) (w : Wf h e) (hh : h ≤ 1000000) (hb : (b : Int) < e 4) (hp : post (iI (paceE e b)) c) : wp_C_paceOf c (nI b) post := by
  obtain ⟨w4, w0, w1, w2, w3, w5, wn, wl, wb⟩ := w
  have hk := (wb b hb).1
  obtain ⟨q1, q2, q3, q4, q5⟩ := hr.2.2.2.2.2.2 b hb
  unfold wp_C_paceOf
  refine ⟨vp_in_nI (by omega) (by omega), ?_⟩
  rw [nI_clamp (by omega)]
  unfold paceE at hp
  refine t_eq (a := e (27 + b)) (b := 2) q1 rfl (fun q => ?_) (fun q => ?_)
  · rw [if_pos q] at hp; exact hp
  rw [if_neg q] at hp
  refine t_eq (a := e (27 + b)) (b := 3) q1 rfl (fun q => ?_) (fun q => ?_)
  · rw [if_pos q] at hp; exact hp
  rw [if_neg q] at hp
  refine t_eq (a := e (27 + b)) (b := 4) q1 rfl (fun q => ?_) (fun q => ?_)
  · rw [if_pos q] at hp
    rw [hr.2.2.2.2.1, and1 (by omega), show (2 : Int32) = iI 2 from rfl, iI_sub]
    have e2 : (2 - e 5 % 2 : Int) = if e 5 % 2 = 1 then 1 else 2 := by split <;> omega
    rw [e2]; exact hp
  rw [if_neg q] at hp
  refine t_eq (a := e (27 + b)) (b := 5) q1 rfl (fun q => ?_) (fun q => ?_)
  · rw [if_pos q] at hp
    rw [hr.1 2 (by omega), show (1 : Int32) = iI 1 from rfl, iI_add]
    exact hp
  · rw [if_neg q] at hp; exact hp
theorem C_spillOf_ok {c : CSt} {h : Int} {e : Gh} {b : Nat} {post : Int32 → CSt → Prop} (hr : RelC c e) (w : Wf h e) (hh : h ≤ 1000000) (hb : (b : Int) < e 4) (hp : post (iI (spillE e b)) c) : wp_C_spillOf c (nI b) (iI (nsE e b)) post := by
  obtain ⟨w4, w0, w1, w2, w3, w5, wn, wl, wb⟩ := w
  obtain ⟨hk, hl, hs, ha, hbd⟩ := wb b hb
  have hn : 0 ≤ nsE e b ∧ nsE e b ≤ 9 := wn (e (51 + b)).toNat (by omega)
  obtain ⟨q1, q2, q3, q4, q5⟩ := hr.2.2.2.2.2.2 b hb
  have hin : vp_in (nI b) 8 := vp_in_nI (by omega) (by omega)
  unfold wp_C_spillOf
  refine ⟨hin, ?_⟩
  rw [nI_clamp (by omega)]
  unfold spillE at hp
  refine t_eq (a := e (27 + b)) (b := 1) q1 rfl (fun q => ?_) (fun q => ?_)
  · rw [if_pos q] at hp
    rw [show (2 : Int32) = iI 2 from rfl, iI_div (by omega) (by omega)]; exact hp
  rw [if_neg q] at hp
  refine t_eq (a := e (27 + b)) (b := 2) q1 rfl (fun q => ?_) (fun q => ?_)
  · rw [if_pos q] at hp
    rw [show (1 : Int32) = iI 1 from rfl, iI_sub]; exact hp
  rw [if_neg q] at hp
  refine t_eq (a := e (27 + b)) (b := 3) q1 rfl (fun q => ?_) (fun q => ?_)
  · rw [if_pos q] at hp
    intro y1 e1
    have e2 : y1 = iI (nsE e b / 2) := by rw [e1]; exact iI_div (a := nsE e b) (b := 2) (by omega) (by omega)
    rw [e2, hr.1 1 (by omega), iI_sub]; exact hp
  rw [if_neg q] at hp
  refine t_eq (a := e (27 + b)) (b := 4) q1 rfl (fun q => ?_) (fun q => ?_)
  · rw [if_pos q] at hp
    intro y1 e1
    have e2 : y1 = iI (nsE e b - 1) := by rw [e1]; exact iI_sub (nsE e b) 1
    refine ⟨hin, ?_⟩
    rw [e2, q2, show (10 : Int32) = iI 10 from rfl, iI_div (by omega) (by omega), iI_add]; exact hp
  rw [if_neg q] at hp
  refine t_eq (a := e (27 + b)) (b := 5) q1 rfl (fun q => ?_) (fun q => ?_)
  · rw [if_pos q] at hp
    have e5 : C_hour c - C_hour c / 3 * 3 = iI (e 5 % 3) := by rw [hr.2.2.2.2.1]; exact iI_rem (b := 3) (by omega) (by omega)
    refine t_eq (a := e 5 % 3) (b := 0) e5 rfl (fun q2 => ?_) (fun q2 => ?_)
    · rw [if_pos q2] at hp
      intro y1 e1
      have e2 : y1 = iI (2 * nsE e b) := by rw [e1, Int.mul_comm]; exact iI_mul (nsE e b) 2
      rw [e2]; exact hp
    · rw [if_neg q2] at hp; exact hp
  · rw [if_neg q] at hp; exact hp
theorem min_lost {z : Int} (hz : 0 ≤ z ∧ z ≤ 1000000) : (if iI z < 9999 then iI z else 9999) = iI (cl 0 9999 z) := by
  rw [show (9999 : Int32) = iI 9999 from rfl]
  have hlt := iI_lt (a := z) (b := 9999) (by omega) (by omega)
  unfold cl
  by_cases hq : z < 9999
  · rw [if_pos (hlt.mpr hq), if_neg (by omega), if_neg (by omega)]
  · rw [if_neg (fun q => hq (hlt.mp q)), if_neg (by omega)]
    congr 1
    split <;> omega
/-- a canal that is as another, but for the numbers -/
def asC (c c' : CSt) : Prop := C_heldBack c' = C_heldBack c
theorem C_spill_ok {c : CSt} {h : Int} {e : Gh} {b : Nat} {v : Int} {post : CSt → Prop} (hr : RelC c e) (w : Wf h e) (hb : (b : Int) < e 4) (hv : -1000000 ≤ v ∧ v ≤ 1000000) (hp : ∀ c', RelC c' (spiltE e b v) → asC c c' → post c') : wp_C_spill c (nI b) (iI (e (51 + b))) (iI v) post := by
  obtain ⟨w4, w0, w1, w2, w3, w5, wn, wl, wb⟩ := w
  obtain ⟨hk, hl, hs, ha, hbd⟩ := wb b hb
  have hL := wl (e (51 + b)).toNat (by omega)
  have hc := cl_in (lo := 0) (hi := 99) (v := e (35 + b) - v) (by omega)
  obtain ⟨q1, q2, q3, q4, q5⟩ := hr.2.2.2.2.2.2 b hb
  have hin : vp_in (nI b) 8 := vp_in_nI (by omega) (by omega)
  unfold wp_C_spill
  refine ⟨hin, fun y ey => ?_⟩
  rw [nI_clamp (by omega)] at ey ⊢
  have ey2 : y = iI (e (35 + b) - v) := by rw [ey, q2, iI_sub]
  rw [ey2]
  refine X_heldLoad_ok (by omega) ?_
  refine ⟨hin, hin, ?_⟩
  have r1 := hr.load hb w4.2 (cl 0 99 (e (35 + b) - v))
  refine t_le (a := e (35 + b)) (b := cl 0 99 (e (35 + b) - v)) q2 (by rw [pk_us]) (fun q => ?_) (fun q => ?_)
  · refine hp _ ?_ rfl
    have e1 : spiltE e b v = uE e (35 + b) (cl 0 99 (e (35 + b) - v)) := by
      unfold spiltE
      rw [if_neg (by omega)]
      funext j
      by_cases hj : j = 17 + (e (51 + b)).toNat
      · subst hj
        rw [uE_s, uE_n (by omega)]
        unfold cl
        rw [if_neg (by omega), if_neg (by omega)]
        omega
      · rw [uE_n hj]
    rw [e1]
    exact r1
  · refine X_isLock_ok (by omega) (fun q6 => ⟨fun z => absurd z (by decide), fun _ => ?_⟩) (fun q6 => absurd ⟨by omega, by omega⟩ q6)
    have hinL : vp_in (iI (e (51 + b))) 10 := iI_in (by omega) (by omega) (by omega)
    refine ⟨hinL, fun y8 e8 => ⟨hin, fun y10 e10 => ⟨hinL, ?_⟩⟩⟩
    rw [iI_clamp (by omega) (by omega)] at e8 ⊢
    have e10' : y10 = iI (e (17 + (e (51 + b)).toNat) + (e (35 + b) - cl 0 99 (e (35 + b) - v))) := by
      rw [e10, e8, pk_us, hr.2.2.1 _ (by omega), q2, iI_add, iI_sub]
      congr 1
      omega
    have ev : (if y10 < 9999 then y10 else 9999) = iI (cl 0 9999 (e (17 + (e (51 + b)).toNat) + (e (35 + b) - cl 0 99 (e (35 + b) - v)))) := by
      rw [e10']
      exact min_lost (by omega)
    rw [ev]
    have r2 := r1.lost (b := (e (51 + b)).toNat) (by omega) (by rw [uE_n (by omega)]; exact w4.2) (cl 0 9999 (e (17 + (e (51 + b)).toNat) + (e (35 + b) - cl 0 99 (e (35 + b) - v))))
    refine hp _ ?_ rfl
    have e1 : spiltE e b v = uE (uE e (35 + b) (cl 0 99 (e (35 + b) - v))) (17 + (e (51 + b)).toNat) (cl 0 9999 (e (17 + (e (51 + b)).toNat) + (e (35 + b) - cl 0 99 (e (35 + b) - v)))) := by
      unfold spiltE
      rw [if_pos (by omega)]
    rw [e1]
    exact r2
