/-! ===== the reference's hours, over the numbers ===== -/
theorem M_get_ok {m : MSt} {e : Gh} {b w : Nat} {post : Int32 → MSt → Prop} (hr : RelD (M_d m) e) (hb : b < 8) (hw : w < 5) (h : post (iI (e (27 + 8 * w + b))) m) : wp_M_get m (nI b) (nI w) post := by
  unfold wp_M_get
  intro y1 e1 y2 e2
  have ey : y2 = nI (27 + 8 * w + b) := by
    rw [e2, e1, show (27 : Int32) = nI 27 from rfl, show (8 : Int32) = nI 8 from rfl, pk_mul, nI_add, nI_add]
  rw [ey]
  refine ⟨vp_in_nI (by omega) (by omega), ?_⟩
  rw [nI_clamp (by omega), hr _ (by omega)]
  exact h
theorem M_puts_ok {m : MSt} {e : Gh} {b w : Nat} {v : Int} {post : MSt → Prop} (hr : RelD (M_d m) e) (hb : b < 8) (hw : w < 5) (h : ∀ d, RelD d (uE e (27 + 8 * w + b) v) → post (M_d_ m d)) : wp_M_puts m (nI b) (nI w) (iI v) post := by
  unfold wp_M_puts
  intro y1 e1 y2 e2
  have ey : y2 = nI (27 + 8 * w + b) := by
    rw [e2, e1, show (27 : Int32) = nI 27 from rfl, show (8 : Int32) = nI 8 from rfl, pk_mul, nI_add, nI_add]
  rw [ey]
  refine ⟨vp_in_nI (by omega) (by omega), ?_⟩
  rw [nI_clamp (by omega)]
  exact h _ (hr.upd _ _)
theorem M_held_ok {v lo hi : Int} {post : Int32 → Prop} (hlh : lo ≤ hi) (hl : -2147483648 ≤ lo) (hh : hi ≤ 2147483647) (hv : -2147483648 ≤ v ∧ v ≤ 2147483647) (h : post (iI (cl lo hi v))) : wp_M_held (iI v) (iI lo) (iI hi) post := by
  unfold wp_M_held
  unfold cl at h
  refine t_le (a := lo) (b := v) rfl rfl (fun h1 => ?_) (fun h1 => ?_)
  · rw [if_neg (by omega)] at h
    refine t_le (a := v) (b := hi) rfl rfl (fun h2 => ?_) (fun h2 => ?_)
    · rw [if_neg (by omega)] at h; exact h
    · rw [if_pos h2] at h; exact h
  · rw [if_pos h1] at h; exact h
theorem M_landed_ok {m : MSt} {e : Gh} {b : Nat} {post : Int32 → MSt → Prop} (hr : RelD (M_d m) e) (hb : b < 8) (hA : 0 ≤ e (51 + b) ∧ e (51 + b) ≤ 9) (hB : 0 ≤ e (59 + b) ∧ e (59 + b) ≤ 9) (h1 : e (51 + b) = e (59 + b) → post 1 m) (h0 : ¬ e (51 + b) = e (59 + b) → post 0 m) : wp_M_hasLanded m (nI b) post := by
  unfold wp_M_hasLanded
  refine M_get_ok (w := 3) hr hb (by omega) ?_
  refine M_get_ok (w := 4) hr hb (by omega) ?_
  exact t_eq (a := e (51 + b)) (b := e (59 + b)) rfl rfl h1 h0
theorem M_pace_ok {h : Int} {m : MSt} {e : Gh} {b : Nat} {post : Int32 → MSt → Prop} (hr : RelD (M_d m) e) (w : Wf h e) (hh : h ≤ 1000000) (hb : (b : Int) < e 4) (hp : post (iI (paceE e b)) m) : wp_M_pace m (nI b) post := by
  obtain ⟨w4, w0, w1, w2, w3, w5, wn, wl, wb⟩ := w
  have hk := (wb b hb).1
  unfold wp_M_pace
  refine M_get_ok (w := 0) hr (by omega) (by omega) ?_
  unfold paceE at hp
  rw [show 27 + 8 * 0 + b = 27 + b by omega]
  refine t_eq (a := e (27 + b)) (b := 2) rfl rfl (fun q => ?_) (fun q => ?_)
  · rw [if_pos q] at hp; exact hp
  rw [if_neg q] at hp
  refine t_eq (a := e (27 + b)) (b := 3) rfl rfl (fun q => ?_) (fun q => ?_)
  · rw [if_pos q] at hp; exact hp
  rw [if_neg q] at hp
  refine t_eq (a := e (27 + b)) (b := 4) rfl rfl (fun q => ?_) (fun q => ?_)
  · rw [if_pos q] at hp
    intro y ey
    have ey2 : y = iI (e 5 % 2) := by rw [ey, hr 5 (by omega)]; exact iI_rem (b := 2) (by omega) (by omega)
    refine t_eq (a := e 5 % 2) (b := 1) ey2 rfl (fun q2 => ?_) (fun q2 => ?_)
    · rw [if_pos q2] at hp; exact hp
    · rw [if_neg q2] at hp; exact hp
  rw [if_neg q] at hp
  refine t_eq (a := e (27 + b)) (b := 5) rfl rfl (fun q => ?_) (fun q => ?_)
  · rw [if_pos q] at hp
    rw [hr 2 (by omega), show (1 : Int32) = iI 1 from rfl, iI_add]
    exact hp
  · rw [if_neg q] at hp; exact hp
theorem M_spills_ok {h : Int} {m : MSt} {e : Gh} {b : Nat} {post : Int32 → MSt → Prop} (hr : RelD (M_d m) e) (w : Wf h e) (hh : h ≤ 1000000) (hb : (b : Int) < e 4) (hp : post (iI (spillE e b)) m) : wp_M_spills m (nI b) post := by
  obtain ⟨w4, w0, w1, w2, w3, w5, wn, wl, wb⟩ := w
  obtain ⟨hk, hl, hs, ha, hbd⟩ := wb b hb
  have hn : 0 ≤ nsE e b ∧ nsE e b ≤ 9 := wn (e (51 + b)).toNat (by omega)
  unfold wp_M_spills
  refine M_get_ok (w := 3) hr (by omega) (by omega) ?_
  intro y ey
  have ey2 : y = nI (7 + (e (51 + b)).toNat) := by
    rw [ey, show 27 + 8 * 3 + b = 51 + b by omega, iI_nat ha.1, show (7 : Int32) = nI 7 from rfl, nI_add]
  rw [ey2]
  refine ⟨vp_in_nI (by omega) (by omega), ?_⟩
  rw [nI_clamp (by omega), hr _ (by omega)]
  show wp_M_get m (nI b) 0 _
  refine M_get_ok (w := 0) hr (by omega) (by omega) ?_
  rw [show 27 + 8 * 0 + b = 27 + b by omega]
  show ((iI (e (27 + b)) = 1) → post (iI (nsE e b) / 2) m) ∧ _
  unfold spillE at hp
  refine t_eq (a := e (27 + b)) (b := 1) rfl rfl (fun q => ?_) (fun q => ?_)
  · rw [if_pos q] at hp
    rw [show (2 : Int32) = iI 2 from rfl, iI_div (by omega) (by omega)]; exact hp
  rw [if_neg q] at hp
  refine t_eq (a := e (27 + b)) (b := 2) rfl rfl (fun q => ?_) (fun q => ?_)
  · rw [if_pos q] at hp
    show post (iI (nsE e b) - 1) m
    rw [show (1 : Int32) = iI 1 from rfl, iI_sub]; exact hp
  rw [if_neg q] at hp
  refine t_eq (a := e (27 + b)) (b := 3) rfl rfl (fun q => ?_) (fun q => ?_)
  · rw [if_pos q] at hp
    intro y1 e1
    have e2 : y1 = iI (nsE e b / 2) := by rw [e1]; exact iI_div (a := nsE e b) (b := 2) (by omega) (by omega)
    rw [e2, hr 1 (by omega), iI_sub]; exact hp
  rw [if_neg q] at hp
  refine t_eq (a := e (27 + b)) (b := 4) rfl rfl (fun q => ?_) (fun q => ?_)
  · rw [if_pos q] at hp
    intro y1 e1
    have e2 : y1 = iI (nsE e b - 1) := by rw [e1]; exact iI_sub (nsE e b) 1
    refine M_get_ok (w := 1) hr (by omega) (by omega) ?_
    rw [e2, show 27 + 8 * 1 + b = 35 + b by omega, show (10 : Int32) = iI 10 from rfl, iI_div (by omega) (by omega), iI_add]; exact hp
  rw [if_neg q] at hp
  refine t_eq (a := e (27 + b)) (b := 5) rfl rfl (fun q => ?_) (fun q => ?_)
  · rw [if_pos q] at hp
    have e5 : M_d m 5 - M_d m 5 / 3 * 3 = iI (e 5 % 3) := by rw [hr 5 (by omega)]; exact iI_rem (b := 3) (by omega) (by omega)
    refine t_eq (a := e 5 % 3) (b := 0) e5 rfl (fun q2 => ?_) (fun q2 => ?_)
    · rw [if_pos q2] at hp
      intro y1 e1
      have e2 : y1 = iI (2 * nsE e b) := by rw [e1]; exact iI_mul 2 (nsE e b)
      rw [e2]; exact hp
    · rw [if_neg q2] at hp; exact hp
  · rw [if_neg q] at hp; exact hp
theorem M_spilt_ok {h : Int} {m : MSt} {e : Gh} {b : Nat} {v : Int} {post : MSt → Prop} (hr : RelD (M_d m) e) (w : Wf h e) (hb : (b : Int) < e 4) (hv : -1000000 ≤ v ∧ v ≤ 1000000) (hp : ∀ d, RelD d (spiltE e b v) → post (M_d_ m d)) : wp_M_spilt m (nI b) (iI v) post := by
  obtain ⟨w4, w0, w1, w2, w3, w5, wn, wl, wb⟩ := w
  obtain ⟨hk, hl, hs, ha, hbd⟩ := wb b hb
  have hL := wl (e (51 + b)).toNat (by omega)
  have hc := cl_in (lo := 0) (hi := 99) (v := e (35 + b) - v) (by omega)
  unfold wp_M_spilt
  refine M_get_ok (w := 1) hr (by omega) (by omega) ?_
  intro y ey
  have ey2 : y = iI (e (35 + b) - v) := by rw [ey, show 27 + 8 * 1 + b = 35 + b by omega, iI_sub]
  rw [ey2]
  refine M_held_ok (lo := 0) (hi := 99) (by omega) (by omega) (by omega) (by omega) ?_
  refine M_puts_ok (w := 1) hr (by omega) (by omega) (fun d hd => ?_)
  rw [show 27 + 8 * 1 + b = 35 + b by omega] at hd ⊢
  refine M_get_ok (m := M_d_ m d) (w := 1) hd (by omega) (by omega) ?_
  intro y3 e3
  rw [show 27 + 8 * 1 + b = 35 + b by omega, uE_s, iI_sub] at e3
  refine M_get_ok (m := M_d_ m d) (w := 3) hd (by omega) (by omega) ?_
  intro y4 e4
  have e4' : y4 = nI (17 + (e (51 + b)).toNat) := by
    rw [e4, show 27 + 8 * 3 + b = 51 + b by omega, uE_n (by omega), iI_nat ha.1, show (17 : Int32) = nI 17 from rfl, nI_add]
  rw [e4']
  have hin : vp_in (nI (17 + (e (51 + b)).toNat)) 67 := vp_in_nI (by omega) (by omega)
  refine ⟨hin, ?_⟩
  rw [nI_clamp (by omega)]
  have hdw : M_d (M_d_ m d) (17 + (e (51 + b)).toNat) = iI (e (17 + (e (51 + b)).toNat)) := by
    show d _ = _
    rw [hd _ (by omega), uE_n (by omega)]
  have fin : ∀ df : Int, (df = if 0 < e (35 + b) - cl 0 99 (e (35 + b) - v) then e (35 + b) - cl 0 99 (e (35 + b) - v) else 0) → wp_M_held (iI (e (17 + (e (51 + b)).toNat) + df)) 0 9999 (fun v17 => vp_in (nI (17 + (e (51 + b)).toNat)) 67 ∧ post (M_d_ (M_d_ m d) (upd (M_d (M_d_ m d)) (17 + (e (51 + b)).toNat) v17))) := by
    intro df hdf
    refine M_held_ok (lo := 0) (hi := 9999) (by omega) (by omega) (by omega) (by subst hdf; split <;> omega) ⟨hin, ?_⟩
    refine hp _ ?_
    have := hd.upd (17 + (e (51 + b)).toNat) (cl 0 9999 (e (17 + (e (51 + b)).toNat) + df))
    rw [hdf] at this ⊢
    exact this
  refine t_le (a := e (35 + b) - cl 0 99 (e (35 + b) - v)) (b := 0) e3 rfl (fun q => ?_) (fun q => ?_)
  · intro y5 e5
    have e5' : y5 = iI (e (17 + (e (51 + b)).toNat) + 0) := by rw [e5, hdw, show (0 : Int32) = iI 0 from rfl, iI_add]
    rw [e5']
    exact fin 0 (by rw [if_neg (by omega)])
  · intro y5 e5
    have e5' : y5 = iI (e (17 + (e (51 + b)).toNat) + (e (35 + b) - cl 0 99 (e (35 + b) - v))) := by rw [e5, hdw, e3, iI_add]
    rw [e5']
    exact fin _ (by rw [if_pos q])
