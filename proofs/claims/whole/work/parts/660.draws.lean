/-! ===== draws ===== -/
theorem zN_ex : ∃ f : Int32 → Int32, ∀ z, f z = z * 1103515245 + 12345 := ⟨_, fun _ => rfl⟩
noncomputable def zN : Int32 → Int32 := Classical.choose zN_ex
theorem zN_eq (z : Int32) : zN z = z * 1103515245 + 12345 := Classical.choose_spec zN_ex z
theorem dv_ex : ∃ f : Int32 → Int32, ∀ z, f z = (z.toUInt32 >>> ((16 : Int32).toUInt32 &&& Int32.toUInt32 31)).toInt32 := ⟨_, fun _ => rfl⟩
noncomputable def dw : Int32 → Int32 := Classical.choose dv_ex
theorem dw_eq (z : Int32) : dw z = (z.toUInt32 >>> ((16 : Int32).toUInt32 &&& Int32.toUInt32 31)).toInt32 := Classical.choose_spec dv_ex z
theorem sh16 : ((16 : Int32).toUInt32 &&& Int32.toUInt32 31) = 16 := by decide
theorem dw_b (z : Int32) : 0 ≤ (dw z).toInt ∧ (dw z).toInt ≤ 65535 := by
  rw [dw_eq, sh16]
  have h1 : (z.toUInt32 >>> (16 : UInt32)).toNat = z.toUInt32.toNat / 65536 := by
    rw [UInt32.toNat_shiftRight, Nat.shiftRight_eq_div_pow]
    rfl
  have h2 : z.toUInt32.toNat < 4294967296 := UInt32.toNat_lt _
  have h3 : (z.toUInt32 >>> (16 : UInt32)).toInt32.toInt = ((z.toUInt32 >>> (16 : UInt32)).toNat : Int) :=
    BitVec.toInt_eq_toNat_of_lt (x := (z.toUInt32 >>> (16 : UInt32)).toBitVec) (by
      show 2 * (z.toUInt32 >>> (16 : UInt32)).toNat < 2 ^ 32
      omega)
  omega
noncomputable def drawE (e : Gh) : Gh := uE e 6 (zN (iI (e 6))).toInt
noncomputable def dvE (e : Gh) : Int := (dw (zN (iI (e 6)))).toInt
theorem dvE_b (e : Gh) : 0 ≤ dvE e ∧ dvE e ≤ 65535 := dw_b _
theorem Wf.z {h : Int} {e : Gh} (w : Wf h e) (v : Int) : Wf h (uE e 6 v) := by
  unfold Wf bgE at *
  obtain ⟨a0, a1, a2, a3, a4, a5, a6, a7, a8⟩ := w
  refine ⟨by rw [uE_n (by omega)]; exact a0, by rw [uE_n (by omega)]; exact a1, by rw [uE_n (by omega)]; exact a2, by rw [uE_n (by omega)]; exact a3, by rw [uE_n (by omega)]; exact a4, by rw [uE_n (by omega)]; exact a5, fun k hk => by rw [uE_n (by omega)]; exact a6 k hk, fun k hk => by rw [uE_n (by omega)]; exact a7 k hk, fun b hb => ?_⟩
  rw [uE_n (by omega)] at hb
  rw [uE_n (by omega), uE_n (by omega), uE_n (by omega), uE_n (by omega), uE_n (by omega)]
  exact a8 b hb
theorem C_draw_ok {c : CSt} {e : Gh} {post : Int32 → CSt → Prop} (hr : RelC c e) (hp : ∀ c', RelC c' (drawE e) → C_heldBack c' = C_heldBack c → post (iI (dvE e)) c') : wp_C_draw c post := by
  unfold wp_C_draw
  intro y1 h1 y2 h2
  have hy : y2 = zN (iI (e 6)) := by rw [h2, h1, hr.2.2.2.2.2.1, zN_eq]
  rw [hy]
  have hz := hr.z (zN (iI (e 6))).toInt
  rw [iI_of] at hz
  have := hp _ hz rfl
  unfold dvE at this
  rw [iI_of, dw_eq] at this
  exact this
theorem upd_s {f : Nat → Int32} {k : Nat} {v : Int32} : upd f k v k = v := if_pos rfl
theorem M_drawn_ok {m : MSt} {d : Nat → Int32} {e : Gh} {post : Int32 → MSt → Prop} (hr : RelD d e) (hp : ∀ d', RelD d' (drawE e) → post (iI (dvE e)) (M_d_ m d')) : wp_M_drawn (M_d_ m d) post := by
  unfold wp_M_drawn
  intro y1 h1 y2 h2
  have hy : y2 = zN (iI (e 6)) := by
    rw [h2, h1]
    have hd : M_d (M_d_ m d) 6 = iI (e 6) := hr 6 (by omega)
    rw [hd, zN_eq]
  rw [hy, upd_s]
  have hz := hr.upd 6 (zN (iI (e 6))).toInt
  rw [iI_of] at hz
  have := hp _ hz
  unfold dvE at this
  rw [iI_of, dw_eq] at this
  exact this
noncomputable def bE (e : Gh) : Nat := (dvE e % e 4).toNat
noncomputable def preE (e : Gh) : Gh := if e 4 ≤ 0 then e else if dvE (drawE e) % 100 < e 3 then uE (drawE (drawE e)) (35 + bE e) (e (35 + bE e) / 2) else drawE (drawE e)
noncomputable def hourD (e : Gh) : Gh := hourE (-1) (preE e)
theorem drawE_n {e : Gh} {k : Nat} (h : k ≠ 6) : drawE e k = e k := uE_n h
theorem Wf.load {h : Int} {e : Gh} (w : Wf h e) {b : Nat} (hb : (b : Int) < e 4) {v : Int} (hv : 0 ≤ v ∧ v ≤ 99) : Wf h (uE e (35 + b) v) := by
  have h4 := w.1
  unfold Wf bgE at *
  obtain ⟨a0, a1, a2, a3, a4, a5, a6, a7, a8⟩ := w
  refine ⟨by rw [uE_n (by omega)]; exact a0, by rw [uE_n (by omega)]; exact a1, by rw [uE_n (by omega)]; exact a2, by rw [uE_n (by omega)]; exact a3, by rw [uE_n (by omega)]; exact a4, by rw [uE_n (by omega)]; exact a5, fun k hk => by rw [uE_n (by omega)]; exact a6 k hk, fun k hk => by rw [uE_n (by omega)]; exact a7 k hk, fun k hk => ?_⟩
  rw [uE_n (by omega)] at hk
  obtain ⟨b1, b2, b3⟩ := a8 k hk
  rw [uE_n (by omega), uE_n (j := 43 + k) (by omega), uE_n (j := 51 + k) (by omega), uE_n (j := 59 + k) (by omega)]
  refine ⟨b1, ?_, b3⟩
  by_cases q : k = b
  · subst q
    rw [uE_s]
    exact hv
  · rw [uE_n (by omega)]
    exact b2
theorem Wf.pre {h : Int} {e : Gh} (w : Wf h e) : Wf h (preE e) ∧ preE e 4 = e 4 ∧ preE e 5 = e 5 := by
  have w2 : Wf h (drawE (drawE e)) := (w.z _).z _
  have d4 : drawE (drawE e) 4 = e 4 := by rw [drawE_n (by omega), drawE_n (by omega)]
  have d5 : drawE (drawE e) 5 = e 5 := by rw [drawE_n (by omega), drawE_n (by omega)]
  unfold preE
  split
  · exact ⟨w, rfl, rfl⟩
  · split
    · have hb : (bE e : Int) < e 4 := by
        have := Int.emod_lt_of_pos (dvE e) (b := e 4) (by omega)
        have := Int.emod_nonneg (dvE e) (b := e 4) (by omega)
        unfold bE
        omega
      have l := (w.2.2.2.2.2.2.2.2 (bE e) hb).2.1
      refine ⟨w2.load (by rw [d4]; exact hb) (by omega), ?_, ?_⟩
      · rw [uE_n (by omega)]; exact d4
      · rw [uE_n (by omega)]; exact d5
    · exact ⟨w2, d4, d5⟩
theorem Wf.hourD {h : Int} {e : Gh} (w : Wf h e) : Wf (h + 1) (hourD e) := (w.pre.1.hour).1
theorem C_hourD_ok {h : Int} {c : CSt} {e : Gh} {post : CSt → Prop} (hh : h ≤ 1000000) (hs : C_heldBack c = iI (-1)) (hr : RelC c e) (w : Wf h e) (hp : ∀ c', RelC c' (hourD e) → C_heldBack c' = iI (-1) → post c') : wp_C_passHourByDraws c post := by
  have w4 := w.1
  have wp := w.pre.1
  have w3 := w.2.2.2.2.1
  unfold wp_C_passHourByDraws
  refine t_le (a := e 4) (b := 0) hr.2.2.2.1 rfl (fun q => ?_) (fun q => ?_)
  · have hq : preE e = e := if_pos q
    refine C_hour_ok hh hs (by omega) hr w (fun c' h1 h2 => hp c' ?_ h2)
    unfold hourD
    rw [hq]
    exact h1
  refine C_draw_ok hr (fun c1 hr1 s1 => ?_)
  have e14 : drawE e 4 = e 4 := drawE_n (by omega)
  have c14 : C_count c1 = iI (e 4) := by rw [hr1.2.2.2.1, e14]
  have dn := dvE_b e
  have dn2 := dvE_b (drawE e)
  have m1 := Int.emod_lt_of_pos (dvE e) (b := e 4) (by omega)
  have m0 := Int.emod_nonneg (dvE e) (b := e 4) (by omega)
  refine ⟨?_, ?_⟩
  · rw [c14]
    intro z
    have := (iI_eq (a := e 4) (b := 0) (by omega) (by omega)).mp z
    omega
  intro y5 h5
  rw [c14, iI_rem (by omega) (by omega)] at h5
  have e3 : dvE e % e 4 = (bE e : Int) := by unfold bE; omega
  rw [e3, ← nI_iI] at h5
  refine C_draw_ok hr1 (fun c2 hr2 s2 => ?_)
  intro y8 h8
  rw [show (100 : Int32) = iI 100 from rfl, iI_rem (by omega) (by omega)] at h8
  have d4 : drawE (drawE e) 4 = e 4 := by rw [drawE_n (by omega), drawE_n (by omega)]
  have d3 : drawE (drawE e) 3 = e 3 := by rw [drawE_n (by omega), drawE_n (by omega)]
  have l3 : C_laws c2 3 = iI (e 3) := by rw [hr2.1 3 (by omega), d3]
  have hb : (bE e : Int) < e 4 := by omega
  have hb8 : bE e < 8 := by omega
  have w2 : Wf h (drawE (drawE e)) := (w.z _).z _
  have dl : drawE (drawE e) (35 + bE e) = e (35 + bE e) := by rw [drawE_n (by omega), drawE_n (by omega)]
  have ll := (w.2.2.2.2.2.2.2.2 (bE e) hb).2.1
  refine t_le (a := e 3) (b := dvE (drawE e) % 100) l3 h8 (fun q2 => ?_) (fun q2 => ?_)
  · unfold w_C_passHourByDraws_38
    refine ⟨fun _ => ?_, fun z => absurd rfl z⟩
    have hq : preE e = drawE (drawE e) := by unfold preE; rw [if_neg (by omega), if_neg (by omega)]
    refine C_hour_ok hh (s2.trans (s1.trans hs)) (by omega) hr2 w2 (fun c' h1 h2 => hp c' ?_ h2)
    unfold hourD
    rw [hq]
    exact h1
  · unfold w_C_passHourByDraws_38
    refine ⟨fun z => absurd z (by decide), fun _ => ?_⟩
    refine t_lt (a := (bE e : Int)) (b := 0) h5 rfl (fun z => by omega) (fun _ => ?_)
    refine t_le (a := 8) (b := (bE e : Int)) rfl h5 (fun z => by omega) (fun _ => ?_)
    rw [h5]
    refine ⟨vp_in_nI (by omega) (by omega), ?_⟩
    intro y13 h13
    refine ⟨vp_in_nI (by omega) (by omega), ?_⟩
    rw [nI_clamp (by omega)] at *
    have hl : C_load c2 (bE e) = iI (e (35 + bE e)) := by
      rw [(hr2.2.2.2.2.2.2 (bE e) (by rw [d4]; exact hb)).2.1, dl]
    rw [hl, show (2 : Int32) = iI 2 from rfl, iI_div (by omega) (by omega)] at h13
    rw [h13]
    have hr3 := hr2.load (b := bE e) (by rw [d4]; exact hb) (by rw [d4]; omega) (e (35 + bE e) / 2)
    have hq : preE e = uE (drawE (drawE e)) (35 + bE e) (e (35 + bE e) / 2) := by unfold preE; rw [if_neg (by omega), if_pos q2]
    refine C_hour_ok hh (s2.trans (s1.trans hs)) (by omega) hr3 (w2.load (by rw [d4]; exact hb) (by omega)) (fun c' h1 h2 => hp c' ?_ h2)
    unfold hourD
    rw [hq]
    exact h1
theorem uE_id (e : Gh) (k : Nat) : uE e k (e k) = e := by
  funext j
  unfold uE
  split
  · next h => rw [h]
  · rfl
theorem M_hourD_ok {h : Int} {m : MSt} {d : Nat → Int32} {e : Gh} {post : Int32 → MSt → Prop} (hh : h ≤ 1000000) (hs : M_still m = iI (-1)) (hr : RelD d e) (w : Wf h e) (hp : ∀ d', RelD d' (hourD e) → post (iI (sumE (hourD e) 35 (hourD e 4).toNat)) (M_d_ m d')) : wp_M_hour (M_d_ m d) post := by
  have w4 := w.1
  have wp := w.pre.1
  have w3 := w.2.2.2.2.1
  have fin : ∀ d2, RelD d2 (preE e) → w_M_hour_70 post (M_d_ m d2) := by
    intro d2 h2
    unfold w_M_hour_70
    exact M_hour_ok hh hs (by omega) h2 wp (fun d3 h3 => M_loads_ok (m := M_d_ m d3) h3 w.hourD (hp d3 h3))
  unfold wp_M_hour
  refine t_le (a := e 4) (b := 0) (hr 4 (by omega)) rfl (fun q => ?_) (fun q => ?_)
  · exact fin d (by rw [show preE e = e from if_pos q]; exact hr)
  refine M_drawn_ok hr (fun d1 hr1 => ?_)
  have e14 : drawE e 4 = e 4 := drawE_n (by omega)
  have c14 : M_d (M_d_ m d1) 4 = iI (e 4) := by rw [← e14]; exact hr1 4 (by omega)
  have dn := dvE_b e
  have dn2 := dvE_b (drawE e)
  have m1 := Int.emod_lt_of_pos (dvE e) (b := e 4) (by omega)
  have m0 := Int.emod_nonneg (dvE e) (b := e 4) (by omega)
  refine ⟨?_, ?_⟩
  · rw [c14]
    intro z
    have := (iI_eq (a := e 4) (b := 0) (by omega) (by omega)).mp z
    omega
  intro y5 h5
  rw [c14, iI_rem (by omega) (by omega)] at h5
  have e3 : dvE e % e 4 = (bE e : Int) := by unfold bE; omega
  rw [e3, ← nI_iI] at h5
  refine M_drawn_ok hr1 (fun d2 hr2 => ?_)
  intro y8 h8
  rw [show (100 : Int32) = iI 100 from rfl, iI_rem (by omega) (by omega)] at h8
  have d3 : drawE (drawE e) 3 = e 3 := by rw [drawE_n (by omega), drawE_n (by omega)]
  have l3 : M_d (M_d_ m d2) 3 = iI (e 3) := by rw [← d3]; exact hr2 3 (by omega)
  have hb : (bE e : Int) < e 4 := by omega
  have hb8 : bE e < 8 := by omega
  have dl : drawE (drawE e) (35 + bE e) = e (35 + bE e) := by rw [drawE_n (by omega), drawE_n (by omega)]
  have ll := (w.2.2.2.2.2.2.2.2 (bE e) hb).2.1
  refine t_le (a := e 3) (b := dvE (drawE e) % 100) l3 h8 (fun q2 => ?_) (fun q2 => ?_)
  · unfold w_M_hour_42
    refine ⟨fun _ => ?_, fun z => absurd rfl z⟩
    have hq : preE e = drawE (drawE e) := by unfold preE; rw [if_neg (by omega), if_neg (by omega)]
    rw [h5]
    refine M_get_ok (w := 1) (m := M_d_ m d2) hr2 hb8 (by omega) ?_
    refine M_puts_ok (w := 1) (m := M_d_ m d2) hr2 hb8 (by omega) (fun d3 hr3 => fin d3 ?_)
    rw [uE_id] at hr3
    rw [hq]
    exact hr3
  · unfold w_M_hour_42
    refine ⟨fun z => absurd z (by decide), fun _ => ?_⟩
    rw [h5]
    refine M_get_ok (w := 1) (m := M_d_ m d2) hr2 hb8 (by omega) ?_
    intro y16 h16
    rw [show 27 + 8 * 1 + bE e = 35 + bE e from rfl, dl, show (2 : Int32) = iI 2 from rfl, iI_div (by omega) (by omega)] at h16
    rw [h16]
    refine M_puts_ok (w := 1) (m := M_d_ m d2) hr2 hb8 (by omega) (fun d3 hr3 => fin d3 ?_)
    have hq : preE e = uE (drawE (drawE e)) (35 + bE e) (e (35 + bE e) / 2) := by unfold preE; rw [if_neg (by omega), if_pos q2]
    rw [hq]
    exact hr3
