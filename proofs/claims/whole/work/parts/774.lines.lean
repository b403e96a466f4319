def addS (e : Gh) (k l o a b : Int) : Gh := uE (uE (uE (uE (uE (uE e (27 + (e 4).toNat) k) (35 + (e 4).toNat) l) (43 + (e 4).toNat) o) (51 + (e 4).toNat) a) (59 + (e 4).toNat) b) 4 (e 4 + 1)
theorem addS_n {e : Gh} {k l o a b : Int} {j : Nat} (h4 : 0 ≤ e 4 ∧ e 4 < 8) (hj : j ≠ 4) (h1 : j ≠ 27 + (e 4).toNat) (h2 : j ≠ 35 + (e 4).toNat) (h3 : j ≠ 43 + (e 4).toNat) (h5 : j ≠ 51 + (e 4).toNat) (h6 : j ≠ 59 + (e 4).toNat) : addS e k l o a b j = e j := by
  unfold addS
  rw [uE_n hj, uE_n h6, uE_n h5, uE_n h3, uE_n h2, uE_n h1]
theorem addS_4 {e : Gh} {k l o a b : Int} : addS e k l o a b 4 = e 4 + 1 := uE_s
theorem addS_b {e : Gh} {k l o a b : Int} (h4 : 0 ≤ e 4 ∧ e 4 < 8) : addS e k l o a b (27 + (e 4).toNat) = k ∧ addS e k l o a b (35 + (e 4).toNat) = l ∧ addS e k l o a b (43 + (e 4).toNat) = o ∧ addS e k l o a b (51 + (e 4).toNat) = a ∧ addS e k l o a b (59 + (e 4).toNat) = b := by
  unfold addS
  refine ⟨?_, ?_, ?_, ?_, ?_⟩
  · rw [uE_n (by omega), uE_n (by omega), uE_n (by omega), uE_n (by omega), uE_n (by omega), uE_s]
  · rw [uE_n (by omega), uE_n (by omega), uE_n (by omega), uE_n (by omega), uE_s]
  · rw [uE_n (by omega), uE_n (by omega), uE_n (by omega), uE_s]
  · rw [uE_n (by omega), uE_n (by omega), uE_s]
  · rw [uE_n (by omega), uE_s]
theorem Wf.addO {h : Int} {e : Gh} (w : Wf h e) (h8 : e 4 < 8) {k l o a b : Int} (hk : 0 ≤ k ∧ k ≤ 5) (hl : 0 ≤ l ∧ l ≤ 99) (ho : 0 ≤ o ∧ o ≤ 1) (ha : 0 ≤ a ∧ a ≤ 9) (hb : 0 ≤ b ∧ b ≤ 9) : Wf h (addS e k l o a b) := by
  have h4 : 0 ≤ e 4 ∧ e 4 < 8 := ⟨w.1.1, h8⟩
  unfold Wf bgE at *
  obtain ⟨a0, a1, a2, a3, a4, a5, a6, a7, a8⟩ := w
  have f : ∀ j, j ≠ 4 → j < 27 → addS e k l o a b j = e j := fun j g1 g2 => addS_n h4 g1 (by omega) (by omega) (by omega) (by omega) (by omega)
  refine ⟨by rw [addS_4]; omega, by rw [f 0 (by omega) (by omega)]; exact a1, by rw [f 1 (by omega) (by omega)]; exact a2, by rw [f 2 (by omega) (by omega)]; exact a3, by rw [f 3 (by omega) (by omega)]; exact a4, by rw [f 5 (by omega) (by omega)]; exact a5, fun j hj => by rw [f _ (by omega) (by omega)]; exact a6 j hj, fun j hj => by rw [f _ (by omega) (by omega)]; exact a7 j hj, fun j hj => ?_⟩
  rw [addS_4] at hj
  by_cases g : j = (e 4).toNat
  · subst g
    obtain ⟨c1, c2, c3, c4, c5⟩ := addS_b (k := k) (l := l) (o := o) (a := a) (b := b) h4
    rw [c1, c2, c3, c4, c5]
    exact ⟨hk, hl, ho, ha, hb⟩
  · obtain ⟨b1, b2, b3, b4, b5⟩ := a8 j (by omega)
    refine ⟨?_, ?_, ?_, ?_, ?_⟩ <;> (rw [addS_n h4 (by omega) (by omega) (by omega) (by omega) (by omega) (by omega)]; assumption)
theorem C_addS_ok {h : Int} {c : CSt} {e : Gh} {k l o a b : Int32} {post : CSt → Prop} (r : RelC c e) (w : Wf h e) (h8 : e 4 < 8) (hp : ∀ c', RelC c' (addS e k.toInt l.toInt o.toInt a.toInt b.toInt) → C_heldBack c' = C_heldBack c → post c') : wp_C_add c k l o a b post := by
  have h4 : 0 ≤ e 4 ∧ e 4 < 8 := ⟨w.1.1, h8⟩
  have c4 : C_count c = nI (e 4).toNat := by rw [r.2.2.2.1, iI_nat h4.1]
  unfold wp_C_add
  rw [c4]
  refine t_lt (a := ((e 4).toNat : Int)) (b := 0) rfl rfl (fun z => by omega) (fun _ => ?_)
  refine t_lt (a := ((e 4).toNat : Int)) (b := 8) rfl rfl (fun _ => ?_) (fun z => by omega)
  have vb : vp_in (nI (e 4).toNat) 8 := vp_in_nI (by omega) (by omega)
  refine ⟨vb, vb, vb, vb, vb, ?_⟩
  rw [nI_clamp (by omega)]
  intro y hy
  refine hp _ ?_ rfl
  obtain ⟨r0, r1, r2, r3, r4, r5, r6⟩ := r
  have f : ∀ j, j ≠ 4 → j < 27 → addS e k.toInt l.toInt o.toInt a.toInt b.toInt j = e j := fun j g1 g2 => addS_n h4 g1 (by omega) (by omega) (by omega) (by omega) (by omega)
  refine ⟨fun j hj => by rw [f j (by omega) (by omega)]; exact r0 j hj, fun j hj => by rw [f _ (by omega) (by omega)]; exact r1 j hj, fun j hj => by rw [f _ (by omega) (by omega)]; exact r2 j hj, ?_, by rw [f 5 (by omega) (by omega)]; exact r4, by rw [f 6 (by omega) (by omega)]; exact r5, fun j hj => ?_⟩
  · rw [addS_4]
    show y = _
    rw [hy, nI_1, nI_iI]
    congr 1
    omega
  rw [addS_4] at hj
  by_cases g : j = (e 4).toNat
  · subst g
    obtain ⟨c1, c2, c3, c4, c5⟩ := addS_b (k := k.toInt) (l := l.toInt) (o := o.toInt) (a := a.toInt) (b := b.toInt) h4
    rw [c1, c2, c3, c4, c5, iI_of, iI_of, iI_of, iI_of, iI_of]
    exact ⟨upd_s, upd_s, upd_s, upd_s, upd_s⟩
  · obtain ⟨b1, b2, b3, b4, b5⟩ := r6 j (by omega)
    rw [addS_n h4 (by omega) (by omega) (by omega) (by omega) (by omega) (by omega), addS_n (j := 35 + j) h4 (by omega) (by omega) (by omega) (by omega) (by omega) (by omega), addS_n (j := 43 + j) h4 (by omega) (by omega) (by omega) (by omega) (by omega) (by omega), addS_n (j := 51 + j) h4 (by omega) (by omega) (by omega) (by omega) (by omega) (by omega), addS_n (j := 59 + j) h4 (by omega) (by omega) (by omega) (by omega) (by omega) (by omega)]
    exact ⟨(upd_n g).trans b1, (upd_n g).trans b2, (upd_n g).trans b3, (upd_n g).trans b4, (upd_n g).trans b5⟩
theorem M_comesS_ok {h : Int} {m : MSt} {e : Gh} {k l o a b : Int32} {post : Int32 → MSt → Prop} (q : RelD (M_d m) e) (w : Wf h e) (h8 : e 4 < 8) (hp : ∀ d, RelD d (addS e k.toInt l.toInt o.toInt a.toInt b.toInt) → post (iI (e 4)) (M_d_ m d)) : wp_M_comes m k l o a b post := by
  have h4 : 0 ≤ e 4 ∧ e 4 < 8 := ⟨w.1.1, h8⟩
  have c4 : M_d m 4 = nI (e 4).toNat := by rw [q 4 (by omega), iI_nat h4.1]
  unfold wp_M_comes
  rw [c4]
  refine M_putsI_ok (w := 0) q (by omega) (by omega) (fun d1 q1 => ?_)
  refine M_putsI_ok (w := 1) (m := M_d_ m d1) q1 (by omega) (by omega) (fun d2 q2 => ?_)
  refine M_putsI_ok (w := 2) (m := M_d_ m d2) q2 (by omega) (by omega) (fun d3 q3 => ?_)
  refine M_putsI_ok (w := 3) (m := M_d_ m d3) q3 (by omega) (by omega) (fun d4 q4 => ?_)
  refine M_putsI_ok (w := 4) (m := M_d_ m d4) q4 (by omega) (by omega) (fun d5 q5 => ?_)
  intro y hy
  have hy2 : y = iI (e 4 + 1) := by
    have : M_d (M_d_ m d5) 4 = iI (e 4) := by
      rw [show M_d (M_d_ m d5) 4 = _ from q5 4 (by omega), uE_n (by omega), uE_n (by omega), uE_n (by omega), uE_n (by omega), uE_n (by omega)]
    rw [hy]
    show M_d (M_d_ m d5) 4 + 1 = _
    rw [this]
    exact iI_add (e 4) 1
  rw [hy2, ← iI_nat h4.1]
  exact hp _ (q5.upd 4 (e 4 + 1))
