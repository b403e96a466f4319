def addE (e : Gh) (k l a b : Int) : Gh := uE (uE (uE (uE (uE (uE e (27 + (e 4).toNat) k) (35 + (e 4).toNat) l) (43 + (e 4).toNat) 0) (51 + (e 4).toNat) a) (59 + (e 4).toNat) b) 4 (e 4 + 1)
theorem addE_n {e : Gh} {k l a b : Int} {j : Nat} (h4 : 0 ≤ e 4 ∧ e 4 < 8) (hj : j ≠ 4) (h1 : j ≠ 27 + (e 4).toNat) (h2 : j ≠ 35 + (e 4).toNat) (h3 : j ≠ 43 + (e 4).toNat) (h5 : j ≠ 51 + (e 4).toNat) (h6 : j ≠ 59 + (e 4).toNat) : addE e k l a b j = e j := by
  unfold addE
  rw [uE_n hj, uE_n h6, uE_n h5, uE_n h3, uE_n h2, uE_n h1]
theorem addE_4 {e : Gh} {k l a b : Int} : addE e k l a b 4 = e 4 + 1 := uE_s
theorem addE_b {e : Gh} {k l a b : Int} (h4 : 0 ≤ e 4 ∧ e 4 < 8) : addE e k l a b (27 + (e 4).toNat) = k ∧ addE e k l a b (35 + (e 4).toNat) = l ∧ addE e k l a b (43 + (e 4).toNat) = 0 ∧ addE e k l a b (51 + (e 4).toNat) = a ∧ addE e k l a b (59 + (e 4).toNat) = b := by
  unfold addE
  refine ⟨?_, ?_, ?_, ?_, ?_⟩
  · rw [uE_n (by omega), uE_n (by omega), uE_n (by omega), uE_n (by omega), uE_n (by omega), uE_s]
  · rw [uE_n (by omega), uE_n (by omega), uE_n (by omega), uE_n (by omega), uE_s]
  · rw [uE_n (by omega), uE_n (by omega), uE_n (by omega), uE_s]
  · rw [uE_n (by omega), uE_n (by omega), uE_s]
  · rw [uE_n (by omega), uE_s]
theorem Wf.add {h : Int} {e : Gh} (w : Wf h e) (h8 : e 4 < 8) {k l a b : Int} (hk : 0 ≤ k ∧ k ≤ 5) (hl : 0 ≤ l ∧ l ≤ 99) (ha : 0 ≤ a ∧ a ≤ 9) (hb : 0 ≤ b ∧ b ≤ 9) : Wf h (addE e k l a b) := by
  have h4 : 0 ≤ e 4 ∧ e 4 < 8 := ⟨w.1.1, h8⟩
  unfold Wf bgE at *
  obtain ⟨a0, a1, a2, a3, a4, a5, a6, a7, a8⟩ := w
  have f : ∀ j, j ≠ 4 → j < 27 → addE e k l a b j = e j := fun j g1 g2 => addE_n h4 g1 (by omega) (by omega) (by omega) (by omega) (by omega)
  refine ⟨by rw [addE_4]; omega, by rw [f 0 (by omega) (by omega)]; exact a1, by rw [f 1 (by omega) (by omega)]; exact a2, by rw [f 2 (by omega) (by omega)]; exact a3, by rw [f 3 (by omega) (by omega)]; exact a4, by rw [f 5 (by omega) (by omega)]; exact a5, fun j hj => by rw [f _ (by omega) (by omega)]; exact a6 j hj, fun j hj => by rw [f _ (by omega) (by omega)]; exact a7 j hj, fun j hj => ?_⟩
  rw [addE_4] at hj
  by_cases g : j = (e 4).toNat
  · subst g
    obtain ⟨c1, c2, c3, c4, c5⟩ := addE_b (k := k) (l := l) (a := a) (b := b) h4
    rw [c1, c2, c3, c4, c5]
    exact ⟨hk, hl, by omega, ha, hb⟩
  · obtain ⟨b1, b2, b3, b4, b5⟩ := a8 j (by omega)
    refine ⟨?_, ?_, ?_, ?_, ?_⟩ <;> (rw [addE_n h4 (by omega) (by omega) (by omega) (by omega) (by omega) (by omega)]; assumption)
theorem upd_n {f : Nat → Int32} {k j : Nat} {v : Int32} (h : j ≠ k) : upd f k v j = f j := if_neg h
theorem C_add_ok {h : Int} {c : CSt} {e : Gh} {k l a b : Int32} {post : CSt → Prop} (r : RelC c e) (w : Wf h e) (h8 : e 4 < 8) (hp : ∀ c', RelC c' (addE e k.toInt l.toInt a.toInt b.toInt) → C_heldBack c' = C_heldBack c → post c') : wp_C_add c k l 0 a b post := by
  have h4 : 0 ≤ e 4 ∧ e 4 < 8 := ⟨w.1.1, h8⟩
  have c4 : C_count c = nI (e 4).toNat := by rw [r.2.2.2.1, iI_nat h4.1]
  unfold wp_C_add
  rw [c4]
  refine t_lt (a := ((e 4).toNat : Int)) (b := 0) rfl rfl (fun z => by omega) (fun _ => ?_)
  refine t_lt (a := ((e 4).toNat : Int)) (b := 8) rfl rfl (fun _ => ?_) (fun z => by omega)
  have vb : vp_in (nI (e 4).toNat) 8 := vp_in_nI (by omega) (by omega)
  refine ⟨vb, vb, vb, vb, vb, ?_⟩
  rw [nI_clamp (by omega)]
  intro y hy
  refine hp _ ?_ rfl
  obtain ⟨r0, r1, r2, r3, r4, r5, r6⟩ := r
  have f : ∀ j, j ≠ 4 → j < 27 → addE e k.toInt l.toInt a.toInt b.toInt j = e j := fun j g1 g2 => addE_n h4 g1 (by omega) (by omega) (by omega) (by omega) (by omega)
  refine ⟨fun j hj => by rw [f j (by omega) (by omega)]; exact r0 j hj, fun j hj => by rw [f _ (by omega) (by omega)]; exact r1 j hj, fun j hj => by rw [f _ (by omega) (by omega)]; exact r2 j hj, ?_, by rw [f 5 (by omega) (by omega)]; exact r4, by rw [f 6 (by omega) (by omega)]; exact r5, fun j hj => ?_⟩
  · rw [addE_4]
    show y = _
    rw [hy, nI_1, nI_iI]
    congr 1
    omega
  rw [addE_4] at hj
  by_cases g : j = (e 4).toNat
  · subst g
    obtain ⟨c1, c2, c3, c4, c5⟩ := addE_b (k := k.toInt) (l := l.toInt) (a := a.toInt) (b := b.toInt) h4
    rw [c1, c2, c3, c4, c5, iI_of, iI_of, iI_of, iI_of]
    exact ⟨upd_s, upd_s, upd_s, upd_s, upd_s⟩
  · obtain ⟨b1, b2, b3, b4, b5⟩ := r6 j (by omega)
    rw [addE_n h4 (by omega) (by omega) (by omega) (by omega) (by omega) (by omega), addE_n (j := 35 + j) h4 (by omega) (by omega) (by omega) (by omega) (by omega) (by omega), addE_n (j := 43 + j) h4 (by omega) (by omega) (by omega) (by omega) (by omega) (by omega), addE_n (j := 51 + j) h4 (by omega) (by omega) (by omega) (by omega) (by omega) (by omega), addE_n (j := 59 + j) h4 (by omega) (by omega) (by omega) (by omega) (by omega) (by omega)]
    exact ⟨(upd_n g).trans b1, (upd_n g).trans b2, (upd_n g).trans b3, (upd_n g).trans b4, (upd_n g).trans b5⟩
theorem M_putsI_ok {m : MSt} {e : Gh} {b w : Nat} {v : Int32} {post : MSt → Prop} (hr : RelD (M_d m) e) (hb : b < 8) (hw : w < 5) (h : ∀ d, RelD d (uE e (27 + 8 * w + b) v.toInt) → post (M_d_ m d)) : wp_M_puts m (nI b) (nI w) v post := by
  have := M_puts_ok (v := v.toInt) hr hb hw h
  rw [iI_of] at this
  exact this
theorem M_comes_ok {h : Int} {m : MSt} {e : Gh} {k l a b : Int32} {post : Int32 → MSt → Prop} (q : RelD (M_d m) e) (w : Wf h e) (h8 : e 4 < 8) (hp : ∀ d, RelD d (addE e k.toInt l.toInt a.toInt b.toInt) → post (iI (e 4)) (M_d_ m d)) : wp_M_comes m k l 0 a b post := by
  have h4 : 0 ≤ e 4 ∧ e 4 < 8 := ⟨w.1.1, h8⟩
  have c4 : M_d m 4 = nI (e 4).toNat := by rw [q 4 (by omega), iI_nat h4.1]
  unfold wp_M_comes
  rw [c4]
  refine M_putsI_ok (w := 0) q (by omega) (by omega) (fun d1 q1 => ?_)
  refine M_putsI_ok (w := 1) (m := M_d_ m d1) q1 (by omega) (by omega) (fun d2 q2 => ?_)
  refine M_putsI_ok (w := 2) (m := M_d_ m d2) q2 (by omega) (by omega) (fun d3 q3 => ?_)
  refine M_putsI_ok (w := 3) (m := M_d_ m d3) q3 (by omega) (by omega) (fun d4 q4 => ?_)
  refine M_putsI_ok (w := 4) (m := M_d_ m d4) q4 (by omega) (by omega) (fun d5 q5 => ?_)
  intro y hy
  have hy2 : y = iI (e 4 + 1) := by
    have : M_d (M_d_ m d5) 4 = iI (e 4) := by
      rw [show M_d (M_d_ m d5) 4 = _ from q5 4 (by omega), uE_n (by omega), uE_n (by omega), uE_n (by omega), uE_n (by omega), uE_n (by omega)]
    rw [hy]
    show M_d (M_d_ m d5) 4 + 1 = _
    rw [this]
    exact iI_add (e 4) 1
  rw [hy2, ← iI_nat h4.1]
  exact hp _ (q5.upd 4 (e 4 + 1))
theorem l_barge {h : Int} {x : XSt} {m : MSt} {a1 a2 a3 a4 : Int32} {K : XSt → MSt → Prop} (n : Now h x m) (hK : ∀ x' m', Now h x' m' → x'.2.2 = x.2.2 → m'.2.2 = m.2.2 → K x' m') : wpl_barge x m a1 a2 a3 a4 K := by
  have k0 : K x m := hK x m n rfl rfl
  obtain ⟨e, w, r, s, q, t⟩ := n
  have w4 := w.1
  have no : ¬ ((0 ≤ a1.toInt ∧ a1.toInt ≤ 5) ∧ (0 ≤ a2.toInt ∧ a2.toInt ≤ 99) ∧ (0 ≤ a3.toInt ∧ a3.toInt ≤ 9) ∧ (0 ≤ a4.toInt ∧ a4.toInt ≤ 9)) → wp_M_barge m a1 a2 a3 a4 (fun v2 m1 => (-1) = v2 ∧ K x m1) := by
    intro P
    unfold wp_M_barge
    exact I_in (a := a1) (fun z1 => if1 (I_in (a := a2) (fun z2 => if1 (M_lock_ok (fun z3 => if1 (M_lock_ok (fun z4 => absurd ⟨z1, z2, z3, z4⟩ P) (fun _ => if0 ⟨rfl, k0⟩))) (fun _ => if0 ⟨rfl, k0⟩))) (fun _ => if0 ⟨rfl, k0⟩))) (fun _ => if0 ⟨rfl, k0⟩)
  unfold wpl_barge wp_X_barge
  refine X_kind_ok (fun z1 => if1 ?_) (fun z1 => if0 (no (fun z => z1 z.1)))
  refine X_load_ok (fun z2 => if1 ?_) (fun z2 => if0 (no (fun z => z2 z.2.1)))
  refine X_lock_ok (fun z3 => if1 ?_) (fun z3 => if0 (no (fun z => z3 z.2.2.1)))
  refine X_lock_ok (fun z4 => if1 ?_) (fun z4 => if0 (no (fun z => z4 z.2.2.2)))
  have yes : ∀ (v : Int32) (K' : MSt → Prop), ((e 4 = 8 → v = -2 ∧ K' m) ∧ (¬ e 4 = 8 → wp_M_comes m a1 a2 0 a3 a4 (fun v2 m1 => v = v2 ∧ K' m1))) → wp_M_barge m a1 a2 a3 a4 (fun v2 m1 => v = v2 ∧ K' m1) := by
    intro v K' hv
    unfold wp_M_barge
    refine I_in (a := a1) (fun _ => if1 (I_in (a := a2) (fun _ => if1 (M_lock_ok (fun _ => if1 (M_lock_ok (fun _ => if1 ?_) (fun z => absurd z4 z))) (fun z => absurd z3 z))) (fun z => absurd z2 z))) (fun z => absurd z1 z)
    exact t_eq (a := e 4) (b := 8) (q 4 (by omega)) rfl hv.1 hv.2
  refine t_lt (a := e 4) (b := 8) r.2.2.2.1 rfl (fun h8 => ?_) (fun h8 => ?_)
  · refine C_add_ok r w h8 (fun c1 r1 s1 => ?_)
    refine yes _ _ ⟨fun z => by omega, fun _ => ?_⟩
    refine M_comes_ok q w h8 (fun d1 q1 => ⟨?_, ?_⟩)
    · rw [r1.2.2.2.1, addE_4, show (1 : Int32) = iI 1 from rfl, iI_sub]
      congr 1
      omega
    · exact hK _ _ ⟨_, w.add h8 z1 z2 z3 z4, r1, s1.trans s, q1, t⟩ rfl rfl
  · exact yes _ _ ⟨fun _ => ⟨rfl, k0⟩, fun z => by omega⟩
