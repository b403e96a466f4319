theorem spillE_b {h : Int} {e : Gh} {b : Nat} (w : Wf h e) (hb : (b : Int) < e 4) : -1000 ≤ spillE e b ∧ spillE e b ≤ 1000 := by
  obtain ⟨w4, w0, w1, w2, w3, w5, wn, wl, wb⟩ := w
  obtain ⟨hk, hl, hs, ha, hbd⟩ := wb b hb
  have hn : 0 ≤ nsE e b ∧ nsE e b ≤ 9 := wn (e (51 + b)).toNat (by omega)
  unfold spillE
  repeat' split
  all_goals omega
theorem paceE_b {h : Int} {e : Gh} {b : Nat} (w : Wf h e) : 1 ≤ paceE e b ∧ paceE e b ≤ 10 := by
  obtain ⟨w4, w0, w1, w2, w3, w5, wn, wl, wb⟩ := w
  unfold paceE
  repeat' split
  all_goals omega
theorem M_echo_ok {h : Int} {m : MSt} {b : Nat} {post : MSt → Prop} : ∀ (n o : Nat) (d : Nat → Int32) (e : Gh), RelD d e → Wf h e → (b : Int) < e 4 → (o : Int) ≤ e 4 → (e 4).toNat - o < n → (∀ d', RelD d' (echoE ((e 4).toNat - o) e b o) → post (M_d_ m d')) → w_M_goes_69 post n (M_d_ m d) (nI b) (nI o) := by
  intro n
  induction n with
  | zero => intro o d e _ _ _ _ hn; omega
  | succ n ih =>
    intro o d e hr w hb ho hn hp
    have w4 := w.1
    have hb8 : b < 8 := by omega
    rw [w_M_goes_69]
    have h4 : M_d (M_d_ m d) 4 = iI (e 4) := hr 4 (by omega)
    refine t_le (a := e 4) (b := o) h4 rfl (fun q => ?_) (fun q => ?_)
    · rw [show (e 4).toNat - o = 0 by omega] at hp
      exact hp d hr
    obtain ⟨k, hk⟩ : ∃ k, (e 4).toNat - o = k + 1 := ⟨(e 4).toNat - o - 1, by omega⟩
    rw [hk] at hp
    unfold echoE at hp
    have ho8 : o < 8 := by omega
    have wo := w.2.2.2.2.2.2.2.2 o q
    have wb := w.2.2.2.2.2.2.2.2 b hb
    -- going on without a spilling
    have nx : (¬ (o ≠ b ∧ e (51 + o) = e (51 + b) ∧ e (43 + o) ≠ e (43 + b) ∧ e (51 + o) ≠ e (59 + o))) → ∀ y : Int32, y = nI o + 1 → w_M_goes_69 post n (M_d_ m d) (nI b) y := by
      intro hc y hy
      rw [if_neg hc] at hp
      rw [hy, nI_1]
      refine ih (o + 1) d e hr w hb (by omega) (by omega) ?_
      rw [show (e 4).toNat - (o + 1) = k by omega]
      exact hp
    refine t_eq (a := (o : Int)) (b := (b : Int)) rfl rfl (fun q1 => ?_) (fun q1 => ?_)
    · exact nx (fun z => z.1 (by omega))
    refine M_get_ok (m := M_d_ m d) (w := 3) hr ho8 (by omega) ?_
    refine M_get_ok (m := M_d_ m d) (w := 3) hr hb8 (by omega) ?_
    rw [show 27 + 8 * 3 + o = 51 + o by omega, show 27 + 8 * 3 + b = 51 + b by omega]
    have bo := wo.2.2.2.1
    have bb := wb.2.2.2.1
    have so := wo.2.2.1
    have sb := wb.2.2.1
    have do_ := wo.2.2.2.2
    refine t_eq (a := e (51 + o)) (b := e (51 + b)) rfl rfl (fun q2 => ?_) (fun q2 => ?_)
    · refine M_get_ok (m := M_d_ m d) (w := 2) hr ho8 (by omega) ?_
      refine M_get_ok (m := M_d_ m d) (w := 2) hr hb8 (by omega) ?_
      rw [show 27 + 8 * 2 + o = 43 + o by omega, show 27 + 8 * 2 + b = 43 + b by omega]
      refine t_eq (a := e (43 + o)) (b := e (43 + b)) rfl rfl (fun q3 => ?_) (fun q3 => ?_)
      · exact nx (fun z => z.2.2.1 q3)
      · refine M_landed_ok (m := M_d_ m d) hr ho8 bo do_ (fun q4 => ?_) (fun q4 => ?_)
        · refine ⟨fun z => absurd z (by decide), fun _ => ?_⟩
          exact nx (fun z => z.2.2.2 q4)
        · refine ⟨fun _ => ?_, fun z => absurd rfl z⟩
          have hc : o ≠ b ∧ e (51 + o) = e (51 + b) ∧ e (43 + o) ≠ e (43 + b) ∧ e (51 + o) ≠ e (59 + o) := ⟨by omega, q2, q3, q4⟩
          rw [if_pos hc] at hp
          have w0 := w.2.1
          rw [show M_d (M_d_ m d) 0 = iI (e 0) from hr 0 (by omega)]
          refine M_spilt_ok (m := M_d_ m d) hr w hb (by omega) (fun d1 hr1 => ?_)
          have s0 : spiltE e b (e 0) 0 = e 0 := spilt_at hb8 bb (by omega) (by omega)
          have s4 : spiltE e b (e 0) 4 = e 4 := spilt_at hb8 bb (by omega) (by omega)
          have w1 := w.spilt (v := e 0) hb
          have ho2 : (o : Int) < spiltE e b (e 0) 4 := by rw [s4]; exact q
          rw [show M_d (M_d_ (M_d_ m d) d1) 0 = iI (e 0) from by rw [← s0]; exact hr1 0 (by omega)]
          refine M_spilt_ok (m := M_d_ m d1) hr1 w1 ho2 (by omega) (fun d2 hr2 => ?_)
          intro y hy
          rw [hy, nI_1]
          have ha2 := (w1.2.2.2.2.2.2.2.2 o ho2).2.2.2.1
          have t4 : spiltE (spiltE e b (e 0)) o (e 0) 4 = e 4 := by rw [spilt_at ho8 ha2 (by omega) (by omega)]; exact s4
          refine ih (o + 1) d2 _ hr2 (w1.spilt ho2) (by rw [t4]; exact hb) (by rw [t4]; omega) (by rw [t4]; omega) ?_
          rw [t4, show (e 4).toNat - (o + 1) = k by omega]
          exact hp
    · exact nx (fun z => q2 z.2.1)
theorem M_go_ok {h : Int} {m : MSt} {b : Nat} {post : MSt → Prop} (hh : h ≤ 1000000) : ∀ (n k : Nat) (d : Nat → Int32) (e : Gh), RelD d e → Wf h e → (b : Int) < e 4 → k < n → n ≤ 2000 → (∀ d', RelD d' (echoE (e 4).toNat (goE k e b) b 0) → post (M_d_ m d')) → w_M_goes_6 post n (M_d_ m d) (nI b) (nI k) := by
  intro n
  induction n with
  | zero => intro k d e _ _ _ hk; omega
  | succ n ih =>
    intro k d e hr w hb hk hn hp
    have w4 := w.1
    have hb8 : b < 8 := by omega
    have wb := w.2.2.2.2.2.2.2.2 b hb
    have bb := wb.2.2.2.1
    have db := wb.2.2.2.2
    have stop : goE k e b = e → w_M_goes_69 post 2000 (M_d_ m d) (nI b) 0 := by
      intro he
      rw [he] at hp
      exact M_echo_ok 2000 0 d e hr w hb (by omega) (by omega) hp
    rw [w_M_goes_6]
    refine t_le (a := (k : Int)) (b := 0) rfl rfl (fun q => ?_) (fun q => ?_)
    · have k0 : k = 0 := by omega
      subst k0
      exact stop rfl
    obtain ⟨j, hj⟩ : ∃ j, k = j + 1 := ⟨k - 1, by omega⟩
    subst hj
    refine M_landed_ok (m := M_d_ m d) hr hb8 bb db (fun q1 => ?_) (fun q1 => ?_)
    · refine ⟨fun z => absurd z (by decide), fun _ => stop ?_⟩
      unfold goE
      rw [if_pos q1]
    · refine ⟨fun _ => ?_, fun z => absurd rfl z⟩
      unfold goE at hp
      rw [if_neg q1] at hp
      refine M_get_ok (m := M_d_ m d) (w := 3) hr hb8 (by omega) ?_
      refine M_get_ok (m := M_d_ m d) (w := 4) hr hb8 (by omega) ?_
      refine M_get_ok (m := M_d_ m d) (w := 3) hr hb8 (by omega) ?_
      rw [show 27 + 8 * 3 + b = 51 + b by omega, show 27 + 8 * 4 + b = 59 + b by omega]
      have cont : ∀ s : Int, (s = if e (51 + b) < e (59 + b) then 1 else -1) → w_M_goes_47 post (w_M_goes_6 post n) (M_d_ m d) (nI b) (nI (j + 1)) (nI b) 3 (iI (e (51 + b))) (iI s) := by
        intro s hs
        unfold w_M_goes_47
        intro y hy
        have hy2 : y = iI (e (51 + b) + if e (51 + b) < e (59 + b) then 1 else -1) := by rw [hy, iI_add, hs]
        rw [hy2]
        refine M_puts_ok (m := M_d_ m d) (w := 3) hr hb8 (by omega) (fun d1 hr1 => ?_)
        rw [show 27 + 8 * 3 + b = 51 + b by omega] at hr1
        have hr1 : RelD d1 (stepE e b) := hr1
        have w1 := w.step hb q1
        have s4 : stepE e b 4 = e 4 := uE_n (by omega)
        have hb1 : (b : Int) < stepE e b 4 := by rw [s4]; exact hb
        refine M_spills_ok (m := M_d_ m d1) hr1 w1 hh hb1 ?_
        have sb := spillE_b w1 hb1
        refine M_spilt_ok (m := M_d_ m d1) hr1 w1 hb1 (by omega) (fun d2 hr2 => ?_)
        intro y2 hy2
        have ha := (w1.2.2.2.2.2.2.2.2 b hb1).2.2.2.1
        have t4 : spiltE (stepE e b) b (spillE (stepE e b) b) 4 = e 4 := by rw [spilt_at hb8 ha (by omega) (by omega)]; exact s4
        rw [hy2, pk_m1]
        refine ih j d2 _ hr2 (w1.spilt hb1) (by rw [t4]; exact hb) (by omega) (by omega) ?_
        rw [t4]
        exact hp
      refine t_le (a := e (59 + b)) (b := e (51 + b)) rfl rfl (fun q2 => ?_) (fun q2 => ?_)
      · have c1 := cont (-1) (by rw [if_neg (by omega)])
        rw [show iI (-1) = (-1 : Int32) by decide] at c1
        exact c1
      · exact cont 1 (by rw [if_pos q2])
theorem M_goes_ok {h : Int} {m : MSt} {d : Nat → Int32} {e : Gh} {b : Nat} {post : MSt → Prop} (hh : h ≤ 1000000) (hr : RelD d e) (w : Wf h e) (hb : (b : Int) < e 4) (hp : ∀ d', RelD d' (echoE (e 4).toNat (goE (paceE e b).toNat e b) b 0) → post (M_d_ m d')) : wp_M_goes (M_d_ m d) (nI b) post := by
  unfold wp_M_goes
  refine M_pace_ok (m := M_d_ m d) hr w hh hb ?_
  have pb := paceE_b (b := b) w
  rw [iI_nat (by omega)]
  exact M_go_ok hh 2000 (paceE e b).toNat d e hr w hb (by omega) (by omega) hp
theorem M_hourL_ok {h s : Int} {m : MSt} {post : MSt → Prop} (hh : h ≤ 1000000) (hs : M_still m = iI s) (hsb : -1 ≤ s ∧ s ≤ 8) : ∀ (n b : Nat) (d : Nat → Int32) (e : Gh), RelD d e → Wf h e → (b : Int) ≤ e 4 → (e 4).toNat - b < n → (∀ d', RelD d' (uE (hourL ((e 4).toNat - b) e s b) 5 (e 5 + 1)) → post (M_d_ m d')) → w_M_hourGoes_2 post n (M_d_ m d) (nI b) := by
  intro n
  induction n with
  | zero => intro b d e _ _ _ hn; omega
  | succ n ih =>
    intro b d e hr w hb hn hp
    have w4 := w.1
    have w5 := w.2.2.2.2.2.1
    rw [w_M_hourGoes_2]
    have h4 : M_d (M_d_ m d) 4 = iI (e 4) := hr 4 (by omega)
    refine t_le (a := e 4) (b := b) h4 rfl (fun q => ?_) (fun q => ?_)
    · intro y hy
      rw [show (e 4).toNat - b = 0 by omega] at hp
      have hy2 : y = iI (e 5 + 1) := by rw [hy, show M_d (M_d_ m d) 5 = iI (e 5) from hr 5 (by omega)]; exact iI_add (e 5) 1
      rw [hy2]
      exact hp _ (hr.upd 5 (e 5 + 1))
    obtain ⟨k, hk⟩ : ∃ k, (e 4).toNat - b = k + 1 := ⟨(e 4).toNat - b - 1, by omega⟩
    rw [hk] at hp
    unfold hourL at hp
    have hb8 : b < 8 := by omega
    have wb := w.2.2.2.2.2.2.2.2 b q
    have nx : (¬ (e (51 + b) ≠ e (59 + b) ∧ (b : Int) ≠ s)) → ∀ y : Int32, y = nI b + 1 → w_M_hourGoes_2 post n (M_d_ m d) y := by
      intro hc y hy
      rw [if_neg hc] at hp
      rw [hy, nI_1]
      refine ih (b + 1) d e hr w (by omega) (by omega) ?_
      rw [show (e 4).toNat - (b + 1) = k by omega]
      exact hp
    refine M_landed_ok (m := M_d_ m d) hr hb8 wb.2.2.2.1 wb.2.2.2.2 (fun q1 => ?_) (fun q1 => ?_)
    · refine ⟨fun z => absurd z (by decide), fun _ => nx (fun z => z.1 q1)⟩
    · refine ⟨fun _ => ?_, fun z => absurd rfl z⟩
      have hs2 : M_still (M_d_ m d) = iI s := hs
      refine t_eq (a := (b : Int)) (b := s) rfl hs2 (fun q2 => nx (fun z => z.2 q2)) (fun q2 => ?_)
      rw [if_pos ⟨q1, q2⟩] at hp
      refine M_goes_ok hh hr w q (fun d1 hr1 => ?_)
      intro y hy
      rw [hy, nI_1]
      obtain ⟨r1, r2, r3⟩ := go_ok (h := h) (b := b) (paceE e b).toNat e w q
      obtain ⟨t1, t2, t3⟩ := echo_ok (h := h) (b := b) (e 4).toNat 0 _ r1 (by rw [r2]; exact q) (by rw [r2]; omega)
      refine ih (b + 1) d1 _ hr1 t1 (by rw [t2, r2]; omega) (by rw [t2, r2]; omega) ?_
      rw [t2, r2, t3, r3, show (e 4).toNat - (b + 1) = k by omega]
      exact hp
theorem M_hour_ok {h s : Int} {m : MSt} {d : Nat → Int32} {e : Gh} {post : MSt → Prop} (hh : h ≤ 1000000) (hs : M_still m = iI s) (hsb : -1 ≤ s ∧ s ≤ 8) (hr : RelD d e) (w : Wf h e) (hp : ∀ d', RelD d' (hourE s e) → post (M_d_ m d')) : wp_M_hourGoes (M_d_ m d) post := by
  unfold wp_M_hourGoes
  have w4 := w.1
  refine M_hourL_ok hh hs hsb 2000 0 d e hr w (by omega) (by omega) ?_
  obtain ⟨r1, r2, r3⟩ := hourL_ok (h := h) (s := s) (e 4).toNat 0 e w (by omega)
  unfold hourE at hp
  rw [r3] at hp
  exact hp
theorem M_hoursL_ok {s : Int} {m : MSt} {post : MSt → Prop} (hs : M_still m = iI s) (hsb : -1 ≤ s ∧ s ≤ 8) {N : Nat} (hN : N ≤ 1000) : ∀ (n i : Nat) (h : Int) (d : Nat → Int32) (e : Gh), RelD d e → Wf h e → h + N ≤ 1000000 + i → i ≤ N → N - i < n → (∀ d', RelD d' (hoursE s (N - i) e) → post (M_d_ m d')) → w_M_hoursGo_2 post n (M_d_ m d) (nI N) (nI i) := by
  intro n
  induction n with
  | zero => intro i h d e _ _ _ _ hn; omega
  | succ n ih =>
    intro i h d e hr w hh hi hn hp
    rw [w_M_hoursGo_2]
    refine t_le (a := (N : Int)) (b := i) rfl rfl (fun q => ?_) (fun q => ?_)
    · rw [show N - i = 0 by omega] at hp
      exact hp d hr
    · obtain ⟨k, hk⟩ : ∃ k, N - i = k + 1 := ⟨N - i - 1, by omega⟩
      rw [hk] at hp
      unfold hoursE at hp
      refine M_hour_ok (h := h) (by omega) hs hsb hr w (fun d1 hr1 => ?_)
      intro y hy
      rw [hy, nI_1]
      refine ih (i + 1) (h + 1) d1 _ hr1 (w.hour).1 (by omega) (by omega) (by omega) ?_
      rw [show N - (i + 1) = k by omega]
      exact hp
theorem M_hours_ok {h s : Int} {m : MSt} {d : Nat → Int32} {e : Gh} {N : Nat} {post : MSt → Prop} (hN : N ≤ 1000) (hh : h + N ≤ 1000000) (hs : M_still m = iI s) (hsb : -1 ≤ s ∧ s ≤ 8) (hr : RelD d e) (w : Wf h e) (hp : ∀ d', RelD d' (hoursE s N e) → post (M_d_ m d')) : wp_M_hoursGo (M_d_ m d) (nI N) post := by
  unfold wp_M_hoursGo
  exact M_hoursL_ok hs hsb hN 2000 0 h d e hr w (by omega) (by omega) (by omega) hp
