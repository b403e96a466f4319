theorem C_go_ok {h : Int} {b : Nat} {hb0 : Int32} {post : CSt → Prop} (hh : h ≤ 1000000) {K : Nat} (hK : K ≤ 100) : ∀ (n i : Nat) (c : CSt) (e : Gh), RelC c e → C_heldBack c = hb0 → Wf h e → (b : Int) < e 4 → i ≤ K → K - i < n → (∀ c', RelC c' (goE (K - i) e b) → C_heldBack c' = hb0 → post c') → w_C_goOn_8 post n c (nI b) (nI K) (nI i) := by
  intro n
  induction n with
  | zero => intro i c e _ _ _ _ _ hn; omega
  | succ n ih =>
    intro i c e hr hcb w hb hi hn hp
    have w4 := w.1
    have hb8 : b < 8 := by omega
    obtain ⟨hk, hl, hs, ha, hbd⟩ := w.2.2.2.2.2.2.2.2 b hb
    rw [w_C_goOn_8]
    refine t_le (a := (K : Int)) (b := i) rfl rfl (fun q => ?_) (fun q => ?_)
    · rw [show K - i = 0 by omega] at hp
      exact hp c hr hcb
    obtain ⟨j, hj⟩ : ∃ j, K - i = j + 1 := ⟨K - i - 1, by omega⟩
    rw [hj] at hp
    unfold goE at hp
    refine C_landed_ok hr w hb (fun q1 => ?_) (fun q1 => ?_)
    · rw [if_pos q1] at hp
      exact ⟨fun z => absurd z (by decide), fun _ => hp c hr hcb⟩
    · rw [if_neg q1] at hp
      refine ⟨fun _ => ?_, fun z => absurd rfl z⟩
      have hin : vp_in (nI b) 8 := vp_in_nI hb8 (by omega)
      refine ⟨hin, hin, hin, ?_⟩
      rw [nI_clamp (by omega)]
      obtain ⟨q2, q3, q4, q5, q6⟩ := hr.2.2.2.2.2.2 b hb
      have cont : ∀ s : Int, (s = if e (51 + b) < e (59 + b) then 1 else -1) → w_C_goOn_47 post (w_C_goOn_8 post n) c (nI b) (nI K) (nI i) (C_at c b) (iI s) := by
        intro s hs
        unfold w_C_goOn_47
        intro y hy
        have hy2 : y = iI (stepE e b (51 + b)) := by
          rw [hy, q5, iI_add, hs]
          unfold stepE
          rw [uE_s]
        refine ⟨hin, ?_⟩
        rw [nI_clamp (by omega)]
        have w1 := w.step hb q1
        have s4 : stepE e b 4 = e 4 := uE_n (by omega)
        have hb1 : (b : Int) < stepE e b 4 := by rw [s4]; exact hb
        have ha1 := (w1.2.2.2.2.2.2.2.2 b hb1).2.2.2.1
        have r1 : RelC (C_at_ c (upd (C_at c) b y)) (stepE e b) := by
          have := hr.at hb w4.2 (stepE e b (51 + b))
          rw [← hy2] at this
          have e2 : uE e (51 + b) (stepE e b (51 + b)) = stepE e b := by
            funext k
            by_cases hkk : k = 51 + b
            · subst hkk; rw [uE_s]
            · rw [uE_n hkk]; exact (uE_n hkk).symm
          rw [e2] at this
          exact this
        rw [hy2] at r1 ⊢
        refine C_noiseAt_ok (h := h) r1 ha1 ?_
        refine C_spillOf_ok r1 w1 hh hb1 ?_
        have sb := spillE_b w1 hb1
        refine C_spill_ok r1 w1 hb1 (by omega) (fun c' r2 ac => ?_)
        intro y2 hy2
        have t4 : spiltE (stepE e b) b (spillE (stepE e b) b) 4 = e 4 := by rw [spilt_at hb8 ha1 (by omega) (by omega)]; exact s4
        rw [hy2, nI_1]
        refine ih (i + 1) c' _ r2 (ac.trans hcb) (w1.spilt hb1) (by rw [t4]; exact hb) (by omega) (by omega) ?_
        rw [show K - (i + 1) = j by omega]
        exact hp
      refine t_le (a := e (59 + b)) (b := e (51 + b)) q6 q5 (fun z => ?_) (fun z => ?_)
      · have c1 := cont (-1) (by rw [if_neg (by omega)])
        rw [show iI (-1) = (-1 : Int32) by decide] at c1
        exact c1
      · exact cont 1 (by rw [if_pos z])
theorem C_goOn_ok {h : Int} {b : Nat} {c : CSt} {e : Gh} {post : CSt → Prop} (hh : h ≤ 1000000) (hr : RelC c e) (w : Wf h e) (hb : (b : Int) < e 4) (hp : ∀ c', RelC c' (goE (paceE e b).toNat e b) → asC c c' → post c') : wp_C_goOn c (nI b) post := by
  unfold wp_C_goOn
  refine C_paceOf_ok hr w hh hb ?_
  have pb := paceE_b (b := b) w
  rw [iI_nat (by omega)]
  exact C_go_ok hh (K := (paceE e b).toNat) (by omega) 2000 0 c e hr rfl w hb (by omega) (by omega) (fun c' h1 h2 => hp c' h1 h2)
theorem C_echo_ok {h : Int} {b : Nat} {hb0 : Int32} {post : CSt → Prop} {l : Int} : ∀ (n o : Nat) (c : CSt) (e : Gh), RelC c e → C_heldBack c = hb0 → Wf h e → e (51 + b) = l → (b : Int) < e 4 → (o : Int) ≤ e 4 → (e 4).toNat - o < n → (∀ c', RelC c' (echoE ((e 4).toNat - o) e b o) → C_heldBack c' = hb0 → post c') → w_C_echoWithOthers_9 post n c (nI b) (iI l) (nI o) := by
  intro n
  induction n with
  | zero => intro o c e _ _ _ _ _ _ hn; omega
  | succ n ih =>
    intro o c e hr hcb w hel hb ho hn hp
    have w4 := w.1
    have hb8 : b < 8 := by omega
    rw [w_C_echoWithOthers_9]
    refine t_le (a := e 4) (b := o) hr.2.2.2.1 rfl (fun q => ?_) (fun q => ?_)
    · rw [show (e 4).toNat - o = 0 by omega] at hp
      exact hp c hr hcb
    obtain ⟨k, hk⟩ : ∃ k, (e 4).toNat - o = k + 1 := ⟨(e 4).toNat - o - 1, by omega⟩
    rw [hk] at hp
    unfold echoE at hp
    have ho8 : o < 8 := by omega
    have wo := w.2.2.2.2.2.2.2.2 o q
    have wb := w.2.2.2.2.2.2.2.2 b hb
    refine t_le (a := 8) (b := o) rfl rfl (fun z => by omega) (fun _ => ?_)
    have nx : (¬ (o ≠ b ∧ e (51 + o) = e (51 + b) ∧ e (43 + o) ≠ e (43 + b) ∧ e (51 + o) ≠ e (59 + o))) → ∀ y : Int32, y = nI o + 1 → w_C_echoWithOthers_9 post n c (nI b) (iI l) y := by
      intro hc y hy
      rw [if_neg hc] at hp
      rw [hy, nI_1]
      refine ih (o + 1) c e hr hcb w hel hb (by omega) (by omega) ?_
      rw [show (e 4).toNat - (o + 1) = k by omega]
      exact hp
    have hino : vp_in (nI o) 8 := vp_in_nI ho8 (by omega)
    have hinb : vp_in (nI b) 8 := vp_in_nI hb8 (by omega)
    refine ⟨hino, ?_⟩
    rw [nI_clamp (by omega), nI_clamp (by omega)]
    obtain ⟨o1, o2, o3, o4, o5⟩ := hr.2.2.2.2.2.2 o q
    obtain ⟨b1, b2, b3, b4, b5⟩ := hr.2.2.2.2.2.2 b hb
    have bo := wo.2.2.2.1
    have bb := wb.2.2.2.1
    have so := wo.2.2.1
    have sb := wb.2.2.1
    have do_ := wo.2.2.2.2
    refine t_eq (a := e (51 + o)) (b := l) o4 rfl (fun q2 => ?_) (fun q2 => ?_)
    · refine t_eq (a := (o : Int)) (b := (b : Int)) rfl rfl (fun q1 => ?_) (fun q1 => ?_)
      · exact nx (fun z => z.1 (by omega))
      refine ⟨hino, hinb, ?_⟩
      refine t_eq (a := e (43 + o)) (b := e (43 + b)) o3 b3 (fun q3 => ?_) (fun q3 => ?_)
      · exact nx (fun z => z.2.2.1 q3)
      · refine C_landed_ok hr w q (fun q4 => ?_) (fun q4 => ?_)
        · refine ⟨fun z => absurd z (by decide), fun _ => nx (fun z => z.2.2.2 q4)⟩
        · refine ⟨fun _ => ?_, fun z => absurd rfl z⟩
          have hc : o ≠ b ∧ e (51 + o) = e (51 + b) ∧ e (43 + o) ≠ e (43 + b) ∧ e (51 + o) ≠ e (59 + o) := ⟨by omega, by omega, q3, q4⟩
          rw [if_pos hc] at hp
          have w0 := w.2.1
          rw [hr.1 0 (by omega), ← hel]
          refine C_spill_ok hr w hb (by omega) (fun c1 hr1 a1 => ?_)
          have s0 : spiltE e b (e 0) 0 = e 0 := spilt_at hb8 bb (by omega) (by omega)
          have s4 : spiltE e b (e 0) 4 = e 4 := spilt_at hb8 bb (by omega) (by omega)
          have sA : ∀ i, i < 8 → spiltE e b (e 0) (51 + i) = e (51 + i) := fun i hi => spilt_at hb8 bb (by omega) (by omega)
          have w1 := w.spilt (v := e 0) hb
          have ho2 : (o : Int) < spiltE e b (e 0) 4 := by rw [s4]; exact q
          rw [hr1.1 0 (by omega), s0]
          have eo : iI (e (51 + b)) = iI (spiltE e b (e 0) (51 + o)) := by rw [sA o ho8, hc.2.1]
          rw [eo]
          refine C_spill_ok hr1 w1 ho2 (by omega) (fun c2 hr2 a2 => ?_)
          intro y hy
          rw [hy, nI_1]
          have ha2 := (w1.2.2.2.2.2.2.2.2 o ho2).2.2.2.1
          have t4 : spiltE (spiltE e b (e 0)) o (e 0) 4 = e 4 := by rw [spilt_at ho8 ha2 (by omega) (by omega)]; exact s4
          have tA : spiltE (spiltE e b (e 0)) o (e 0) (51 + b) = e (51 + b) := by rw [spilt_at ho8 ha2 (by omega) (by omega)]; exact sA b hb8
          rw [← eo, hel]
          refine ih (o + 1) c2 _ hr2 (a2.trans (a1.trans hcb)) (w1.spilt ho2) (by rw [tA]; exact hel) (by rw [t4]; exact hb) (by rw [t4]; omega) (by rw [t4]; omega) ?_
          rw [t4, show (e 4).toNat - (o + 1) = k by omega]
          exact hp
    · exact nx (fun z => q2 (by rw [z.2.1]; exact hel))
theorem C_echoW_ok {h : Int} {b : Nat} {c : CSt} {e : Gh} {post : CSt → Prop} (hr : RelC c e) (w : Wf h e) (hb : (b : Int) < e 4) (hp : ∀ c', RelC c' (echoE (e 4).toNat e b 0) → asC c c' → post c') : wp_C_echoWithOthers c (nI b) post := by
  have w4 := w.1
  unfold wp_C_echoWithOthers
  refine ⟨vp_in_nI (by omega) (by omega), ?_⟩
  rw [nI_clamp (by omega), (hr.2.2.2.2.2.2 b hb).2.2.2.1]
  exact C_echo_ok 2000 0 c e hr rfl w rfl hb (by omega) (by omega) (fun c' h1 h2 => hp c' h1 h2)
theorem C_hourL_ok {h s : Int} {post : CSt → Prop} (hh : h ≤ 1000000) (hsb : -1 ≤ s ∧ s ≤ 8) : ∀ (n b : Nat) (c : CSt) (e : Gh), RelC c e → C_heldBack c = iI s → Wf h e → (b : Int) ≤ e 4 → (e 4).toNat - b < n → (∀ c', RelC c' (uE (hourL ((e 4).toNat - b) e s b) 5 (e 5 + 1)) → C_heldBack c' = iI s → post c') → w_C_passHour_2 post n c (nI b) := by
  intro n
  induction n with
  | zero => intro b c e _ _ _ _ hn; omega
  | succ n ih =>
    intro b c e hr hs w hb hn hp
    have w4 := w.1
    have w5 := w.2.2.2.2.2.1
    rw [w_C_passHour_2]
    refine t_le (a := e 4) (b := b) hr.2.2.2.1 rfl (fun q => ?_) (fun q => ?_)
    · intro y hy
      rw [show (e 4).toNat - b = 0 by omega] at hp
      have hy2 : y = iI (e 5 + 1) := by rw [hy, hr.2.2.2.2.1]; exact iI_add (e 5) 1
      rw [hy2]
      exact hp _ (hr.hour (e 5 + 1)) hs
    obtain ⟨k, hk⟩ : ∃ k, (e 4).toNat - b = k + 1 := ⟨(e 4).toNat - b - 1, by omega⟩
    rw [hk] at hp
    unfold hourL at hp
    have hb8 : b < 8 := by omega
    refine t_le (a := 8) (b := b) rfl rfl (fun z => by omega) (fun _ => ?_)
    have nx : (¬ (e (51 + b) ≠ e (59 + b) ∧ (b : Int) ≠ s)) → ∀ y : Int32, y = nI b + 1 → w_C_passHour_2 post n c y := by
      intro hc y hy
      rw [if_neg hc] at hp
      rw [hy, nI_1]
      refine ih (b + 1) c e hr hs w (by omega) (by omega) ?_
      rw [show (e 4).toNat - (b + 1) = k by omega]
      exact hp
    refine t_eq (a := (b : Int)) (b := s) rfl hs (fun q2 => nx (fun z => z.2 q2)) (fun q2 => ?_)
    refine C_landed_ok hr w q (fun q1 => ?_) (fun q1 => ?_)
    · refine ⟨fun z => absurd z (by decide), fun _ => nx (fun z => z.1 q1)⟩
    · refine ⟨fun _ => ?_, fun z => absurd rfl z⟩
      rw [if_pos ⟨q1, q2⟩] at hp
      obtain ⟨r1, r2, r3⟩ := go_ok (h := h) (b := b) (paceE e b).toNat e w q
      obtain ⟨t1, t2, t3⟩ := echo_ok (h := h) (b := b) (e 4).toNat 0 _ r1 (by rw [r2]; exact q) (by rw [r2]; omega)
      refine C_goOn_ok hh hr w q (fun c1 hr1 a1 => ?_)
      refine C_echoW_ok hr1 r1 (by rw [r2]; exact q) (fun c2 hr2 a2 => ?_)
      rw [r2] at hr2
      intro y hy
      rw [hy, nI_1]
      refine ih (b + 1) c2 _ hr2 (a2.trans (a1.trans hs)) t1 (by rw [t2, r2]; omega) (by rw [t2, r2]; omega) ?_
      rw [t2, r2, t3, r3, show (e 4).toNat - (b + 1) = k by omega]
      exact hp
theorem C_hour_ok {h s : Int} {c : CSt} {e : Gh} {post : CSt → Prop} (hh : h ≤ 1000000) (hs : C_heldBack c = iI s) (hsb : -1 ≤ s ∧ s ≤ 8) (hr : RelC c e) (w : Wf h e) (hp : ∀ c', RelC c' (hourE s e) → C_heldBack c' = iI s → post c') : wp_C_passHour c post := by
  unfold wp_C_passHour
  have w4 := w.1
  refine C_hourL_ok hh hsb 2000 0 c e hr hs w (by omega) (by omega) ?_
  obtain ⟨r1, r2, r3⟩ := hourL_ok (h := h) (s := s) (e 4).toNat 0 e w (by omega)
  unfold hourE at hp
  rw [r3] at hp
  exact hp
