theorem sim_inv : SIM Inv := by
  intro c x m hc i
  have hh : 60 * (c : Int) ≤ 900000 := by omega
  have h1 : 60 * ((c + 1 : Nat) : Int) = 60 * (c : Int) + 60 := by omega
  have j : Inv (c + 1) x m := ⟨by rw [h1]; exact i.1.mono (by omega), by rw [h1]; exact i.2.1.mono (by omega), i.2.2⟩
  have n := i.1
  have kp := i.2.1
  have tp := i.2.2.1
  have rr := i.2.2.2.1
  have sr := i.2.2.2.2.1
  have hl := i.2.2.2.2.2.1
  have ac := i.2.2.2.2.2.2
  have st : ∀ x' m', Now (60 * (c : Int)) x' m' → x'.2.2 = x.2.2 → m'.2.2 = m.2.2 → Inv (c + 1) x' m' := fun x' m' a b d => j.std (by rw [h1]; exact a.mono (by omega)) b d
  have s6 : ∀ x' m', Now (60 * (c : Int) + 60) x' m' → x'.2.2 = x.2.2 → m'.2.2 = m.2.2 → Inv (c + 1) x' m' := fun x' m' a b d => j.std (by rw [h1]; exact a) b d
  have t0 : ∀ t : TSt, T_size t = 0 → TpR t (M_tape m) 0 := fun t ht => ⟨0, by omega, fun _ => 0, ht, rfl, fun q hq => by omega⟩
  refine ⟨j, fun a1 a2 a3 a4 => ⟨?_, ?_, ?_, ?_, ?_, ?_, ?_, ?_, ?_, ?_, ?_, ?_, ?_, ?_, ?_, ?_, ?_, ?_, ?_, ?_, ?_, ?_, ?_, ?_, ?_, ?_, ?_, ?_, ?_, ?_, ?_, ?_, ?_, ?_, ?_, ?_, ?_, ?_, ?_, ?_, ?_, ?_, ?_, ?_, ?_, ?_⟩⟩
  · exact l_feed tp (fun t f u h => j.feed h)
  · exact l_canal (by omega) n tp (fun c1 t a b tk v w ht => j.can0 (t0 t ht)) (fun c1 c2 t d a b tk v w e ht we rc sc qd => j.can1 ⟨e, we.mono (by omega), rc, sc, qd, n.choose_spec.2.2.2.2⟩ (t0 t ht) ⟨⟨0, by omega, rfl, rfl⟩, rr.2⟩)
  · exact l_set n st
  · exact l_lawOf n st
  · exact l_barge n st
  · exact l_of n st
  · exact l_does hh n st
  · exact l_mind n st
  · exact l_fill n st
  · exact l_bring n st
  · exact l_send n st
  · exact l_noise n st
  · exact l_lock n st
  · exact l_hours hh n s6
  · exact l_seed n st
  · exact l_hour hh n s6
  · exact l_spoilt hh n st
  · exact l_state n st
  · exact l_freight hh n st
  · exact l_lands hh n st
  · exact l_meets hh n st
  · exact l_quiet hh n st
  · exact l_cargo hh n st
  · exact l_stillFor hh n st
  · exact l_kindFor hh n st
  · exact l_loadFor hh n st
  · exact l_hushedFor hh n st
  · exact l_holdFor hh n st
  · exact l_fits hh n sr st
  · exact l_odds n j
  · exact l_hope n j
  · exact l_prove hh n rr j (fun c1 rx k a d rm hn h => j.prove (by obtain ⟨e, a0, a5, a2, a3, a4⟩ := hn; exact ⟨e, a0.mono (by omega), a5, a2, a3, a4⟩) h)
  · exact l_row rr j
  · exact l_alterRow rr (fun rx rm h => j.rows h)
  · exact l_judge hh n rr st
  · exact l_minds n sr st
  · exact l_sheet sr (fun sh so si it h => j.sheets h)
  · exact l_put sr (fun sh so si it h => j.sheets h)
  · exact l_item sr j
  · exact l_shelf n sr hl (fun sh a b d h => j.shelves h)
  · exact l_taken n hl j
  · exact l_act n hl ac (fun t v s b1 b2 b3 => j.acts ⟨b1, s.2.1, b3, b2, rfl⟩)
  · exact l_trace ac j
  · exact (by
    obtain ⟨⟨z, hz, tq, t1, t2, t3⟩, _⟩ := tp
    exact l_many n rr ac (t1.trans t2.symm) j)
  · exact l_keep n (fun x' m' a k b d => Inv.tr (by rw [h1]; exact a.mono (by omega)) (by rw [h1]; exact k.mono (by omega)) b d j)
  · exact l_again n kp st
