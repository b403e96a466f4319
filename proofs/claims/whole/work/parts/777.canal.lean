/-! ===== the whole text ===== -/
def allG (tp : Nat → Int) (z : Nat) : Nat → Gh → Nat → PR
  | 0, e, s => (true, s, e)
  | f + 1, e, s => if ty tp z s = 0 then (true, s, e) else if (lineG tp z e s).1 = true then allG tp z f (lineG tp z e s).2.2 (nx tp z (lineG tp z e s).2.1) else (false, (lineG tp z e s).2.1, e)
theorem allG_s (tp : Nat → Int) (z f : Nat) (e : Gh) (s : Nat) : allG tp z (f + 1) e s = if ty tp z s = 0 then (true, s, e) else if (lineG tp z e s).1 = true then allG tp z f (lineG tp z e s).2.2 (nx tp z (lineG tp z e s).2.1) else (false, (lineG tp z e s).2.1, e) := rfl
theorem end_le {tp : Nat → Int} {z : Nat} {e : Gh} {k ld o a b : Int} {p : Nat} (hp : p ≤ z) : (endG tp z e k ld o a b p).2.1 ≤ z := by
  unfold endG
  split <;> exact hp
theorem tl_le {tp : Nat → Int} {z : Nat} {e : Gh} {k ld a b : Int} {p : Nat} (hp : p ≤ z) : (tlG tp z e k ld a b p).2.1 ≤ z := by
  unfold tlG
  split
  · exact end_le (nxz hp)
  · exact end_le hp
theorem line_le {tp : Nat → Int} {z : Nat} {e : Gh} {s : Nat} (hs : s ≤ z) : (lineG tp z e s).2.1 ≤ z := by
  have n1 := nxz (tp := tp) hs
  have n2 := nxz (tp := tp) n1
  have n3 := nxz (tp := tp) n2
  have n4 := nxz (tp := tp) n3
  have n5 := nxz (tp := tp) n4
  have n6 := nxz (tp := tp) n5
  have n7 := nxz (tp := tp) n6
  unfold lineG brgG atG bndG lodG noiG lawG
  repeat' split
  all_goals first | exact hs | exact n1 | exact n2 | exact n3 | exact n4 | exact n5 | exact n6 | exact tl_le n5 | exact tl_le n7
theorem brg_4 {tp : Nat → Int} {z : Nat} {e : Gh} {k : Int} {s : Nat} (h : (brgG tp z e k s).1 = true) : (brgG tp z e k s).2.2 4 = e 4 + 1 := by
  have f : ∀ (p : Nat) (e2 : Gh), ((false, p, e2) : PR).1 = true → False := fun p e2 q => absurd (show false = true from q) (by decide)
  have eg : ∀ (ld o a b : Int) (p : Nat), (endG tp z e k ld o a b p).1 = true → (endG tp z e k ld o a b p).2.2 4 = e 4 + 1 := by
    intro ld o a b p q
    unfold endG at q ⊢
    by_cases c : ty tp z p = 3
    · rw [if_pos c]; exact addS_4 (k := k) (l := ld) (o := o) (a := a) (b := b)
    · rw [if_neg c] at q; exact (f _ _ q).elim
  have tg : ∀ (ld a b : Int) (p : Nat), (tlG tp z e k ld a b p).1 = true → (tlG tp z e k ld a b p).2.2 4 = e 4 + 1 := by
    intro ld a b p q
    unfold tlG at q ⊢
    by_cases c : isW tp z p 9
    · rw [if_pos c] at q ⊢; exact eg _ _ _ _ _ q
    · rw [if_neg c] at q ⊢; exact eg _ _ _ _ _ q
  unfold brgG at h ⊢
  by_cases c2 : e 4 = 8
  · rw [if_pos c2] at h; exact (f _ _ h).elim
  rw [if_neg c2] at h ⊢
  unfold atG at h ⊢
  by_cases c3 : isW tp z (nx tp z s) 6
  rotate_left
  · rw [if_neg c3] at h; exact (f _ _ h).elim
  rw [if_pos c3] at h ⊢
  by_cases c4 : isN tp z (nx tp z (nx tp z s)) 9
  rotate_left
  · rw [if_neg c4] at h; exact (f _ _ h).elim
  rw [if_pos c4] at h ⊢
  unfold bndG at h ⊢
  by_cases c5 : isW tp z (nx tp z (nx tp z (nx tp z s))) 7
  rotate_left
  · rw [if_neg c5] at h; exact (f _ _ h).elim
  rw [if_pos c5] at h ⊢
  by_cases c6 : isN tp z (nx tp z (nx tp z (nx tp z (nx tp z s)))) 9
  rotate_left
  · rw [if_neg c6] at h; exact (f _ _ h).elim
  rw [if_pos c6] at h ⊢
  unfold lodG at h ⊢
  by_cases c7 : isW tp z (nx tp z (nx tp z (nx tp z (nx tp z (nx tp z s))))) 8
  · rw [if_pos c7] at h ⊢
    by_cases c8 : isN tp z (nx tp z (nx tp z (nx tp z (nx tp z (nx tp z (nx tp z s)))))) 99
    · rw [if_pos c8] at h ⊢; exact tg _ _ _ _ h
    · rw [if_neg c8] at h; exact (f _ _ h).elim
  · rw [if_neg c7] at h ⊢; exact tg _ _ _ _ h
theorem noi_4 {tp : Nat → Int} {z : Nat} {e : Gh} {s : Nat} : (noiG tp z e s).2.2 4 = e 4 := by
  unfold noiG
  repeat' split
  all_goals first | rfl | exact uE_n (by omega)
theorem law_4 {tp : Nat → Int} {z : Nat} {e : Gh} {l s : Nat} {most : Int} (hl : l < 4) : (lawG tp z e l most s).2.2 4 = e 4 := by
  unfold lawG
  repeat' split
  all_goals first | rfl | exact uE_n (by omega)
theorem X_all {b : Nat → Int32} {tp : Nat → Int} {z : Nat} (H : TP b z tp) {h : Int} {post : Int32 → (TSt × CSt) → Prop} : ∀ (n f i : Nat) (e : Gh) (s : Nat) (c : CSt), s ≤ z → (i ≤ s) → i ≤ 200 → z - s < f → 201 - i < n → RelC c e → Wf h e → C_heldBack c = iI (-1) → ((allG tp z f e s).1 = true → Wf h (allG tp z f e s).2.2 → ∀ c', RelC c' (allG tp z f e s).2.2 → C_heldBack c' = iI (-1) → post (-1) (tS b z tp (allG tp z f e s).2.1, c')) → ((allG tp z f e s).1 = false → (allG tp z f e s).2.1 ≤ z → ∀ c', post (nI (allG tp z f e s).2.1) (tS b z tp (allG tp z f e s).2.1, c')) → w_T_readInto_11 post n (tS b z tp s, c) (nI i) := by
  have hz := H.1
  intro n
  induction n with
  | zero => intro f i e s c _ _ _ _ h; omega
  | succ n ih =>
    intro f i e s c hs hi hi2 hf hn r w sc k1 k0
    obtain ⟨f, rfl⟩ : ∃ g, f = g + 1 := ⟨f - 1, by omega⟩
    rw [allG_s] at k1 k0
    have tyl := ty_le tp z s
    rw [w_T_readInto_11]
    have done : ty tp z s = 0 → post (-1) (tS b z tp s, c) := by
      intro q
      rw [if_pos q] at k1
      exact k1 rfl w c r sc
    refine t_le (a := 200) (b := i) rfl rfl (fun u => done (ty_0.mpr (by omega))) (fun u => ?_)
    refine t_eq (a := ((if ty tp z s = 4 then 3 else ty tp z s : Nat) : Int)) (b := 0) rfl rfl (fun u2 => done (by split at u2 <;> omega)) (fun u2 => ?_) (by split <;> omega)
    have t0 : ¬ ty tp z s = 0 := by
      intro q
      apply u2
      rw [q]
      rfl
    rw [if_neg t0] at k1 k0
    have lo := line_ok (tp := tp) hs w
    refine X_line H hs r w sc ⟨fun a1 a2 a3 c' a4 a5 => ?_, fun a1 c' => ?_⟩
    · rw [if_pos a1] at k1 k0
      obtain ⟨l1, l2, l3⟩ := lo a1
      have nn := nx_le (tp := tp) a2
      have nl := nn.2.2 l2
      refine if1 ?_
      intro y hy
      rw [hy, nI_1]
      exact ih f (i + 1) _ _ c' nn.2.1 (by omega) (by omega) (by omega) (by omega) a4 a3 a5 k1 k0
    · have a2 : ¬ (lineG tp z e s).1 = true := by rw [a1]; decide
      rw [if_neg a2] at k0
      refine if0 ?_
      exact k0 rfl (by
        show (lineG tp z e s).2.1 ≤ z
        exact line_le hs) c'
theorem M_line {m : MSt} {tp : Nat → Int} {z : Nat} (H : MP m z tp) {h : Int} {post : Int32 → MSt → Prop} {k9 : MSt → Int32 → Int32 → Int32 → Prop} {d d0 : Nat → Int32} {ap : Bool} {w : Int32} {e : Gh} {s : Nat} (hs : s ≤ z) (wf : Wf h e) (q : DR ap d0 d e) (g1 : (lineG tp z e s).1 = true → ∀ w d', DR ap d0 d' (lineG tp z e s).2.2 → k9 (mK (M_d_ m d') z tp (lineG tp z e s).2.1 w) (bI ap) (iI ((lineG tp z e s).2.2 4)) 1) (g0 : (lineG tp z e s).1 = false → ∀ w x2, k9 (mK (M_d_ m d) z tp (lineG tp z e s).2.1 w) (bI ap) x2 0) : ∀ s0 : Int32, (s0 = if ty tp z s = 1 then iI (wd tp z s) else -1) → w_M_readsAll_42 post k9 (mK (M_d_ m d) z tp s w) (bI ap) (iI (e 4)) s0 := by
  intro s0 hs0
  have w4 := wf.1
  have wb := wd_b tp z s
  by_cases t1 : ty tp z s = 1
  rotate_left
  · rw [if_neg t1] at hs0
    rw [hs0]
    unfold w_M_readsAll_42
    have e1 : lineG tp z e s = (false, s, e) := by unfold lineG; rw [if_neg t1]
    rw [e1] at g0
    refine I_in (a := -1) (lo := 0) (hi := 5) (fun u => absurd u (by decide)) (fun _ => if0 ?_)
    exact ifn (by decide) (ifp (by decide) (g0 rfl w _))
  rw [if_pos t1] at hs0
  rw [hs0]
  have et : (iI (wd tp z s)).toInt = wd tp z s := iI_toInt (by omega) (by omega)
  unfold w_M_readsAll_42
  refine I_in (a := iI (wd tp z s)) (lo := 0) (hi := 5) (fun u => if1 ?_) (fun u => if0 ?_)
  · rw [et] at u
    have u2 : 0 ≤ wd tp z s ∧ wd tp z s ≤ 5 := u
    have e1 : lineG tp z e s = brgG tp z e (wd tp z s) s := by
      unfold lineG
      rw [if_pos t1, if_pos u2]
    rw [e1] at g1 g0
    refine M_brg H hs wf q u2 ⟨fun a1 w' d' a2 => ?_, fun a1 w' => ?_⟩
    · intro y hy
      have := g1 a1 w' d' a2
      rw [brg_4 a1] at this
      rw [hy, show (1 : Int32) = iI 1 from rfl, iI_add]
      exact this
    · intro y hy
      exact g0 a1 w' _
  rw [et] at u
  have u2 : ¬ (0 ≤ wd tp z s ∧ wd tp z s ≤ 5) := u
  refine t_eq (a := wd tp z s) (b := 11) rfl rfl (fun v => ?_) (fun v => ?_)
  · have e1 : lineG tp z e s = noiG tp z e s := by
      unfold lineG
      rw [if_pos t1, if_neg u2, if_pos v]
    rw [e1] at g1 g0
    refine M_noi H hs wf q ⟨fun a1 w' d' a2 => ?_, fun a1 w' => g0 a1 w' _⟩
    have := g1 a1 w' d' a2
    rw [noi_4] at this
    exact this
  refine t_lt (a := wd tp z s) (b := 12) rfl rfl (fun v2 => ?_) (fun v2 => ?_)
  · have e1 : lineG tp z e s = (false, s, e) := by
      unfold lineG
      rw [if_pos t1, if_neg u2, if_neg v, if_neg (by omega)]
    rw [e1] at g0
    exact g0 rfl w _
  · intro y4 f4
    have e4 : y4 = nI (wd tp z s - 12).toNat := by
      rw [f4, show (12 : Int32) = iI 12 from rfl, iI_sub, iI_nat (by omega)]
    have e1 : lineG tp z e s = lawG tp z e (wd tp z s - 12).toNat (if (wd tp z s - 12).toNat = 3 then 99 else 9) s := by
      unfold lineG
      rw [if_pos t1, if_neg u2, if_neg v, if_pos v2]
      congr 1
      by_cases c : wd tp z s = 15
      · rw [if_pos c, if_pos (by omega)]
      · rw [if_neg c, if_neg (by omega)]
    rw [e1] at g1 g0
    rw [e4]
    refine M_law H hs wf q (by omega) ⟨fun a1 w' d' a2 => if1 ?_, fun a1 w' => if0 (g0 a1 w' _)⟩
    have := g1 a1 w' d' a2
    rw [law_4 (by omega)] at this
    exact this
theorem M_all {m : MSt} {tp : Nat → Int} {z : Nat} (H : MP m z tp) {h : Int} {post : Int32 → MSt → Prop} {d0 : Nat → Int32} {ap : Bool} : ∀ (n f : Nat) (e : Gh) (p s : Nat) (d : Nat → Int32) (b t v w : Int32), p ≤ z → s = rn tp z bS p → z - s < f → f + 1 < n → Wf h e → DR ap d0 d e → ((allG tp z f e s).1 = true → ∀ w' d', DR ap d0 d' (allG tp z f e s).2.2 → post 1 (mK (M_d_ m d') z tp (allG tp z f e s).2.1 w')) → ((allG tp z f e s).1 = false → ∀ w' d', (ap = false → d' = d0) → post 0 (mK (M_d_ m d') z tp (allG tp z f e s).2.1 w')) → w_M_readsAll_9 post n (mT (M_d_ m d) (nI p) b t v w) (bI ap) (iI (e 4)) 1 := by
  have hz := H.1
  intro n
  induction n with
  | zero => intro f e p s d b t v w _ _ _ h; omega
  | succ n ih =>
    intro f e p s d b t v w hp hsp hf hn wf q k1 k0
    obtain ⟨f, rfl⟩ : ∃ g, f = g + 1 := ⟨f - 1, by omega⟩
    rw [allG_s] at k1 k0
    have sz : s ≤ z := by rw [hsp]; exact (rn_ok hp).2.1
    have tyl := ty_le tp z s
    rw [w_M_readsAll_9]
    refine if1 ?_
    unfold wp_M_next
    refine M_next0 (H.dd d) 2000 p hp (by omega) ?_
    rw [← hsp, mK_tk]
    refine t_eq (a := ty tp z s) (b := 0) rfl rfl (fun u => ?_) (fun u => ?_)
    · rw [if_pos (by omega)] at k1
      exact k1 rfl w d q
    rw [if_neg (by omega)] at k1 k0
    have lo := line_ok (tp := tp) sz wf
    have body : ∀ s0 : Int32, (s0 = if ty tp z s = 1 then iI (wd tp z s) else -1) → w_M_readsAll_42 post (w_M_readsAll_9 post n) (mK (M_d_ m d) z tp s w) (bI ap) (iI (e 4)) s0 := by
      refine M_line H sz wf q (fun a1 w' d' a2 => ?_) (fun a1 w' x2 => ?_)
      · rw [if_pos a1] at k1 k0
        obtain ⟨l1, l2, l3⟩ := lo a1
        have nn := nx_le (tp := tp) (Nat.le_of_lt l2)
        have nl := nn.2.2 l2
        unfold mK
        exact ih f _ (en tp z (lineG tp z e s).2.1) (nx tp z (lineG tp z e s).2.1) d' _ _ _ w' (en_le (Nat.le_of_lt l2)).2.1 rfl (by omega) (by omega) l3 a2 k1 k0
      · have a2 : ¬ (lineG tp z e s).1 = true := by rw [a1]; decide
        rw [if_neg a2] at k0
        obtain ⟨n, rfl⟩ : ∃ g, n = g + 1 := ⟨n - 1, by omega⟩
        rw [w_M_readsAll_9]
        refine if0 (k0 rfl w' d (fun ha => ?_))
        rw [ha] at q
        exact q
    refine t_eq (a := ty tp z s) (b := 1) rfl rfl (fun u2 => ?_) (fun u2 => ?_)
    · refine body _ ?_
      rw [if_pos (by omega), mK_vl]
      unfold vl
      rw [if_pos (by omega)]
    · refine body _ ?_
      rw [if_neg (by omega)]
