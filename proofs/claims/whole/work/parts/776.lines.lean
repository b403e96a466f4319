/-! the reference -/
def DR (ap : Bool) (d0 d : Nat → Int32) (e : Gh) : Prop := if ap = true then RelD d e else d = d0
def MLQ (m : MSt) (d : Nat → Int32) (ap : Bool) (d0 : Nat → Int32) (tp : Nat → Int) (z : Nat) (post : Int32 → MSt → Prop) (r : PR) : Prop := (r.1 = true → ∀ w d', DR ap d0 d' r.2.2 → post 1 (mK (M_d_ m d') z tp r.2.1 w)) ∧ (r.1 = false → ∀ w, post 0 (mK (M_d_ m d) z tp r.2.1 w))
theorem MP.dd {m : MSt} {z : Nat} {tp : Nat → Int} (H : MP m z tp) (d : Nat → Int32) : MP (M_d_ m d) z tp := H
theorem M_113 {m : MSt} {tp : Nat → Int} {z : Nat} {h : Int} {post : Int32 → MSt → Prop} {d d0 : Nat → Int32} {ap o : Bool} {w : Int32} {e : Gh} {k ld a b : Int} {s : Nat} (wf : Wf h e) (q : DR ap d0 d e) (h8 : e 4 < 8) (hk : 0 ≤ k ∧ k ≤ 5) (hl : 0 ≤ ld ∧ ld ≤ 99) (ha : 0 ≤ a ∧ a ≤ 9) (hb : 0 ≤ b ∧ b ≤ 9) (Q : MLQ m d ap d0 tp z post (endG tp z e k ld (if o = true then 1 else 0) a b s)) : w_M_readsBarge_113 post (mK (M_d_ m d) z tp s w) (iI k) (bI ap) (iI a) (iI b) (iI ld) (bI o) := by
  have tyl := ty_le tp z s
  unfold w_M_readsBarge_113
  unfold endG at Q
  rw [mK_tk]
  refine t_eq (a := ty tp z s) (b := 3) rfl rfl (fun u => ?_) (fun u => ?_)
  rotate_left
  · refine t_eq (a := ty tp z s) (b := 3) rfl rfl (fun u2 => absurd u2 u) (fun _ => ?_)
    rw [if_neg (by omega)] at Q
    exact Q.2 rfl w
  have u3 : ty tp z s = 3 := by omega
  rw [if_pos u3] at Q
  cases ap with
  | false =>
    refine if0 (t_eq (a := ty tp z s) (b := 3) rfl rfl (fun _ => ?_) (fun u2 => absurd u u2))
    have qd : d = d0 := q
    have fin := Q.1 rfl w d (show DR false d0 d _ from qd)
    exact fin
  | true =>
    refine if1 ?_
    have qr : RelD d e := q
    have t : ∀ v : Int, 0 ≤ v ∧ v ≤ 99 → (iI v).toInt = v := fun v hv => iI_toInt (by omega) (by omega)
    have cm : ∀ ob : Bool, o = ob → w_M_readsBarge_139 post (mK (M_d_ m d) z tp s w) (iI a) (iI b) (iI k) (iI ld) (bI ob) := by
      intro ob ho
      subst ho
      unfold w_M_readsBarge_139
      have q2 : RelD (M_d (mK (M_d_ m d) z tp s w)) e := by rw [mK_d]; exact qr
      refine M_comesS_ok q2 wf h8 (fun d1 q1 => ?_)
      rw [mK_d_, mK_tk]
      have eo : (bI o).toInt = if o = true then 1 else 0 := by cases o <;> rfl
      rw [t k (by omega), t ld hl, eo, t a (by omega), t b (by omega)] at q1
      refine t_eq (a := ty tp z s) (b := 3) rfl rfl (fun _ => ?_) (fun u2 => absurd u u2)
      exact Q.1 rfl w d1 (show DR true d0 d1 _ from q1)
    cases ho : o with
    | false => exact if0 (cm false ho)
    | true => exact if1 (cm true ho)
theorem M_96 {m : MSt} {tp : Nat → Int} {z : Nat} (H : MP m z tp) {h : Int} {post : Int32 → MSt → Prop} {d d0 : Nat → Int32} {ap : Bool} {w : Int32} {e : Gh} {k ld a b : Int} {s : Nat} (hs : s ≤ z) (wf : Wf h e) (q : DR ap d0 d e) (h8 : e 4 < 8) (hk : 0 ≤ k ∧ k ≤ 5) (hl : 0 ≤ ld ∧ ld ≤ 99) (ha : 0 ≤ a ∧ a ≤ 9) (hb : 0 ≤ b ∧ b ≤ 9) (Q : MLQ m d ap d0 tp z post (tlG tp z e k ld a b s)) : w_M_readsBarge_96 post (mK (M_d_ m d) z tp s w) (iI k) (bI ap) (iI a) (iI b) (iI ld) := by
  unfold w_M_readsBarge_96
  unfold tlG at Q
  refine M_isW_ok (k := 9) (by omega) (fun u1 u2 => if1 ?_) (fun u => if0 ?_)
  · rw [if_pos ⟨u1, u2⟩] at Q
    refine M_next_ok (H.dd d) hs ?_
    exact M_113 (o := true) wf q h8 hk hl ha hb Q
  · rw [if_neg u] at Q
    exact M_113 (o := false) wf q h8 hk hl ha hb Q
theorem M_brg {m : MSt} {tp : Nat → Int} {z : Nat} (H : MP m z tp) {h : Int} {post : Int32 → MSt → Prop} {d d0 : Nat → Int32} {ap : Bool} {w : Int32} {e : Gh} {k : Int} {s : Nat} (hs : s ≤ z) (wf : Wf h e) (q : DR ap d0 d e) (hk : 0 ≤ k ∧ k ≤ 5) (Q : MLQ m d ap d0 tp z post (brgG tp z e k s)) : wp_M_readsBarge (mK (M_d_ m d) z tp s w) (iI k) (iI (e 4)) (bI ap) post := by
  have w4 := wf.1
  have Hd := H.dd d
  have hs1 := nxz (tp := tp) hs
  have hs2 := nxz (tp := tp) hs1
  have hs3 := nxz (tp := tp) hs2
  have hs4 := nxz (tp := tp) hs3
  have hs5 := nxz (tp := tp) hs4
  unfold wp_M_readsBarge
  unfold brgG at Q
  refine t_eq (a := e 4) (b := 8) rfl rfl (fun u => ?_) (fun u => ?_)
  · rw [if_pos u] at Q
    exact Q.2 rfl w
  rw [if_neg u] at Q
  unfold atG at Q
  refine M_rdW_ok Hd hs (k := 6) (by omega) (fun u1 u2 => if1 ?_) (fun u1 => if0 ?_)
  rotate_left
  · rw [if_neg u1] at Q
    exact Q.2 rfl w
  rw [if_pos ⟨u1, u2⟩] at Q
  refine M_rdN_ok Hd hs1 (most := 9) (by omega) (fun v1 v2 => if1 ?_) (fun v1 w' => if0 ?_)
  rotate_left
  · rw [if_neg v1] at Q
    exact Q.2 rfl w'
  rw [if_pos ⟨v1, v2⟩] at Q
  unfold bndG at Q
  refine M_rdW_ok Hd hs2 (k := 7) (by omega) (fun u3 u4 => if1 ?_) (fun u3 => if0 ?_)
  rotate_left
  · rw [if_neg u3] at Q
    exact Q.2 rfl _
  rw [if_pos ⟨u3, u4⟩] at Q
  refine M_rdN_ok Hd hs3 (most := 9) (by omega) (fun v3 v4 => if1 ?_) (fun v3 w' => if0 ?_)
  rotate_left
  · rw [if_neg v3] at Q
    exact Q.2 rfl w'
  rw [if_pos ⟨v3, v4⟩] at Q
  unfold lodG at Q
  refine M_next_ok Hd hs4 ?_
  rw [mK_td, mK_td]
  have na := nm_b v1
  have nb := nm_b v3
  refine M_isW_ok (k := 8) (by omega) (fun u5 u6 => if1 ?_) (fun u5 => if0 ?_)
  · rw [if_pos ⟨u5, u6⟩] at Q
    refine M_rdN_ok Hd hs5 (most := 99) (by omega) (fun v5 v6 => if1 ?_) (fun v5 w' => if0 ?_)
    · rw [if_pos ⟨v5, v6⟩] at Q
      refine M_next_ok Hd (nxz hs5) ?_
      rw [mK_td]
      exact M_96 H (nxz (nxz hs5)) wf q (by omega) hk ⟨(nm_b v5).1, v6⟩ ⟨na.1, v2⟩ ⟨nb.1, v4⟩ Q
    · rw [if_neg v5] at Q
      exact Q.2 rfl w'
  · rw [if_neg u5] at Q
    exact M_96 (ld := 50) H hs5 wf q (by omega) hk (by omega) ⟨na.1, v2⟩ ⟨nb.1, v4⟩ Q
theorem M_law {m : MSt} {tp : Nat → Int} {z : Nat} (H : MP m z tp) {h : Int} {post : Int32 → MSt → Prop} {d d0 : Nat → Int32} {ap : Bool} {w : Int32} {e : Gh} {l s : Nat} (hs : s ≤ z) (wf : Wf h e) (q : DR ap d0 d e) (hl : l < 4) (Q : MLQ m d ap d0 tp z post (lawG tp z e l (if l = 3 then 99 else 9) s)) : wp_M_readsLaw (mK (M_d_ m d) z tp s w) (nI l) (bI ap) post := by
  have Hd := H.dd d
  have hs1 := nxz (tp := tp) hs
  have tyl := ty_le tp z (nx tp z (nx tp z s))
  unfold wp_M_readsLaw
  have fin : ∀ most : Int, (0 ≤ most ∧ most ≤ 99) → most = (if l = 3 then 99 else 9) → w_M_readsLaw_13 post (mK (M_d_ m d) z tp s w) (nI l) (bI ap) (iI most) := by
    intro most mb hm
    rw [← hm] at Q
    unfold lawG at Q
    unfold w_M_readsLaw_13
    refine M_rdN_ok Hd hs (most := most) mb (fun v1 v2 => if1 ?_) (fun v1 w' => if0 ?_)
    rotate_left
    · rw [if_neg v1] at Q
      exact Q.2 rfl w'
    rw [if_pos ⟨v1, v2⟩] at Q
    refine M_next_ok Hd hs1 ?_
    rw [mK_tk, mK_td]
    refine t_eq (a := ty tp z (nx tp z (nx tp z s))) (b := 3) rfl rfl (fun u => ?_) (fun u => ?_)
    rotate_left
    · refine t_eq (a := ty tp z (nx tp z (nx tp z s))) (b := 3) rfl rfl (fun u2 => absurd u2 u) (fun _ => ?_)
      rw [if_neg (by omega)] at Q
      exact Q.2 rfl _
    rw [if_pos (by omega)] at Q
    cases ap with
    | false =>
      refine if0 (t_eq (a := ty tp z (nx tp z (nx tp z s))) (b := 3) rfl rfl (fun _ => ?_) (fun u2 => absurd u u2))
      have qd : d = d0 := q
      exact Q.1 rfl _ d (show DR false d0 d _ from qd)
    | true =>
      refine if1 ⟨vp_in_nI (by omega) (by omega), ?_⟩
      have qr : RelD d e := q
      rw [mK_d, mK_d_, nI_clamp (by omega)]
      refine t_eq (a := ty tp z (nx tp z (nx tp z s))) (b := 3) rfl rfl (fun _ => ?_) (fun u2 => absurd u u2)
      exact Q.1 rfl _ (upd d l (iI (nm tp z (nx tp z s)))) (show DR true d0 (upd d l (iI (nm tp z (nx tp z s)))) _ from qr.upd l _)
  refine t_eq (a := l) (b := 3) rfl rfl (fun u => fin 99 (by omega) (by rw [if_pos (by omega)])) (fun u => fin 9 (by omega) (by rw [if_neg (by omega)]))
theorem M_noi {m : MSt} {tp : Nat → Int} {z : Nat} (H : MP m z tp) {h : Int} {post : Int32 → MSt → Prop} {d d0 : Nat → Int32} {ap : Bool} {w : Int32} {e : Gh} {s : Nat} (hs : s ≤ z) (wf : Wf h e) (q : DR ap d0 d e) (Q : MLQ m d ap d0 tp z post (noiG tp z e s)) : wp_M_readsNoise (mK (M_d_ m d) z tp s w) (bI ap) post := by
  have Hd := H.dd d
  have hs1 := nxz (tp := tp) hs
  have hs2 := nxz (tp := tp) hs1
  have hs3 := nxz (tp := tp) hs2
  have tyl := ty_le tp z (nx tp z (nx tp z (nx tp z (nx tp z s))))
  unfold wp_M_readsNoise
  unfold noiG at Q
  refine M_rdN_ok Hd hs (most := 9) (by omega) (fun v1 v2 => if1 ?_) (fun v1 w' => if0 ?_)
  rotate_left
  · rw [if_neg v1] at Q
    exact Q.2 rfl w'
  rw [if_pos ⟨v1, v2⟩] at Q
  have nb := nm_b v1
  refine M_rdW_ok Hd hs1 (k := 10) (by omega) (fun u1 u2 => if1 ?_) (fun u1 => if0 ?_)
  rotate_left
  · rw [if_neg u1] at Q
    exact Q.2 rfl _
  rw [if_pos ⟨u1, u2⟩] at Q
  refine M_rdN_ok Hd hs2 (most := 9) (by omega) (fun v3 v4 => if1 ?_) (fun v3 w' => if0 ?_)
  rotate_left
  · rw [if_neg v3] at Q
    exact Q.2 rfl w'
  rw [if_pos ⟨v3, v4⟩] at Q
  refine M_next_ok Hd hs3 ?_
  rw [mK_tk, mK_td, mK_td]
  refine t_eq (a := ty tp z (nx tp z (nx tp z (nx tp z (nx tp z s))))) (b := 3) rfl rfl (fun u => ?_) (fun u => ?_)
  rotate_left
  · refine t_eq (a := ty tp z (nx tp z (nx tp z (nx tp z (nx tp z s))))) (b := 3) rfl rfl (fun u2 => absurd u2 u) (fun _ => ?_)
    rw [if_neg (by omega)] at Q
    exact Q.2 rfl _
  rw [if_pos (by omega)] at Q
  cases ap with
  | false =>
    refine if0 (t_eq (a := ty tp z (nx tp z (nx tp z (nx tp z (nx tp z s))))) (b := 3) rfl rfl (fun _ => ?_) (fun u2 => absurd u u2))
    have qd : d = d0 := q
    exact Q.1 rfl _ d (show DR false d0 d _ from qd)
  | true =>
    refine if1 ?_
    have qr : RelD d e := q
    intro y10 f10
    rw [show (7 : Int32) = nI 7 from rfl, iI_nat nb.1, nI_add] at f10
    rw [f10]
    refine ⟨vp_in_nI (by omega) (by omega), ?_⟩
    rw [mK_d, mK_d_, nI_clamp (by omega)]
    refine t_eq (a := ty tp z (nx tp z (nx tp z (nx tp z (nx tp z s))))) (b := 3) rfl rfl (fun _ => ?_) (fun u2 => absurd u u2)
    exact Q.1 rfl _ (upd d (7 + (nm tp z (nx tp z s)).toNat) (iI (nm tp z (nx tp z (nx tp z (nx tp z s)))))) (show DR true d0 (upd d (7 + (nm tp z (nx tp z s)).toNat) (iI (nm tp z (nx tp z (nx tp z (nx tp z s)))))) _ from qr.upd _ _)
/-! a line goes on, and keeps the ranges -/
def LnOk (h : Int) (z s : Nat) (r : PR) : Prop := r.1 = true → s ≤ r.2.1 ∧ r.2.1 < z ∧ Wf h r.2.2
theorem ln_f {h : Int} {z s p : Nat} {e : Gh} : LnOk h z s (false, p, e) := fun q => absurd (show false = true from q) (by decide)
theorem line_ok {tp : Nat → Int} {z : Nat} {h : Int} {e : Gh} {s : Nat} (hs : s ≤ z) (w : Wf h e) : LnOk h z s (lineG tp z e s) := by
  have w4 := w.1
  have n1 := nx_le (tp := tp) hs
  have n2 := nx_le (tp := tp) n1.2.1
  have n3 := nx_le (tp := tp) n2.2.1
  have n4 := nx_le (tp := tp) n3.2.1
  have n5 := nx_le (tp := tp) n4.2.1
  have n6 := nx_le (tp := tp) n5.2.1
  have n7 := nx_le (tp := tp) n6.2.1
  have n8 := nx_le (tp := tp) n7.2.1
  have wb := wd_b tp z s
  have eG : ∀ (k ld o a b : Int) (p : Nat), s ≤ p → e 4 < 8 → (0 ≤ k ∧ k ≤ 5) → (0 ≤ ld ∧ ld ≤ 99) → (0 ≤ o ∧ o ≤ 1) → (0 ≤ a ∧ a ≤ 9) → (0 ≤ b ∧ b ≤ 9) → LnOk h z s (endG tp z e k ld o a b p) := by
    intro k ld o a b p hp h8 hk hl ho ha hb
    unfold endG
    by_cases c : ty tp z p = 3
    · rw [if_pos c]
      exact fun _ => ⟨hp, (ty_3.mp c).1, w.addO h8 hk hl ho ha hb⟩
    · rw [if_neg c]; exact ln_f
  have tG : ∀ (k ld a b : Int) (p : Nat), s ≤ p → p ≤ z → e 4 < 8 → (0 ≤ k ∧ k ≤ 5) → (0 ≤ ld ∧ ld ≤ 99) → (0 ≤ a ∧ a ≤ 9) → (0 ≤ b ∧ b ≤ 9) → LnOk h z s (tlG tp z e k ld a b p) := by
    intro k ld a b p hp hpz h8 hk hl ha hb
    have := nx_le (tp := tp) hpz
    unfold tlG
    by_cases c : isW tp z p 9
    · rw [if_pos c]; exact eG k ld 1 a b _ (by omega) h8 hk hl (by omega) ha hb
    · rw [if_neg c]; exact eG k ld 0 a b _ hp h8 hk hl (by omega) ha hb
  unfold lineG
  by_cases t1 : ty tp z s = 1
  rotate_left
  · rw [if_neg t1]; exact ln_f
  rw [if_pos t1]
  by_cases c1 : 0 ≤ wd tp z s ∧ wd tp z s ≤ 5
  · rw [if_pos c1]
    unfold brgG
    by_cases c2 : e 4 = 8
    · rw [if_pos c2]; exact ln_f
    rw [if_neg c2]
    unfold atG
    by_cases c3 : isW tp z (nx tp z s) 6
    rotate_left
    · rw [if_neg c3]; exact ln_f
    rw [if_pos c3]
    by_cases c4 : isN tp z (nx tp z (nx tp z s)) 9
    rotate_left
    · rw [if_neg c4]; exact ln_f
    rw [if_pos c4]
    unfold bndG
    by_cases c5 : isW tp z (nx tp z (nx tp z (nx tp z s))) 7
    rotate_left
    · rw [if_neg c5]; exact ln_f
    rw [if_pos c5]
    by_cases c6 : isN tp z (nx tp z (nx tp z (nx tp z (nx tp z s)))) 9
    rotate_left
    · rw [if_neg c6]; exact ln_f
    rw [if_pos c6]
    have a4 := (nm_b c4.1).1
    have a6 := (nm_b c6.1).1
    unfold lodG
    by_cases c7 : isW tp z (nx tp z (nx tp z (nx tp z (nx tp z (nx tp z s))))) 8
    · rw [if_pos c7]
      by_cases c8 : isN tp z (nx tp z (nx tp z (nx tp z (nx tp z (nx tp z (nx tp z s)))))) 99
      · rw [if_pos c8]
        exact tG _ _ _ _ _ (by omega) (by omega) (by omega) c1 ⟨(nm_b c8.1).1, c8.2⟩ ⟨a4, c4.2⟩ ⟨a6, c6.2⟩
      · rw [if_neg c8]; exact ln_f
    · rw [if_neg c7]
      exact tG _ _ _ _ _ (by omega) (by omega) (by omega) c1 (by omega) ⟨a4, c4.2⟩ ⟨a6, c6.2⟩
  rw [if_neg c1]
  by_cases c2 : wd tp z s = 11
  · rw [if_pos c2]
    unfold noiG
    by_cases c4 : isN tp z (nx tp z s) 9
    rotate_left
    · rw [if_neg c4]; exact ln_f
    rw [if_pos c4]
    by_cases c5 : isW tp z (nx tp z (nx tp z s)) 10
    rotate_left
    · rw [if_neg c5]; exact ln_f
    rw [if_pos c5]
    by_cases c6 : isN tp z (nx tp z (nx tp z (nx tp z s))) 9
    rotate_left
    · rw [if_neg c6]; exact ln_f
    rw [if_pos c6]
    by_cases c7 : ty tp z (nx tp z (nx tp z (nx tp z (nx tp z s)))) = 3
    · rw [if_pos c7]
      have a4 := (nm_b c4.1).1
      exact fun _ => ⟨by show s ≤ nx tp z (nx tp z (nx tp z (nx tp z s))); omega, (ty_3.mp c7).1, w.noise (by have := c4.2; omega) ⟨(nm_b c6.1).1, c6.2⟩⟩
    · rw [if_neg c7]; exact ln_f
  rw [if_neg c2]
  by_cases c3 : 12 ≤ wd tp z s
  · rw [if_pos c3]
    unfold lawG
    by_cases c4 : isN tp z (nx tp z s) (if wd tp z s = 15 then 99 else 9)
    rotate_left
    · rw [if_neg c4]; exact ln_f
    rw [if_pos c4]
    by_cases c7 : ty tp z (nx tp z (nx tp z s)) = 3
    · rw [if_pos c7]
      refine fun _ => ⟨by show s ≤ nx tp z (nx tp z s); omega, (ty_3.mp c7).1, w.law2 (by omega) ⟨(nm_b c4.1).1, ?_⟩⟩
      have := c4.2
      by_cases q : wd tp z s = 15
      · rw [if_pos q] at this
        rw [if_pos (by omega)]
        exact this
      · rw [if_neg q] at this
        rw [if_neg (by omega)]
        exact this
    · rw [if_neg c7]; exact ln_f
  · rw [if_neg c3]; exact ln_f
