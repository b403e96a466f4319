/-! ===== a line of the text ===== -/
abbrev isW (tp : Nat → Int) (z s k : Nat) : Prop := ty tp z s = 1 ∧ wd tp z s = k
abbrev isN (tp : Nat → Int) (z s : Nat) (most : Int) : Prop := ty tp z s = 2 ∧ nm tp z s ≤ most
abbrev PR : Type := Bool × Nat × Gh
def endG (tp : Nat → Int) (z : Nat) (e : Gh) (k ld o a b : Int) (s : Nat) : PR := if ty tp z s = 3 then (true, s, addS e k ld o a b) else (false, s, e)
def tlG (tp : Nat → Int) (z : Nat) (e : Gh) (k ld a b : Int) (s : Nat) : PR := if isW tp z s 9 then endG tp z e k ld 1 a b (nx tp z s) else endG tp z e k ld 0 a b s
def lodG (tp : Nat → Int) (z : Nat) (e : Gh) (k a b : Int) (s : Nat) : PR := if isW tp z s 8 then (if isN tp z (nx tp z s) 99 then tlG tp z e k (nm tp z (nx tp z s)) a b (nx tp z (nx tp z s)) else (false, nx tp z s, e)) else tlG tp z e k 50 a b s
def bndG (tp : Nat → Int) (z : Nat) (e : Gh) (k a : Int) (s : Nat) : PR := if isW tp z s 7 then (if isN tp z (nx tp z s) 9 then lodG tp z e k a (nm tp z (nx tp z s)) (nx tp z (nx tp z s)) else (false, nx tp z s, e)) else (false, s, e)
def atG (tp : Nat → Int) (z : Nat) (e : Gh) (k : Int) (s : Nat) : PR := if isW tp z s 6 then (if isN tp z (nx tp z s) 9 then bndG tp z e k (nm tp z (nx tp z s)) (nx tp z (nx tp z s)) else (false, nx tp z s, e)) else (false, s, e)
def brgG (tp : Nat → Int) (z : Nat) (e : Gh) (k : Int) (s : Nat) : PR := if e 4 = 8 then (false, s, e) else atG tp z e k (nx tp z s)
def lawG (tp : Nat → Int) (z : Nat) (e : Gh) (l : Nat) (most : Int) (s : Nat) : PR := if isN tp z (nx tp z s) most then (if ty tp z (nx tp z (nx tp z s)) = 3 then (true, nx tp z (nx tp z s), uE e l (nm tp z (nx tp z s))) else (false, nx tp z (nx tp z s), e)) else (false, nx tp z s, e)
def noiG (tp : Nat → Int) (z : Nat) (e : Gh) (s : Nat) : PR := if isN tp z (nx tp z s) 9 then (if isW tp z (nx tp z (nx tp z s)) 10 then (if isN tp z (nx tp z (nx tp z (nx tp z s))) 9 then (if ty tp z (nx tp z (nx tp z (nx tp z (nx tp z s)))) = 3 then (true, nx tp z (nx tp z (nx tp z (nx tp z s))), uE e (7 + (nm tp z (nx tp z s)).toNat) (nm tp z (nx tp z (nx tp z (nx tp z s))))) else (false, nx tp z (nx tp z (nx tp z (nx tp z s))), e)) else (false, nx tp z (nx tp z (nx tp z s)), e)) else (false, nx tp z (nx tp z s), e)) else (false, nx tp z s, e)
def lineG (tp : Nat → Int) (z : Nat) (e : Gh) (s : Nat) : PR := if ty tp z s = 1 then (if 0 ≤ wd tp z s ∧ wd tp z s ≤ 5 then brgG tp z e (wd tp z s) s else if wd tp z s = 11 then noiG tp z e s else if 12 ≤ wd tp z s then lawG tp z e (wd tp z s - 12).toNat (if wd tp z s = 15 then 99 else 9) s else (false, s, e)) else (false, s, e)
/-! the class -/
def XQ (b : Nat → Int32) (tp : Nat → Int) (z : Nat) (h : Int) (post : Int32 → (TSt × CSt) → Prop) (r : PR) : Prop := (r.1 = true → r.2.1 ≤ z → Wf h r.2.2 → ∀ c', RelC c' r.2.2 → C_heldBack c' = iI (-1) → post 1 (tS b z tp (nx tp z r.2.1), c')) ∧ (r.1 = false → ∀ c', post 0 (tS b z tp r.2.1, c'))
theorem nxz {tp : Nat → Int} {z s : Nat} (h : s ≤ z) : nx tp z s ≤ z := (nx_le h).2.1
theorem X_110 {b : Nat → Int32} {tp : Nat → Int} {z : Nat} (H : TP b z tp) {h : Int} {post : Int32 → (TSt × CSt) → Prop} {c : CSt} {e : Gh} {k ld o a d : Int} {s : Nat} (hs : s ≤ z) (r : RelC c e) (w : Wf h e) (sc : C_heldBack c = iI (-1)) (h8 : e 4 < 8) (hk : 0 ≤ k ∧ k ≤ 5) (hl : 0 ≤ ld ∧ ld ≤ 99) (ho : 0 ≤ o ∧ o ≤ 1) (ha : 0 ≤ a ∧ a ≤ 9) (hd : 0 ≤ d ∧ d ≤ 9) (Q : XQ b tp z h post (endG tp z e k ld o a d s)) : w_T_readBarge_110 post (tS b z tp s, c) (iI k) (iI a) (iI d) (iI ld) (iI o) := by
  unfold w_T_readBarge_110
  unfold endG at Q
  refine T_eol_ok H hs (fun u => if1 ?_) (fun u => if0 ?_)
  · rw [if_pos u] at Q
    have t : ∀ v : Int, 0 ≤ v ∧ v ≤ 99 → (iI v).toInt = v := fun v hv => iI_toInt (by omega) (by omega)
    refine C_addS_ok r w h8 (fun c1 r1 s1 => ?_)
    rw [t k (by omega), t ld hl, t o (by omega), t a (by omega), t d (by omega)] at r1
    exact Q.1 rfl hs (w.addO h8 hk hl ho ha hd) c1 r1 (s1.trans sc)
  · rw [if_neg u] at Q
    exact Q.2 rfl c
theorem X_87 {b : Nat → Int32} {tp : Nat → Int} {z : Nat} (H : TP b z tp) {h : Int} {post : Int32 → (TSt × CSt) → Prop} {c : CSt} {e : Gh} {k ld a d : Int} {s : Nat} (hs : s ≤ z) (r : RelC c e) (w : Wf h e) (sc : C_heldBack c = iI (-1)) (h8 : e 4 < 8) (hk : 0 ≤ k ∧ k ≤ 5) (hl : 0 ≤ ld ∧ ld ≤ 99) (ha : 0 ≤ a ∧ a ≤ 9) (hd : 0 ≤ d ∧ d ≤ 9) (Q : XQ b tp z h post (tlG tp z e k ld a d s)) : w_T_readBarge_87 post (tS b z tp s, c) (iI k) (iI a) (iI d) (iI ld) := by
  unfold w_T_readBarge_87
  unfold tlG at Q
  refine t_le (a := 0) (b := ld) rfl rfl (fun _ => ?_) (fun u => by omega)
  refine T_take_ok H hs (by omega) (fun u1 u2 => if1 ?_) (fun u => if0 ?_)
  · rw [if_pos ⟨u1, u2⟩] at Q
    exact X_110 (o := 1) H (nxz hs) r w sc h8 hk hl (by omega) ha hd Q
  · rw [if_neg u] at Q
    exact X_110 (o := 0) H hs r w sc h8 hk hl (by omega) ha hd Q
theorem X_58 {b : Nat → Int32} {tp : Nat → Int} {z : Nat} (H : TP b z tp) {h : Int} {post : Int32 → (TSt × CSt) → Prop} {c : CSt} {e : Gh} {k a d : Int} {s : Nat} (hs : s ≤ z) (r : RelC c e) (w : Wf h e) (sc : C_heldBack c = iI (-1)) (h8 : e 4 < 8) (hk : 0 ≤ k ∧ k ≤ 5) (ha : 0 ≤ a ∧ a ≤ 9) (hd : 0 ≤ d ∧ d ≤ 9) (Q : XQ b tp z h post (lodG tp z e k a d s)) : w_T_readBarge_58 post (tS b z tp s, c) (iI k) (iI a) (iI d) := by
  unfold w_T_readBarge_58
  unfold lodG at Q
  refine t_le (a := 0) (b := d) rfl rfl (fun _ => ?_) (fun u => by omega)
  refine T_take_ok H hs (by omega) (fun u1 u2 => if1 ?_) (fun u => if0 ?_)
  · rw [if_pos ⟨u1, u2⟩] at Q
    refine T_num_ok (most := 99) H (nxz hs) (by omega) (fun v1 v2 => ?_) (fun v => ?_)
    · rw [if_pos ⟨v1, v2⟩] at Q
      exact X_87 H (nxz (nxz hs)) r w sc h8 hk ⟨(nm_b v1).1, v2⟩ ha hd Q
    · rw [if_neg v] at Q
      unfold w_T_readBarge_87
      exact ifn (by decide) (Q.2 rfl c)
  · rw [if_neg u] at Q
    exact X_87 (ld := 50) H hs r w sc h8 hk (by omega) ha hd Q
theorem X_34 {b : Nat → Int32} {tp : Nat → Int} {z : Nat} (H : TP b z tp) {h : Int} {post : Int32 → (TSt × CSt) → Prop} {c : CSt} {e : Gh} {k a : Int} {s : Nat} (hs : s ≤ z) (r : RelC c e) (w : Wf h e) (sc : C_heldBack c = iI (-1)) (h8 : e 4 < 8) (hk : 0 ≤ k ∧ k ≤ 5) (ha : 0 ≤ a ∧ a ≤ 9) (Q : XQ b tp z h post (bndG tp z e k a s)) : w_T_readBarge_34 post (tS b z tp s, c) (iI k) (iI a) := by
  unfold w_T_readBarge_34
  unfold bndG at Q
  refine t_lt (a := a) (b := 0) rfl rfl (fun u => by omega) (fun _ => ?_)
  refine T_take_ok H hs (by omega) (fun u1 u2 => if1 ?_) (fun u => if0 ?_)
  · rw [if_pos ⟨u1, u2⟩] at Q
    refine T_num_ok (most := 9) H (nxz hs) (by omega) (fun v1 v2 => ?_) (fun v => ?_)
    · rw [if_pos ⟨v1, v2⟩] at Q
      exact X_58 H (nxz (nxz hs)) r w sc h8 hk ha ⟨(nm_b v1).1, v2⟩ Q
    · rw [if_neg v] at Q
      unfold w_T_readBarge_58
      exact ifn (by decide) (Q.2 rfl c)
  · rw [if_neg u] at Q
    unfold w_T_readBarge_58
    exact ifn (by decide) (Q.2 rfl c)
theorem X_brg {b : Nat → Int32} {tp : Nat → Int} {z : Nat} (H : TP b z tp) {h : Int} {post : Int32 → (TSt × CSt) → Prop} {c : CSt} {e : Gh} {k : Int} {s : Nat} (hs : s ≤ z) (r : RelC c e) (w : Wf h e) (sc : C_heldBack c = iI (-1)) (hk : 0 ≤ k ∧ k ≤ 5) (Q : XQ b tp z h post (brgG tp z e k s)) : wp_T_readBarge (tS b z tp s, c) (iI k) post := by
  have w4 := w.1
  unfold wp_T_readBarge
  unfold brgG at Q
  refine t_lt (a := e 4) (b := 8) r.2.2.2.1 rfl (fun h8 => ?_) (fun h8 => ?_)
  · rw [if_neg (by omega)] at Q
    unfold atG at Q
    refine T_step_ok H hs ?_
    have hs1 := nxz (tp := tp) hs
    refine T_take_ok H hs1 (by omega) (fun u1 u2 => if1 ?_) (fun u => if0 ?_)
    · rw [if_pos ⟨u1, u2⟩] at Q
      refine T_num_ok (most := 9) H (nxz hs1) (by omega) (fun v1 v2 => ?_) (fun v => ?_)
      · rw [if_pos ⟨v1, v2⟩] at Q
        exact X_34 H (nxz (nxz hs1)) r w sc h8 hk ⟨(nm_b v1).1, v2⟩ Q
      · rw [if_neg v] at Q
        unfold w_T_readBarge_34 w_T_readBarge_58
        exact ifp (by decide) (ifn (by decide) (Q.2 rfl c))
    · rw [if_neg u] at Q
      unfold w_T_readBarge_34 w_T_readBarge_58
      exact ifp (by decide) (ifn (by decide) (Q.2 rfl c))
  · rw [if_pos (by omega)] at Q
    exact Q.2 rfl c
theorem Wf.law2 {h : Int} {e : Gh} (w : Wf h e) {l : Nat} (hl : l < 4) {v : Int} (hv : 0 ≤ v ∧ v ≤ if l = 3 then 99 else 9) : Wf h (uE e l v) := by
  have four : l = 0 ∨ l = 1 ∨ l = 2 ∨ l = 3 := by omega
  unfold Wf bgE at *
  obtain ⟨a0, a1, a2, a3, a4, a5, a6, a7, a8⟩ := w
  have u : ∀ j, 4 ≤ j → uE e l v j = e j := fun j hj => uE_n (by omega)
  have f : ∀ j M, j < 4 → (0 ≤ e j ∧ e j ≤ M) → (l = j → v ≤ M) → 0 ≤ uE e l v j ∧ uE e l v j ≤ M := by
    intro j M hj hM hvM
    by_cases q : j = l
    · subst q; rw [uE_s]; exact ⟨hv.1, hvM rfl⟩
    · rw [uE_n q]; exact hM
  refine ⟨by rw [u 4 (by omega)]; exact a0, f 0 9 (by omega) a1 (fun q => ?_), f 1 9 (by omega) a2 (fun q => ?_), f 2 9 (by omega) a3 (fun q => ?_), f 3 99 (by omega) a4 (fun q => ?_), by rw [u 5 (by omega)]; exact a5, fun j hj => by rw [u _ (by omega)]; exact a6 j hj, fun j hj => by rw [u _ (by omega)]; exact a7 j hj, fun j hj => ?_⟩
  · have := hv.2; rw [if_neg (by omega)] at this; exact this
  · have := hv.2; rw [if_neg (by omega)] at this; exact this
  · have := hv.2; rw [if_neg (by omega)] at this; exact this
  · have := hv.2; rw [if_pos q] at this; exact this
  · rw [u 4 (by omega)] at hj
    rw [u _ (by omega), u _ (by omega), u _ (by omega), u _ (by omega), u _ (by omega)]
    exact a8 j hj
theorem X_law {b : Nat → Int32} {tp : Nat → Int} {z : Nat} (H : TP b z tp) {h : Int} {post : Int32 → (TSt × CSt) → Prop} {c : CSt} {e : Gh} {l s : Nat} (hs : s ≤ z) (r : RelC c e) (w : Wf h e) (sc : C_heldBack c = iI (-1)) (hl : l < 4) (Q : XQ b tp z h post (lawG tp z e l (if l = 3 then 99 else 9) s)) : wp_T_readLaw (tS b z tp (nx tp z s), c) (nI l) post := by
  unfold wp_T_readLaw
  unfold lawG at Q
  have hs1 := nxz (tp := tp) hs
  refine X_isLaw_ok (fun _ => if1 ?_) (fun q => absurd ⟨by rw [nI_toInt (by omega)]; omega, by rw [nI_toInt (by omega)]; omega⟩ q)
  refine ⟨vp_in_nI (by omega) (by omega), ?_⟩
  have em : tbMost.getD (nI l).toNatClampNeg 0 = iI (if l = 3 then 99 else 9) := by
    rw [nI_clamp (by omega)]
    have : l = 0 ∨ l = 1 ∨ l = 2 ∨ l = 3 := by omega
    rcases this with q | q | q | q <;> subst q <;> rfl
  rw [em]
  have mb : 0 ≤ (if l = 3 then (99 : Int) else 9) ∧ (if l = 3 then (99 : Int) else 9) ≤ 99 := by split <;> omega
  refine T_num_ok (most := if l = 3 then 99 else 9) H hs1 mb (fun v1 v2 => ?_) (fun v => ?_)
  · have nb := nm_b v1
    rw [if_pos ⟨v1, v2⟩] at Q
    refine t_lt (a := nm tp z (nx tp z s)) (b := 0) rfl rfl (fun q => by omega) (fun _ => ?_)
    refine T_eol_ok H (nxz hs1) (fun u => if1 ?_) (fun u => if0 ?_)
    · rw [if_pos u] at Q
      refine ⟨vp_in_nI (by omega) (by omega), ?_⟩
      rw [nI_clamp (by omega)]
      exact Q.1 rfl (nxz hs1) (w.law2 hl ⟨nb.1, v2⟩) _ (r.laws hl w.1.2 _) sc
    · rw [if_neg u] at Q
      exact Q.2 rfl c
  · rw [if_neg v] at Q
    exact ifp (by decide) (Q.2 rfl c)
theorem X_noi {b : Nat → Int32} {tp : Nat → Int} {z : Nat} (H : TP b z tp) {h : Int} {post : Int32 → (TSt × CSt) → Prop} {c : CSt} {e : Gh} {s : Nat} (hs : s ≤ z) (r : RelC c e) (w : Wf h e) (sc : C_heldBack c = iI (-1)) (Q : XQ b tp z h post (noiG tp z e s)) : wp_T_readNoise (tS b z tp (nx tp z s), c) post := by
  unfold wp_T_readNoise
  unfold noiG at Q
  have hs1 := nxz (tp := tp) hs
  have hs2 := nxz (tp := tp) hs1
  have hs3 := nxz (tp := tp) hs2
  refine T_num_ok (most := 9) H hs1 (by omega) (fun v1 v2 => ?_) (fun v => ?_)
  rotate_left
  · rw [if_neg v] at Q
    unfold w_T_readNoise_30
    exact ifp (by decide) (ifp (by decide) (Q.2 rfl c))
  have nb := nm_b v1
  rw [if_pos ⟨v1, v2⟩] at Q
  refine t_lt (a := nm tp z (nx tp z s)) (b := 0) rfl rfl (fun q => by omega) (fun _ => ?_)
  refine T_take_ok H hs2 (by omega) (fun u1 u2 => if1 ?_) (fun u => if0 ?_)
  rotate_left
  · rw [if_neg u] at Q
    unfold w_T_readNoise_30
    exact ifp (by decide) (Q.2 rfl c)
  rw [if_pos ⟨u1, u2⟩] at Q
  refine T_num_ok (most := 9) H hs3 (by omega) (fun x1 x2 => ?_) (fun x => ?_)
  rotate_left
  · rw [if_neg x] at Q
    unfold w_T_readNoise_30
    exact ifp (by decide) (Q.2 rfl c)
  have nb2 := nm_b x1
  rw [if_pos ⟨x1, x2⟩] at Q
  unfold w_T_readNoise_30
  refine t_lt (a := nm tp z (nx tp z (nx tp z (nx tp z s)))) (b := 0) rfl rfl (fun q => by omega) (fun _ => ?_)
  refine X_lock_ok (fun _ => if1 ?_) (fun q => absurd ⟨by rw [iI_toInt (by omega) (by omega)]; omega, by rw [iI_toInt (by omega) (by omega)]; omega⟩ q)
  refine T_eol_ok H (nxz hs3) (fun u => if1 ?_) (fun u => if0 ?_)
  · rw [if_pos u] at Q
    rw [iI_nat nb.1]
    refine ⟨vp_in_nI (by omega) (by omega), ?_⟩
    rw [nI_clamp (by omega)]
    exact Q.1 rfl (nxz hs3) (w.noise (by omega) ⟨nb2.1, x2⟩) _ (r.noise (by omega) w.1.2 _) sc
  · rw [if_neg u] at Q
    exact Q.2 rfl c
theorem X_line {b : Nat → Int32} {tp : Nat → Int} {z : Nat} (H : TP b z tp) {h : Int} {post : Int32 → (TSt × CSt) → Prop} {c : CSt} {e : Gh} {s : Nat} (hs : s ≤ z) (r : RelC c e) (w : Wf h e) (sc : C_heldBack c = iI (-1)) (Q : XQ b tp z h post (lineG tp z e s)) : wp_T_readLine (tS b z tp s, c) post := by
  have wb := wd_b tp z s
  have QB : XQ b tp z h (fun v20 p_21 => narrow .boolean (.int v20) = .int v20 ∧ post v20 (p_21.1, p_21.2)) (lineG tp z e s) := ⟨fun a1 a2 a3 c' a4 a5 => ⟨nb1, Q.1 a1 a2 a3 c' a4 a5⟩, fun a1 c' => ⟨nb0, Q.2 a1 c'⟩⟩
  have l34 : ∀ (n i : Nat), i ≤ 4 → 4 - i < n → ¬ (ty tp z s = 1 ∧ (0 ≤ wd tp z s ∧ wd tp z s ≤ 5)) → (∀ j, j < i → ¬ isW tp z s (12 + j)) → w_T_readLine_34 post n (tS b z tp s, c) (nI i) := by
    intro n
    induction n with
    | zero => intro i _ h; omega
    | succ n ih =>
      intro i hi hn nk nl
      rw [w_T_readLine_34]
      refine t_le (a := 4) (b := i) rfl rfl (fun u => ?_) (fun u => ?_)
      · refine T_take_ok H hs (by omega) (fun u1 u2 => if1 ?_) (fun u => if0 ?_)
        · have QN : XQ b tp z h (fun v3 p_4 => ((v3 = 0) → (post 0 (p_4.1, p_4.2))) ∧ ((¬ v3 = 0) → (post 1 (p_4.1, p_4.2)))) (noiG tp z e s) := by
            have e1 : lineG tp z e s = noiG tp z e s := by
              unfold lineG
              rw [if_pos u1, if_neg (by omega), if_pos (by omega)]
            rw [e1] at Q
            exact ⟨fun a1 a2 a3 c' a4 a5 => if1 (Q.1 a1 a2 a3 c' a4 a5), fun a1 c' => if0 (Q.2 a1 c')⟩
          exact X_noi H hs r w sc QN
        · have e1 : lineG tp z e s = (false, s, e) := by
            unfold lineG
            by_cases t1 : ty tp z s = 1
            · rw [if_pos t1, if_neg (fun q => nk ⟨t1, q⟩), if_neg (fun q => u ⟨t1, by omega⟩)]
              rw [if_neg]
              intro q
              refine nl (wd tp z s - 12).toNat (by omega) ⟨t1, by omega⟩
            · rw [if_neg t1]
          rw [e1] at Q
          exact Q.2 rfl c
      · unfold wp_T_lawName
        have fin : wp_T_takeName (tS b z tp s) (12 + i) (fun v8 c_9 => ((v8 = 0) → (∀ y10 : Int32, y10 = nI i + 1 → (w_T_readLine_34 post n (c_9, c) y10))) ∧ ((¬ v8 = 0) → (wp_T_readLaw (c_9, c) (nI i) (fun v11 p_12 => narrow .boolean (.int v11) = .int v11 ∧ post v11 (p_12.1, p_12.2))))) := by
          refine T_take_ok H hs (by omega) (fun u1 u2 => if1 ?_) (fun u => if0 ?_)
          · have e1 : lineG tp z e s = lawG tp z e i (if i = 3 then 99 else 9) s := by
              unfold lineG
              rw [if_pos u1, if_neg (by omega), if_neg (by omega), if_pos (by omega), show (wd tp z s - 12).toNat = i by omega]
              congr 1
              by_cases q : i = 3
              · rw [if_pos q, if_pos (by omega)]
              · rw [if_neg q, if_neg (by omega)]
            rw [e1] at QB
            exact X_law H hs r w sc (by omega) QB
          · intro y hy
            rw [hy, nI_1]
            refine ih (i + 1) (by omega) (by omega) nk (fun j hj => ?_)
            by_cases q : j = i
            · subst q; exact u
            · exact nl j (by omega)
        have four : i = 0 ∨ i = 1 ∨ i = 2 ∨ i = 3 := by omega
        rcases four with q | q | q | q <;> subst q
        · exact ifp rfl fin
        · exact ifn (by decide) (ifp rfl fin)
        · exact ifn (by decide) (ifn (by decide) (ifp rfl fin))
        · exact ifn (by decide) (ifn (by decide) (ifn (by decide) fin))
  have l2 : ∀ (n i : Nat), i ≤ 6 → 6 - i < n → (∀ j, j < i → ¬ isW tp z s j) → w_T_readLine_2 post n (tS b z tp s, c) (nI i) := by
    intro n
    induction n with
    | zero => intro i _ h; omega
    | succ n ih =>
      intro i hi hn nl
      rw [w_T_readLine_2]
      refine t_le (a := 6) (b := i) rfl rfl (fun u => ?_) (fun u => ?_)
      · refine l34 2000 0 (by omega) (by omega) (fun q => ?_) (fun j hj => by omega)
        exact nl (wd tp z s).toNat (by omega) ⟨q.1, by omega⟩
      · unfold wp_T_kindName
        have fin : wp_T_isName (tS b z tp s) i (fun v17 c_18 => ((v17 = 0) → (∀ y19 : Int32, y19 = nI i + 1 → (w_T_readLine_2 post n (c_18, c) y19))) ∧ ((¬ v17 = 0) → (wp_T_readBarge (c_18, c) (nI i) (fun v20 p_21 => narrow .boolean (.int v20) = .int v20 ∧ post v20 (p_21.1, p_21.2))))) := by
          refine T_isName_ok H hs (by omega) (fun u1 u2 => if1 ?_) (fun u => if0 ?_)
          · have e1 : lineG tp z e s = brgG tp z e i s := by
              unfold lineG
              rw [if_pos u1, if_pos (by omega), u2]
            rw [e1] at QB
            exact X_brg (k := (i : Int)) H hs r w sc (by omega) QB
          · intro y hy
            rw [hy, nI_1]
            refine ih (i + 1) (by omega) (by omega) (fun j hj => ?_)
            by_cases q : j = i
            · subst q; exact u
            · exact nl j (by omega)
        have sx : i = 0 ∨ i = 1 ∨ i = 2 ∨ i = 3 ∨ i = 4 ∨ i = 5 := by omega
        rcases sx with q | q | q | q | q | q <;> subst q
        · exact ifn (by decide) (ifn (by decide) (ifn (by decide) (ifn (by decide) (ifn (by decide) fin))))
        · exact ifp rfl fin
        · exact ifn (by decide) (ifp rfl fin)
        · exact ifn (by decide) (ifn (by decide) (ifp rfl fin))
        · exact ifn (by decide) (ifn (by decide) (ifn (by decide) (ifp rfl fin)))
        · exact ifn (by decide) (ifn (by decide) (ifn (by decide) (ifn (by decide) (ifp rfl fin))))
  unfold wp_T_readLine
  exact l2 2000 0 (by omega) (by omega) (fun j hj => by omega)
