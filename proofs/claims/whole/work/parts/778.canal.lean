/-! ===== a canal afresh ===== -/
def fstE (e : Gh) : Gh := fun j => if j = 0 then 3 else if j = 1 then 2 else if j = 2 then 1 else if j = 3 then 20 else if j = 6 then e 6 else if 7 ≤ j ∧ j < 17 then 2 else 0
theorem fst_n {e : Gh} {j : Nat} (h : 7 ≤ j ∧ j < 17) : fstE e j = 2 := by
  unfold fstE
  rw [if_neg (by omega), if_neg (by omega), if_neg (by omega), if_neg (by omega), if_neg (by omega), if_pos h]
theorem fst_z {e : Gh} {j : Nat} (h : j = 4 ∨ j = 5 ∨ 17 ≤ j) : fstE e j = 0 := by
  unfold fstE
  rw [if_neg (by omega), if_neg (by omega), if_neg (by omega), if_neg (by omega), if_neg (by omega), if_neg (by omega)]
theorem Wf.fst {h : Int} {e : Gh} (hh : 0 ≤ h) : Wf h (fstE e) := by
  refine ⟨by rw [fst_z (by omega)]; omega, by show (0 : Int) ≤ 3 ∧ (3 : Int) ≤ 9; omega, by show (0 : Int) ≤ 2 ∧ (2 : Int) ≤ 9; omega, by show (0 : Int) ≤ 1 ∧ (1 : Int) ≤ 9; omega, by show (0 : Int) ≤ 20 ∧ (20 : Int) ≤ 99; omega, by rw [fst_z (by omega)]; omega, fun k hk => by rw [fst_n (by omega)]; omega, fun k hk => by rw [fst_z (by omega)]; omega, fun b hb => ?_⟩
  rw [fst_z (by omega)] at hb
  omega
theorem M_first_ok {m : MSt} {e : Gh} {post : MSt → Prop} (h6 : M_d m 6 = iI (e 6)) (hp : ∀ d, RelD d (fstE e) → post (M_d_ m d)) : wp_M_first m post := by
  have key : ∀ (n i : Nat) (d : Nat → Int32), i ≤ 67 → 67 - i < n → d 6 = iI (e 6) → (∀ k, k < i → 4 ≤ k → d k = iI (fstE e k)) → w_M_first_2 post n (M_d_ m d) (nI i) := by
    intro n
    induction n with
    | zero => intro i d _ h; omega
    | succ n ih =>
      intro i d hi hn h6 hd
      rw [w_M_first_2]
      refine t_le (a := 67) (b := i) rfl rfl (fun u => ?_) (fun u => ?_)
      · show post (M_d_ m (upd (upd (upd (upd d 0 3) 1 2) 2 1) 3 20))
        refine hp _ (fun k hk => ?_)
        by_cases k3 : k = 3
        · subst k3; rw [pk_us]; rfl
        rw [pk_un k3]
        by_cases k2 : k = 2
        · subst k2; rw [pk_us]; rfl
        rw [pk_un k2]
        by_cases k1 : k = 1
        · subst k1; rw [pk_us]; rfl
        rw [pk_un k1]
        by_cases k0 : k = 0
        · subst k0; rw [pk_us]; rfl
        rw [pk_un k0]
        exact hd k (by omega) (by omega)
      have vi : vp_in (nI i) 67 := vp_in_nI (by omega) (by omega)
      have go : ∀ (v : Int32), (i = 6 → v = iI (e 6)) → (4 ≤ i → v = iI (fstE e i)) → ∀ y : Int32, y = nI i + 1 → w_M_first_2 post n (M_d_ (M_d_ m d) (upd d i v)) y := by
        intro v v6 v4 y hy
        rw [hy, nI_1]
        show w_M_first_2 post n (M_d_ m (upd d i v)) (nI (i + 1))
        refine ih (i + 1) _ (by omega) (by omega) ?_ (fun k hk h4 => ?_)
        · by_cases q : 6 = i
          · rw [← q, pk_us]; exact v6 q.symm
          · rw [pk_un q]; exact h6
        · by_cases q : k = i
          · subst q; rw [pk_us]; exact v4 h4
          · rw [pk_un q]; exact hd k (by omega) h4
      refine t_eq (a := i) (b := 6) rfl rfl (fun u2 => ⟨vi, ?_⟩) (fun u2 => ?_)
      · have i6 : i = 6 := by omega
        subst i6
        refine go (d 6) (fun _ => h6) (fun _ => ?_)
        rw [h6]
        rfl
      refine t_lt (a := i) (b := 7) rfl rfl (fun u3 => ⟨vi, ?_⟩) (fun u3 => ?_)
      · rw [nI_clamp (by omega)]
        exact go 0 (fun q => by omega) (fun q => by rw [fst_z (by omega)]; rfl)
      refine t_le (a := 17) (b := i) rfl rfl (fun u4 => ⟨vi, ?_⟩) (fun u4 => ⟨vi, ?_⟩)
      · rw [nI_clamp (by omega)]
        exact go 0 (fun q => by omega) (fun q => by rw [fst_z (by omega)]; rfl)
      · rw [nI_clamp (by omega)]
        exact go 2 (fun q => by omega) (fun q => by rw [fst_n (by omega)]; rfl)
  unfold wp_M_first
  exact key 2000 0 (M_d m) (by omega) (by omega) h6 (fun k hk => by omega)
theorem C_clear_ok {c : CSt} {e : Gh} {post : CSt → Prop} (r : RelC c e) (s : C_heldBack c = iI (-1)) (hp : ∀ c', RelC c' (fstE e) → C_heldBack c' = iI (-1) → post c') : wp_C_clearAllButDraws c post := by
  unfold wp_C_clearAllButDraws
  refine JA_fill_ok (by omega) (fun g1 h1 => ?_)
  refine JA_fill_ok (by omega) (fun g2 h2 => ?_)
  refine hp _ ⟨fun k hk => ?_, fun k hk => ?_, fun k hk => ?_, ?_, ?_, ?_, fun b hb => ?_⟩ s
  · show va_cpy (fun j => tbFirst.getD j 0) (C_laws c) 0 0 4 k = _
    rw [cpy_in hk]
    have : k = 0 ∨ k = 1 ∨ k = 2 ∨ k = 3 := by omega
    rcases this with q | q | q | q <;> subst q <;> rfl
  · show g1 k = _
    rw [h1 k hk, fst_n (by omega)]
    rfl
  · show g2 k = _
    rw [h2 k hk, fst_z (by omega)]
    rfl
  · rw [fst_z (by omega)]; rfl
  · rw [fst_z (by omega)]; rfl
  · show C_z c = _
    rw [r.2.2.2.2.2.1]
    rfl
  · rw [fst_z (by omega)] at hb
    omega
theorem T_into_ok {t : TSt} {tp : Nat → Int} {z : Nat} (hz : T_size t = nI z) (H : TP (T_bytes t) z tp) {h : Int} {c : CSt} {e : Gh} {post : Int32 → (TSt × CSt) → Prop} (r : RelC c e) (w : Wf h e) (sc : C_heldBack c = iI (-1)) (k1 : (allG tp z 201 e (rn tp z bS 0)).1 = true → Wf h (allG tp z 201 e (rn tp z bS 0)).2.2 → ∀ t' c', RelC c' (allG tp z 201 e (rn tp z bS 0)).2.2 → C_heldBack c' = iI (-1) → post (-1) (t', c')) (k0 : (allG tp z 201 e (rn tp z bS 0)).1 = false → (allG tp z 201 e (rn tp z bS 0)).2.1 ≤ z → ∀ t' c', post (nI (allG tp z 201 e (rn tp z bS 0)).2.1) (t', c')) : wp_T_readInto (t, c) post := by
  obtain ⟨b, sz, so, st, en0⟩ := t
  have hz2 : sz = nI z := hz
  subst hz2
  have z200 := H.1
  unfold wp_T_readInto wp_T_step
  show w_T_step_8 _ 2000 (b, nI z, so, nI 0, 0)
  refine T_step8 H 2000 0 (by omega) (by omega) ?_
  have rb := rn_ok (tp := tp) (z := z) (P := bS) (p := 0) (by omega)
  exact X_all H 2000 201 0 e (rn tp z bS 0) c rb.2.1 (by omega) (by omega) (by omega) (by omega) r w sc (fun a1 a2 c' a3 a4 => k1 a1 a2 _ c' a3 a4) (fun a1 a2 c' => k0 a1 a2 _ c')
theorem l_canal {h : Int} {x : XSt} {m : MSt} {a1 a2 a3 a4 : Int32} {K : XSt → MSt → Prop} (hh : 0 ≤ h) (n : Now h x m) (tpx : TpX x m) (f0 : ∀ (c : CSt) (t : TSt) (a b tk v w : Int32), T_size t = 0 → K (X_tape_ (X_tried_ x c) t) (M_taped_ (mT m a b tk v w) 0)) (f1 : ∀ (c c2 : CSt) (t : TSt) (d : Nat → Int32) (a b tk v w : Int32) (e : Gh), T_size t = 0 → Wf h e → RelC c e → C_heldBack c = iI (-1) → RelD d e → K (X_rowCount_ (X_tape_ (X_tried_ (X_now_ x c) c2) t) 0) (M_taped_ (M_rows_ (mT (M_d_ m d) a b tk v w) 0) 0)) : wpl_canal x m a1 a2 a3 a4 K := by
  obtain ⟨⟨z, hz, tp, t1, t2, t3⟩, wds⟩ := tpx
  obtain ⟨e, w, r, s, q, t⟩ := n
  have HT : TP (T_bytes (X_tape x)) z tp := ⟨hz, fun j hj => ⟨(t3 j hj).1, (t3 j hj).2.1⟩⟩
  have HM : MP m z tp := ⟨hz, t2, wds, fun j hj => ⟨(t3 j hj).1, (t3 j hj).2.2⟩⟩
  have wf := Wf.fst (e := e) hh
  have rb := rn_ok (tp := tp) (z := z) (P := bS) (p := 0) (by omega)
  have e4 : fstE e 4 = 0 := fst_z (by omega)
  unfold wpl_canal wp_X_canal
  refine C_copy_ok r w (fun c1 r1 s1 => ?_)
  refine C_clear_ok r1 s1 (fun c2 r2 s2 => ?_)
  -- the reference's readings
  have rd : ∀ (ap : Bool) (d0 d : Nat → Int32) (m' : MSt) (b tk v w' : Int32) (post : Int32 → MSt → Prop), M_at_ m' 0 = mT (M_d_ m d) 0 b tk v w' → DR ap d0 d (fstE e) → ((allG tp z 201 (fstE e) (rn tp z bS 0)).1 = true → ∀ w' d', DR ap d0 d' (allG tp z 201 (fstE e) (rn tp z bS 0)).2.2 → post 1 (mK (M_d_ m d') z tp (allG tp z 201 (fstE e) (rn tp z bS 0)).2.1 w')) → ((allG tp z 201 (fstE e) (rn tp z bS 0)).1 = false → ∀ w' d', (ap = false → d' = d0) → post 0 (mK (M_d_ m d') z tp (allG tp z 201 (fstE e) (rn tp z bS 0)).2.1 w')) → wp_M_readsAll m' (bI ap) post := by
    intro ap d0 d m' b tk v w' post hm hd k1 k0
    unfold wp_M_readsAll
    rw [hm]
    have := M_all HM (ap := ap) (d0 := d0) (post := post) 2000 201 (fstE e) 0 (rn tp z bS 0) d b tk v w' (by omega) rfl (by omega) (by omega) wf hd k1 k0
    rw [e4] at this
    exact this
  have at0 : M_at_ m 0 = mT (M_d_ m (M_d m)) 0 (M_begun m) (M_token m) (M_value m) (M_told m) := by
    unfold mT
    dsimp only [M_d_, M_d, M_begun, M_token, M_value, M_told, M_at_, M_begun_, M_token_, M_value_, M_told_]
  have md : M_d_ m (M_d m) = m := rfl
  have beg : ∀ (m' : MSt) (s : Nat) (w' : Int32), M_begun (mK m' z tp s w') = nI s := by
    intro m' s w'
    unfold mK
    rw [mT_begun]
  refine T_into_ok t1 HT r2 wf s2 (fun a1 a2 t' c' a3 a4 => ?_) (fun a1 a2 t' c' => ?_)
  · refine ifp (by decide) ?_
    refine C_copy_ok a3 a2 (fun c5 r5 s5 => ?_)
    unfold wp_M_canal
    refine rd false (M_d m) (M_d m) m _ _ _ _ _ at0 rfl (fun _ w1 d1 hd1 => if1 ?_) (fun b1 => absurd (a1.symm.trans b1) (by decide))
    have hd2 : d1 = M_d m := hd1
    subst hd2
    rw [md]
    have h6 : M_d (mK m z tp (allG tp z 201 (fstE e) (rn tp z bS 0)).2.1 w1) 6 = iI (e 6) := by
      rw [mK_d]
      exact q 6 (by omega)
    refine M_first_ok h6 (fun d2 q2 => ?_)
    rw [mK_d_]
    have at1 : M_at_ (mK (M_d_ m d2) z tp (allG tp z 201 (fstE e) (rn tp z bS 0)).2.1 w1) 0 = mT (M_d_ m d2) 0 (nI (allG tp z 201 (fstE e) (rn tp z bS 0)).2.1) (nI (ty tp z (allG tp z 201 (fstE e) (rn tp z bS 0)).2.1)) (iI (vl tp z (allG tp z 201 (fstE e) (rn tp z bS 0)).2.1)) w1 := by
      unfold mK
      rw [mT_at_]
    refine rd true (M_d m) d2 _ _ _ _ _ _ at1 q2 (fun _ w3 d3 hd3 => ?_) (fun b1 => absurd (a1.symm.trans b1) (by decide))
    have q3 : RelD d3 (allG tp z 201 (fstE e) (rn tp z bS 0)).2.2 := hd3
    unfold w_M_canal_30
    refine if1 ⟨?_, ?_⟩
    · have e1 : M_d (M_rows_ (mK (M_d_ m d3) z tp (allG tp z 201 (fstE e) (rn tp z bS 0)).2.1 w3) 0) = d3 := by
        unfold mK
        rw [mT_rows_]
        rw [mT_d]
        rfl
      rw [e1, q3 4 (by omega)]
      exact r5.2.2.2.1
    · unfold mK
      exact f1 c5 c' (T_size_ t' 0) d3 _ _ _ _ _ _ rfl a2 r5 s5 q3
  · refine t_lt (a := (allG tp z 201 (fstE e) (rn tp z bS 0)).2.1) (b := 0) rfl rfl (fun u => by omega) (fun _ => ?_)
    unfold wp_M_canal
    refine rd false (M_d m) (M_d m) m _ _ _ _ _ at0 rfl (fun b1 => absurd (a1.symm.trans b1) (by decide)) (fun _ w1 d1 hd1 => if0 ?_)
    have hd2 : d1 = M_d m := hd1 rfl
    subst hd2
    rw [md]
    unfold w_M_canal_30
    refine if0 ⟨?_, ?_⟩
    · rw [beg]
    · unfold mK
      exact f0 c' (T_size_ t' 0) _ _ _ _ _ rfl
