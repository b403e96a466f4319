def sg (v : Int) : Int := if v < 128 then v else v - 256
def tvN (L : Int64) (s : Nat) : Nat := L.toBitVec.toNat / 2 ^ s % 256
theorem tv_bit (L : Int64) (s i : Nat) (hi : i < 8) : (tvN L s).testBit i = L.toBitVec.getLsbD (s + i) := by
  unfold tvN
  rw [show (256 : Nat) = 2 ^ 8 from rfl, Nat.testBit_mod_two_pow, ← Nat.shiftRight_eq_div_pow, Nat.testBit_shiftRight]
  simp [hi, BitVec.getLsbD]
theorem tv_lt (L : Int64) (s : Nat) : tvN L s < 256 := Nat.mod_lt _ (by decide)
theorem feed_m (L : Int64) (k : Nat) (hk : k < 8) : ((L >>> ((nI (8 * k)).toInt64 &&& 63)) &&& 255).toInt32 = iI (tvN L (8 * k)) := by
  have h1 : ((L >>> ((nI (8 * k)).toInt64 &&& 63)) &&& 255) = Int64.ofNat (tvN L (8 * k)) := by
    apply Int64.toBitVec_inj.1
    have sh : ∀ k, k < 8 → ((nI (8 * k)).toInt64 &&& 63) = Int64.ofNat (8 * k) := by decide
    rw [sh k hk]
    apply BitVec.eq_of_getLsbD_eq
    intro i hi
    show ((L.toBitVec.sshiftRight' ((Int64.ofNat (8 * k)).toBitVec.smod 64#64)) &&& 255#64).getLsbD i = (BitVec.ofNat 64 (tvN L (8 * k))).getLsbD i
    have m : ∀ k, k < 8 → ((Int64.ofNat (8 * k)).toBitVec.smod 64#64).toNat = 8 * k := by decide
    rw [BitVec.getLsbD_and, BitVec.sshiftRight', BitVec.getLsbD_sshiftRight, m k hk]
    by_cases h8 : i < 8
    · have e : ∀ i, i < 8 → (255#64).getLsbD i = true := by decide
      rw [e i h8, Bool.and_true, BitVec.getLsbD_ofNat, tv_bit L (8 * k) i h8]
      have : 8 * k + i < 64 := by omega
      simp [hi, this]
    · have e : ∀ i, i < 64 → ¬ i < 8 → (255#64).getLsbD i = false := by decide
      rw [e i hi h8, Bool.and_false, BitVec.getLsbD_ofNat]
      have : (tvN L (8 * k)).testBit i = false := Nat.testBit_lt_two_pow (Nat.lt_of_lt_of_le (tv_lt L (8 * k)) (Nat.pow_le_pow_right (n := 2) (by decide) (show 8 ≤ i by omega)))
      simp [this]
  rw [h1]
  have : ∀ v, v < 256 → (Int64.ofNat v).toInt32 = iI v := by decide +kernel
  exact this _ (tv_lt _ _)
theorem feed_x (L : Int64) (k : Nat) (hk : k < 8) : ((((L.toUInt64 >>> ((nI (8 * k)).toInt64.toUInt64 &&& Int64.toUInt64 63)).toInt64).toInt32).toInt8.toInt32) = iI (sg (tvN L (8 * k))) := by
  have h1 : (((L.toUInt64 >>> ((nI (8 * k)).toInt64.toUInt64 &&& Int64.toUInt64 63)).toInt64).toInt32).toInt8 = Int8.ofNat (tvN L (8 * k)) := by
    apply Int8.toBitVec_inj.1
    have sh : ∀ k, k < 8 → ((nI (8 * k)).toInt64.toUInt64 &&& Int64.toUInt64 63) = UInt64.ofNat (8 * k) := by decide
    rw [sh k hk]
    apply BitVec.eq_of_getLsbD_eq
    intro i hi
    show (BitVec.signExtend 8 (BitVec.signExtend 32 (L.toBitVec >>> ((UInt64.ofNat (8 * k)).toBitVec % 64#64)))).getLsbD i = (BitVec.ofNat 8 (tvN L (8 * k))).getLsbD i
    have m : ∀ k, k < 8 → ((UInt64.ofNat (8 * k)).toBitVec % 64#64).toNat = 8 * k := by decide
    rw [BitVec.getLsbD_signExtend, BitVec.getLsbD_signExtend, BitVec.getLsbD_ofNat, tv_bit L (8 * k) i hi]
    simp [hi, show i < 32 by omega, show i < 64 by omega, BitVec.ushiftRight_eq']
    rw [Nat.mod_eq_of_lt (show 8 * k < 64 by omega)]
  rw [h1]
  have : ∀ v : Nat, v < 256 → (Int8.ofNat v).toInt32 = iI (sg v) := by decide +kernel
  exact this _ (tv_lt _ _)
theorem nar_b : ∀ v : Nat, v < 256 → vp_nar .byte (iI (sg v)) = iI (sg v) := by decide +kernel
/-! ===== the tape ===== -/
def TpR (c : TSt) (tape : Nat → Int32) (taped : Int32) : Prop := ∃ z : Nat, z ≤ 200 ∧ ∃ tp : Nat → Int, T_size c = nI z ∧ taped = nI z ∧ ∀ j, j < z → (0 ≤ tp j ∧ tp j ≤ 255) ∧ T_bytes c j = iI (sg (tp j)) ∧ tape j = iI (tp j)
def TpX (x : XSt) (m : MSt) : Prop := TpR (X_tape x) (M_tape m) (M_taped m) ∧ M_words m = wordsF
def fdB {α : Type} (z k : Nat) (g : Nat → α) (f : Nat → α) : Nat → α := fun j => if z ≤ j ∧ j < z + k then g (j - z) else f j
theorem fdB_0 {α : Type} (z : Nat) (g : Nat → α) (f : Nat → α) : fdB z 0 g f = f := by
  funext j
  unfold fdB
  rw [if_neg (by omega)]
theorem fdB_s (z k : Nat) (g : Nat → Int32) (f : Nat → Int32) : upd (fdB z k g f) (z + k) (g k) = fdB z (k + 1) g f := by
  funext j
  by_cases q : j = z + k
  · subst q
    rw [pk_us]
    unfold fdB
    rw [if_pos (by omega), show z + k - z = k by omega]
  · rw [pk_un q]
    unfold fdB
    by_cases c : z ≤ j ∧ j < z + k
    · rw [if_pos c, if_pos (by omega)]
    · rw [if_neg c, if_neg (by omega)]
def mTp (m : MSt) (f : Nat → Int32) (t : Int32) : MSt := M_taped_ (M_tape_ m f) t
theorem mTp_id (m : MSt) : mTp m (M_tape m) (M_taped m) = m := by
  unfold mTp
  dsimp only [M_tape, M_taped, M_tape_, M_taped_]
theorem mTp_f (m : MSt) (f : Nat → Int32) (t : Int32) : M_tape (mTp m f t) = f := by
  unfold mTp
  dsimp only [M_tape, M_taped, M_tape_, M_taped_]
theorem mTp_t (m : MSt) (f : Nat → Int32) (t : Int32) : M_taped (mTp m f t) = t := by
  unfold mTp
  dsimp only [M_tape, M_taped, M_tape_, M_taped_]
theorem mTp_s (m : MSt) (f g : Nat → Int32) (t u : Int32) : M_taped_ (M_tape_ (mTp m f t) g) u = mTp m g u := by
  unfold mTp
  dsimp only [M_tape, M_taped, M_tape_, M_taped_]
theorem X_feed34 {x : XSt} {L : Int64} {z N : Nat} {post : Int32 → XSt → Prop} (hN : N ≤ 8) (hz : z + N ≤ 200) (f : Nat → Int32) (c0 : TSt) (hp : post (nI (z + N)) (X_tape_ x (T_size_ (T_bytes_ c0 (fdB z N (fun i => iI (sg (tvN L (8 * i)))) f)) (nI (z + N))))) : ∀ (n k : Nat), k ≤ N → N - k < n → w_X_feed_34 post n (X_tape_ x (T_size_ (T_bytes_ c0 (fdB z k (fun i => iI (sg (tvN L (8 * i)))) f)) (nI (z + k)))) L (nI N) (nI k) := by
  intro n
  induction n with
  | zero => intro k _ h; omega
  | succ n ih =>
    intro k hk hn
    rw [w_X_feed_34]
    refine t_le (a := N) (b := k) rfl rfl (fun q => ?_) (fun q => ?_)
    · have : k = N := by omega
      subst this
      exact hp
    intro y2 f2 y3 f3
    rw [show (8 : Int32) = nI 8 from rfl, nI_mul] at f2
    rw [f2, feed_x L k (by omega)] at f3
    rw [f3]
    unfold wp_T_append
    have e1 : T_size (X_tape (X_tape_ x (T_size_ (T_bytes_ c0 (fdB z k (fun i => iI (sg (tvN L (8 * i)))) f)) (nI (z + k))))) = nI (z + k) := rfl
    rw [e1]
    refine t_lt (a := ((z + k : Nat) : Int)) (b := 0) rfl rfl (fun u => by omega) (fun _ => ?_)
    refine t_le (a := 200) (b := ((z + k : Nat) : Int)) rfl rfl (fun u => by omega) (fun _ => ?_)
    refine ⟨vp_in_nI (by omega) (by omega), fun y hy y5 h5 => ?_⟩
    rw [hy, h5, nI_1, nI_1, nI_clamp (by omega), nar_b _ (tv_lt _ _)]
    have e2 : X_tape_ (X_tape_ x (T_size_ (T_bytes_ c0 (fdB z k (fun i => iI (sg (tvN L (8 * i)))) f)) (nI (z + k)))) (T_size_ (T_bytes_ (X_tape (X_tape_ x (T_size_ (T_bytes_ c0 (fdB z k (fun i => iI (sg (tvN L (8 * i)))) f)) (nI (z + k))))) (upd (T_bytes (X_tape (X_tape_ x (T_size_ (T_bytes_ c0 (fdB z k (fun i => iI (sg (tvN L (8 * i)))) f)) (nI (z + k)))))) (z + k) (iI (sg (tvN L (8 * k)))))) (nI (z + k + 1))) = X_tape_ x (T_size_ (T_bytes_ c0 (upd (fdB z k (fun i => iI (sg (tvN L (8 * i)))) f) (z + k) (iI (sg (tvN L (8 * k)))))) (nI (z + (k + 1)))) := rfl
    rw [e2, fdB_s z k (fun i => iI (sg (tvN L (8 * i)))) f]
    exact ih (k + 1) (by omega) (by omega)
theorem M_feed32 {m : MSt} {L : Int64} {z N : Nat} {post : Int32 → MSt → Prop} (hN : N ≤ 8) (hz : z + N ≤ 200) (f : Nat → Int32) (hp : post (nI (z + N)) (mTp m (fdB z N (fun i => iI (tvN L (8 * i))) f) (nI (z + N)))) : ∀ (n k : Nat), k ≤ N → N - k < n → w_M_feed_32 post n (mTp m (fdB z k (fun i => iI (tvN L (8 * i))) f) (nI (z + k))) L (nI N) (nI k) := by
  intro n
  induction n with
  | zero => intro k _ h; omega
  | succ n ih =>
    intro k hk hn
    rw [w_M_feed_32]
    rw [mTp_t, mTp_f]
    refine t_le (a := N) (b := k) rfl rfl (fun q => ?_) (fun q => ?_)
    · have : k = N := by omega
      subst this
      exact hp
    intro y4 f4 y5 f5 y6 f6
    rw [show (8 : Int32) = nI 8 from rfl, nI_mul] at f4
    rw [f5, f4, feed_m L k (by omega)] at f6
    refine ⟨vp_in_nI (by omega) (by omega), fun y8 h8 y9 h9 => ?_⟩
    rw [h8, h9, f6, nI_1, nI_1, nI_clamp (by omega), mTp_s, fdB_s z k (fun i => iI (tvN L (8 * i))) f]
    exact ih (k + 1) (by omega) (by omega)
theorem l_feed {x : XSt} {m : MSt} {a1 a2 a3 a4 : Int32} {K : XSt → MSt → Prop} (tpx : TpX x m) (hK : ∀ c tape taped, TpR c tape taped → K (X_tape_ x c) (mTp m tape taped)) : wpl_feed x m a1 a2 a3 a4 K := by
  obtain ⟨tpr, wds⟩ := tpx
  have k0 : K x m := by
    have := hK _ _ _ tpr
    rw [mTp_id] at this
    exact this
  obtain ⟨z, hz, tp, t1, t2, t3⟩ := tpr
  unfold wpl_feed
  generalize ((a1).toInt64 <<< ((32 : Int32).toInt64 &&& 63)) ||| ((a2).toInt64 &&& 4294967295) = L
  unfold wp_X_feed
  have no : ¬ (1 ≤ a3.toInt ∧ a3.toInt ≤ 8) → wp_M_feed m L a3 (fun v2 m1 => (-1) = v2 ∧ K x m1) := by
    intro P
    unfold wp_M_feed
    exact I_in (a := a3) (lo := 1) (hi := 8) (fun z => absurd z P) (fun _ => if0 ⟨rfl, k0⟩)
  refine t_lo (k := 1) rfl (fun u => no (by omega)) (fun u => ?_)
  refine t_hi (k := 8) rfl (fun u2 => ?_) (fun u2 => no (by omega))
  obtain ⟨N, hN, ha⟩ : ∃ N : Nat, N ≤ 8 ∧ a3 = nI N := ⟨a3.toInt.toNat, by omega, i_nat (by omega)⟩
  subst ha
  have front : ∀ (v : Int32) (x' : XSt), (z + N ≤ 200 → w_M_feed_32 (fun v2 m1 => v = v2 ∧ K x' m1) 2000 m L (nI N) 0) → (200 < z + N → v = -2 ∧ K x' m) → wp_M_feed m L (nI N) (fun v2 m1 => v = v2 ∧ K x' m1) := by
    intro v x' g1 g2
    unfold wp_M_feed
    refine I_in (a := nI N) (lo := 1) (hi := 8) (fun _ => if1 ?_) (fun z => absurd ⟨u, u2⟩ z)
    intro y3 h3
    rw [t2, nI_add] at h3
    exact t_le (a := ((z + N : Nat) : Int)) (b := 200) h3 rfl (fun q => g1 (by omega)) (fun q => g2 (by omega))
  intro y1 h1
  rw [t1, nI_add] at h1
  refine t_le (a := ((z + N : Nat) : Int)) (b := 200) h1 rfl (fun q => ?_) (fun q => ?_)
  · have e0 : x = X_tape_ x (T_size_ (T_bytes_ (X_tape x) (fdB z 0 (fun i => iI (sg (tvN L (8 * i)))) (T_bytes (X_tape x)))) (nI (z + 0))) := by
      rw [fdB_0, show z + 0 = z from rfl, ← t1]
      rfl
    have key : w_X_feed_34 (fun v1 x1 => wp_M_feed m L (nI N) (fun v2 m1 => v1 = v2 ∧ K x1 m1)) 2000 (X_tape_ x (T_size_ (T_bytes_ (X_tape x) (fdB z 0 (fun i => iI (sg (tvN L (8 * i)))) (T_bytes (X_tape x)))) (nI (z + 0)))) L (nI N) (nI 0) := by
      refine X_feed34 hN (by omega) (T_bytes (X_tape x)) (X_tape x) ?_ 2000 0 (by omega) (by omega)
      refine front _ _ (fun _ => ?_) (fun q2 => absurd q (by omega))
      have e1 : m = mTp m (fdB z 0 (fun i => iI (tvN L (8 * i))) (M_tape m)) (nI (z + 0)) := by
        rw [fdB_0, show z + 0 = z from rfl, ← t2, mTp_id]
      have key2 : w_M_feed_32 (fun v2 m1 => nI (z + N) = v2 ∧ K (X_tape_ x (T_size_ (T_bytes_ (X_tape x) (fdB z N (fun i => iI (sg (tvN L (8 * i)))) (T_bytes (X_tape x)))) (nI (z + N)))) m1) 2000 (mTp m (fdB z 0 (fun i => iI (tvN L (8 * i))) (M_tape m)) (nI (z + 0))) L (nI N) (nI 0) := by
        refine M_feed32 hN (by omega) (M_tape m) ⟨rfl, ?_⟩ 2000 0 (by omega) (by omega)
        refine hK _ _ _ ⟨z + N, by omega, fdB z N (fun i => ((tvN L (8 * i) : Nat) : Int)) tp, rfl, rfl, fun j hj => ?_⟩
        show (0 ≤ fdB z N (fun i => ((tvN L (8 * i) : Nat) : Int)) tp j ∧ fdB z N (fun i => ((tvN L (8 * i) : Nat) : Int)) tp j ≤ 255) ∧ fdB z N (fun i => iI (sg (tvN L (8 * i)))) (T_bytes (X_tape x)) j = iI (sg (fdB z N (fun i => ((tvN L (8 * i) : Nat) : Int)) tp j)) ∧ fdB z N (fun i => iI (tvN L (8 * i))) (M_tape m) j = iI (fdB z N (fun i => ((tvN L (8 * i) : Nat) : Int)) tp j)
        unfold fdB
        by_cases c : z ≤ j ∧ j < z + N
        · rw [if_pos c, if_pos c, if_pos c]
          have := tv_lt L (8 * (j - z))
          refine ⟨⟨?_, ?_⟩, rfl, rfl⟩
          · show (0 : Int) ≤ ((tvN L (8 * (j - z)) : Nat) : Int); omega
          · show ((tvN L (8 * (j - z)) : Nat) : Int) ≤ 255; omega
        · rw [if_neg c, if_neg c, if_neg c]
          exact t3 j (by omega)
      rw [← e1] at key2
      exact key2
    rw [← e0] at key
    exact key
  · exact front (-2) x (fun q2 => absurd q (by omega)) (fun _ => ⟨rfl, k0⟩)
