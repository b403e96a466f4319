/-! ===== acts: what they trace and what they answer ===== -/
abbrev TrS : Type := (Nat → Int32) × Nat × Bool
def ra (b : Int32) (s : TrS) : TrS := if s.2.1 < 30 ∧ s.2.2 = false then (upd s.1 s.2.1 b, s.2.1 + 1, s.2.2) else s
theorem ra_p (b : Int32) (s : TrS) : (ra b s).2.2 = s.2.2 := by
  unfold ra
  split <;> rfl
theorem ra_t {b : Int32} {s : TrS} (h : s.2.1 ≤ 30) : (ra b s).2.1 ≤ 30 := by
  unfold ra
  split
  · show s.2.1 + 1 ≤ 30; omega
  · exact h
theorem ra_i {b : Int32} {s : TrS} (h : s.2.2 = true) : ra b s = s := by
  unfold ra
  rw [if_neg (fun z => by rw [h] at z; exact absurd z.2 (by decide))]
def RelA (K : Nat) (n a : Int32) (c : ASt) (s : TrS) : Prop := A_bodies c = s.1 ∧ A_traced c = nI s.2.1 ∧ s.2.1 ≤ 30 ∧ A_isParted c = bI s.2.2 ∧ A_kind c = nI K ∧ A_n c = n ∧ A_a c = a
theorem A_enter {K N d : Nat} {n a b x : Int32} {c : ASt} {s : TrS} {post : Int32 → ASt → Prop} (r : RelA K n a c s) (hd : d ≤ 30) (h1 : s.2.2 = true → post 0 c) (h2 : s.2.2 = false → ∀ c1, RelA K n a c1 (ra b s) → w_A_run_44 (wp_A_run N) post c1 b x (nI d)) : wp_A_run (N + 1) c b x (nI d) post := by
  rw [wp_A_run]
  unfold w_A_run
  refine t_lt (a := 30) (b := d) rfl rfl (fun z => by omega) (fun _ => ?_)
  obtain ⟨r1, r2, r3, r4, r5, r6, r7⟩ := r
  cases hp : s.2.2 with
  | true =>
    rw [hp] at r4
    refine ifn (by rw [r4]; decide) (h1 hp)
  | false =>
    rw [hp] at r4
    refine ifp r4 ?_
    refine t_le (a := 30) (b := s.2.1) rfl r2 (fun z => ?_) (fun z => ?_)
    · refine h2 hp c ?_
      have : ra b s = s := by
        unfold ra
        rw [if_neg (by omega)]
      rw [this]
      exact ⟨r1, r2, r3, by rw [hp]; exact r4, r5, r6, r7⟩
    · refine ⟨by rw [r2]; exact vp_in_nI (by omega) (by omega), fun y hy => ?_⟩
      have e1 : ra b s = (upd s.1 s.2.1 b, s.2.1 + 1, s.2.2) := by
        unfold ra
        rw [if_pos ⟨by omega, hp⟩]
      refine h2 hp _ ?_
      rw [e1]
      refine ⟨?_, ?_, ?_, ?_, r5, r6, r7⟩
      · show upd (A_bodies c) (A_traced c).toNatClampNeg b = upd s.1 s.2.1 b
        rw [r1, r2, nI_clamp (by omega)]
      · show y = nI (s.2.1 + 1)
        rw [hy, r2, nI_1]
      · show s.2.1 + 1 ≤ 30
        omega
      · show A_isParted c = bI s.2.2
        rw [hp]; exact r4
/-- a body answers V and leaves the trace T -/
def XR (K : Nat) (n a : Int32) (N : Nat) (b x V : Int32) (T : TrS → TrS) : Prop := (∀ s : TrS, s.2.2 = true → T s = s) ∧ ∀ (D d : Nat) (c : ASt) (s : TrS) (post : Int32 → ASt → Prop), N ≤ D → d + N ≤ 30 → RelA K n a c s → (∀ v c', RelA K n a c' (T s) → ((T s).2.2 = false → v = V) → post v c') → wp_A_run D c b x (nI d) post
theorem XR_mk {K N : Nat} {n a b x V : Int32} {T : TrS → TrS} (hT : ∀ s : TrS, s.2.2 = true → T s = s) (h : ∀ (D d : Nat) (c1 : ASt) (s : TrS) (post : Int32 → ASt → Prop), N ≤ D → d + N + 1 ≤ 30 → s.2.2 = false → RelA K n a c1 (ra b s) → (∀ v c', RelA K n a c' (T s) → ((T s).2.2 = false → v = V) → post v c') → w_A_run_44 (wp_A_run D) post c1 b x (nI d)) : XR K n a (N + 1) b x V T := by
  refine ⟨hT, fun D d c s post hD hd r hp => ?_⟩
  obtain ⟨D, rfl⟩ : ∃ k, D = k + 1 := ⟨D - 1, by omega⟩
  refine A_enter r (by omega) (fun q => hp 0 c (by rw [hT s q]; exact r) (fun z => ?_)) (fun q c1 r1 => h D d c1 s post (by omega) (by omega) q r1 hp)
  rw [hT s q, q] at z
  exact absurd z (by decide)
theorem XR_up {K N M : Nat} {n a b x V : Int32} {T : TrS → TrS} (h : XR K n a N b x V T) (hM : N ≤ M) : XR K n a M b x V T :=
  ⟨h.1, fun D d c s post hD hd r hp => h.2 D d c s post (by omega) (by omega) r hp⟩
theorem T_back {T : TrS → TrS} (hT : ∀ s : TrS, s.2.2 = true → T s = s) {s : TrS} (h : (T s).2.2 = false) : s.2.2 = false := by
  cases q : s.2.2 with
  | false => rfl
  | true => rw [hT s q, q] at h; exact absurd h (by decide)
theorem A_bodyOf_ok {K j : Nat} {n a : Int32} {c : ASt} {s : TrS} {post : Int32 → ASt → Prop} (hK : K < 6) (hj : j < 4) (r : RelA K n a c s) (hp : post (tbBodies.getD (4 * K + j) 0) c) : wp_A_bodyOf c (nI j) post := by
  unfold wp_A_bodyOf
  intro y1 h1 y2 h2
  have e2 : y2 = nI (4 * K + j) := by
    rw [h2, h1, r.2.2.2.2.1, show (4 : Int32) = nI 4 from rfl, nI_mul, nI_add, Nat.mul_comm]
  rw [e2]
  refine t_lt (a := ((4 * K + j : Nat) : Int)) (b := 0) rfl rfl (fun z => by omega) (fun _ => ?_)
  refine t_le (a := 24) (b := ((4 * K + j : Nat) : Int)) rfl rfl (fun z => by omega) (fun _ => ?_)
  refine ⟨vp_in_nI (by omega) (by omega), ?_⟩
  rw [nI_clamp (by omega)]
  exact hp
/-! the bodies -/
theorem XR_10 {K : Nat} {n a x : Int32} : XR K n a 1 10 x (x * 3 + n) (ra 10) := by
  refine XR_mk (N := 0) (fun s q => ra_i q) (fun D d c1 s post hD hd q r hp => ?_)
  unfold w_A_run_44
  intro y1 h1
  refine ifp rfl ?_
  intro y2 h2
  rw [h2, r.2.2.2.2.2.1]
  exact hp _ c1 r (fun _ => rfl)
def PT0 (n a : Int32) (s : TrS) : TrS := if a = n then ((ra 12 s).1, (ra 12 s).2.1, true) else ra 12 s
def PV0 (n a x : Int32) : Int32 := if a = n then 0 else x / (a - n)
theorem sub_0 {a n : Int32} : a - n = 0 ↔ a = n := by
  constructor
  · intro h
    have h2 : a - n + n = 0 + n := by rw [h]
    rw [Int32.sub_add_cancel, Int32.zero_add] at h2
    exact h2
  · intro h; rw [h, Int32.sub_self]
theorem PT0_i {n a : Int32} {s : TrS} (h : s.2.2 = true) : PT0 n a s = s := by
  unfold PT0
  rw [ra_i h]
  split
  · rw [← h]
  · rfl
theorem XR_12 {K : Nat} {n a x : Int32} : XR K n a 1 12 x (PV0 n a x) (PT0 n a) := by
  refine XR_mk (N := 0) (fun s q => PT0_i q) (fun D d c1 s post hD hd q r hp => ?_)
  unfold w_A_run_44
  intro y1 h1
  refine ifn (by decide) (ifn (by decide) (ifp rfl ?_))
  intro y7 h7
  obtain ⟨r1, r2, r3, r4, r5, r6, r7⟩ := r
  rw [r6, r7] at h7
  unfold wp_A_partedBy
  unfold PT0 PV0 at hp
  refine ⟨fun z => ?_, fun z => ⟨z, ?_⟩⟩
  · have e1 : a = n := sub_0.mp (by rw [← h7]; exact z)
    rw [if_pos e1] at hp
    exact hp 0 _ ⟨r1, r2, r3, rfl, r5, r6, r7⟩ (fun z => absurd (show true = false from z) (by decide))
  · have e1 : ¬ a = n := fun u => z (by rw [h7]; exact sub_0.mpr u)
    rw [if_neg e1, if_neg e1] at hp
    rw [h7]
    exact hp _ c1 ⟨r1, r2, r3, r4, r5, r6, r7⟩ (fun _ => rfl)
theorem XR_20 {K N : Nat} {n a x V : Int32} {T : TrS → TrS} (h : XR K n a N 11 x V T) : XR K n a (N + 1) 20 x (0 - V) (fun s => T (ra 20 s)) := by
  refine XR_mk (fun s q => by show T (ra 20 s) = s; rw [ra_i q]; exact h.1 s q) (fun D d c1 s post hD hd q r hp => ?_)
  unfold w_A_run_44
  intro y1 h1
  rw [nI_1] at h1
  rw [h1]
  refine ifn (by decide) (ifn (by decide) (ifn (by decide) (ifn (by decide) (ifp rfl ?_))))
  refine h.2 D (d + 1) _ _ _ hD (by omega) r (fun v c' r' hv => ?_)
  exact hp _ c' r' (fun z => by rw [hv z])
theorem XR_30 {K N : Nat} {n a x V : Int32} {T : TrS → TrS} (h : XR K n a N 10 x V T) : XR K n a (N + 1) 30 x (V + 4) (fun s => T (ra 30 s)) := by
  refine XR_mk (fun s q => by show T (ra 30 s) = s; rw [ra_i q]; exact h.1 s q) (fun D d c1 s post hD hd q r hp => ?_)
  unfold w_A_run_44
  intro y1 h1
  rw [nI_1] at h1
  rw [h1]
  refine ifn (by decide) (ifn (by decide) (ifn (by decide) (ifn (by decide) (ifn (by decide) (ifp rfl ?_)))))
  refine h.2 D (d + 1) _ _ _ hD (by omega) r (fun v c' r' hv => ?_)
  exact hp _ c' r' (fun z => by rw [hv z])
theorem XR_40 {K N : Nat} {n a x V : Int32} {T : TrS → TrS} (h : XR K n a N 30 x V T) : XR K n a (N + 1) 40 x (V * 2) (fun s => T (ra 40 s)) := by
  refine XR_mk (fun s q => by show T (ra 40 s) = s; rw [ra_i q]; exact h.1 s q) (fun D d c1 s post hD hd q r hp => ?_)
  unfold w_A_run_44
  intro y1 h1
  rw [nI_1] at h1
  rw [h1]
  refine ifn (by decide) (ifn (by decide) (ifn (by decide) (ifn (by decide) (ifn (by decide) (ifn (by decide) (ifn (by decide) (ifp rfl ?_)))))))
  refine h.2 D (d + 1) _ _ _ hD (by omega) r (fun v c' r' hv => ?_)
  exact hp _ c' r' (fun z => by rw [hv z])
theorem XR_51 {K N : Nat} {n a x V : Int32} {T : TrS → TrS} (h : XR K n a N 10 x V T) : XR K n a (N + 1) 51 x (V - 7) (fun s => T (ra 51 s)) := by
  refine XR_mk (fun s q => by show T (ra 51 s) = s; rw [ra_i q]; exact h.1 s q) (fun D d c1 s post hD hd q r hp => ?_)
  unfold w_A_run_44
  intro y1 h1
  rw [nI_1] at h1
  rw [h1]
  refine ifn (by decide) (ifn (by decide) (ifn (by decide) (ifn (by decide) (ifn (by decide) (ifn (by decide) (ifn (by decide) (ifn (by decide) (ifn (by decide) (ifn (by decide) (ifp rfl ?_))))))))))
  refine h.2 D (d + 1) _ _ _ hD (by omega) r (fun v c' r' hv => ?_)
  exact hp _ c' r' (fun z => by rw [hv z])
theorem XR_60 {K N : Nat} {n a x V : Int32} {T : TrS → TrS} (h : XR K n a N 13 x V T) : XR K n a (N + 1) 60 x (V * 5) (fun s => T (ra 60 s)) := by
  refine XR_mk (fun s q => by show T (ra 60 s) = s; rw [ra_i q]; exact h.1 s q) (fun D d c1 s post hD hd q r hp => ?_)
  unfold w_A_run_44
  intro y1 h1
  rw [nI_1] at h1
  rw [h1]
  refine ifn (by decide) (ifn (by decide) (ifn (by decide) (ifn (by decide) (ifn (by decide) (ifn (by decide) (ifn (by decide) (ifn (by decide) (ifn (by decide) (ifn (by decide) (ifn (by decide) (ifp rfl ?_)))))))))))
  refine h.2 D (d + 1) _ _ _ hD (by omega) r (fun v c' r' hv => ?_)
  exact hp _ c' r' (fun z => by rw [hv z])
theorem XR_50 {K N : Nat} {n a x V : Int32} {T : TrS → TrS} (h : XR K n a N 12 (x + a) V T) : XR K n a (N + 1) 50 x (V ^^^ n) (fun s => T (ra 50 s)) := by
  refine XR_mk (fun s q => by show T (ra 50 s) = s; rw [ra_i q]; exact h.1 s q) (fun D d c1 s post hD hd q r hp => ?_)
  unfold w_A_run_44
  intro y1 h1
  rw [nI_1] at h1
  rw [h1]
  refine ifn (by decide) (ifn (by decide) (ifn (by decide) (ifn (by decide) (ifn (by decide) (ifn (by decide) (ifn (by decide) (ifn (by decide) (ifn (by decide) (ifp rfl ?_)))))))))
  intro y32 h32
  rw [h32, r.2.2.2.2.2.2]
  refine h.2 D (d + 1) _ _ _ hD (by omega) r (fun v c' r' hv => ?_)
  rw [r'.2.2.2.2.2.1]
  exact hp _ c' r' (fun z => by rw [hv z])
theorem XR_11 {K N : Nat} {n a x V : Int32} {T : TrS → TrS} (hK : K < 6) (h : XR K n a N (tbBodies.getD (4 * K + 0) 0) x V T) : XR K n a (N + 1) 11 x (V - a * 2) (fun s => T (ra 11 s)) := by
  refine XR_mk (fun s q => by show T (ra 11 s) = s; rw [ra_i q]; exact h.1 s q) (fun D d c1 s post hD hd q r hp => ?_)
  unfold w_A_run_44
  intro y1 h1
  rw [nI_1] at h1
  rw [h1]
  refine ifn (by decide) (ifp rfl ?_)
  refine A_bodyOf_ok (j := 0) hK (by omega) r ?_
  refine h.2 D (d + 1) _ _ _ hD (by omega) r (fun v c' r' hv => ?_)
  rw [r'.2.2.2.2.2.2]
  exact hp _ c' r' (fun z => by rw [hv z])
theorem XR_13 {K N : Nat} {n a x V : Int32} {T : TrS → TrS} (hK : K < 6) (h : XR K n a N (tbBodies.getD (4 * K + 1) 0) x V T) : XR K n a (N + 1) 13 x (V ^^^ 170) (fun s => T (ra 13 s)) := by
  refine XR_mk (fun s q => by show T (ra 13 s) = s; rw [ra_i q]; exact h.1 s q) (fun D d c1 s post hD hd q r hp => ?_)
  unfold w_A_run_44
  intro y1 h1
  rw [nI_1] at h1
  rw [h1]
  refine ifn (by decide) (ifn (by decide) (ifn (by decide) (ifp rfl ?_)))
  refine A_bodyOf_ok (j := 1) hK (by omega) r ?_
  refine h.2 D (d + 1) _ _ _ hD (by omega) r (fun v c' r' hv => ?_)
  exact hp _ c' r' (fun z => by rw [hv z])
theorem XR_31 {K N : Nat} {n a x V W : Int32} {T U : TrS → TrS} (hK : K < 6) (h : XR K n a N 13 x V T) (h2 : XR K n a N (tbBodies.getD (4 * K + 2) 0) n W U) : XR K n a (N + 1) 31 x (V - W) (fun s => U (T (ra 31 s))) := by
  refine XR_mk (fun s q => by show U (T (ra 31 s)) = s; rw [ra_i q, h.1 s q]; exact h2.1 s q) (fun D d c1 s post hD hd q r hp => ?_)
  unfold w_A_run_44
  intro y1 h1
  rw [nI_1] at h1
  rw [h1]
  refine ifn (by decide) (ifn (by decide) (ifn (by decide) (ifn (by decide) (ifn (by decide) (ifn (by decide) (ifp rfl ?_))))))
  refine h.2 D (d + 1) _ _ _ hD (by omega) r (fun v c' r' hv => ?_)
  refine A_bodyOf_ok (j := 2) hK (by omega) r' ?_
  rw [r'.2.2.2.2.2.1]
  refine h2.2 D (d + 1) _ _ _ hD (by omega) r' (fun v2 c2 r2 hv2 => ?_)
  exact hp _ c2 r2 (fun z => by rw [hv2 z, hv (T_back h2.1 z)])
theorem XR_41 {K N : Nat} {n a x V W : Int32} {T U : TrS → TrS} (hK : K < 6) (h : XR K n a N 11 x V T) (h2 : XR K n a N (tbBodies.getD (4 * K + 0) 0) a W U) : XR K n a (N + 1) 41 x (V + W) (fun s => U (T (ra 41 s))) := by
  refine XR_mk (fun s q => by show U (T (ra 41 s)) = s; rw [ra_i q, h.1 s q]; exact h2.1 s q) (fun D d c1 s post hD hd q r hp => ?_)
  unfold w_A_run_44
  intro y1 h1
  rw [nI_1] at h1
  rw [h1]
  refine ifn (by decide) (ifn (by decide) (ifn (by decide) (ifn (by decide) (ifn (by decide) (ifn (by decide) (ifn (by decide) (ifn (by decide) (ifp rfl ?_))))))))
  refine h.2 D (d + 1) _ _ _ hD (by omega) r (fun v c' r' hv => ?_)
  refine A_bodyOf_ok (j := 0) hK (by omega) r' ?_
  rw [r'.2.2.2.2.2.2]
  refine h2.2 D (d + 1) _ _ _ hD (by omega) r' (fun v2 c2 r2 hv2 => ?_)
  exact hp _ c2 r2 (fun z => by rw [hv2 z, hv (T_back h2.1 z)])
theorem XR_61 {K N : Nat} {n a x V W : Int32} {T U : TrS → TrS} (hK : K < 6) (h : XR K n a N 12 x V T) (h2 : XR K n a N (tbBodies.getD (4 * K + 0) 0) n W U) : XR K n a (N + 1) 61 x (V - W) (fun s => U (T (ra 61 s))) := by
  refine XR_mk (fun s q => by show U (T (ra 61 s)) = s; rw [ra_i q, h.1 s q]; exact h2.1 s q) (fun D d c1 s post hD hd q r hp => ?_)
  unfold w_A_run_44
  intro y1 h1
  rw [nI_1] at h1
  rw [h1]
  refine ifn (by decide) (ifn (by decide) (ifn (by decide) (ifn (by decide) (ifn (by decide) (ifn (by decide) (ifn (by decide) (ifn (by decide) (ifn (by decide) (ifn (by decide) (ifn (by decide) (ifn (by decide) (ifp rfl ?_))))))))))))
  refine h.2 D (d + 1) _ _ _ hD (by omega) r (fun v c' r' hv => ?_)
  refine A_bodyOf_ok (j := 0) hK (by omega) r' ?_
  rw [r'.2.2.2.2.2.1]
  refine h2.2 D (d + 1) _ _ _ hD (by omega) r' (fun v2 c2 r2 hv2 => ?_)
  exact hp _ c2 r2 (fun z => by rw [hv2 z, hv (T_back h2.1 z)])
/-! what each kind does -/
def FV (n : Int32) (k : Nat) (x : Int32) : Int32 := if k = 2 then x * 3 + n + 4 else if k = 3 then x * 3 + n - 7 else if k = 4 then (x * 3 + n + 4) * 2 else x * 3 + n
def FT (k : Nat) (s : TrS) : TrS := if k = 2 then ra 10 (ra 30 s) else if k = 3 then ra 10 (ra 51 s) else if k = 4 then ra 10 (ra 30 (ra 40 s)) else ra 10 s
def SV0 (n a : Int32) (K : Nat) (x : Int32) : Int32 := FV n K x - a * 2
def ST0 (K : Nat) (s : TrS) : TrS := FT K (ra 11 s)
def SV (n a : Int32) (K k : Nat) (x : Int32) : Int32 := if k = 1 then 0 - SV0 n a K x else if k = 3 then 0 - SV0 n a K x else if k = 4 then SV0 n a K x + FV n K a else SV0 n a K x
def ST (K k : Nat) (s : TrS) : TrS := if k = 1 then ST0 K (ra 20 s) else if k = 3 then ST0 K (ra 20 s) else if k = 4 then FT K (ST0 K (ra 41 s)) else ST0 K s
def PV (n a : Int32) (K k : Nat) (x : Int32) : Int32 := if k = 3 then PV0 n a (x + a) ^^^ n else if k = 5 then PV0 n a x - FV n K n else PV0 n a x
def PT (n a : Int32) (K k : Nat) (s : TrS) : TrS := if k = 3 then PT0 n a (ra 50 s) else if k = 5 then FT K (PT0 n a (ra 61 s)) else PT0 n a s
def LV0 (n a : Int32) (K : Nat) (x : Int32) : Int32 := SV n a K K x ^^^ 170
def LT0 (K : Nat) (s : TrS) : TrS := ST K K (ra 13 s)
def LV (n a : Int32) (K k : Nat) (x : Int32) : Int32 := if k = 2 then LV0 n a K x - PV n a K K n else if k = 4 then LV0 n a K x - PV n a K K n else if k = 5 then LV0 n a K x * 5 else LV0 n a K x
def LT (n a : Int32) (K k : Nat) (s : TrS) : TrS := if k = 2 then PT n a K K (LT0 K (ra 31 s)) else if k = 4 then PT n a K K (LT0 K (ra 31 s)) else if k = 5 then LT0 K (ra 60 s) else LT0 K s
theorem six {K : Nat} (h : K < 6) : K = 0 ∨ K = 1 ∨ K = 2 ∨ K = 3 ∨ K = 4 ∨ K = 5 := by omega
theorem XF {K : Nat} {n a x : Int32} (hK : K < 6) : XR K n a 3 (tbBodies.getD (4 * K + 0) 0) x (FV n K x) (FT K) := by
  have a0 : XR K n a 3 10 x (x * 3 + n) (fun s => ra 10 s) := XR_up XR_10 (by omega)
  have a2 : XR K n a 3 30 x (x * 3 + n + 4) (fun s => ra 10 (ra 30 s)) := XR_up (XR_30 XR_10) (by omega)
  have a3 : XR K n a 3 51 x (x * 3 + n - 7) (fun s => ra 10 (ra 51 s)) := XR_up (XR_51 XR_10) (by omega)
  have a4 : XR K n a 3 40 x ((x * 3 + n + 4) * 2) (fun s => ra 10 (ra 30 (ra 40 s))) := XR_40 (XR_30 XR_10)
  rcases six hK with h | h | h | h | h | h
  · have e3 : tbBodies.getD (4 * K + 0) 0 = 10 := by rw [h]; rfl
    rw [e3]
    have q := a0
    have e1 : FV n K x = x * 3 + n := by unfold FV; rw [if_neg (by omega), if_neg (by omega), if_neg (by omega)]
    have e2 : FT K = (fun s => ra 10 s) := by funext s; unfold FT; rw [if_neg (by omega), if_neg (by omega), if_neg (by omega)]
    rw [e1, e2]
    exact q
  · have e3 : tbBodies.getD (4 * K + 0) 0 = 10 := by rw [h]; rfl
    rw [e3]
    have q := a0
    have e1 : FV n K x = x * 3 + n := by unfold FV; rw [if_neg (by omega), if_neg (by omega), if_neg (by omega)]
    have e2 : FT K = (fun s => ra 10 s) := by funext s; unfold FT; rw [if_neg (by omega), if_neg (by omega), if_neg (by omega)]
    rw [e1, e2]
    exact q
  · have e3 : tbBodies.getD (4 * K + 0) 0 = 30 := by rw [h]; rfl
    rw [e3]
    have q := a2
    have e1 : FV n K x = x * 3 + n + 4 := by unfold FV; rw [if_pos h]
    have e2 : FT K = (fun s => ra 10 (ra 30 s)) := by funext s; unfold FT; rw [if_pos h]
    rw [e1, e2]
    exact q
  · have e3 : tbBodies.getD (4 * K + 0) 0 = 51 := by rw [h]; rfl
    rw [e3]
    have q := a3
    have e1 : FV n K x = x * 3 + n - 7 := by unfold FV; rw [if_neg (by omega), if_pos h]
    have e2 : FT K = (fun s => ra 10 (ra 51 s)) := by funext s; unfold FT; rw [if_neg (by omega), if_pos h]
    rw [e1, e2]
    exact q
  · have e3 : tbBodies.getD (4 * K + 0) 0 = 40 := by rw [h]; rfl
    rw [e3]
    have q := a4
    have e1 : FV n K x = (x * 3 + n + 4) * 2 := by unfold FV; rw [if_neg (by omega), if_neg (by omega), if_pos h]
    have e2 : FT K = (fun s => ra 10 (ra 30 (ra 40 s))) := by funext s; unfold FT; rw [if_neg (by omega), if_neg (by omega), if_pos h]
    rw [e1, e2]
    exact q
  · have e3 : tbBodies.getD (4 * K + 0) 0 = 10 := by rw [h]; rfl
    rw [e3]
    have q := a0
    have e1 : FV n K x = x * 3 + n := by unfold FV; rw [if_neg (by omega), if_neg (by omega), if_neg (by omega)]
    have e2 : FT K = (fun s => ra 10 s) := by funext s; unfold FT; rw [if_neg (by omega), if_neg (by omega), if_neg (by omega)]
    rw [e1, e2]
    exact q
theorem XS {K : Nat} {n a x : Int32} (hK : K < 6) : XR K n a 5 (tbBodies.getD (4 * K + 1) 0) x (SV n a K K x) (ST K K) := by
  have a0 : XR K n a 4 11 x (SV0 n a K x) (fun s => ST0 K s) := XR_11 hK (XF hK)
  have a1 : XR K n a 5 20 x (0 - SV0 n a K x) (fun s => ST0 K (ra 20 s)) := XR_20 a0
  have a4 : XR K n a 5 41 x (SV0 n a K x + FV n K a) (fun s => FT K (ST0 K (ra 41 s))) := XR_41 hK a0 (XR_up (XF hK) (by omega))
  have b0 := XR_up a0 (show 4 ≤ 5 by omega)
  rcases six hK with h | h | h | h | h | h
  · have e3 : tbBodies.getD (4 * K + 1) 0 = 11 := by rw [h]; rfl
    rw [e3]
    have q := b0
    have e1 : SV n a K K x = SV0 n a K x := by unfold SV; rw [if_neg (by omega), if_neg (by omega), if_neg (by omega)]
    have e2 : ST K K = (fun s => ST0 K s) := by funext s; unfold ST; rw [if_neg (by omega), if_neg (by omega), if_neg (by omega)]
    rw [e1, e2]
    exact q
  · have e3 : tbBodies.getD (4 * K + 1) 0 = 20 := by rw [h]; rfl
    rw [e3]
    have q := a1
    have e1 : SV n a K K x = 0 - SV0 n a K x := by unfold SV; rw [if_pos h]
    have e2 : ST K K = (fun s => ST0 K (ra 20 s)) := by funext s; unfold ST; rw [if_pos h]
    rw [e1, e2]
    exact q
  · have e3 : tbBodies.getD (4 * K + 1) 0 = 11 := by rw [h]; rfl
    rw [e3]
    have q := b0
    have e1 : SV n a K K x = SV0 n a K x := by unfold SV; rw [if_neg (by omega), if_neg (by omega), if_neg (by omega)]
    have e2 : ST K K = (fun s => ST0 K s) := by funext s; unfold ST; rw [if_neg (by omega), if_neg (by omega), if_neg (by omega)]
    rw [e1, e2]
    exact q
  · have e3 : tbBodies.getD (4 * K + 1) 0 = 20 := by rw [h]; rfl
    rw [e3]
    have q := a1
    have e1 : SV n a K K x = 0 - SV0 n a K x := by unfold SV; rw [if_neg (by omega), if_pos h]
    have e2 : ST K K = (fun s => ST0 K (ra 20 s)) := by funext s; unfold ST; rw [if_neg (by omega), if_pos h]
    rw [e1, e2]
    exact q
  · have e3 : tbBodies.getD (4 * K + 1) 0 = 41 := by rw [h]; rfl
    rw [e3]
    have q := a4
    have e1 : SV n a K K x = SV0 n a K x + FV n K a := by unfold SV; rw [if_neg (by omega), if_neg (by omega), if_pos h]
    have e2 : ST K K = (fun s => FT K (ST0 K (ra 41 s))) := by funext s; unfold ST; rw [if_neg (by omega), if_neg (by omega), if_pos h]
    rw [e1, e2]
    exact q
  · have e3 : tbBodies.getD (4 * K + 1) 0 = 11 := by rw [h]; rfl
    rw [e3]
    have q := b0
    have e1 : SV n a K K x = SV0 n a K x := by unfold SV; rw [if_neg (by omega), if_neg (by omega), if_neg (by omega)]
    have e2 : ST K K = (fun s => ST0 K s) := by funext s; unfold ST; rw [if_neg (by omega), if_neg (by omega), if_neg (by omega)]
    rw [e1, e2]
    exact q
theorem XP {K : Nat} {n a x : Int32} (hK : K < 6) : XR K n a 4 (tbBodies.getD (4 * K + 2) 0) x (PV n a K K x) (PT n a K K) := by
  have a0 : XR K n a 4 12 x (PV0 n a x) (fun s => PT0 n a s) := XR_up XR_12 (by omega)
  have a3 : XR K n a 4 50 x (PV0 n a (x + a) ^^^ n) (fun s => PT0 n a (ra 50 s)) := XR_up (XR_50 XR_12) (by omega)
  have a5 : XR K n a 4 61 x (PV0 n a x - FV n K n) (fun s => FT K (PT0 n a (ra 61 s))) := XR_61 hK (XR_up XR_12 (by omega)) (XF hK)
  rcases six hK with h | h | h | h | h | h
  · have e3 : tbBodies.getD (4 * K + 2) 0 = 12 := by rw [h]; rfl
    rw [e3]
    have q := a0
    have e1 : PV n a K K x = PV0 n a x := by unfold PV; rw [if_neg (by omega), if_neg (by omega)]
    have e2 : PT n a K K = (fun s => PT0 n a s) := by funext s; unfold PT; rw [if_neg (by omega), if_neg (by omega)]
    rw [e1, e2]
    exact q
  · have e3 : tbBodies.getD (4 * K + 2) 0 = 12 := by rw [h]; rfl
    rw [e3]
    have q := a0
    have e1 : PV n a K K x = PV0 n a x := by unfold PV; rw [if_neg (by omega), if_neg (by omega)]
    have e2 : PT n a K K = (fun s => PT0 n a s) := by funext s; unfold PT; rw [if_neg (by omega), if_neg (by omega)]
    rw [e1, e2]
    exact q
  · have e3 : tbBodies.getD (4 * K + 2) 0 = 12 := by rw [h]; rfl
    rw [e3]
    have q := a0
    have e1 : PV n a K K x = PV0 n a x := by unfold PV; rw [if_neg (by omega), if_neg (by omega)]
    have e2 : PT n a K K = (fun s => PT0 n a s) := by funext s; unfold PT; rw [if_neg (by omega), if_neg (by omega)]
    rw [e1, e2]
    exact q
  · have e3 : tbBodies.getD (4 * K + 2) 0 = 50 := by rw [h]; rfl
    rw [e3]
    have q := a3
    have e1 : PV n a K K x = PV0 n a (x + a) ^^^ n := by unfold PV; rw [if_pos h]
    have e2 : PT n a K K = (fun s => PT0 n a (ra 50 s)) := by funext s; unfold PT; rw [if_pos h]
    rw [e1, e2]
    exact q
  · have e3 : tbBodies.getD (4 * K + 2) 0 = 12 := by rw [h]; rfl
    rw [e3]
    have q := a0
    have e1 : PV n a K K x = PV0 n a x := by unfold PV; rw [if_neg (by omega), if_neg (by omega)]
    have e2 : PT n a K K = (fun s => PT0 n a s) := by funext s; unfold PT; rw [if_neg (by omega), if_neg (by omega)]
    rw [e1, e2]
    exact q
  · have e3 : tbBodies.getD (4 * K + 2) 0 = 61 := by rw [h]; rfl
    rw [e3]
    have q := a5
    have e1 : PV n a K K x = PV0 n a x - FV n K n := by unfold PV; rw [if_neg (by omega), if_pos h]
    have e2 : PT n a K K = (fun s => FT K (PT0 n a (ra 61 s))) := by funext s; unfold PT; rw [if_neg (by omega), if_pos h]
    rw [e1, e2]
    exact q
theorem XL {K : Nat} {n a x : Int32} (hK : K < 6) : XR K n a 7 (tbBodies.getD (4 * K + 3) 0) x (LV n a K K x) (LT n a K K) := by
  have a0 : XR K n a 6 13 x (LV0 n a K x) (fun s => LT0 K s) := XR_13 hK (XS hK)
  have a2 : XR K n a 7 31 x (LV0 n a K x - PV n a K K n) (fun s => PT n a K K (LT0 K (ra 31 s))) := XR_31 hK a0 (XR_up (XP hK) (by omega))
  have a5 : XR K n a 7 60 x (LV0 n a K x * 5) (fun s => LT0 K (ra 60 s)) := XR_60 a0
  have b0 := XR_up a0 (show 6 ≤ 7 by omega)
  rcases six hK with h | h | h | h | h | h
  · have e3 : tbBodies.getD (4 * K + 3) 0 = 13 := by rw [h]; rfl
    rw [e3]
    have q := b0
    have e1 : LV n a K K x = LV0 n a K x := by unfold LV; rw [if_neg (by omega), if_neg (by omega), if_neg (by omega)]
    have e2 : LT n a K K = (fun s => LT0 K s) := by funext s; unfold LT; rw [if_neg (by omega), if_neg (by omega), if_neg (by omega)]
    rw [e1, e2]
    exact q
  · have e3 : tbBodies.getD (4 * K + 3) 0 = 13 := by rw [h]; rfl
    rw [e3]
    have q := b0
    have e1 : LV n a K K x = LV0 n a K x := by unfold LV; rw [if_neg (by omega), if_neg (by omega), if_neg (by omega)]
    have e2 : LT n a K K = (fun s => LT0 K s) := by funext s; unfold LT; rw [if_neg (by omega), if_neg (by omega), if_neg (by omega)]
    rw [e1, e2]
    exact q
  · have e3 : tbBodies.getD (4 * K + 3) 0 = 31 := by rw [h]; rfl
    rw [e3]
    have q := a2
    have e1 : LV n a K K x = LV0 n a K x - PV n a K K n := by unfold LV; rw [if_pos h]
    have e2 : LT n a K K = (fun s => PT n a K K (LT0 K (ra 31 s))) := by funext s; unfold LT; rw [if_pos h]
    rw [e1, e2]
    exact q
  · have e3 : tbBodies.getD (4 * K + 3) 0 = 13 := by rw [h]; rfl
    rw [e3]
    have q := b0
    have e1 : LV n a K K x = LV0 n a K x := by unfold LV; rw [if_neg (by omega), if_neg (by omega), if_neg (by omega)]
    have e2 : LT n a K K = (fun s => LT0 K s) := by funext s; unfold LT; rw [if_neg (by omega), if_neg (by omega), if_neg (by omega)]
    rw [e1, e2]
    exact q
  · have e3 : tbBodies.getD (4 * K + 3) 0 = 31 := by rw [h]; rfl
    rw [e3]
    have q := a2
    have e1 : LV n a K K x = LV0 n a K x - PV n a K K n := by unfold LV; rw [if_neg (by omega), if_pos h]
    have e2 : LT n a K K = (fun s => PT n a K K (LT0 K (ra 31 s))) := by funext s; unfold LT; rw [if_neg (by omega), if_pos h]
    rw [e1, e2]
    exact q
  · have e3 : tbBodies.getD (4 * K + 3) 0 = 60 := by rw [h]; rfl
    rw [e3]
    have q := a5
    have e1 : LV n a K K x = LV0 n a K x * 5 := by unfold LV; rw [if_neg (by omega), if_neg (by omega), if_pos h]
    have e2 : LT n a K K = (fun s => LT0 K (ra 60 s)) := by funext s; unfold LT; rw [if_neg (by omega), if_neg (by omega), if_pos h]
    rw [e1, e2]
    exact q
/-! the reference's -/
def mS (m : MSt) (s : TrS) : MSt := M_isParted_ (M_traceMany_ (M_traced_ m s.1) (nI s.2.1)) (bI s.2.2)
theorem mS_ran (m : MSt) (s : TrS) (g : Nat → Int32) (t : Int32) : M_traceMany_ (M_traced_ (mS m s) g) t = M_isParted_ (M_traceMany_ (M_traced_ m g) t) (bI s.2.2) := by
  unfold mS
  dsimp only [M_traceMany_, M_traced_, M_isParted_]
theorem mS_part (m : MSt) (s : TrS) (v : Int32) : M_isParted_ (mS m s) v = M_isParted_ (M_traceMany_ (M_traced_ m s.1) (nI s.2.1)) v := by
  unfold mS
  dsimp only [M_traceMany_, M_traced_, M_isParted_]
theorem mS_who (m : MSt) (s : TrS) : M_who (mS m s) = M_who m := by
  unfold mS
  dsimp only [M_who, M_traceMany_, M_traced_, M_isParted_]
theorem mS_tm (m : MSt) (s : TrS) : M_traceMany (mS m s) = nI s.2.1 := by
  unfold mS
  dsimp only [M_traceMany, M_traceMany_, M_traced_, M_isParted_]
theorem mS_ip (m : MSt) (s : TrS) : M_isParted (mS m s) = bI s.2.2 := by
  unfold mS
  dsimp only [M_isParted, M_traceMany_, M_traced_, M_isParted_]
theorem mS_tr (m : MSt) (s : TrS) : M_traced (mS m s) = s.1 := by
  unfold mS
  dsimp only [M_traced, M_traceMany_, M_traced_, M_isParted_]
theorem mS_d (m : MSt) (s : TrS) : M_d (mS m s) = M_d m := by
  unfold mS
  dsimp only [M_d, M_traceMany_, M_traced_, M_isParted_]
theorem FV_0 {n : Int32} {x : Int32} : FV n 0 x = x * 3 + n := by unfold FV; rw [if_neg (by decide), if_neg (by decide), if_neg (by decide)]
theorem FT_0  {s : TrS} : FT 0 s = ra 10 s := by unfold FT; rw [if_neg (by decide), if_neg (by decide), if_neg (by decide)]
theorem FV_1 {n : Int32} {x : Int32} : FV n 1 x = x * 3 + n := by unfold FV; rw [if_neg (by decide), if_neg (by decide), if_neg (by decide)]
theorem FT_1  {s : TrS} : FT 1 s = ra 10 s := by unfold FT; rw [if_neg (by decide), if_neg (by decide), if_neg (by decide)]
theorem FV_2 {n : Int32} {x : Int32} : FV n 2 x = x * 3 + n + 4 := by unfold FV; rw [if_pos rfl]
theorem FT_2  {s : TrS} : FT 2 s = ra 10 (ra 30 s) := by unfold FT; rw [if_pos rfl]
theorem FV_3 {n : Int32} {x : Int32} : FV n 3 x = x * 3 + n - 7 := by unfold FV; rw [if_neg (by decide), if_pos rfl]
theorem FT_3  {s : TrS} : FT 3 s = ra 10 (ra 51 s) := by unfold FT; rw [if_neg (by decide), if_pos rfl]
theorem FV_4 {n : Int32} {x : Int32} : FV n 4 x = (x * 3 + n + 4) * 2 := by unfold FV; rw [if_neg (by decide), if_neg (by decide), if_pos rfl]
theorem FT_4  {s : TrS} : FT 4 s = ra 10 (ra 30 (ra 40 s)) := by unfold FT; rw [if_neg (by decide), if_neg (by decide), if_pos rfl]
theorem FV_5 {n : Int32} {x : Int32} : FV n 5 x = x * 3 + n := by unfold FV; rw [if_neg (by decide), if_neg (by decide), if_neg (by decide)]
theorem FT_5  {s : TrS} : FT 5 s = ra 10 s := by unfold FT; rw [if_neg (by decide), if_neg (by decide), if_neg (by decide)]
theorem SV_0 {n a : Int32} {K : Nat} {x : Int32} : SV n a K 0 x = SV0 n a K x := by unfold SV; rw [if_neg (by decide), if_neg (by decide), if_neg (by decide)]
theorem ST_0 {K : Nat} {s : TrS} : ST K 0 s = ST0 K s := by unfold ST; rw [if_neg (by decide), if_neg (by decide), if_neg (by decide)]
theorem SV_1 {n a : Int32} {K : Nat} {x : Int32} : SV n a K 1 x = 0 - SV0 n a K x := by unfold SV; rw [if_pos rfl]
theorem ST_1 {K : Nat} {s : TrS} : ST K 1 s = ST0 K (ra 20 s) := by unfold ST; rw [if_pos rfl]
theorem SV_2 {n a : Int32} {K : Nat} {x : Int32} : SV n a K 2 x = SV0 n a K x := by unfold SV; rw [if_neg (by decide), if_neg (by decide), if_neg (by decide)]
theorem ST_2 {K : Nat} {s : TrS} : ST K 2 s = ST0 K s := by unfold ST; rw [if_neg (by decide), if_neg (by decide), if_neg (by decide)]
theorem SV_3 {n a : Int32} {K : Nat} {x : Int32} : SV n a K 3 x = 0 - SV0 n a K x := by unfold SV; rw [if_neg (by decide), if_pos rfl]
theorem ST_3 {K : Nat} {s : TrS} : ST K 3 s = ST0 K (ra 20 s) := by unfold ST; rw [if_neg (by decide), if_pos rfl]
theorem SV_4 {n a : Int32} {K : Nat} {x : Int32} : SV n a K 4 x = SV0 n a K x + FV n K a := by unfold SV; rw [if_neg (by decide), if_neg (by decide), if_pos rfl]
theorem ST_4 {K : Nat} {s : TrS} : ST K 4 s = FT K (ST0 K (ra 41 s)) := by unfold ST; rw [if_neg (by decide), if_neg (by decide), if_pos rfl]
theorem SV_5 {n a : Int32} {K : Nat} {x : Int32} : SV n a K 5 x = SV0 n a K x := by unfold SV; rw [if_neg (by decide), if_neg (by decide), if_neg (by decide)]
theorem ST_5 {K : Nat} {s : TrS} : ST K 5 s = ST0 K s := by unfold ST; rw [if_neg (by decide), if_neg (by decide), if_neg (by decide)]
theorem PV_0 {n a : Int32} {K : Nat} {x : Int32} : PV n a K 0 x = PV0 n a x := by unfold PV; rw [if_neg (by decide), if_neg (by decide)]
theorem PT_0 {n a : Int32} {K : Nat} {s : TrS} : PT n a K 0 s = PT0 n a s := by unfold PT; rw [if_neg (by decide), if_neg (by decide)]
theorem PV_1 {n a : Int32} {K : Nat} {x : Int32} : PV n a K 1 x = PV0 n a x := by unfold PV; rw [if_neg (by decide), if_neg (by decide)]
theorem PT_1 {n a : Int32} {K : Nat} {s : TrS} : PT n a K 1 s = PT0 n a s := by unfold PT; rw [if_neg (by decide), if_neg (by decide)]
theorem PV_2 {n a : Int32} {K : Nat} {x : Int32} : PV n a K 2 x = PV0 n a x := by unfold PV; rw [if_neg (by decide), if_neg (by decide)]
theorem PT_2 {n a : Int32} {K : Nat} {s : TrS} : PT n a K 2 s = PT0 n a s := by unfold PT; rw [if_neg (by decide), if_neg (by decide)]
theorem PV_3 {n a : Int32} {K : Nat} {x : Int32} : PV n a K 3 x = PV0 n a (x + a) ^^^ n := by unfold PV; rw [if_pos rfl]
theorem PT_3 {n a : Int32} {K : Nat} {s : TrS} : PT n a K 3 s = PT0 n a (ra 50 s) := by unfold PT; rw [if_pos rfl]
theorem PV_4 {n a : Int32} {K : Nat} {x : Int32} : PV n a K 4 x = PV0 n a x := by unfold PV; rw [if_neg (by decide), if_neg (by decide)]
theorem PT_4 {n a : Int32} {K : Nat} {s : TrS} : PT n a K 4 s = PT0 n a s := by unfold PT; rw [if_neg (by decide), if_neg (by decide)]
theorem PV_5 {n a : Int32} {K : Nat} {x : Int32} : PV n a K 5 x = PV0 n a x - FV n K n := by unfold PV; rw [if_neg (by decide), if_pos rfl]
theorem PT_5 {n a : Int32} {K : Nat} {s : TrS} : PT n a K 5 s = FT K (PT0 n a (ra 61 s)) := by unfold PT; rw [if_neg (by decide), if_pos rfl]
theorem LV_0 {n a : Int32} {K : Nat} {x : Int32} : LV n a K 0 x = LV0 n a K x := by unfold LV; rw [if_neg (by decide), if_neg (by decide), if_neg (by decide)]
theorem LT_0 {n a : Int32} {K : Nat} {s : TrS} : LT n a K 0 s = LT0 K s := by unfold LT; rw [if_neg (by decide), if_neg (by decide), if_neg (by decide)]
theorem LV_1 {n a : Int32} {K : Nat} {x : Int32} : LV n a K 1 x = LV0 n a K x := by unfold LV; rw [if_neg (by decide), if_neg (by decide), if_neg (by decide)]
theorem LT_1 {n a : Int32} {K : Nat} {s : TrS} : LT n a K 1 s = LT0 K s := by unfold LT; rw [if_neg (by decide), if_neg (by decide), if_neg (by decide)]
theorem LV_2 {n a : Int32} {K : Nat} {x : Int32} : LV n a K 2 x = LV0 n a K x - PV n a K K n := by unfold LV; rw [if_pos rfl]
theorem LT_2 {n a : Int32} {K : Nat} {s : TrS} : LT n a K 2 s = PT n a K K (LT0 K (ra 31 s)) := by unfold LT; rw [if_pos rfl]
theorem LV_3 {n a : Int32} {K : Nat} {x : Int32} : LV n a K 3 x = LV0 n a K x := by unfold LV; rw [if_neg (by decide), if_neg (by decide), if_neg (by decide)]
theorem LT_3 {n a : Int32} {K : Nat} {s : TrS} : LT n a K 3 s = LT0 K s := by unfold LT; rw [if_neg (by decide), if_neg (by decide), if_neg (by decide)]
theorem LV_4 {n a : Int32} {K : Nat} {x : Int32} : LV n a K 4 x = LV0 n a K x - PV n a K K n := by unfold LV; rw [if_neg (by decide), if_pos rfl]
theorem LT_4 {n a : Int32} {K : Nat} {s : TrS} : LT n a K 4 s = PT n a K K (LT0 K (ra 31 s)) := by unfold LT; rw [if_neg (by decide), if_pos rfl]
theorem LV_5 {n a : Int32} {K : Nat} {x : Int32} : LV n a K 5 x = LV0 n a K x * 5 := by unfold LV; rw [if_neg (by decide), if_neg (by decide), if_pos rfl]
theorem LT_5 {n a : Int32} {K : Nat} {s : TrS} : LT n a K 5 s = LT0 K (ra 60 s) := by unfold LT; rw [if_neg (by decide), if_neg (by decide), if_pos rfl]
theorem M_ran_ok {m : MSt} {s : TrS} {b : Int32} {post : MSt → Prop} (ht : s.2.1 ≤ 30) (hp : post (mS m (ra b s))) : wp_M_ran (mS m s) b post := by
  unfold wp_M_ran
  rw [mS_tm, mS_ip, mS_tr]
  refine t_le (a := 30) (b := s.2.1) rfl rfl (fun z => ?_) (fun z => ?_)
  · have : ra b s = s := by unfold ra; rw [if_neg (by omega)]
    rw [this] at hp
    exact hp
  cases q : s.2.2 with
  | true =>
    rw [ra_i q] at hp
    refine if1 hp
  | false =>
    refine if0 ⟨vp_in_nI (by omega) (by omega), fun y hy => ?_⟩
    have e4 : ra b s = (upd s.1 s.2.1 b, s.2.1 + 1, s.2.2) := by
      unfold ra
      rw [if_pos ⟨by omega, q⟩]
    rw [e4] at hp
    rw [hy, nI_1, nI_clamp (by omega), mS_ran]
    exact hp
theorem M_fl_ok {m : MSt} {n : Int32} (hw : M_who m = n) : ∀ (k : Nat), k < 6 → ∀ (N : Nat) (s : TrS) (x : Int32) (post : Int32 → MSt → Prop), 4 ≤ N → s.2.1 ≤ 30 → post (FV n k x) (mS m (FT k s)) → wp_M_floatsBy N (mS m s) (nI k) x post := by
  have f0 : ∀ (N : Nat) (s : TrS) (x : Int32) (post : Int32 → MSt → Prop), 1 ≤ N → s.2.1 ≤ 30 → post (x * 3 + n) (mS m (ra 10 s)) → wp_M_floatsBy N (mS m s) 0 x post := by
    intro N s x post hN ht hp
    obtain ⟨N, rfl⟩ : ∃ k, N = k + 1 := ⟨N - 1, by omega⟩
    rw [wp_M_floatsBy]
    unfold w_M_floatsBy
    refine ifp rfl (M_ran_ok ht ?_)
    intro y2 h2
    rw [h2, mS_who, hw]
    exact hp
  have f1 : ∀ (N : Nat) (s : TrS) (x : Int32) (post : Int32 → MSt → Prop), 2 ≤ N → s.2.1 ≤ 30 → post (x * 3 + n) (mS m (ra 10 s)) → wp_M_floatsBy N (mS m s) 1 x post := by
    intro N s x post hN ht hp
    obtain ⟨N, rfl⟩ : ∃ k, N = k + 1 := ⟨N - 1, by omega⟩
    rw [wp_M_floatsBy]
    unfold w_M_floatsBy
    exact ifn (by decide) (ifn (by decide) (ifn (by decide) (ifn (by decide) (f0 N s x _ (by omega) ht hp))))
  have f2 : ∀ (N : Nat) (s : TrS) (x : Int32) (post : Int32 → MSt → Prop), 2 ≤ N → s.2.1 ≤ 30 → post (x * 3 + n + 4) (mS m (ra 10 (ra 30 s))) → wp_M_floatsBy N (mS m s) 2 x post := by
    intro N s x post hN ht hp
    obtain ⟨N, rfl⟩ : ∃ k, N = k + 1 := ⟨N - 1, by omega⟩
    rw [wp_M_floatsBy]
    unfold w_M_floatsBy
    exact ifn (by decide) (ifp rfl (M_ran_ok ht (f0 N _ x _ (by omega) (ra_t ht) hp)))
  intro k hk N s x post hN ht hp
  rcases six hk with h | h | h | h | h | h <;> subst h
  · rw [FV_0, FT_0] at hp
    exact f0 N s x post (by omega) ht hp
  · rw [FV_1, FT_1] at hp
    exact f1 N s x post (by omega) ht hp
  · rw [FV_2, FT_2] at hp
    exact f2 N s x post (by omega) ht hp
  · rw [FV_3, FT_3] at hp
    obtain ⟨N, rfl⟩ : ∃ k, N = k + 1 := ⟨N - 1, by omega⟩
    rw [wp_M_floatsBy]
    unfold w_M_floatsBy
    exact ifn (by decide) (ifn (by decide) (ifp rfl (M_ran_ok ht (f1 N _ x _ (by omega) (ra_t ht) hp))))
  · rw [FV_4, FT_4] at hp
    obtain ⟨N, rfl⟩ : ∃ k, N = k + 1 := ⟨N - 1, by omega⟩
    rw [wp_M_floatsBy]
    unfold w_M_floatsBy
    exact ifn (by decide) (ifn (by decide) (ifn (by decide) (ifp rfl (M_ran_ok ht (f2 N _ x _ (by omega) (ra_t ht) hp)))))
  · rw [FV_5, FT_5] at hp
    obtain ⟨N, rfl⟩ : ∃ k, N = k + 1 := ⟨N - 1, by omega⟩
    rw [wp_M_floatsBy]
    unfold w_M_floatsBy
    exact ifn (by decide) (ifn (by decide) (ifn (by decide) (ifn (by decide) (f0 N s x _ (by omega) ht hp))))
theorem FT_t {k : Nat} {s : TrS} (h : s.2.1 ≤ 30) : (FT k s).2.1 ≤ 30 := by
  unfold FT
  split
  · exact ra_t (ra_t h)
  split
  · exact ra_t (ra_t h)
  split
  · exact ra_t (ra_t (ra_t h))
  · exact ra_t h
theorem PT0_t {n a : Int32} {s : TrS} (h : s.2.1 ≤ 30) : (PT0 n a s).2.1 ≤ 30 := by
  unfold PT0
  split
  · exact ra_t (b := 12) h
  · exact ra_t h
theorem ST_t {K k : Nat} {s : TrS} (h : s.2.1 ≤ 30) : (ST K k s).2.1 ≤ 30 := by
  unfold ST ST0
  split
  · exact FT_t (ra_t (ra_t h))
  split
  · exact FT_t (ra_t (ra_t h))
  split
  · exact FT_t (FT_t (ra_t (ra_t h)))
  · exact FT_t (ra_t h)
/-- the numbers of the one that acts -/
def MW (m : MSt) (K : Nat) (n a : Int32) : Prop := M_who m = n ∧ (∀ (s : TrS) (post : Int32 → MSt → Prop), post (nI K) (mS m s) → wp_M_get (mS m s) n 0 post) ∧ ∀ (s : TrS) (post : Int32 → MSt → Prop), post a (mS m s) → wp_M_get (mS m s) n 3 post
theorem M_above_ok {k : Nat} {post : Int32 → Prop} (hk : k < 6) (hp : post (nI (if k = 3 then 1 else if k = 4 then 2 else 0))) : wp_M_above (nI k) post := by
  unfold wp_M_above
  rcases six hk with h | h | h | h | h | h <;> subst h
  · exact ifn (by decide) (ifn (by decide) hp)
  · exact ifn (by decide) (ifn (by decide) hp)
  · exact ifn (by decide) (ifn (by decide) hp)
  · exact ifp rfl hp
  · exact ifn (by decide) (ifp rfl hp)
  · exact ifn (by decide) (ifn (by decide) hp)
theorem M_sl_ok {m : MSt} {K : Nat} {n a : Int32} (hK : K < 6) (mw : MW m K n a) : ∀ (k : Nat), k < 6 → ∀ (N : Nat) (s : TrS) (x : Int32) (post : Int32 → MSt → Prop), 5 ≤ N → s.2.1 ≤ 30 → post (SV n a K k x) (mS m (ST K k s)) → wp_M_slopsBy N (mS m s) (nI k) x post := by
  obtain ⟨hw, g0, g3⟩ := mw
  have f0 : ∀ (N : Nat) (s : TrS) (x : Int32) (post : Int32 → MSt → Prop), 1 ≤ N → s.2.1 ≤ 30 → post (SV0 n a K x) (mS m (ST0 K s)) → wp_M_slopsBy N (mS m s) 0 x post := by
    intro N s x post hN ht hp
    obtain ⟨N, rfl⟩ : ∃ k, N = k + 1 := ⟨N - 1, by omega⟩
    rw [wp_M_slopsBy]
    unfold w_M_slopsBy
    refine ifp rfl (M_ran_ok ht ?_)
    rw [mS_who, hw]
    refine g0 _ _ ?_
    refine M_fl_ok hw K hK 10 _ x _ (by omega) (ra_t ht) ?_
    rw [mS_who, hw]
    exact g3 _ _ hp
  have f1 : ∀ (N : Nat) (s : TrS) (x : Int32) (post : Int32 → MSt → Prop), 2 ≤ N → s.2.1 ≤ 30 → post (0 - SV0 n a K x) (mS m (ST0 K (ra 20 s))) → wp_M_slopsBy N (mS m s) 1 x post := by
    intro N s x post hN ht hp
    obtain ⟨N, rfl⟩ : ∃ k, N = k + 1 := ⟨N - 1, by omega⟩
    rw [wp_M_slopsBy]
    unfold w_M_slopsBy
    exact ifn (by decide) (ifp rfl (M_ran_ok ht (f0 N _ x _ (by omega) (ra_t ht) hp)))
  have f2 : ∀ (N : Nat) (s : TrS) (x : Int32) (post : Int32 → MSt → Prop), 2 ≤ N → s.2.1 ≤ 30 → post (SV0 n a K x) (mS m (ST0 K s)) → wp_M_slopsBy N (mS m s) 2 x post := by
    intro N s x post hN ht hp
    obtain ⟨N, rfl⟩ : ∃ k, N = k + 1 := ⟨N - 1, by omega⟩
    rw [wp_M_slopsBy]
    unfold w_M_slopsBy
    exact ifn (by decide) (ifn (by decide) (ifn (by decide) (M_above_ok (k := 2) (by omega) (f0 N s x _ (by omega) ht hp))))
  intro k hk N s x post hN ht hp
  rcases six hk with h | h | h | h | h | h <;> subst h
  · rw [SV_0, ST_0] at hp
    exact f0 N s x post (by omega) ht hp
  · rw [SV_1, ST_1] at hp
    exact f1 N s x post (by omega) ht hp
  · rw [SV_2, ST_2] at hp
    exact f2 N s x post (by omega) ht hp
  · rw [SV_3, ST_3] at hp
    obtain ⟨N, rfl⟩ : ∃ k, N = k + 1 := ⟨N - 1, by omega⟩
    rw [wp_M_slopsBy]
    unfold w_M_slopsBy
    exact ifn (by decide) (ifn (by decide) (ifn (by decide) (M_above_ok (k := 3) (by omega) (f1 N s x _ (by omega) ht hp))))
  · rw [SV_4, ST_4] at hp
    obtain ⟨N, rfl⟩ : ∃ k, N = k + 1 := ⟨N - 1, by omega⟩
    rw [wp_M_slopsBy]
    unfold w_M_slopsBy
    refine ifn (by decide) (ifn (by decide) (ifp rfl (M_ran_ok ht (f2 N _ x _ (by omega) (ra_t ht) ?_))))
    rw [mS_who, hw]
    refine g0 _ _ ?_
    rw [mS_who, hw]
    refine g3 _ _ ?_
    exact M_fl_ok hw K hK 10 _ a _ (by omega) (FT_t (ra_t (ra_t ht))) hp
  · rw [SV_5, ST_5] at hp
    obtain ⟨N, rfl⟩ : ∃ k, N = k + 1 := ⟨N - 1, by omega⟩
    rw [wp_M_slopsBy]
    unfold w_M_slopsBy
    exact ifn (by decide) (ifn (by decide) (ifn (by decide) (M_above_ok (k := 5) (by omega) (f0 N s x _ (by omega) ht hp))))
theorem fb1 : fits .boolean (.int 1) = true := by decide
theorem fb0 : fits .boolean (.int 0) = true := by decide
theorem M_pa_ok {m : MSt} {K : Nat} {n a : Int32} (hK : K < 6) (mw : MW m K n a) : ∀ (k : Nat), k < 6 → ∀ (N : Nat) (s : TrS) (x : Int32) (post : Int32 → MSt → Prop), 5 ≤ N → s.2.1 ≤ 30 → post (PV n a K k x) (mS m (PT n a K k s)) → wp_M_partsBy N (mS m s) (nI k) x post := by
  obtain ⟨hw, g0, g3⟩ := mw
  have f0 : ∀ (N : Nat) (s : TrS) (x : Int32) (post : Int32 → MSt → Prop), 1 ≤ N → s.2.1 ≤ 30 → post (PV0 n a x) (mS m (PT0 n a s)) → wp_M_partsBy N (mS m s) 0 x post := by
    intro N s x post hN ht hp
    obtain ⟨N, rfl⟩ : ∃ k, N = k + 1 := ⟨N - 1, by omega⟩
    rw [wp_M_partsBy]
    unfold w_M_partsBy
    refine ifp rfl (M_ran_ok ht ?_)
    rw [mS_who, hw]
    refine g3 _ _ ?_
    rw [mS_who, hw, mS_ip]
    intro y4 h4
    have e4 : y4 = 0 ↔ a = n := by rw [h4]; exact sub_0
    unfold PV0 PT0 at hp
    have fin : ∀ p : Bool, (if a = n then p = true else p = (ra 12 s).2.2) → w_M_partsBy_74 (wp_M_partsBy N) post (mS m (ra 12 s)) x y4 (bI p) := by
      intro p hpp
      unfold w_M_partsBy_74
      refine ⟨by cases p <;> decide, by cases p <;> decide, fun z => ?_, fun z => ⟨z, ?_⟩⟩
      · rw [if_pos (e4.mp z)] at hpp hp
        rw [if_pos (e4.mp z)] at hp
        rw [hpp, mS_part]
        exact hp
      · have z2 : ¬ a = n := fun u => z (e4.mpr u)
        rw [if_neg z2] at hpp hp
        rw [if_neg z2] at hp
        rw [hpp, h4, mS_part]
        exact hp
    cases q : (ra 12 s).2.2 with
    | true => exact if1 (fin true (by rw [q]; split <;> rfl))
    | false =>
      refine if0 ⟨fun z => fin true (by rw [if_pos (e4.mp z)]), fun z => fin false (by rw [if_neg (fun u => z (e4.mpr u)), q])⟩
  have f1 : ∀ (k : Nat), k = 1 ∨ k = 2 → ∀ (N : Nat) (s : TrS) (x : Int32) (post : Int32 → MSt → Prop), 2 ≤ N → s.2.1 ≤ 30 → post (PV0 n a x) (mS m (PT0 n a s)) → wp_M_partsBy N (mS m s) (nI k) x post := by
    intro k hk N s x post hN ht hp
    obtain ⟨N, rfl⟩ : ∃ k, N = k + 1 := ⟨N - 1, by omega⟩
    rw [wp_M_partsBy]
    unfold w_M_partsBy
    rcases hk with h | h <;> subst h
    · exact ifn (by decide) (ifn (by decide) (ifn (by decide) (M_above_ok (k := 1) (by omega) (f0 N s x _ (by omega) ht hp))))
    · exact ifn (by decide) (ifn (by decide) (ifn (by decide) (M_above_ok (k := 2) (by omega) (f0 N s x _ (by omega) ht hp))))
  intro k hk N s x post hN ht hp
  rcases six hk with h | h | h | h | h | h <;> subst h
  · rw [PV_0, PT_0] at hp
    exact f0 N s x post (by omega) ht hp
  · rw [PV_1, PT_1] at hp
    exact f1 1 (by omega) N s x post (by omega) ht hp
  · rw [PV_2, PT_2] at hp
    exact f1 2 (by omega) N s x post (by omega) ht hp
  · rw [PV_3, PT_3] at hp
    obtain ⟨N, rfl⟩ : ∃ k, N = k + 1 := ⟨N - 1, by omega⟩
    rw [wp_M_partsBy]
    unfold w_M_partsBy
    refine ifn (by decide) (ifp rfl (M_ran_ok ht ?_))
    rw [mS_who, hw]
    refine g3 _ _ ?_
    intro y14 h14
    rw [h14]
    refine f1 1 (by omega) N _ (x + a) _ (by omega) (ra_t ht) ?_
    rw [mS_who, hw]
    exact hp
  · rw [PV_4, PT_4] at hp
    obtain ⟨N, rfl⟩ : ∃ k, N = k + 1 := ⟨N - 1, by omega⟩
    rw [wp_M_partsBy]
    unfold w_M_partsBy
    exact ifn (by decide) (ifn (by decide) (ifn (by decide) (M_above_ok (k := 4) (by omega) (f1 2 (by omega) N s x _ (by omega) ht hp))))
  · rw [PV_5, PT_5] at hp
    obtain ⟨N, rfl⟩ : ∃ k, N = k + 1 := ⟨N - 1, by omega⟩
    rw [wp_M_partsBy]
    unfold w_M_partsBy
    refine ifn (by decide) (ifn (by decide) (ifp rfl (M_ran_ok ht (f0 N _ x _ (by omega) (ra_t ht) ?_))))
    rw [mS_who, hw]
    refine g0 _ _ ?_
    rw [mS_who, hw]
    exact M_fl_ok hw K hK 10 _ n _ (by omega) (PT0_t (ra_t ht)) hp
theorem M_la_ok {m : MSt} {K : Nat} {n a : Int32} (hK : K < 6) (mw : MW m K n a) : ∀ (k : Nat), k < 6 → ∀ (N : Nat) (s : TrS) (x : Int32) (post : Int32 → MSt → Prop), 5 ≤ N → s.2.1 ≤ 30 → post (LV n a K k x) (mS m (LT n a K k s)) → wp_M_landsBy N (mS m s) (nI k) x post := by
  have hw := mw.1
  have g0 := mw.2.1
  have f0 : ∀ (N : Nat) (s : TrS) (x : Int32) (post : Int32 → MSt → Prop), 1 ≤ N → s.2.1 ≤ 30 → post (LV0 n a K x) (mS m (LT0 K s)) → wp_M_landsBy N (mS m s) 0 x post := by
    intro N s x post hN ht hp
    obtain ⟨N, rfl⟩ : ∃ k, N = k + 1 := ⟨N - 1, by omega⟩
    rw [wp_M_landsBy]
    unfold w_M_landsBy
    refine ifp rfl (M_ran_ok ht ?_)
    rw [mS_who, hw]
    refine g0 _ _ ?_
    exact M_sl_ok hK mw K hK 10 _ x _ (by omega) (ra_t ht) hp
  have f1 : ∀ (N : Nat) (s : TrS) (x : Int32) (post : Int32 → MSt → Prop), 2 ≤ N → s.2.1 ≤ 30 → post (LV0 n a K x) (mS m (LT0 K s)) → wp_M_landsBy N (mS m s) 1 x post := by
    intro N s x post hN ht hp
    obtain ⟨N, rfl⟩ : ∃ k, N = k + 1 := ⟨N - 1, by omega⟩
    rw [wp_M_landsBy]
    unfold w_M_landsBy
    exact ifn (by decide) (ifn (by decide) (ifn (by decide) (M_above_ok (k := 1) (by omega) (f0 N s x _ (by omega) ht hp))))
  have f2 : ∀ (N : Nat) (s : TrS) (x : Int32) (post : Int32 → MSt → Prop), 2 ≤ N → s.2.1 ≤ 30 → post (LV0 n a K x - PV n a K K n) (mS m (PT n a K K (LT0 K (ra 31 s)))) → wp_M_landsBy N (mS m s) 2 x post := by
    intro N s x post hN ht hp
    obtain ⟨N, rfl⟩ : ∃ k, N = k + 1 := ⟨N - 1, by omega⟩
    rw [wp_M_landsBy]
    unfold w_M_landsBy
    refine ifn (by decide) (ifp rfl (M_ran_ok ht (f0 N _ x _ (by omega) (ra_t ht) ?_)))
    rw [mS_who, hw]
    refine g0 _ _ ?_
    rw [mS_who, hw]
    exact M_pa_ok hK mw K hK 10 _ n _ (by omega) (ST_t (ra_t (ra_t ht))) hp
  intro k hk N s x post hN ht hp
  rcases six hk with h | h | h | h | h | h <;> subst h
  · rw [LV_0, LT_0] at hp
    exact f0 N s x post (by omega) ht hp
  · rw [LV_1, LT_1] at hp
    exact f1 N s x post (by omega) ht hp
  · rw [LV_2, LT_2] at hp
    exact f2 N s x post (by omega) ht hp
  · rw [LV_3, LT_3] at hp
    obtain ⟨N, rfl⟩ : ∃ k, N = k + 1 := ⟨N - 1, by omega⟩
    rw [wp_M_landsBy]
    unfold w_M_landsBy
    exact ifn (by decide) (ifn (by decide) (ifn (by decide) (M_above_ok (k := 3) (by omega) (f1 N s x _ (by omega) ht hp))))
  · rw [LV_4, LT_4] at hp
    obtain ⟨N, rfl⟩ : ∃ k, N = k + 1 := ⟨N - 1, by omega⟩
    rw [wp_M_landsBy]
    unfold w_M_landsBy
    exact ifn (by decide) (ifn (by decide) (ifn (by decide) (M_above_ok (k := 4) (by omega) (f2 N s x _ (by omega) ht hp))))
  · rw [LV_5, LT_5] at hp
    obtain ⟨N, rfl⟩ : ∃ k, N = k + 1 := ⟨N - 1, by omega⟩
    rw [wp_M_landsBy]
    unfold w_M_landsBy
    exact ifn (by decide) (ifn (by decide) (ifp rfl (M_ran_ok ht (f0 N _ x _ (by omega) (ra_t ht) hp))))
