theorem RelC.kind {c : CSt} {e : Gh} (h : RelC c e) {b : Nat} (hb : (b : Int) < e 4) (h4 : e 4 ≤ 8) (v : Int) : RelC (C_kind_ c (upd (C_kind c) b (iI v))) (uE e (27 + b) v) := by
  obtain ⟨r0, r1, r2, r3, r4, r5, r6⟩ := h
  refine ⟨fun k hk => (by rw [uE_n (by omega)]; exact r0 k hk), fun k hk => (by rw [uE_n (by omega)]; exact r1 k hk), fun k hk => (by rw [uE_n (by omega)]; exact r2 k hk), (by rw [uE_n (by omega)]; exact r3), (by rw [uE_n (by omega)]; exact r4), (by rw [uE_n (by omega)]; exact r5), fun k hk => ?_⟩
  rw [uE_n (by omega)] at hk
  obtain ⟨q1, q2, q3, q4, q5⟩ := r6 k hk
  exact ⟨(by
    show upd (C_kind c) b (iI v) k = _
    by_cases q : k = b
    · subst q; rw [pk_us, uE_s]
    · rw [pk_un q, uE_n (by omega)]; exact q1), (by rw [uE_n (by omega)]; exact q2), (by rw [uE_n (by omega)]; exact q3), (by rw [uE_n (by omega)]; exact q4), (by rw [uE_n (by omega)]; exact q5)⟩
theorem RelC.load {c : CSt} {e : Gh} (h : RelC c e) {b : Nat} (hb : (b : Int) < e 4) (h4 : e 4 ≤ 8) (v : Int) : RelC (C_load_ c (upd (C_load c) b (iI v))) (uE e (35 + b) v) := by
  obtain ⟨r0, r1, r2, r3, r4, r5, r6⟩ := h
  refine ⟨fun k hk => (by rw [uE_n (by omega)]; exact r0 k hk), fun k hk => (by rw [uE_n (by omega)]; exact r1 k hk), fun k hk => (by rw [uE_n (by omega)]; exact r2 k hk), (by rw [uE_n (by omega)]; exact r3), (by rw [uE_n (by omega)]; exact r4), (by rw [uE_n (by omega)]; exact r5), fun k hk => ?_⟩
  rw [uE_n (by omega)] at hk
  obtain ⟨q1, q2, q3, q4, q5⟩ := r6 k hk
  exact ⟨(by rw [uE_n (by omega)]; exact q1), (by
    show upd (C_load c) b (iI v) k = _
    by_cases q : k = b
    · subst q; rw [pk_us, uE_s]
    · rw [pk_un q, uE_n (by omega)]; exact q2), (by rw [uE_n (by omega)]; exact q3), (by rw [uE_n (by omega)]; exact q4), (by rw [uE_n (by omega)]; exact q5)⟩
theorem RelC.sort {c : CSt} {e : Gh} (h : RelC c e) {b : Nat} (hb : (b : Int) < e 4) (h4 : e 4 ≤ 8) (v : Int) : RelC (C_sort_ c (upd (C_sort c) b (iI v))) (uE e (43 + b) v) := by
  obtain ⟨r0, r1, r2, r3, r4, r5, r6⟩ := h
  refine ⟨fun k hk => (by rw [uE_n (by omega)]; exact r0 k hk), fun k hk => (by rw [uE_n (by omega)]; exact r1 k hk), fun k hk => (by rw [uE_n (by omega)]; exact r2 k hk), (by rw [uE_n (by omega)]; exact r3), (by rw [uE_n (by omega)]; exact r4), (by rw [uE_n (by omega)]; exact r5), fun k hk => ?_⟩
  rw [uE_n (by omega)] at hk
  obtain ⟨q1, q2, q3, q4, q5⟩ := r6 k hk
  exact ⟨(by rw [uE_n (by omega)]; exact q1), (by rw [uE_n (by omega)]; exact q2), (by
    show upd (C_sort c) b (iI v) k = _
    by_cases q : k = b
    · subst q; rw [pk_us, uE_s]
    · rw [pk_un q, uE_n (by omega)]; exact q3), (by rw [uE_n (by omega)]; exact q4), (by rw [uE_n (by omega)]; exact q5)⟩
theorem RelC.at {c : CSt} {e : Gh} (h : RelC c e) {b : Nat} (hb : (b : Int) < e 4) (h4 : e 4 ≤ 8) (v : Int) : RelC (C_at_ c (upd (C_at c) b (iI v))) (uE e (51 + b) v) := by
  obtain ⟨r0, r1, r2, r3, r4, r5, r6⟩ := h
  refine ⟨fun k hk => (by rw [uE_n (by omega)]; exact r0 k hk), fun k hk => (by rw [uE_n (by omega)]; exact r1 k hk), fun k hk => (by rw [uE_n (by omega)]; exact r2 k hk), (by rw [uE_n (by omega)]; exact r3), (by rw [uE_n (by omega)]; exact r4), (by rw [uE_n (by omega)]; exact r5), fun k hk => ?_⟩
  rw [uE_n (by omega)] at hk
  obtain ⟨q1, q2, q3, q4, q5⟩ := r6 k hk
  exact ⟨(by rw [uE_n (by omega)]; exact q1), (by rw [uE_n (by omega)]; exact q2), (by rw [uE_n (by omega)]; exact q3), (by
    show upd (C_at c) b (iI v) k = _
    by_cases q : k = b
    · subst q; rw [pk_us, uE_s]
    · rw [pk_un q, uE_n (by omega)]; exact q4), (by rw [uE_n (by omega)]; exact q5)⟩
theorem RelC.bound {c : CSt} {e : Gh} (h : RelC c e) {b : Nat} (hb : (b : Int) < e 4) (h4 : e 4 ≤ 8) (v : Int) : RelC (C_bound_ c (upd (C_bound c) b (iI v))) (uE e (59 + b) v) := by
  obtain ⟨r0, r1, r2, r3, r4, r5, r6⟩ := h
  refine ⟨fun k hk => (by rw [uE_n (by omega)]; exact r0 k hk), fun k hk => (by rw [uE_n (by omega)]; exact r1 k hk), fun k hk => (by rw [uE_n (by omega)]; exact r2 k hk), (by rw [uE_n (by omega)]; exact r3), (by rw [uE_n (by omega)]; exact r4), (by rw [uE_n (by omega)]; exact r5), fun k hk => ?_⟩
  rw [uE_n (by omega)] at hk
  obtain ⟨q1, q2, q3, q4, q5⟩ := r6 k hk
  exact ⟨(by rw [uE_n (by omega)]; exact q1), (by rw [uE_n (by omega)]; exact q2), (by rw [uE_n (by omega)]; exact q3), (by rw [uE_n (by omega)]; exact q4), (by
    show upd (C_bound c) b (iI v) k = _
    by_cases q : k = b
    · subst q; rw [pk_us, uE_s]
    · rw [pk_un q, uE_n (by omega)]; exact q5)⟩
theorem RelC.laws {c : CSt} {e : Gh} (h : RelC c e) {b : Nat} (hb : b < 4) (h4 : e 4 ≤ 8) (v : Int) : RelC (C_laws_ c (upd (C_laws c) b (iI v))) (uE e (b) v) := by
  obtain ⟨r0, r1, r2, r3, r4, r5, r6⟩ := h
  refine ⟨fun k hk => (by
    show upd (C_laws c) b (iI v) k = _
    by_cases q : k = b
    · subst q; rw [pk_us, uE_s]
    · rw [pk_un q, uE_n (by omega)]; exact r0 k hk), fun k hk => (by rw [uE_n (by omega)]; exact r1 k hk), fun k hk => (by rw [uE_n (by omega)]; exact r2 k hk), (by rw [uE_n (by omega)]; exact r3), (by rw [uE_n (by omega)]; exact r4), (by rw [uE_n (by omega)]; exact r5), fun k hk => ?_⟩
  rw [uE_n (by omega)] at hk
  obtain ⟨q1, q2, q3, q4, q5⟩ := r6 k hk
  exact ⟨(by rw [uE_n (by omega)]; exact q1), (by rw [uE_n (by omega)]; exact q2), (by rw [uE_n (by omega)]; exact q3), (by rw [uE_n (by omega)]; exact q4), (by rw [uE_n (by omega)]; exact q5)⟩
theorem RelC.noise {c : CSt} {e : Gh} (h : RelC c e) {b : Nat} (hb : b < 10) (h4 : e 4 ≤ 8) (v : Int) : RelC (C_noise_ c (upd (C_noise c) b (iI v))) (uE e (7 + b) v) := by
  obtain ⟨r0, r1, r2, r3, r4, r5, r6⟩ := h
  refine ⟨fun k hk => (by rw [uE_n (by omega)]; exact r0 k hk), fun k hk => (by
    show upd (C_noise c) b (iI v) k = _
    by_cases q : k = b
    · subst q; rw [pk_us, uE_s]
    · rw [pk_un q, uE_n (by omega)]; exact r1 k hk), fun k hk => (by rw [uE_n (by omega)]; exact r2 k hk), (by rw [uE_n (by omega)]; exact r3), (by rw [uE_n (by omega)]; exact r4), (by rw [uE_n (by omega)]; exact r5), fun k hk => ?_⟩
  rw [uE_n (by omega)] at hk
  obtain ⟨q1, q2, q3, q4, q5⟩ := r6 k hk
  exact ⟨(by rw [uE_n (by omega)]; exact q1), (by rw [uE_n (by omega)]; exact q2), (by rw [uE_n (by omega)]; exact q3), (by rw [uE_n (by omega)]; exact q4), (by rw [uE_n (by omega)]; exact q5)⟩
theorem RelC.lost {c : CSt} {e : Gh} (h : RelC c e) {b : Nat} (hb : b < 10) (h4 : e 4 ≤ 8) (v : Int) : RelC (C_lost_ c (upd (C_lost c) b (iI v))) (uE e (17 + b) v) := by
  obtain ⟨r0, r1, r2, r3, r4, r5, r6⟩ := h
  refine ⟨fun k hk => (by rw [uE_n (by omega)]; exact r0 k hk), fun k hk => (by rw [uE_n (by omega)]; exact r1 k hk), fun k hk => (by
    show upd (C_lost c) b (iI v) k = _
    by_cases q : k = b
    · subst q; rw [pk_us, uE_s]
    · rw [pk_un q, uE_n (by omega)]; exact r2 k hk), (by rw [uE_n (by omega)]; exact r3), (by rw [uE_n (by omega)]; exact r4), (by rw [uE_n (by omega)]; exact r5), fun k hk => ?_⟩
  rw [uE_n (by omega)] at hk
  obtain ⟨q1, q2, q3, q4, q5⟩ := r6 k hk
  exact ⟨(by rw [uE_n (by omega)]; exact q1), (by rw [uE_n (by omega)]; exact q2), (by rw [uE_n (by omega)]; exact q3), (by rw [uE_n (by omega)]; exact q4), (by rw [uE_n (by omega)]; exact q5)⟩
theorem RelC.hour {c : CSt} {e : Gh} (h : RelC c e) (v : Int) : RelC (C_hour_ c (iI v)) (uE e 5 v) := by
  obtain ⟨r0, r1, r2, r3, r4, r5, r6⟩ := h
  refine ⟨fun k hk => (by rw [uE_n (by omega)]; exact r0 k hk), fun k hk => (by rw [uE_n (by omega)]; exact r1 k hk), fun k hk => (by rw [uE_n (by omega)]; exact r2 k hk), (by rw [uE_n (by omega)]; exact r3), (by rw [uE_s]; rfl), (by rw [uE_n (by omega)]; exact r5), fun k hk => ?_⟩
  rw [uE_n (by omega)] at hk
  obtain ⟨q1, q2, q3, q4, q5⟩ := r6 k hk
  exact ⟨(by rw [uE_n (by omega)]; exact q1), (by rw [uE_n (by omega)]; exact q2), (by rw [uE_n (by omega)]; exact q3), (by rw [uE_n (by omega)]; exact q4), (by rw [uE_n (by omega)]; exact q5)⟩
theorem RelC.z {c : CSt} {e : Gh} (h : RelC c e) (v : Int) : RelC (C_z_ c (iI v)) (uE e 6 v) := by
  obtain ⟨r0, r1, r2, r3, r4, r5, r6⟩ := h
  refine ⟨fun k hk => (by rw [uE_n (by omega)]; exact r0 k hk), fun k hk => (by rw [uE_n (by omega)]; exact r1 k hk), fun k hk => (by rw [uE_n (by omega)]; exact r2 k hk), (by rw [uE_n (by omega)]; exact r3), (by rw [uE_n (by omega)]; exact r4), (by rw [uE_s]; rfl), fun k hk => ?_⟩
  rw [uE_n (by omega)] at hk
  obtain ⟨q1, q2, q3, q4, q5⟩ := r6 k hk
  exact ⟨(by rw [uE_n (by omega)]; exact q1), (by rw [uE_n (by omega)]; exact q2), (by rw [uE_n (by omega)]; exact q3), (by rw [uE_n (by omega)]; exact q4), (by rw [uE_n (by omega)]; exact q5)⟩
