/-! ===== the start ===== -/
theorem inv_0 : wp_M_first ini_M0 (fun m => Inv 0 ini_X (M_d_ m (upd (M_d m) 6 1))) := by
  refine M_first_ok (e := fun _ => 0) rfl (fun d q => ?_)
  have w0 : Wf 0 (fstE (fun _ => 0)) := Wf.fst (by omega)
  show Inv 0 ini_X (M_d_ ini_M0 (upd d 6 1))
  refine ⟨⟨uE (fstE (fun _ => 0)) 6 1, w0.z 1, ?_, rfl, q.upd 6 1, rfl⟩, ⟨rfl, fun z => absurd rfl z⟩, ⟨⟨0, by omega, fun _ => 0, rfl, rfl, fun j hj => by omega⟩, rfl⟩, ⟨⟨0, by omega, rfl, rfl⟩, fun j hj => rfl⟩, fun k hk => ⟨-1, 0, by omega, by omega, rfl, rfl, rfl, rfl, fun j hj => rfl⟩, fun k hk => Or.inl ⟨rfl, rfl⟩, ⟨rfl, 0, by omega, rfl, rfl⟩⟩
  show RelC ini_C (uE (fstE (fun _ => 0)) 6 1)
  refine ⟨fun k hk => ?_, fun k hk => ?_, fun k hk => ?_, ?_, ?_, ?_, fun b hb => ?_⟩
  · rw [uE_n (by omega)]
    show va_cpy (fun j => tbFirst.getD j 0) (fun _ => 0) 0 0 4 k = _
    rw [cpy_in hk]
    have : k = 0 ∨ k = 1 ∨ k = 2 ∨ k = 3 := by omega
    rcases this with q | q | q | q <;> subst q <;> rfl
  · rw [uE_n (by omega), fst_n (by omega)]
    show fillF 10 2 (fun _ => 0) k = _
    unfold fillF
    rw [if_pos hk]
    rfl
  · rw [uE_n (by omega), fst_z (by omega)]
    rfl
  · rw [uE_n (by omega), fst_z (by omega)]
    rfl
  · rw [uE_n (by omega), fst_z (by omega)]
    rfl
  · rw [uE_s]
    rfl
  · rw [uE_n (by omega), fst_z (by omega)] at hb
    omega
