/-! ===== what holds between the two, from call to call ===== -/
def Inv (c : Nat) (x : XSt) (m : MSt) : Prop := Now (60 * (c : Int)) x m ∧ Kept (60 * (c : Int)) x m ∧ TpX x m ∧ RwX x m ∧ ShX x m ∧ HlX x m ∧ AcX x m
theorem Inv.tr {c : Nat} {x x' : XSt} {m m' : MSt} (n : Now (60 * (c : Int)) x' m') (k : Kept (60 * (c : Int)) x' m') (hx : x'.2.2.2.2 = x.2.2.2.2) (hm : m'.2.2.2.2 = m.2.2.2.2) (i : Inv c x m) : Inv c x' m' := by
  obtain ⟨_, _, r1, r2, r3, r4, r5⟩ := i
  have a1 : X_tape x' = X_tape x := congrArg (fun y => y.1) hx
  have a2 : X_rows x' = X_rows x := congrArg (fun y => y.2.1) hx
  have a3 : X_rowCount x' = X_rowCount x := congrArg (fun y => y.2.2.1) hx
  have a4 : X_sheets x' = X_sheets x := congrArg (fun y => y.2.2.2.1) hx
  have a5 : X_shelves x' = X_shelves x := congrArg (fun y => y.2.2.2.2.1) hx
  have a6 : X_acts x' = X_acts x := congrArg (fun y => y.2.2.2.2.2) hx
  have b0 : M_tape m' = M_tape m := congrArg (fun y => y.2.1) hm
  have b1 : M_taped m' = M_taped m := congrArg (fun y => y.2.2.1) hm
  have b2 : M_words m' = M_words m := congrArg (fun y => y.2.2.2.2.2.2.2.1) hm
  have b3 : M_row m' = M_row m := congrArg (fun y => y.2.2.2.2.2.2.2.2.2.1) hm
  have b4 : M_rows m' = M_rows m := congrArg (fun y => y.2.2.2.2.2.2.2.2.2.2.1) hm
  have b5 : M_sortOf m' = M_sortOf m := congrArg (fun y => y.2.2.2.2.2.2.2.2.2.2.2.1) hm
  have b6 : M_sizeOf m' = M_sizeOf m := congrArg (fun y => y.2.2.2.2.2.2.2.2.2.2.2.2.1) hm
  have b7 : M_item m' = M_item m := congrArg (fun y => y.2.2.2.2.2.2.2.2.2.2.2.2.2.1) hm
  have b8 : M_shelfHas m' = M_shelfHas m := congrArg (fun y => y.2.2.2.2.2.2.2.2.2.2.2.2.2.2.1) hm
  have b9 : M_shelfWhich m' = M_shelfWhich m := congrArg (fun y => y.2.2.2.2.2.2.2.2.2.2.2.2.2.2.2.1) hm
  have b10 : M_shelfSize m' = M_shelfSize m := congrArg (fun y => y.2.2.2.2.2.2.2.2.2.2.2.2.2.2.2.2.1) hm
  have b11 : M_traced m' = M_traced m := congrArg (fun y => y.2.2.2.2.2.2.2.2.2.2.2.2.2.2.2.2.2.1) hm
  have b12 : M_traceMany m' = M_traceMany m := congrArg (fun y => y.2.2.2.2.2.2.2.2.2.2.2.2.2.2.2.2.2.2.1) hm
  unfold TpX at r1
  unfold RwX at r2
  unfold ShX at r3
  unfold HlX at r4
  unfold AcX at r5
  unfold Inv TpX RwX ShX HlX AcX
  rw [a1, a2, a3, a4, a5, a6, b0, b1, b2, b3, b4, b5, b6, b7, b8, b9, b10, b11, b12]
  exact ⟨n, k, r1, r2, r3, r4, r5⟩
theorem Kept.tr {h : Int} {x x' : XSt} {m m' : MSt} (k : Kept h x m) (hx : x'.2.2 = x.2.2) (hm : m'.2.2 = m.2.2) : Kept h x' m' := by
  have a1 : X_kept x' = X_kept x := congrArg (fun y => y.1) hx
  have a2 : X_isKept x' = X_isKept x := congrArg (fun y => y.2.1) hx
  have b1 : M_kept m' = M_kept m := congrArg (fun y => y.1) hm
  have b2 : M_isKept m' = M_isKept m := congrArg (fun y => y.2.1) hm
  unfold Kept
  rw [a1, a2, b1, b2]
  exact k
theorem Inv.std {c : Nat} {x x' : XSt} {m m' : MSt} (i : Inv c x m) (n : Now (60 * (c : Int)) x' m') (hx : x'.2.2 = x.2.2) (hm : m'.2.2 = m.2.2) : Inv c x' m' :=
  Inv.tr n (i.2.1.tr hx hm) (congrArg (fun y => y.2.2) hx) (congrArg (fun y => y.2.2) hm) i
theorem Inv.feed {c : Nat} {x : XSt} {m : MSt} (i : Inv c x m) {t : TSt} {f : Nat → Int32} {u : Int32} (h : TpR t f u) : Inv c (X_tape_ x t) (mTp m f u) := by
  obtain ⟨⟨e0, i0⟩, i1, i2, i3, i4, i5, i6⟩ := i
  unfold Kept TpX RwX ShX HlX AcX at *
  unfold Inv Now Kept TpX RwX ShX HlX AcX
  simp only [X_now, X_tried, X_kept, X_isKept, X_tape, X_rows, X_rowCount, X_sheets, X_shelves, X_acts, X_now_, X_tried_, X_kept_, X_isKept_, X_tape_, X_rows_, X_rowCount_, X_sheets_, X_shelves_, X_acts_, M_d, M_aside, M_kept, M_isKept, M_still, M_tape, M_taped, M_words, M_row, M_rows, M_sortOf, M_sizeOf, M_item, M_shelfHas, M_shelfWhich, M_shelfSize, M_traced, M_traceMany, M_d_, M_aside_, M_row_, M_rows_, M_sortOf_, M_sizeOf_, M_item_, M_shelfHas_, M_shelfWhich_, M_shelfSize_, M_traced_, M_traceMany_, M_who_, M_isParted_, M_tape_, M_taped_, M_at_, M_begun_, M_token_, M_value_, M_told_, mTp, mH, mS, mT] at *
  exact ⟨⟨e0, i0⟩, i1, ⟨h, i2.2⟩, i3, i4, i5, i6⟩
theorem Inv.rows {c : Nat} {x : XSt} {m : MSt} (i : Inv c x m) {rx rm : Nat → Int32} (h : RwR rx (X_rowCount x) rm (M_rows m)) : Inv c (X_rows_ x rx) (M_row_ m rm) := by
  obtain ⟨⟨e0, i0⟩, i1, i2, i3, i4, i5, i6⟩ := i
  unfold Kept TpX RwX ShX HlX AcX at *
  unfold Inv Now Kept TpX RwX ShX HlX AcX
  simp only [X_now, X_tried, X_kept, X_isKept, X_tape, X_rows, X_rowCount, X_sheets, X_shelves, X_acts, X_now_, X_tried_, X_kept_, X_isKept_, X_tape_, X_rows_, X_rowCount_, X_sheets_, X_shelves_, X_acts_, M_d, M_aside, M_kept, M_isKept, M_still, M_tape, M_taped, M_words, M_row, M_rows, M_sortOf, M_sizeOf, M_item, M_shelfHas, M_shelfWhich, M_shelfSize, M_traced, M_traceMany, M_d_, M_aside_, M_row_, M_rows_, M_sortOf_, M_sizeOf_, M_item_, M_shelfHas_, M_shelfWhich_, M_shelfSize_, M_traced_, M_traceMany_, M_who_, M_isParted_, M_tape_, M_taped_, M_at_, M_begun_, M_token_, M_value_, M_told_, mTp, mH, mS, mT] at *
  exact ⟨⟨e0, i0⟩, i1, i2, h, i4, i5, i6⟩
theorem Inv.sheets {c : Nat} {x : XSt} {m : MSt} (i : Inv c x m) {sh : Nat → SSt} {so si : Nat → Int32} {it : Nat → Int64} (h : ShR sh so si it) : Inv c (X_sheets_ x sh) (M_item_ (M_sizeOf_ (M_sortOf_ m so) si) it) := by
  obtain ⟨⟨e0, i0⟩, i1, i2, i3, i4, i5, i6⟩ := i
  unfold Kept TpX RwX ShX HlX AcX at *
  unfold Inv Now Kept TpX RwX ShX HlX AcX
  simp only [X_now, X_tried, X_kept, X_isKept, X_tape, X_rows, X_rowCount, X_sheets, X_shelves, X_acts, X_now_, X_tried_, X_kept_, X_isKept_, X_tape_, X_rows_, X_rowCount_, X_sheets_, X_shelves_, X_acts_, M_d, M_aside, M_kept, M_isKept, M_still, M_tape, M_taped, M_words, M_row, M_rows, M_sortOf, M_sizeOf, M_item, M_shelfHas, M_shelfWhich, M_shelfSize, M_traced, M_traceMany, M_d_, M_aside_, M_row_, M_rows_, M_sortOf_, M_sizeOf_, M_item_, M_shelfHas_, M_shelfWhich_, M_shelfSize_, M_traced_, M_traceMany_, M_who_, M_isParted_, M_tape_, M_taped_, M_at_, M_begun_, M_token_, M_value_, M_told_, mTp, mH, mS, mT] at *
  exact ⟨⟨e0, i0⟩, i1, i2, i3, h, i5, i6⟩
theorem Inv.shelves {c : Nat} {x : XSt} {m : MSt} (i : Inv c x m) {sh : Nat → HSt} {a b d : Nat → Int32} (h : HlR sh a b d) : Inv c (X_shelves_ x sh) (mH m a b d) := by
  obtain ⟨⟨e0, i0⟩, i1, i2, i3, i4, i5, i6⟩ := i
  unfold Kept TpX RwX ShX HlX AcX at *
  unfold Inv Now Kept TpX RwX ShX HlX AcX
  simp only [X_now, X_tried, X_kept, X_isKept, X_tape, X_rows, X_rowCount, X_sheets, X_shelves, X_acts, X_now_, X_tried_, X_kept_, X_isKept_, X_tape_, X_rows_, X_rowCount_, X_sheets_, X_shelves_, X_acts_, M_d, M_aside, M_kept, M_isKept, M_still, M_tape, M_taped, M_words, M_row, M_rows, M_sortOf, M_sizeOf, M_item, M_shelfHas, M_shelfWhich, M_shelfSize, M_traced, M_traceMany, M_d_, M_aside_, M_row_, M_rows_, M_sortOf_, M_sizeOf_, M_item_, M_shelfHas_, M_shelfWhich_, M_shelfSize_, M_traced_, M_traceMany_, M_who_, M_isParted_, M_tape_, M_taped_, M_at_, M_begun_, M_token_, M_value_, M_told_, mTp, mH, mS, mT] at *
  exact ⟨⟨e0, i0⟩, i1, i2, i3, i4, h, i6⟩
theorem Inv.acts {c : Nat} {x : XSt} {m : MSt} (i : Inv c x m) {t : ASt} {v : Int32} {s : TrS} (h : AcR t s.1 (nI s.2.1)) : Inv c (X_acts_ x t) (mS (M_who_ m v) s) := by
  obtain ⟨⟨e0, i0⟩, i1, i2, i3, i4, i5, i6⟩ := i
  unfold Kept TpX RwX ShX HlX AcX at *
  unfold Inv Now Kept TpX RwX ShX HlX AcX
  simp only [X_now, X_tried, X_kept, X_isKept, X_tape, X_rows, X_rowCount, X_sheets, X_shelves, X_acts, X_now_, X_tried_, X_kept_, X_isKept_, X_tape_, X_rows_, X_rowCount_, X_sheets_, X_shelves_, X_acts_, M_d, M_aside, M_kept, M_isKept, M_still, M_tape, M_taped, M_words, M_row, M_rows, M_sortOf, M_sizeOf, M_item, M_shelfHas, M_shelfWhich, M_shelfSize, M_traced, M_traceMany, M_d_, M_aside_, M_row_, M_rows_, M_sortOf_, M_sizeOf_, M_item_, M_shelfHas_, M_shelfWhich_, M_shelfSize_, M_traced_, M_traceMany_, M_who_, M_isParted_, M_tape_, M_taped_, M_at_, M_begun_, M_token_, M_value_, M_told_, mTp, mH, mS, mT] at *
  exact ⟨⟨e0, i0⟩, i1, i2, i3, i4, i5, h⟩
theorem Inv.prove {c : Nat} {x : XSt} {m : MSt} (i : Inv c x m) {c1 : CSt} {rx rm : Nat → Int32} {k : Int32} {a d : Nat → Int32} (hn : ∃ e, Wf (60 * (c : Int)) e ∧ RelC (X_now x) e ∧ C_heldBack (X_now x) = iI (-1) ∧ RelD d e ∧ M_still m = iI (-1)) (h : RwR rx k rm k) : Inv c (X_rowCount_ (X_rows_ (X_tried_ x c1) rx) k) (M_d_ (M_row_ (M_rows_ (M_aside_ m a) k) rm) d) := by
  obtain ⟨⟨e0, i0⟩, i1, i2, i3, i4, i5, i6⟩ := i
  unfold Kept TpX RwX ShX HlX AcX at *
  unfold Inv Now Kept TpX RwX ShX HlX AcX
  simp only [X_now, X_tried, X_kept, X_isKept, X_tape, X_rows, X_rowCount, X_sheets, X_shelves, X_acts, X_now_, X_tried_, X_kept_, X_isKept_, X_tape_, X_rows_, X_rowCount_, X_sheets_, X_shelves_, X_acts_, M_d, M_aside, M_kept, M_isKept, M_still, M_tape, M_taped, M_words, M_row, M_rows, M_sortOf, M_sizeOf, M_item, M_shelfHas, M_shelfWhich, M_shelfSize, M_traced, M_traceMany, M_d_, M_aside_, M_row_, M_rows_, M_sortOf_, M_sizeOf_, M_item_, M_shelfHas_, M_shelfWhich_, M_shelfSize_, M_traced_, M_traceMany_, M_who_, M_isParted_, M_tape_, M_taped_, M_at_, M_begun_, M_token_, M_value_, M_told_, mTp, mH, mS, mT] at *
  exact ⟨hn, i1, i2, h, i4, i5, i6⟩
theorem Inv.can0 {c : Nat} {x : XSt} {m : MSt} (i : Inv c x m) {c1 : CSt} {t : TSt} {a b tk v w : Int32} (h : TpR t (M_tape m) 0) : Inv c (X_tape_ (X_tried_ x c1) t) (M_taped_ (mT m a b tk v w) 0) := by
  obtain ⟨⟨e0, i0⟩, i1, i2, i3, i4, i5, i6⟩ := i
  unfold Kept TpX RwX ShX HlX AcX at *
  unfold Inv Now Kept TpX RwX ShX HlX AcX
  simp only [X_now, X_tried, X_kept, X_isKept, X_tape, X_rows, X_rowCount, X_sheets, X_shelves, X_acts, X_now_, X_tried_, X_kept_, X_isKept_, X_tape_, X_rows_, X_rowCount_, X_sheets_, X_shelves_, X_acts_, M_d, M_aside, M_kept, M_isKept, M_still, M_tape, M_taped, M_words, M_row, M_rows, M_sortOf, M_sizeOf, M_item, M_shelfHas, M_shelfWhich, M_shelfSize, M_traced, M_traceMany, M_d_, M_aside_, M_row_, M_rows_, M_sortOf_, M_sizeOf_, M_item_, M_shelfHas_, M_shelfWhich_, M_shelfSize_, M_traced_, M_traceMany_, M_who_, M_isParted_, M_tape_, M_taped_, M_at_, M_begun_, M_token_, M_value_, M_told_, mTp, mH, mS, mT] at *
  exact ⟨⟨e0, i0⟩, i1, ⟨h, i2.2⟩, i3, i4, i5, i6⟩
theorem Inv.can1 {c : Nat} {x : XSt} {m : MSt} (i : Inv c x m) {c1 c2 : CSt} {t : TSt} {d : Nat → Int32} {a b tk v w : Int32} (hn : ∃ e, Wf (60 * (c : Int)) e ∧ RelC c1 e ∧ C_heldBack c1 = iI (-1) ∧ RelD d e ∧ M_still m = iI (-1)) (h : TpR t (M_tape m) 0) (h2 : RwR (X_rows x) 0 (M_row m) 0) : Inv c (X_rowCount_ (X_tape_ (X_tried_ (X_now_ x c1) c2) t) 0) (M_taped_ (M_rows_ (mT (M_d_ m d) a b tk v w) 0) 0) := by
  obtain ⟨⟨e0, i0⟩, i1, i2, i3, i4, i5, i6⟩ := i
  unfold Kept TpX RwX ShX HlX AcX at *
  unfold Inv Now Kept TpX RwX ShX HlX AcX
  simp only [X_now, X_tried, X_kept, X_isKept, X_tape, X_rows, X_rowCount, X_sheets, X_shelves, X_acts, X_now_, X_tried_, X_kept_, X_isKept_, X_tape_, X_rows_, X_rowCount_, X_sheets_, X_shelves_, X_acts_, M_d, M_aside, M_kept, M_isKept, M_still, M_tape, M_taped, M_words, M_row, M_rows, M_sortOf, M_sizeOf, M_item, M_shelfHas, M_shelfWhich, M_shelfSize, M_traced, M_traceMany, M_d_, M_aside_, M_row_, M_rows_, M_sortOf_, M_sizeOf_, M_item_, M_shelfHas_, M_shelfWhich_, M_shelfSize_, M_traced_, M_traceMany_, M_who_, M_isParted_, M_tape_, M_taped_, M_at_, M_begun_, M_token_, M_value_, M_told_, mTp, mH, mS, mT] at *
  exact ⟨hn, i1, ⟨h, i2.2⟩, h2, i4, i5, i6⟩
