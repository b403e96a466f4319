/-! the law: its world is X's and the reference's -/
def woL (t : Nat → ClassId) (a b : Nat → Nat) (p : XSt × MSt) : va_W := woX t a p.1 ++ woM t b p.2
theorem woX_len (t : Nat → ClassId) (a : Nat → Nat) (x : XSt) : (woX t a x).length = 47 := rfl
theorem woM_len (t : Nat → ClassId) (a : Nat → Nat) (m : MSt) : (woM t a m).length = 14 := rfl
theorem scat_left : ∀ (is : List Nat) (u l r : va_W), (∀ i ∈ is, i < l.length) → scat (l ++ r) is u = scat l is u ++ r
  | [], _, _, _, _ => by simp [scat]
  | _ :: _, [], _, _, _ => by simp [scat]
  | i :: is, e :: es, l, r, h => by
    rw [scat, scat, List.set_append_left _ _ (h i List.mem_cons_self)]
    exact scat_left is es (l.set i e) r (fun j hj => by rw [List.length_set]; exact h j (List.mem_cons_of_mem _ hj))
theorem cC_L1 (t : Nat → ClassId) (a b : Nat → Nat) (p : XSt × MSt) : (List.range 47).map (fun i => (woL t a b p)[i]?) = (woX t a p.1).map some := by
  rw [← all_C, woX_len]
  refine List.map_congr_left (fun i hi => ?_)
  rw [woL, List.getElem?_append_left (by rw [woX_len]; exact List.mem_range.mp hi)]
theorem cS_L1 (t : Nat → ClassId) (a b : Nat → Nat) (p : XSt × MSt) (x : XSt) : scat (woL t a b p) (List.range 47) (woX t a x) = woL t a b (x, p.2) := by
  rw [woL, scat_left _ _ _ _ (fun i hi => by rw [woX_len]; exact List.mem_range.mp hi)]
  have e := scat_all (woX t a x) (woX t a p.1) 0 (by rw [woX_len, woX_len]) [] rfl (by simp)
  have e2 : (List.range (woX t a x).length).map (fun i => 0 + i) = List.range 47 := by rw [woX_len]; simp
  rw [e2] at e
  rw [e]
  rfl
theorem cC_L2 (t : Nat → ClassId) (a b : Nat → Nat) (p : XSt × MSt) : ((List.range 14).map (fun i => 47 + i)).map (fun i => (woL t a b p)[i]?) = (woM t b p.2).map some := by
  rw [← all_C, woM_len, List.map_map]
  refine List.map_congr_left (fun i hi => ?_)
  show (woL t a b p)[47 + i]? = _
  rw [woL, List.getElem?_append_right (by rw [woX_len]; omega), woX_len]
  congr 1
  omega
theorem cS_L2 (t : Nat → ClassId) (a b : Nat → Nat) (p : XSt × MSt) (m : MSt) : scat (woL t a b p) ((List.range 14).map (fun i => 47 + i)) (woM t b m) = woL t a b (p.1, m) := by
  have e := scat_all (woM t b m) (woL t a b p) 47 (by rw [woL, List.length_append, woX_len, woM_len, woM_len]) (woX t a p.1) (woX_len _ _ _) (by rw [woL, List.take_append_of_le_length (by rw [woX_len]; exact Nat.le_refl _)]; exact List.take_of_length_le (by rw [woX_len]; exact Nat.le_refl _))
  rw [woM_len] at e
  exact e
theorem nd_2 : va_nd ((List.range 14).map (fun i => 47 + i)) = true := by decide
theorem cmp_self (x : Int64) : lg_cmp x x = 0 := by simp [lg_cmp]
section GLAW
variable {X : GX} {cc : ByteArray} {own : String} {n : Nat} {R : Room} {k z : Nat} {ws : va_W} {lv : List (Nat × Value)} {st : List Value} {pc : Nat}
theorem g_sld (C : GC X cc own n R) {b L j q : Nat} {ys : Nat → Int32} {w : Int32} (hX : va_X b L ys (xs X) (xs X).heap ∧ b < (xs X).heap.size ∧ ¬ xA X b) (hL : L ≤ 2560) (hq : w = nI q) (hj : j + q < L) (d : decode cc pc = .ok (.iaload, 1)) (h : G X k z ws lv (.int (ys (j + q)) :: st) (pc + 1)) : G X k z ws lv (.int (nI j + w) :: .ref b :: st) pc := by
  intro H locs ls hP hD hS hl
  have e : nI j + w = nI (j + q) := by rw [hq]; exact nI_add j q
  rw [e]
  refine va_sld C.1 C.2.1 hX.1 hX.2.1 hX.2.2 hS (vp_in_nI hj (by omega)) d ?_
  rw [nI_clamp (by omega)]
  exact h H locs ls hP hD hS hl
theorem g_sld0 (C : GC X cc own n R) {b L j : Nat} {ys : Nat → Int32} (hX : va_X b L ys (xs X) (xs X).heap ∧ b < (xs X).heap.size ∧ ¬ xA X b) (hL : L ≤ 2560) (hj : j < L) (d : decode cc pc = .ok (.iaload, 1)) (h : G X k z ws lv (.int (ys j) :: st) (pc + 1)) : G X k z ws lv (.int (nI j) :: .ref b :: st) pc := by
  intro H locs ls hP hD hS hl
  refine va_sld C.1 C.2.1 hX.1 hX.2.1 hX.2.2 hS (vp_in_nI hj (by omega)) d ?_
  rw [nI_clamp (by omega)]
  exact h H locs ls hP hD hS hl
end GLAW
def wpl_feed (x : XSt) (m : MSt) (a1 a2 a3 a4 : Int32) (K : XSt → MSt → Prop) : Prop := wp_X_feed x (((a1).toInt64 <<< ((32 : Int32).toInt64 &&& 63)) ||| ((a2).toInt64 &&& 4294967295)) (a3) (fun v1 x1 => wp_M_feed m (((a1).toInt64 <<< ((32 : Int32).toInt64 &&& 63)) ||| ((a2).toInt64 &&& 4294967295)) (a3) (fun v2 m1 => v1 = v2 ∧ K x1 m1))
set_option maxRecDepth 20000 in
theorem lc_feed {X : GX} (C : GC X code "SilenceCanalLaw" 4 room_1) {b L j : Nat} {ys : Nat → Int32} (hX : va_X b L ys (xs X) (xs X).heap ∧ b < (xs X).heap.size ∧ ¬ xA X b) (hL : L ≤ 2560) (hj : j + 5 ≤ L) (aX aM : Nat → Nat) (x : XSt) (m : MSt) (K : XSt → MSt → Prop) (hw : wpl_feed x m (ys (j + 1)) (ys (j + 2)) (ys (j + 3)) (ys (j + 4)) K) (hK : ∀ x m, K x m → G X 61 1499 (woL (xt X) aX aM (x, m)) [(0, .ref b), (1, .ref (aX 0)), (2, .ref (aM 0)), (3, .int (nI j))] [] 1712) : G X 61 1499 (woL (xt X) aX aM (x, m)) [(0, .ref b), (1, .ref (aX 0)), (2, .ref (aM 0)), (3, .int (nI j))] [] 232 := by
  unfold wpl_feed at hw
  refine g_aload_n (pc := 232) C d_L_232 1 rfl rfl ?_
  refine g_aload_n (pc := 233) C d_L_233 0 rfl rfl ?_
  refine g_iload_n (pc := 234) C d_L_234 3 rfl rfl ?_
  refine g_iconst (pc := 235) C (v := 1) d_L_235 (by decide) ?_
  refine g_iadd (pc := 236) C d_L_236 ?_
  refine g_sld (pc := 237) C hX hL (q := 1) (by decide) (by omega) d_L_237 ?_
  refine g_i2l (pc := 238) C d_L_238 ?_
  refine g_bipush (pc := 239) C (v := 32) d_L_239 (by decide) ?_
  refine g_lshl (pc := 241) C d_L_241 ?_
  refine g_aload_n (pc := 242) C d_L_242 0 rfl rfl ?_
  refine g_iload_n (pc := 243) C d_L_243 3 rfl rfl ?_
  refine g_iconst (pc := 244) C (v := 2) d_L_244 (by decide) ?_
  refine g_iadd (pc := 245) C d_L_245 ?_
  refine g_sld (pc := 246) C hX hL (q := 2) (by decide) (by omega) d_L_246 ?_
  refine g_i2l (pc := 247) C d_L_247 ?_
  refine g_ldc2_w (pc := 248) C (v := 4294967295) d_L_248 lk_L_13 ?_
  refine g_land (pc := 251) C d_L_251 ?_
  refine g_lor (pc := 252) C d_L_252 ?_
  refine g_aload_n (pc := 253) C d_L_253 0 rfl rfl ?_
  refine g_iload_n (pc := 254) C d_L_254 3 rfl rfl ?_
  refine g_iconst (pc := 255) C (v := 3) d_L_255 (by decide) ?_
  refine g_iadd (pc := 256) C d_L_256 ?_
  refine g_sld (pc := 257) C hX hL (q := 3) (by decide) (by omega) d_L_257 ?_
  refine k_I (pc := 258) (co_V C (c_X_feed (xl X) (xD X) (xt X) (xv X) aX x (((ys (j + 1)).toInt64 <<< ((32 : Int32).toInt64 &&& 63)) ||| ((ys (j + 2)).toInt64 &&& 4294967295)) (ys (j + 3)) _ hw) mw_X_feed lk_L_15 d_L_258 (List.range 47) (cC_L1 (xt X) aX aM (x, m)) (by decide) (rec_w C 0 5 rfl rfl) rfl rfl ⟨Nat.le_of_ble_eq_true rfl, Nat.le_of_ble_eq_true rfl⟩ ⟨Nat.le_of_ble_eq_true rfl, Nat.le_of_ble_eq_true rfl⟩ (rest := []) rfl rfl (Nat.le_of_ble_eq_true rfl)) (fun x1 => woL (xt X) aX aM (x1, m)) (cS_L1 (xt X) aX aM (x, m)) (fun v1 x1 hw => ?_)
  refine g_aload_n (pc := 261) C d_L_261 2 rfl rfl ?_
  refine g_aload_n (pc := 262) C d_L_262 0 rfl rfl ?_
  refine g_iload_n (pc := 263) C d_L_263 3 rfl rfl ?_
  refine g_iconst (pc := 264) C (v := 1) d_L_264 (by decide) ?_
  refine g_iadd (pc := 265) C d_L_265 ?_
  refine g_sld (pc := 266) C hX hL (q := 1) (by decide) (by omega) d_L_266 ?_
  refine g_i2l (pc := 267) C d_L_267 ?_
  refine g_bipush (pc := 268) C (v := 32) d_L_268 (by decide) ?_
  refine g_lshl (pc := 270) C d_L_270 ?_
  refine g_aload_n (pc := 271) C d_L_271 0 rfl rfl ?_
  refine g_iload_n (pc := 272) C d_L_272 3 rfl rfl ?_
  refine g_iconst (pc := 273) C (v := 2) d_L_273 (by decide) ?_
  refine g_iadd (pc := 274) C d_L_274 ?_
  refine g_sld (pc := 275) C hX hL (q := 2) (by decide) (by omega) d_L_275 ?_
  refine g_i2l (pc := 276) C d_L_276 ?_
  refine g_ldc2_w (pc := 277) C (v := 4294967295) d_L_277 lk_L_13 ?_
  refine g_land (pc := 280) C d_L_280 ?_
  refine g_lor (pc := 281) C d_L_281 ?_
  refine g_aload_n (pc := 282) C d_L_282 0 rfl rfl ?_
  refine g_iload_n (pc := 283) C d_L_283 3 rfl rfl ?_
  refine g_iconst (pc := 284) C (v := 3) d_L_284 (by decide) ?_
  refine g_iadd (pc := 285) C d_L_285 ?_
  refine g_sld (pc := 286) C hX hL (q := 3) (by decide) (by omega) d_L_286 ?_
  refine k_I (pc := 287) (co_V C (c_M_feed (xl X) (xD X) (xt X) (xv X) aM m (((ys (j + 1)).toInt64 <<< ((32 : Int32).toInt64 &&& 63)) ||| ((ys (j + 2)).toInt64 &&& 4294967295)) (ys (j + 3)) _ hw) mw_M_feed lk_L_19 d_L_287 ((List.range 14).map (fun i => 47 + i)) (cC_L2 (xt X) aX aM (x1, m)) nd_2 (rec_w C 47 6 rfl rfl) rfl rfl ⟨Nat.le_of_ble_eq_true rfl, Nat.le_of_ble_eq_true rfl⟩ ⟨Nat.le_of_ble_eq_true rfl, Nat.le_of_ble_eq_true rfl⟩ (rest := [.int v1]) rfl rfl (Nat.le_of_ble_eq_true rfl)) (fun m1 => woL (xt X) aX aM (x1, m1)) (cS_L2 (xt X) aX aM (x1, m)) (fun v2 m1 hw => ?_)
  obtain ⟨hv, hw⟩ := hw
  refine g_icmp_eq (pc := 290) (tgt := 1712) C d_L_290 (by decide) (fun _ => ?_) (fun h9 => absurd hv h9)
  exact hK x1 m1 hw
def wpl_canal (x : XSt) (m : MSt) (a1 a2 a3 a4 : Int32) (K : XSt → MSt → Prop) : Prop := wp_X_canal x  (fun v1 x1 => wp_M_canal m  (fun v2 m1 => v1 = v2 ∧ K x1 m1))
set_option maxRecDepth 20000 in
theorem lc_canal {X : GX} (C : GC X code "SilenceCanalLaw" 4 room_1) {b L j : Nat} {ys : Nat → Int32} (hX : va_X b L ys (xs X) (xs X).heap ∧ b < (xs X).heap.size ∧ ¬ xA X b) (hL : L ≤ 2560) (hj : j + 5 ≤ L) (aX aM : Nat → Nat) (x : XSt) (m : MSt) (K : XSt → MSt → Prop) (hw : wpl_canal x m (ys (j + 1)) (ys (j + 2)) (ys (j + 3)) (ys (j + 4)) K) (hK : ∀ x m, K x m → G X 61 1499 (woL (xt X) aX aM (x, m)) [(0, .ref b), (1, .ref (aX 0)), (2, .ref (aM 0)), (3, .int (nI j))] [] 1712) : G X 61 1499 (woL (xt X) aX aM (x, m)) [(0, .ref b), (1, .ref (aX 0)), (2, .ref (aM 0)), (3, .int (nI j))] [] 295 := by
  unfold wpl_canal at hw
  refine g_aload_n (pc := 295) C d_L_295 1 rfl rfl ?_
  refine k_I (pc := 296) (co_V C (c_X_canal (xl X) (xD X) (xt X) (xv X) aX x  _ hw) mw_X_canal lk_L_20 d_L_296 (List.range 47) (cC_L1 (xt X) aX aM (x, m)) (by decide) (rec_w C 0 5 rfl rfl) rfl rfl ⟨Nat.le_of_ble_eq_true rfl, Nat.le_of_ble_eq_true rfl⟩ ⟨Nat.le_of_ble_eq_true rfl, Nat.le_of_ble_eq_true rfl⟩ (rest := []) rfl rfl (Nat.le_of_ble_eq_true rfl)) (fun x1 => woL (xt X) aX aM (x1, m)) (cS_L1 (xt X) aX aM (x, m)) (fun v1 x1 hw => ?_)
  refine g_aload_n (pc := 299) C d_L_299 2 rfl rfl ?_
  refine k_I (pc := 300) (co_V C (c_M_canal (xl X) (xD X) (xt X) (xv X) aM m  _ hw) mw_M_canal lk_L_24 d_L_300 ((List.range 14).map (fun i => 47 + i)) (cC_L2 (xt X) aX aM (x1, m)) nd_2 (rec_w C 47 6 rfl rfl) rfl rfl ⟨Nat.le_of_ble_eq_true rfl, Nat.le_of_ble_eq_true rfl⟩ ⟨Nat.le_of_ble_eq_true rfl, Nat.le_of_ble_eq_true rfl⟩ (rest := [.int v1]) rfl rfl (Nat.le_of_ble_eq_true rfl)) (fun m1 => woL (xt X) aX aM (x1, m1)) (cS_L2 (xt X) aX aM (x1, m)) (fun v2 m1 hw => ?_)
  obtain ⟨hv, hw⟩ := hw
  refine g_icmp_eq (pc := 303) (tgt := 1712) C d_L_303 (by decide) (fun _ => ?_) (fun h9 => absurd hv h9)
  exact hK x1 m1 hw
def wpl_set (x : XSt) (m : MSt) (a1 a2 a3 a4 : Int32) (K : XSt → MSt → Prop) : Prop := wp_X_set x (a1) (a2) (fun v1 x1 => wp_M_set m (a1) (a2) (fun v2 m1 => v1 = v2 ∧ K x1 m1))
set_option maxRecDepth 20000 in
theorem lc_set {X : GX} (C : GC X code "SilenceCanalLaw" 4 room_1) {b L j : Nat} {ys : Nat → Int32} (hX : va_X b L ys (xs X) (xs X).heap ∧ b < (xs X).heap.size ∧ ¬ xA X b) (hL : L ≤ 2560) (hj : j + 5 ≤ L) (aX aM : Nat → Nat) (x : XSt) (m : MSt) (K : XSt → MSt → Prop) (hw : wpl_set x m (ys (j + 1)) (ys (j + 2)) (ys (j + 3)) (ys (j + 4)) K) (hK : ∀ x m, K x m → G X 61 1499 (woL (xt X) aX aM (x, m)) [(0, .ref b), (1, .ref (aX 0)), (2, .ref (aM 0)), (3, .int (nI j))] [] 1712) : G X 61 1499 (woL (xt X) aX aM (x, m)) [(0, .ref b), (1, .ref (aX 0)), (2, .ref (aM 0)), (3, .int (nI j))] [] 308 := by
  unfold wpl_set at hw
  refine g_aload_n (pc := 308) C d_L_308 1 rfl rfl ?_
  refine g_aload_n (pc := 309) C d_L_309 0 rfl rfl ?_
  refine g_iload_n (pc := 310) C d_L_310 3 rfl rfl ?_
  refine g_iconst (pc := 311) C (v := 1) d_L_311 (by decide) ?_
  refine g_iadd (pc := 312) C d_L_312 ?_
  refine g_sld (pc := 313) C hX hL (q := 1) (by decide) (by omega) d_L_313 ?_
  refine g_aload_n (pc := 314) C d_L_314 0 rfl rfl ?_
  refine g_iload_n (pc := 315) C d_L_315 3 rfl rfl ?_
  refine g_iconst (pc := 316) C (v := 2) d_L_316 (by decide) ?_
  refine g_iadd (pc := 317) C d_L_317 ?_
  refine g_sld (pc := 318) C hX hL (q := 2) (by decide) (by omega) d_L_318 ?_
  refine k_I (pc := 319) (co_V C (c_X_set (xl X) (xD X) (xt X) (xv X) aX x (ys (j + 1)) (ys (j + 2)) _ hw) mw_X_set lk_L_25 d_L_319 (List.range 47) (cC_L1 (xt X) aX aM (x, m)) (by decide) (rec_w C 0 5 rfl rfl) rfl rfl ⟨Nat.le_of_ble_eq_true rfl, Nat.le_of_ble_eq_true rfl⟩ ⟨Nat.le_of_ble_eq_true rfl, Nat.le_of_ble_eq_true rfl⟩ (rest := []) rfl rfl (Nat.le_of_ble_eq_true rfl)) (fun x1 => woL (xt X) aX aM (x1, m)) (cS_L1 (xt X) aX aM (x, m)) (fun v1 x1 hw => ?_)
  refine g_aload_n (pc := 322) C d_L_322 2 rfl rfl ?_
  refine g_aload_n (pc := 323) C d_L_323 0 rfl rfl ?_
  refine g_iload_n (pc := 324) C d_L_324 3 rfl rfl ?_
  refine g_iconst (pc := 325) C (v := 1) d_L_325 (by decide) ?_
  refine g_iadd (pc := 326) C d_L_326 ?_
  refine g_sld (pc := 327) C hX hL (q := 1) (by decide) (by omega) d_L_327 ?_
  refine g_aload_n (pc := 328) C d_L_328 0 rfl rfl ?_
  refine g_iload_n (pc := 329) C d_L_329 3 rfl rfl ?_
  refine g_iconst (pc := 330) C (v := 2) d_L_330 (by decide) ?_
  refine g_iadd (pc := 331) C d_L_331 ?_
  refine g_sld (pc := 332) C hX hL (q := 2) (by decide) (by omega) d_L_332 ?_
  refine k_I (pc := 333) (co_V C (c_M_set (xl X) (xD X) (xt X) (xv X) aM m (ys (j + 1)) (ys (j + 2)) _ hw) mw_M_set lk_L_29 d_L_333 ((List.range 14).map (fun i => 47 + i)) (cC_L2 (xt X) aX aM (x1, m)) nd_2 (rec_w C 47 6 rfl rfl) rfl rfl ⟨Nat.le_of_ble_eq_true rfl, Nat.le_of_ble_eq_true rfl⟩ ⟨Nat.le_of_ble_eq_true rfl, Nat.le_of_ble_eq_true rfl⟩ (rest := [.int v1]) rfl rfl (Nat.le_of_ble_eq_true rfl)) (fun m1 => woL (xt X) aX aM (x1, m1)) (cS_L2 (xt X) aX aM (x1, m)) (fun v2 m1 hw => ?_)
  obtain ⟨hv, hw⟩ := hw
  refine g_icmp_eq (pc := 336) (tgt := 1712) C d_L_336 (by decide) (fun _ => ?_) (fun h9 => absurd hv h9)
  exact hK x1 m1 hw
def wpl_lawOf (x : XSt) (m : MSt) (a1 a2 a3 a4 : Int32) (K : XSt → MSt → Prop) : Prop := wp_X_lawOf x (a1) (fun v1 x1 => wp_M_lawOf m (a1) (fun v2 m1 => v1 = v2 ∧ K x1 m1))
set_option maxRecDepth 20000 in
theorem lc_lawOf {X : GX} (C : GC X code "SilenceCanalLaw" 4 room_1) {b L j : Nat} {ys : Nat → Int32} (hX : va_X b L ys (xs X) (xs X).heap ∧ b < (xs X).heap.size ∧ ¬ xA X b) (hL : L ≤ 2560) (hj : j + 5 ≤ L) (aX aM : Nat → Nat) (x : XSt) (m : MSt) (K : XSt → MSt → Prop) (hw : wpl_lawOf x m (ys (j + 1)) (ys (j + 2)) (ys (j + 3)) (ys (j + 4)) K) (hK : ∀ x m, K x m → G X 61 1499 (woL (xt X) aX aM (x, m)) [(0, .ref b), (1, .ref (aX 0)), (2, .ref (aM 0)), (3, .int (nI j))] [] 1712) : G X 61 1499 (woL (xt X) aX aM (x, m)) [(0, .ref b), (1, .ref (aX 0)), (2, .ref (aM 0)), (3, .int (nI j))] [] 341 := by
  unfold wpl_lawOf at hw
  refine g_aload_n (pc := 341) C d_L_341 1 rfl rfl ?_
  refine g_aload_n (pc := 342) C d_L_342 0 rfl rfl ?_
  refine g_iload_n (pc := 343) C d_L_343 3 rfl rfl ?_
  refine g_iconst (pc := 344) C (v := 1) d_L_344 (by decide) ?_
  refine g_iadd (pc := 345) C d_L_345 ?_
  refine g_sld (pc := 346) C hX hL (q := 1) (by decide) (by omega) d_L_346 ?_
  refine k_I (pc := 347) (co_V C (c_X_lawOf (xl X) (xD X) (xt X) (xv X) aX x (ys (j + 1)) _ hw) mw_X_lawOf lk_L_30 d_L_347 (List.range 47) (cC_L1 (xt X) aX aM (x, m)) (by decide) (rec_w C 0 5 rfl rfl) rfl rfl ⟨Nat.le_of_ble_eq_true rfl, Nat.le_of_ble_eq_true rfl⟩ ⟨Nat.le_of_ble_eq_true rfl, Nat.le_of_ble_eq_true rfl⟩ (rest := []) rfl rfl (Nat.le_of_ble_eq_true rfl)) (fun x1 => woL (xt X) aX aM (x1, m)) (cS_L1 (xt X) aX aM (x, m)) (fun v1 x1 hw => ?_)
  refine g_aload_n (pc := 350) C d_L_350 2 rfl rfl ?_
  refine g_aload_n (pc := 351) C d_L_351 0 rfl rfl ?_
  refine g_iload_n (pc := 352) C d_L_352 3 rfl rfl ?_
  refine g_iconst (pc := 353) C (v := 1) d_L_353 (by decide) ?_
  refine g_iadd (pc := 354) C d_L_354 ?_
  refine g_sld (pc := 355) C hX hL (q := 1) (by decide) (by omega) d_L_355 ?_
  refine k_I (pc := 356) (co_V C (c_M_lawOf (xl X) (xD X) (xt X) (xv X) aM m (ys (j + 1)) _ hw) mw_M_lawOf lk_L_34 d_L_356 ((List.range 14).map (fun i => 47 + i)) (cC_L2 (xt X) aX aM (x1, m)) nd_2 (rec_w C 47 6 rfl rfl) rfl rfl ⟨Nat.le_of_ble_eq_true rfl, Nat.le_of_ble_eq_true rfl⟩ ⟨Nat.le_of_ble_eq_true rfl, Nat.le_of_ble_eq_true rfl⟩ (rest := [.int v1]) rfl rfl (Nat.le_of_ble_eq_true rfl)) (fun m1 => woL (xt X) aX aM (x1, m1)) (cS_L2 (xt X) aX aM (x1, m)) (fun v2 m1 hw => ?_)
  obtain ⟨hv, hw⟩ := hw
  refine g_icmp_eq (pc := 359) (tgt := 1712) C d_L_359 (by decide) (fun _ => ?_) (fun h9 => absurd hv h9)
  exact hK x1 m1 hw
def wpl_barge (x : XSt) (m : MSt) (a1 a2 a3 a4 : Int32) (K : XSt → MSt → Prop) : Prop := wp_X_barge x (a1) (a2) (a3) (a4) (fun v1 x1 => wp_M_barge m (a1) (a2) (a3) (a4) (fun v2 m1 => v1 = v2 ∧ K x1 m1))
set_option maxRecDepth 20000 in
theorem lc_barge {X : GX} (C : GC X code "SilenceCanalLaw" 4 room_1) {b L j : Nat} {ys : Nat → Int32} (hX : va_X b L ys (xs X) (xs X).heap ∧ b < (xs X).heap.size ∧ ¬ xA X b) (hL : L ≤ 2560) (hj : j + 5 ≤ L) (aX aM : Nat → Nat) (x : XSt) (m : MSt) (K : XSt → MSt → Prop) (hw : wpl_barge x m (ys (j + 1)) (ys (j + 2)) (ys (j + 3)) (ys (j + 4)) K) (hK : ∀ x m, K x m → G X 61 1499 (woL (xt X) aX aM (x, m)) [(0, .ref b), (1, .ref (aX 0)), (2, .ref (aM 0)), (3, .int (nI j))] [] 1712) : G X 61 1499 (woL (xt X) aX aM (x, m)) [(0, .ref b), (1, .ref (aX 0)), (2, .ref (aM 0)), (3, .int (nI j))] [] 364 := by
  unfold wpl_barge at hw
  refine g_aload_n (pc := 364) C d_L_364 1 rfl rfl ?_
  refine g_aload_n (pc := 365) C d_L_365 0 rfl rfl ?_
  refine g_iload_n (pc := 366) C d_L_366 3 rfl rfl ?_
  refine g_iconst (pc := 367) C (v := 1) d_L_367 (by decide) ?_
  refine g_iadd (pc := 368) C d_L_368 ?_
  refine g_sld (pc := 369) C hX hL (q := 1) (by decide) (by omega) d_L_369 ?_
  refine g_aload_n (pc := 370) C d_L_370 0 rfl rfl ?_
  refine g_iload_n (pc := 371) C d_L_371 3 rfl rfl ?_
  refine g_iconst (pc := 372) C (v := 2) d_L_372 (by decide) ?_
  refine g_iadd (pc := 373) C d_L_373 ?_
  refine g_sld (pc := 374) C hX hL (q := 2) (by decide) (by omega) d_L_374 ?_
  refine g_aload_n (pc := 375) C d_L_375 0 rfl rfl ?_
  refine g_iload_n (pc := 376) C d_L_376 3 rfl rfl ?_
  refine g_iconst (pc := 377) C (v := 3) d_L_377 (by decide) ?_
  refine g_iadd (pc := 378) C d_L_378 ?_
  refine g_sld (pc := 379) C hX hL (q := 3) (by decide) (by omega) d_L_379 ?_
  refine g_aload_n (pc := 380) C d_L_380 0 rfl rfl ?_
  refine g_iload_n (pc := 381) C d_L_381 3 rfl rfl ?_
  refine g_iconst (pc := 382) C (v := 4) d_L_382 (by decide) ?_
  refine g_iadd (pc := 383) C d_L_383 ?_
  refine g_sld (pc := 384) C hX hL (q := 4) (by decide) (by omega) d_L_384 ?_
  refine k_I (pc := 385) (co_V C (c_X_barge (xl X) (xD X) (xt X) (xv X) aX x (ys (j + 1)) (ys (j + 2)) (ys (j + 3)) (ys (j + 4)) _ hw) mw_X_barge lk_L_35 d_L_385 (List.range 47) (cC_L1 (xt X) aX aM (x, m)) (by decide) (rec_w C 0 5 rfl rfl) rfl rfl ⟨Nat.le_of_ble_eq_true rfl, Nat.le_of_ble_eq_true rfl⟩ ⟨Nat.le_of_ble_eq_true rfl, Nat.le_of_ble_eq_true rfl⟩ (rest := []) rfl rfl (Nat.le_of_ble_eq_true rfl)) (fun x1 => woL (xt X) aX aM (x1, m)) (cS_L1 (xt X) aX aM (x, m)) (fun v1 x1 hw => ?_)
  refine g_aload_n (pc := 388) C d_L_388 2 rfl rfl ?_
  refine g_aload_n (pc := 389) C d_L_389 0 rfl rfl ?_
  refine g_iload_n (pc := 390) C d_L_390 3 rfl rfl ?_
  refine g_iconst (pc := 391) C (v := 1) d_L_391 (by decide) ?_
  refine g_iadd (pc := 392) C d_L_392 ?_
  refine g_sld (pc := 393) C hX hL (q := 1) (by decide) (by omega) d_L_393 ?_
  refine g_aload_n (pc := 394) C d_L_394 0 rfl rfl ?_
  refine g_iload_n (pc := 395) C d_L_395 3 rfl rfl ?_
  refine g_iconst (pc := 396) C (v := 2) d_L_396 (by decide) ?_
  refine g_iadd (pc := 397) C d_L_397 ?_
  refine g_sld (pc := 398) C hX hL (q := 2) (by decide) (by omega) d_L_398 ?_
  refine g_aload_n (pc := 399) C d_L_399 0 rfl rfl ?_
  refine g_iload_n (pc := 400) C d_L_400 3 rfl rfl ?_
  refine g_iconst (pc := 401) C (v := 3) d_L_401 (by decide) ?_
  refine g_iadd (pc := 402) C d_L_402 ?_
  refine g_sld (pc := 403) C hX hL (q := 3) (by decide) (by omega) d_L_403 ?_
  refine g_aload_n (pc := 404) C d_L_404 0 rfl rfl ?_
  refine g_iload_n (pc := 405) C d_L_405 3 rfl rfl ?_
  refine g_iconst (pc := 406) C (v := 4) d_L_406 (by decide) ?_
  refine g_iadd (pc := 407) C d_L_407 ?_
  refine g_sld (pc := 408) C hX hL (q := 4) (by decide) (by omega) d_L_408 ?_
  refine k_I (pc := 409) (co_V C (c_M_barge (xl X) (xD X) (xt X) (xv X) aM m (ys (j + 1)) (ys (j + 2)) (ys (j + 3)) (ys (j + 4)) _ hw) mw_M_barge lk_L_39 d_L_409 ((List.range 14).map (fun i => 47 + i)) (cC_L2 (xt X) aX aM (x1, m)) nd_2 (rec_w C 47 6 rfl rfl) rfl rfl ⟨Nat.le_of_ble_eq_true rfl, Nat.le_of_ble_eq_true rfl⟩ ⟨Nat.le_of_ble_eq_true rfl, Nat.le_of_ble_eq_true rfl⟩ (rest := [.int v1]) rfl rfl (Nat.le_of_ble_eq_true rfl)) (fun m1 => woL (xt X) aX aM (x1, m1)) (cS_L2 (xt X) aX aM (x1, m)) (fun v2 m1 hw => ?_)
  obtain ⟨hv, hw⟩ := hw
  refine g_icmp_eq (pc := 412) (tgt := 1712) C d_L_412 (by decide) (fun _ => ?_) (fun h9 => absurd hv h9)
  exact hK x1 m1 hw
def wpl_of (x : XSt) (m : MSt) (a1 a2 a3 a4 : Int32) (K : XSt → MSt → Prop) : Prop := wp_X_of x (a1) (a2) (fun v1 x1 => wp_M_of m (a1) (a2) (fun v2 m1 => v1 = v2 ∧ K x1 m1))
set_option maxRecDepth 20000 in
theorem lc_of {X : GX} (C : GC X code "SilenceCanalLaw" 4 room_1) {b L j : Nat} {ys : Nat → Int32} (hX : va_X b L ys (xs X) (xs X).heap ∧ b < (xs X).heap.size ∧ ¬ xA X b) (hL : L ≤ 2560) (hj : j + 5 ≤ L) (aX aM : Nat → Nat) (x : XSt) (m : MSt) (K : XSt → MSt → Prop) (hw : wpl_of x m (ys (j + 1)) (ys (j + 2)) (ys (j + 3)) (ys (j + 4)) K) (hK : ∀ x m, K x m → G X 61 1499 (woL (xt X) aX aM (x, m)) [(0, .ref b), (1, .ref (aX 0)), (2, .ref (aM 0)), (3, .int (nI j))] [] 1712) : G X 61 1499 (woL (xt X) aX aM (x, m)) [(0, .ref b), (1, .ref (aX 0)), (2, .ref (aM 0)), (3, .int (nI j))] [] 417 := by
  unfold wpl_of at hw
  refine g_aload_n (pc := 417) C d_L_417 1 rfl rfl ?_
  refine g_aload_n (pc := 418) C d_L_418 0 rfl rfl ?_
  refine g_iload_n (pc := 419) C d_L_419 3 rfl rfl ?_
  refine g_iconst (pc := 420) C (v := 1) d_L_420 (by decide) ?_
  refine g_iadd (pc := 421) C d_L_421 ?_
  refine g_sld (pc := 422) C hX hL (q := 1) (by decide) (by omega) d_L_422 ?_
  refine g_aload_n (pc := 423) C d_L_423 0 rfl rfl ?_
  refine g_iload_n (pc := 424) C d_L_424 3 rfl rfl ?_
  refine g_iconst (pc := 425) C (v := 2) d_L_425 (by decide) ?_
  refine g_iadd (pc := 426) C d_L_426 ?_
  refine g_sld (pc := 427) C hX hL (q := 2) (by decide) (by omega) d_L_427 ?_
  refine k_I (pc := 428) (co_V C (c_X_of (xl X) (xD X) (xt X) (xv X) aX x (ys (j + 1)) (ys (j + 2)) _ hw) mw_X_of lk_L_40 d_L_428 (List.range 47) (cC_L1 (xt X) aX aM (x, m)) (by decide) (rec_w C 0 5 rfl rfl) rfl rfl ⟨Nat.le_of_ble_eq_true rfl, Nat.le_of_ble_eq_true rfl⟩ ⟨Nat.le_of_ble_eq_true rfl, Nat.le_of_ble_eq_true rfl⟩ (rest := []) rfl rfl (Nat.le_of_ble_eq_true rfl)) (fun x1 => woL (xt X) aX aM (x1, m)) (cS_L1 (xt X) aX aM (x, m)) (fun v1 x1 hw => ?_)
  refine g_aload_n (pc := 431) C d_L_431 2 rfl rfl ?_
  refine g_aload_n (pc := 432) C d_L_432 0 rfl rfl ?_
  refine g_iload_n (pc := 433) C d_L_433 3 rfl rfl ?_
  refine g_iconst (pc := 434) C (v := 1) d_L_434 (by decide) ?_
  refine g_iadd (pc := 435) C d_L_435 ?_
  refine g_sld (pc := 436) C hX hL (q := 1) (by decide) (by omega) d_L_436 ?_
  refine g_aload_n (pc := 437) C d_L_437 0 rfl rfl ?_
  refine g_iload_n (pc := 438) C d_L_438 3 rfl rfl ?_
  refine g_iconst (pc := 439) C (v := 2) d_L_439 (by decide) ?_
  refine g_iadd (pc := 440) C d_L_440 ?_
  refine g_sld (pc := 441) C hX hL (q := 2) (by decide) (by omega) d_L_441 ?_
  refine k_I (pc := 442) (co_V C (c_M_of (xl X) (xD X) (xt X) (xv X) aM m (ys (j + 1)) (ys (j + 2)) _ hw) mw_M_of lk_L_43 d_L_442 ((List.range 14).map (fun i => 47 + i)) (cC_L2 (xt X) aX aM (x1, m)) nd_2 (rec_w C 47 6 rfl rfl) rfl rfl ⟨Nat.le_of_ble_eq_true rfl, Nat.le_of_ble_eq_true rfl⟩ ⟨Nat.le_of_ble_eq_true rfl, Nat.le_of_ble_eq_true rfl⟩ (rest := [.int v1]) rfl rfl (Nat.le_of_ble_eq_true rfl)) (fun m1 => woL (xt X) aX aM (x1, m1)) (cS_L2 (xt X) aX aM (x1, m)) (fun v2 m1 hw => ?_)
  obtain ⟨hv, hw⟩ := hw
  refine g_icmp_eq (pc := 445) (tgt := 1712) C d_L_445 (by decide) (fun _ => ?_) (fun h9 => absurd hv h9)
  exact hK x1 m1 hw
def wpl_does (x : XSt) (m : MSt) (a1 a2 a3 a4 : Int32) (K : XSt → MSt → Prop) : Prop := wp_X_does x (a1) (a2) (fun v1 x1 => wp_M_does m (a1) (a2) (fun v2 m1 => v1 = v2 ∧ K x1 m1))
set_option maxRecDepth 20000 in
theorem lc_does {X : GX} (C : GC X code "SilenceCanalLaw" 4 room_1) {b L j : Nat} {ys : Nat → Int32} (hX : va_X b L ys (xs X) (xs X).heap ∧ b < (xs X).heap.size ∧ ¬ xA X b) (hL : L ≤ 2560) (hj : j + 5 ≤ L) (aX aM : Nat → Nat) (x : XSt) (m : MSt) (K : XSt → MSt → Prop) (hw : wpl_does x m (ys (j + 1)) (ys (j + 2)) (ys (j + 3)) (ys (j + 4)) K) (hK : ∀ x m, K x m → G X 61 1499 (woL (xt X) aX aM (x, m)) [(0, .ref b), (1, .ref (aX 0)), (2, .ref (aM 0)), (3, .int (nI j))] [] 1712) : G X 61 1499 (woL (xt X) aX aM (x, m)) [(0, .ref b), (1, .ref (aX 0)), (2, .ref (aM 0)), (3, .int (nI j))] [] 450 := by
  unfold wpl_does at hw
  refine g_aload_n (pc := 450) C d_L_450 1 rfl rfl ?_
  refine g_aload_n (pc := 451) C d_L_451 0 rfl rfl ?_
  refine g_iload_n (pc := 452) C d_L_452 3 rfl rfl ?_
  refine g_iconst (pc := 453) C (v := 1) d_L_453 (by decide) ?_
  refine g_iadd (pc := 454) C d_L_454 ?_
  refine g_sld (pc := 455) C hX hL (q := 1) (by decide) (by omega) d_L_455 ?_
  refine g_aload_n (pc := 456) C d_L_456 0 rfl rfl ?_
  refine g_iload_n (pc := 457) C d_L_457 3 rfl rfl ?_
  refine g_iconst (pc := 458) C (v := 2) d_L_458 (by decide) ?_
  refine g_iadd (pc := 459) C d_L_459 ?_
  refine g_sld (pc := 460) C hX hL (q := 2) (by decide) (by omega) d_L_460 ?_
  refine k_I (pc := 461) (co_V C (c_X_does (xl X) (xD X) (xt X) (xv X) aX x (ys (j + 1)) (ys (j + 2)) _ hw) mw_X_does lk_L_44 d_L_461 (List.range 47) (cC_L1 (xt X) aX aM (x, m)) (by decide) (rec_w C 0 5 rfl rfl) rfl rfl ⟨Nat.le_of_ble_eq_true rfl, Nat.le_of_ble_eq_true rfl⟩ ⟨Nat.le_of_ble_eq_true rfl, Nat.le_of_ble_eq_true rfl⟩ (rest := []) rfl rfl (Nat.le_of_ble_eq_true rfl)) (fun x1 => woL (xt X) aX aM (x1, m)) (cS_L1 (xt X) aX aM (x, m)) (fun v1 x1 hw => ?_)
  refine g_aload_n (pc := 464) C d_L_464 2 rfl rfl ?_
  refine g_aload_n (pc := 465) C d_L_465 0 rfl rfl ?_
  refine g_iload_n (pc := 466) C d_L_466 3 rfl rfl ?_
  refine g_iconst (pc := 467) C (v := 1) d_L_467 (by decide) ?_
  refine g_iadd (pc := 468) C d_L_468 ?_
  refine g_sld (pc := 469) C hX hL (q := 1) (by decide) (by omega) d_L_469 ?_
  refine g_aload_n (pc := 470) C d_L_470 0 rfl rfl ?_
  refine g_iload_n (pc := 471) C d_L_471 3 rfl rfl ?_
  refine g_iconst (pc := 472) C (v := 2) d_L_472 (by decide) ?_
  refine g_iadd (pc := 473) C d_L_473 ?_
  refine g_sld (pc := 474) C hX hL (q := 2) (by decide) (by omega) d_L_474 ?_
  refine k_I (pc := 475) (co_V C (c_M_does (xl X) (xD X) (xt X) (xv X) aM m (ys (j + 1)) (ys (j + 2)) _ hw) mw_M_does lk_L_47 d_L_475 ((List.range 14).map (fun i => 47 + i)) (cC_L2 (xt X) aX aM (x1, m)) nd_2 (rec_w C 47 6 rfl rfl) rfl rfl ⟨Nat.le_of_ble_eq_true rfl, Nat.le_of_ble_eq_true rfl⟩ ⟨Nat.le_of_ble_eq_true rfl, Nat.le_of_ble_eq_true rfl⟩ (rest := [.int v1]) rfl rfl (Nat.le_of_ble_eq_true rfl)) (fun m1 => woL (xt X) aX aM (x1, m1)) (cS_L2 (xt X) aX aM (x1, m)) (fun v2 m1 hw => ?_)
  obtain ⟨hv, hw⟩ := hw
  refine g_icmp_eq (pc := 478) (tgt := 1712) C d_L_478 (by decide) (fun _ => ?_) (fun h9 => absurd hv h9)
  exact hK x1 m1 hw
def wpl_mind (x : XSt) (m : MSt) (a1 a2 a3 a4 : Int32) (K : XSt → MSt → Prop) : Prop := wp_X_mind x (a1) (a2) (a3) (fun v1 x1 => wp_M_mind m (a1) (a2) (a3) (fun v2 m1 => v1 = v2 ∧ K x1 m1))
set_option maxRecDepth 20000 in
theorem lc_mind {X : GX} (C : GC X code "SilenceCanalLaw" 4 room_1) {b L j : Nat} {ys : Nat → Int32} (hX : va_X b L ys (xs X) (xs X).heap ∧ b < (xs X).heap.size ∧ ¬ xA X b) (hL : L ≤ 2560) (hj : j + 5 ≤ L) (aX aM : Nat → Nat) (x : XSt) (m : MSt) (K : XSt → MSt → Prop) (hw : wpl_mind x m (ys (j + 1)) (ys (j + 2)) (ys (j + 3)) (ys (j + 4)) K) (hK : ∀ x m, K x m → G X 61 1499 (woL (xt X) aX aM (x, m)) [(0, .ref b), (1, .ref (aX 0)), (2, .ref (aM 0)), (3, .int (nI j))] [] 1712) : G X 61 1499 (woL (xt X) aX aM (x, m)) [(0, .ref b), (1, .ref (aX 0)), (2, .ref (aM 0)), (3, .int (nI j))] [] 483 := by
  unfold wpl_mind at hw
  refine g_aload_n (pc := 483) C d_L_483 1 rfl rfl ?_
  refine g_aload_n (pc := 484) C d_L_484 0 rfl rfl ?_
  refine g_iload_n (pc := 485) C d_L_485 3 rfl rfl ?_
  refine g_iconst (pc := 486) C (v := 1) d_L_486 (by decide) ?_
  refine g_iadd (pc := 487) C d_L_487 ?_
  refine g_sld (pc := 488) C hX hL (q := 1) (by decide) (by omega) d_L_488 ?_
  refine g_aload_n (pc := 489) C d_L_489 0 rfl rfl ?_
  refine g_iload_n (pc := 490) C d_L_490 3 rfl rfl ?_
  refine g_iconst (pc := 491) C (v := 2) d_L_491 (by decide) ?_
  refine g_iadd (pc := 492) C d_L_492 ?_
  refine g_sld (pc := 493) C hX hL (q := 2) (by decide) (by omega) d_L_493 ?_
  refine g_aload_n (pc := 494) C d_L_494 0 rfl rfl ?_
  refine g_iload_n (pc := 495) C d_L_495 3 rfl rfl ?_
  refine g_iconst (pc := 496) C (v := 3) d_L_496 (by decide) ?_
  refine g_iadd (pc := 497) C d_L_497 ?_
  refine g_sld (pc := 498) C hX hL (q := 3) (by decide) (by omega) d_L_498 ?_
  refine k_I (pc := 499) (co_V C (c_X_mind (xl X) (xD X) (xt X) (xv X) aX x (ys (j + 1)) (ys (j + 2)) (ys (j + 3)) _ hw) mw_X_mind lk_L_48 d_L_499 (List.range 47) (cC_L1 (xt X) aX aM (x, m)) (by decide) (rec_w C 0 5 rfl rfl) rfl rfl ⟨Nat.le_of_ble_eq_true rfl, Nat.le_of_ble_eq_true rfl⟩ ⟨Nat.le_of_ble_eq_true rfl, Nat.le_of_ble_eq_true rfl⟩ (rest := []) rfl rfl (Nat.le_of_ble_eq_true rfl)) (fun x1 => woL (xt X) aX aM (x1, m)) (cS_L1 (xt X) aX aM (x, m)) (fun v1 x1 hw => ?_)
  refine g_aload_n (pc := 502) C d_L_502 2 rfl rfl ?_
  refine g_aload_n (pc := 503) C d_L_503 0 rfl rfl ?_
  refine g_iload_n (pc := 504) C d_L_504 3 rfl rfl ?_
  refine g_iconst (pc := 505) C (v := 1) d_L_505 (by decide) ?_
  refine g_iadd (pc := 506) C d_L_506 ?_
  refine g_sld (pc := 507) C hX hL (q := 1) (by decide) (by omega) d_L_507 ?_
  refine g_aload_n (pc := 508) C d_L_508 0 rfl rfl ?_
  refine g_iload_n (pc := 509) C d_L_509 3 rfl rfl ?_
  refine g_iconst (pc := 510) C (v := 2) d_L_510 (by decide) ?_
  refine g_iadd (pc := 511) C d_L_511 ?_
  refine g_sld (pc := 512) C hX hL (q := 2) (by decide) (by omega) d_L_512 ?_
  refine g_aload_n (pc := 513) C d_L_513 0 rfl rfl ?_
  refine g_iload_n (pc := 514) C d_L_514 3 rfl rfl ?_
  refine g_iconst (pc := 515) C (v := 3) d_L_515 (by decide) ?_
  refine g_iadd (pc := 516) C d_L_516 ?_
  refine g_sld (pc := 517) C hX hL (q := 3) (by decide) (by omega) d_L_517 ?_
  refine k_I (pc := 518) (co_V C (c_M_mind (xl X) (xD X) (xt X) (xv X) aM m (ys (j + 1)) (ys (j + 2)) (ys (j + 3)) _ hw) mw_M_mind lk_L_52 d_L_518 ((List.range 14).map (fun i => 47 + i)) (cC_L2 (xt X) aX aM (x1, m)) nd_2 (rec_w C 47 6 rfl rfl) rfl rfl ⟨Nat.le_of_ble_eq_true rfl, Nat.le_of_ble_eq_true rfl⟩ ⟨Nat.le_of_ble_eq_true rfl, Nat.le_of_ble_eq_true rfl⟩ (rest := [.int v1]) rfl rfl (Nat.le_of_ble_eq_true rfl)) (fun m1 => woL (xt X) aX aM (x1, m1)) (cS_L2 (xt X) aX aM (x1, m)) (fun v2 m1 hw => ?_)
  obtain ⟨hv, hw⟩ := hw
  refine g_icmp_eq (pc := 521) (tgt := 1712) C d_L_521 (by decide) (fun _ => ?_) (fun h9 => absurd hv h9)
  exact hK x1 m1 hw
def wpl_fill (x : XSt) (m : MSt) (a1 a2 a3 a4 : Int32) (K : XSt → MSt → Prop) : Prop := wp_X_fill x (a1) (a2) (fun v1 x1 => wp_M_fill m (a1) (a2) (fun v2 m1 => v1 = v2 ∧ K x1 m1))
set_option maxRecDepth 20000 in
theorem lc_fill {X : GX} (C : GC X code "SilenceCanalLaw" 4 room_1) {b L j : Nat} {ys : Nat → Int32} (hX : va_X b L ys (xs X) (xs X).heap ∧ b < (xs X).heap.size ∧ ¬ xA X b) (hL : L ≤ 2560) (hj : j + 5 ≤ L) (aX aM : Nat → Nat) (x : XSt) (m : MSt) (K : XSt → MSt → Prop) (hw : wpl_fill x m (ys (j + 1)) (ys (j + 2)) (ys (j + 3)) (ys (j + 4)) K) (hK : ∀ x m, K x m → G X 61 1499 (woL (xt X) aX aM (x, m)) [(0, .ref b), (1, .ref (aX 0)), (2, .ref (aM 0)), (3, .int (nI j))] [] 1712) : G X 61 1499 (woL (xt X) aX aM (x, m)) [(0, .ref b), (1, .ref (aX 0)), (2, .ref (aM 0)), (3, .int (nI j))] [] 526 := by
  unfold wpl_fill at hw
  refine g_aload_n (pc := 526) C d_L_526 1 rfl rfl ?_
  refine g_aload_n (pc := 527) C d_L_527 0 rfl rfl ?_
  refine g_iload_n (pc := 528) C d_L_528 3 rfl rfl ?_
  refine g_iconst (pc := 529) C (v := 1) d_L_529 (by decide) ?_
  refine g_iadd (pc := 530) C d_L_530 ?_
  refine g_sld (pc := 531) C hX hL (q := 1) (by decide) (by omega) d_L_531 ?_
  refine g_aload_n (pc := 532) C d_L_532 0 rfl rfl ?_
  refine g_iload_n (pc := 533) C d_L_533 3 rfl rfl ?_
  refine g_iconst (pc := 534) C (v := 2) d_L_534 (by decide) ?_
  refine g_iadd (pc := 535) C d_L_535 ?_
  refine g_sld (pc := 536) C hX hL (q := 2) (by decide) (by omega) d_L_536 ?_
  refine k_I (pc := 537) (co_V C (c_X_fill (xl X) (xD X) (xt X) (xv X) aX x (ys (j + 1)) (ys (j + 2)) _ hw) mw_X_fill lk_L_53 d_L_537 (List.range 47) (cC_L1 (xt X) aX aM (x, m)) (by decide) (rec_w C 0 5 rfl rfl) rfl rfl ⟨Nat.le_of_ble_eq_true rfl, Nat.le_of_ble_eq_true rfl⟩ ⟨Nat.le_of_ble_eq_true rfl, Nat.le_of_ble_eq_true rfl⟩ (rest := []) rfl rfl (Nat.le_of_ble_eq_true rfl)) (fun x1 => woL (xt X) aX aM (x1, m)) (cS_L1 (xt X) aX aM (x, m)) (fun v1 x1 hw => ?_)
  refine g_aload_n (pc := 540) C d_L_540 2 rfl rfl ?_
  refine g_aload_n (pc := 541) C d_L_541 0 rfl rfl ?_
  refine g_iload_n (pc := 542) C d_L_542 3 rfl rfl ?_
  refine g_iconst (pc := 543) C (v := 1) d_L_543 (by decide) ?_
  refine g_iadd (pc := 544) C d_L_544 ?_
  refine g_sld (pc := 545) C hX hL (q := 1) (by decide) (by omega) d_L_545 ?_
  refine g_aload_n (pc := 546) C d_L_546 0 rfl rfl ?_
  refine g_iload_n (pc := 547) C d_L_547 3 rfl rfl ?_
  refine g_iconst (pc := 548) C (v := 2) d_L_548 (by decide) ?_
  refine g_iadd (pc := 549) C d_L_549 ?_
  refine g_sld (pc := 550) C hX hL (q := 2) (by decide) (by omega) d_L_550 ?_
  refine k_I (pc := 551) (co_V C (c_M_fill (xl X) (xD X) (xt X) (xv X) aM m (ys (j + 1)) (ys (j + 2)) _ hw) mw_M_fill lk_L_56 d_L_551 ((List.range 14).map (fun i => 47 + i)) (cC_L2 (xt X) aX aM (x1, m)) nd_2 (rec_w C 47 6 rfl rfl) rfl rfl ⟨Nat.le_of_ble_eq_true rfl, Nat.le_of_ble_eq_true rfl⟩ ⟨Nat.le_of_ble_eq_true rfl, Nat.le_of_ble_eq_true rfl⟩ (rest := [.int v1]) rfl rfl (Nat.le_of_ble_eq_true rfl)) (fun m1 => woL (xt X) aX aM (x1, m1)) (cS_L2 (xt X) aX aM (x1, m)) (fun v2 m1 hw => ?_)
  obtain ⟨hv, hw⟩ := hw
  refine g_icmp_eq (pc := 554) (tgt := 1712) C d_L_554 (by decide) (fun _ => ?_) (fun h9 => absurd hv h9)
  exact hK x1 m1 hw
def wpl_bring (x : XSt) (m : MSt) (a1 a2 a3 a4 : Int32) (K : XSt → MSt → Prop) : Prop := wp_X_bring x (a1) (a2) (fun v1 x1 => wp_M_bring m (a1) (a2) (fun v2 m1 => v1 = v2 ∧ K x1 m1))
set_option maxRecDepth 20000 in
theorem lc_bring {X : GX} (C : GC X code "SilenceCanalLaw" 4 room_1) {b L j : Nat} {ys : Nat → Int32} (hX : va_X b L ys (xs X) (xs X).heap ∧ b < (xs X).heap.size ∧ ¬ xA X b) (hL : L ≤ 2560) (hj : j + 5 ≤ L) (aX aM : Nat → Nat) (x : XSt) (m : MSt) (K : XSt → MSt → Prop) (hw : wpl_bring x m (ys (j + 1)) (ys (j + 2)) (ys (j + 3)) (ys (j + 4)) K) (hK : ∀ x m, K x m → G X 61 1499 (woL (xt X) aX aM (x, m)) [(0, .ref b), (1, .ref (aX 0)), (2, .ref (aM 0)), (3, .int (nI j))] [] 1712) : G X 61 1499 (woL (xt X) aX aM (x, m)) [(0, .ref b), (1, .ref (aX 0)), (2, .ref (aM 0)), (3, .int (nI j))] [] 559 := by
  unfold wpl_bring at hw
  refine g_aload_n (pc := 559) C d_L_559 1 rfl rfl ?_
  refine g_aload_n (pc := 560) C d_L_560 0 rfl rfl ?_
  refine g_iload_n (pc := 561) C d_L_561 3 rfl rfl ?_
  refine g_iconst (pc := 562) C (v := 1) d_L_562 (by decide) ?_
  refine g_iadd (pc := 563) C d_L_563 ?_
  refine g_sld (pc := 564) C hX hL (q := 1) (by decide) (by omega) d_L_564 ?_
  refine g_aload_n (pc := 565) C d_L_565 0 rfl rfl ?_
  refine g_iload_n (pc := 566) C d_L_566 3 rfl rfl ?_
  refine g_iconst (pc := 567) C (v := 2) d_L_567 (by decide) ?_
  refine g_iadd (pc := 568) C d_L_568 ?_
  refine g_sld (pc := 569) C hX hL (q := 2) (by decide) (by omega) d_L_569 ?_
  refine k_I (pc := 570) (co_V C (c_X_bring (xl X) (xD X) (xt X) (xv X) aX x (ys (j + 1)) (ys (j + 2)) _ hw) mw_X_bring lk_L_57 d_L_570 (List.range 47) (cC_L1 (xt X) aX aM (x, m)) (by decide) (rec_w C 0 5 rfl rfl) rfl rfl ⟨Nat.le_of_ble_eq_true rfl, Nat.le_of_ble_eq_true rfl⟩ ⟨Nat.le_of_ble_eq_true rfl, Nat.le_of_ble_eq_true rfl⟩ (rest := []) rfl rfl (Nat.le_of_ble_eq_true rfl)) (fun x1 => woL (xt X) aX aM (x1, m)) (cS_L1 (xt X) aX aM (x, m)) (fun v1 x1 hw => ?_)
  refine g_aload_n (pc := 573) C d_L_573 2 rfl rfl ?_
  refine g_aload_n (pc := 574) C d_L_574 0 rfl rfl ?_
  refine g_iload_n (pc := 575) C d_L_575 3 rfl rfl ?_
  refine g_iconst (pc := 576) C (v := 1) d_L_576 (by decide) ?_
  refine g_iadd (pc := 577) C d_L_577 ?_
  refine g_sld (pc := 578) C hX hL (q := 1) (by decide) (by omega) d_L_578 ?_
  refine g_aload_n (pc := 579) C d_L_579 0 rfl rfl ?_
  refine g_iload_n (pc := 580) C d_L_580 3 rfl rfl ?_
  refine g_iconst (pc := 581) C (v := 2) d_L_581 (by decide) ?_
  refine g_iadd (pc := 582) C d_L_582 ?_
  refine g_sld (pc := 583) C hX hL (q := 2) (by decide) (by omega) d_L_583 ?_
  refine k_I (pc := 584) (co_V C (c_M_bring (xl X) (xD X) (xt X) (xv X) aM m (ys (j + 1)) (ys (j + 2)) _ hw) mw_M_bring lk_L_60 d_L_584 ((List.range 14).map (fun i => 47 + i)) (cC_L2 (xt X) aX aM (x1, m)) nd_2 (rec_w C 47 6 rfl rfl) rfl rfl ⟨Nat.le_of_ble_eq_true rfl, Nat.le_of_ble_eq_true rfl⟩ ⟨Nat.le_of_ble_eq_true rfl, Nat.le_of_ble_eq_true rfl⟩ (rest := [.int v1]) rfl rfl (Nat.le_of_ble_eq_true rfl)) (fun m1 => woL (xt X) aX aM (x1, m1)) (cS_L2 (xt X) aX aM (x1, m)) (fun v2 m1 hw => ?_)
  obtain ⟨hv, hw⟩ := hw
  refine g_icmp_eq (pc := 587) (tgt := 1712) C d_L_587 (by decide) (fun _ => ?_) (fun h9 => absurd hv h9)
  exact hK x1 m1 hw
def wpl_send (x : XSt) (m : MSt) (a1 a2 a3 a4 : Int32) (K : XSt → MSt → Prop) : Prop := wp_X_send x (a1) (a2) (fun v1 x1 => wp_M_send m (a1) (a2) (fun v2 m1 => v1 = v2 ∧ K x1 m1))
set_option maxRecDepth 20000 in
theorem lc_send {X : GX} (C : GC X code "SilenceCanalLaw" 4 room_1) {b L j : Nat} {ys : Nat → Int32} (hX : va_X b L ys (xs X) (xs X).heap ∧ b < (xs X).heap.size ∧ ¬ xA X b) (hL : L ≤ 2560) (hj : j + 5 ≤ L) (aX aM : Nat → Nat) (x : XSt) (m : MSt) (K : XSt → MSt → Prop) (hw : wpl_send x m (ys (j + 1)) (ys (j + 2)) (ys (j + 3)) (ys (j + 4)) K) (hK : ∀ x m, K x m → G X 61 1499 (woL (xt X) aX aM (x, m)) [(0, .ref b), (1, .ref (aX 0)), (2, .ref (aM 0)), (3, .int (nI j))] [] 1712) : G X 61 1499 (woL (xt X) aX aM (x, m)) [(0, .ref b), (1, .ref (aX 0)), (2, .ref (aM 0)), (3, .int (nI j))] [] 592 := by
  unfold wpl_send at hw
  refine g_aload_n (pc := 592) C d_L_592 1 rfl rfl ?_
  refine g_aload_n (pc := 593) C d_L_593 0 rfl rfl ?_
  refine g_iload_n (pc := 594) C d_L_594 3 rfl rfl ?_
  refine g_iconst (pc := 595) C (v := 1) d_L_595 (by decide) ?_
  refine g_iadd (pc := 596) C d_L_596 ?_
  refine g_sld (pc := 597) C hX hL (q := 1) (by decide) (by omega) d_L_597 ?_
  refine g_aload_n (pc := 598) C d_L_598 0 rfl rfl ?_
  refine g_iload_n (pc := 599) C d_L_599 3 rfl rfl ?_
  refine g_iconst (pc := 600) C (v := 2) d_L_600 (by decide) ?_
  refine g_iadd (pc := 601) C d_L_601 ?_
  refine g_sld (pc := 602) C hX hL (q := 2) (by decide) (by omega) d_L_602 ?_
  refine k_I (pc := 603) (co_V C (c_X_send (xl X) (xD X) (xt X) (xv X) aX x (ys (j + 1)) (ys (j + 2)) _ hw) mw_X_send lk_L_61 d_L_603 (List.range 47) (cC_L1 (xt X) aX aM (x, m)) (by decide) (rec_w C 0 5 rfl rfl) rfl rfl ⟨Nat.le_of_ble_eq_true rfl, Nat.le_of_ble_eq_true rfl⟩ ⟨Nat.le_of_ble_eq_true rfl, Nat.le_of_ble_eq_true rfl⟩ (rest := []) rfl rfl (Nat.le_of_ble_eq_true rfl)) (fun x1 => woL (xt X) aX aM (x1, m)) (cS_L1 (xt X) aX aM (x, m)) (fun v1 x1 hw => ?_)
  refine g_aload_n (pc := 606) C d_L_606 2 rfl rfl ?_
  refine g_aload_n (pc := 607) C d_L_607 0 rfl rfl ?_
  refine g_iload_n (pc := 608) C d_L_608 3 rfl rfl ?_
  refine g_iconst (pc := 609) C (v := 1) d_L_609 (by decide) ?_
  refine g_iadd (pc := 610) C d_L_610 ?_
  refine g_sld (pc := 611) C hX hL (q := 1) (by decide) (by omega) d_L_611 ?_
  refine g_aload_n (pc := 612) C d_L_612 0 rfl rfl ?_
  refine g_iload_n (pc := 613) C d_L_613 3 rfl rfl ?_
  refine g_iconst (pc := 614) C (v := 2) d_L_614 (by decide) ?_
  refine g_iadd (pc := 615) C d_L_615 ?_
  refine g_sld (pc := 616) C hX hL (q := 2) (by decide) (by omega) d_L_616 ?_
  refine k_I (pc := 617) (co_V C (c_M_send (xl X) (xD X) (xt X) (xv X) aM m (ys (j + 1)) (ys (j + 2)) _ hw) mw_M_send lk_L_64 d_L_617 ((List.range 14).map (fun i => 47 + i)) (cC_L2 (xt X) aX aM (x1, m)) nd_2 (rec_w C 47 6 rfl rfl) rfl rfl ⟨Nat.le_of_ble_eq_true rfl, Nat.le_of_ble_eq_true rfl⟩ ⟨Nat.le_of_ble_eq_true rfl, Nat.le_of_ble_eq_true rfl⟩ (rest := [.int v1]) rfl rfl (Nat.le_of_ble_eq_true rfl)) (fun m1 => woL (xt X) aX aM (x1, m1)) (cS_L2 (xt X) aX aM (x1, m)) (fun v2 m1 hw => ?_)
  obtain ⟨hv, hw⟩ := hw
  refine g_icmp_eq (pc := 620) (tgt := 1712) C d_L_620 (by decide) (fun _ => ?_) (fun h9 => absurd hv h9)
  exact hK x1 m1 hw
def wpl_noise (x : XSt) (m : MSt) (a1 a2 a3 a4 : Int32) (K : XSt → MSt → Prop) : Prop := wp_X_noise x (a1) (a2) (fun v1 x1 => wp_M_noise m (a1) (a2) (fun v2 m1 => v1 = v2 ∧ K x1 m1))
set_option maxRecDepth 20000 in
theorem lc_noise {X : GX} (C : GC X code "SilenceCanalLaw" 4 room_1) {b L j : Nat} {ys : Nat → Int32} (hX : va_X b L ys (xs X) (xs X).heap ∧ b < (xs X).heap.size ∧ ¬ xA X b) (hL : L ≤ 2560) (hj : j + 5 ≤ L) (aX aM : Nat → Nat) (x : XSt) (m : MSt) (K : XSt → MSt → Prop) (hw : wpl_noise x m (ys (j + 1)) (ys (j + 2)) (ys (j + 3)) (ys (j + 4)) K) (hK : ∀ x m, K x m → G X 61 1499 (woL (xt X) aX aM (x, m)) [(0, .ref b), (1, .ref (aX 0)), (2, .ref (aM 0)), (3, .int (nI j))] [] 1712) : G X 61 1499 (woL (xt X) aX aM (x, m)) [(0, .ref b), (1, .ref (aX 0)), (2, .ref (aM 0)), (3, .int (nI j))] [] 625 := by
  unfold wpl_noise at hw
  refine g_aload_n (pc := 625) C d_L_625 1 rfl rfl ?_
  refine g_aload_n (pc := 626) C d_L_626 0 rfl rfl ?_
  refine g_iload_n (pc := 627) C d_L_627 3 rfl rfl ?_
  refine g_iconst (pc := 628) C (v := 1) d_L_628 (by decide) ?_
  refine g_iadd (pc := 629) C d_L_629 ?_
  refine g_sld (pc := 630) C hX hL (q := 1) (by decide) (by omega) d_L_630 ?_
  refine g_aload_n (pc := 631) C d_L_631 0 rfl rfl ?_
  refine g_iload_n (pc := 632) C d_L_632 3 rfl rfl ?_
  refine g_iconst (pc := 633) C (v := 2) d_L_633 (by decide) ?_
  refine g_iadd (pc := 634) C d_L_634 ?_
  refine g_sld (pc := 635) C hX hL (q := 2) (by decide) (by omega) d_L_635 ?_
  refine k_I (pc := 636) (co_V C (c_X_noise (xl X) (xD X) (xt X) (xv X) aX x (ys (j + 1)) (ys (j + 2)) _ hw) mw_X_noise lk_L_65 d_L_636 (List.range 47) (cC_L1 (xt X) aX aM (x, m)) (by decide) (rec_w C 0 5 rfl rfl) rfl rfl ⟨Nat.le_of_ble_eq_true rfl, Nat.le_of_ble_eq_true rfl⟩ ⟨Nat.le_of_ble_eq_true rfl, Nat.le_of_ble_eq_true rfl⟩ (rest := []) rfl rfl (Nat.le_of_ble_eq_true rfl)) (fun x1 => woL (xt X) aX aM (x1, m)) (cS_L1 (xt X) aX aM (x, m)) (fun v1 x1 hw => ?_)
  refine g_aload_n (pc := 639) C d_L_639 2 rfl rfl ?_
  refine g_aload_n (pc := 640) C d_L_640 0 rfl rfl ?_
  refine g_iload_n (pc := 641) C d_L_641 3 rfl rfl ?_
  refine g_iconst (pc := 642) C (v := 1) d_L_642 (by decide) ?_
  refine g_iadd (pc := 643) C d_L_643 ?_
  refine g_sld (pc := 644) C hX hL (q := 1) (by decide) (by omega) d_L_644 ?_
  refine g_aload_n (pc := 645) C d_L_645 0 rfl rfl ?_
  refine g_iload_n (pc := 646) C d_L_646 3 rfl rfl ?_
  refine g_iconst (pc := 647) C (v := 2) d_L_647 (by decide) ?_
  refine g_iadd (pc := 648) C d_L_648 ?_
  refine g_sld (pc := 649) C hX hL (q := 2) (by decide) (by omega) d_L_649 ?_
  refine k_I (pc := 650) (co_V C (c_M_noise (xl X) (xD X) (xt X) (xv X) aM m (ys (j + 1)) (ys (j + 2)) _ hw) mw_M_noise lk_L_68 d_L_650 ((List.range 14).map (fun i => 47 + i)) (cC_L2 (xt X) aX aM (x1, m)) nd_2 (rec_w C 47 6 rfl rfl) rfl rfl ⟨Nat.le_of_ble_eq_true rfl, Nat.le_of_ble_eq_true rfl⟩ ⟨Nat.le_of_ble_eq_true rfl, Nat.le_of_ble_eq_true rfl⟩ (rest := [.int v1]) rfl rfl (Nat.le_of_ble_eq_true rfl)) (fun m1 => woL (xt X) aX aM (x1, m1)) (cS_L2 (xt X) aX aM (x1, m)) (fun v2 m1 hw => ?_)
  obtain ⟨hv, hw⟩ := hw
  refine g_icmp_eq (pc := 653) (tgt := 1712) C d_L_653 (by decide) (fun _ => ?_) (fun h9 => absurd hv h9)
  exact hK x1 m1 hw
def wpl_lock (x : XSt) (m : MSt) (a1 a2 a3 a4 : Int32) (K : XSt → MSt → Prop) : Prop := wp_X_lock x (a1) (a2) (fun v1 x1 => wp_M_lock m (a1) (a2) (fun v2 m1 => v1 = v2 ∧ K x1 m1))
set_option maxRecDepth 20000 in
theorem lc_lock {X : GX} (C : GC X code "SilenceCanalLaw" 4 room_1) {b L j : Nat} {ys : Nat → Int32} (hX : va_X b L ys (xs X) (xs X).heap ∧ b < (xs X).heap.size ∧ ¬ xA X b) (hL : L ≤ 2560) (hj : j + 5 ≤ L) (aX aM : Nat → Nat) (x : XSt) (m : MSt) (K : XSt → MSt → Prop) (hw : wpl_lock x m (ys (j + 1)) (ys (j + 2)) (ys (j + 3)) (ys (j + 4)) K) (hK : ∀ x m, K x m → G X 61 1499 (woL (xt X) aX aM (x, m)) [(0, .ref b), (1, .ref (aX 0)), (2, .ref (aM 0)), (3, .int (nI j))] [] 1712) : G X 61 1499 (woL (xt X) aX aM (x, m)) [(0, .ref b), (1, .ref (aX 0)), (2, .ref (aM 0)), (3, .int (nI j))] [] 658 := by
  unfold wpl_lock at hw
  refine g_aload_n (pc := 658) C d_L_658 1 rfl rfl ?_
  refine g_aload_n (pc := 659) C d_L_659 0 rfl rfl ?_
  refine g_iload_n (pc := 660) C d_L_660 3 rfl rfl ?_
  refine g_iconst (pc := 661) C (v := 1) d_L_661 (by decide) ?_
  refine g_iadd (pc := 662) C d_L_662 ?_
  refine g_sld (pc := 663) C hX hL (q := 1) (by decide) (by omega) d_L_663 ?_
  refine g_aload_n (pc := 664) C d_L_664 0 rfl rfl ?_
  refine g_iload_n (pc := 665) C d_L_665 3 rfl rfl ?_
  refine g_iconst (pc := 666) C (v := 2) d_L_666 (by decide) ?_
  refine g_iadd (pc := 667) C d_L_667 ?_
  refine g_sld (pc := 668) C hX hL (q := 2) (by decide) (by omega) d_L_668 ?_
  refine k_I (pc := 669) (co_V C (c_X_lock (xl X) (xD X) (xt X) (xv X) aX x (ys (j + 1)) (ys (j + 2)) _ hw) mw_X_lock lk_L_69 d_L_669 (List.range 47) (cC_L1 (xt X) aX aM (x, m)) (by decide) (rec_w C 0 5 rfl rfl) rfl rfl ⟨Nat.le_of_ble_eq_true rfl, Nat.le_of_ble_eq_true rfl⟩ ⟨Nat.le_of_ble_eq_true rfl, Nat.le_of_ble_eq_true rfl⟩ (rest := []) rfl rfl (Nat.le_of_ble_eq_true rfl)) (fun x1 => woL (xt X) aX aM (x1, m)) (cS_L1 (xt X) aX aM (x, m)) (fun v1 x1 hw => ?_)
  refine g_aload_n (pc := 672) C d_L_672 2 rfl rfl ?_
  refine g_aload_n (pc := 673) C d_L_673 0 rfl rfl ?_
  refine g_iload_n (pc := 674) C d_L_674 3 rfl rfl ?_
  refine g_iconst (pc := 675) C (v := 1) d_L_675 (by decide) ?_
  refine g_iadd (pc := 676) C d_L_676 ?_
  refine g_sld (pc := 677) C hX hL (q := 1) (by decide) (by omega) d_L_677 ?_
  refine g_aload_n (pc := 678) C d_L_678 0 rfl rfl ?_
  refine g_iload_n (pc := 679) C d_L_679 3 rfl rfl ?_
  refine g_iconst (pc := 680) C (v := 2) d_L_680 (by decide) ?_
  refine g_iadd (pc := 681) C d_L_681 ?_
  refine g_sld (pc := 682) C hX hL (q := 2) (by decide) (by omega) d_L_682 ?_
  refine k_I (pc := 683) (co_V C (c_M_lock (xl X) (xD X) (xt X) (xv X) aM m (ys (j + 1)) (ys (j + 2)) _ hw) mw_M_lock lk_L_72 d_L_683 ((List.range 14).map (fun i => 47 + i)) (cC_L2 (xt X) aX aM (x1, m)) nd_2 (rec_w C 47 6 rfl rfl) rfl rfl ⟨Nat.le_of_ble_eq_true rfl, Nat.le_of_ble_eq_true rfl⟩ ⟨Nat.le_of_ble_eq_true rfl, Nat.le_of_ble_eq_true rfl⟩ (rest := [.int v1]) rfl rfl (Nat.le_of_ble_eq_true rfl)) (fun m1 => woL (xt X) aX aM (x1, m1)) (cS_L2 (xt X) aX aM (x1, m)) (fun v2 m1 hw => ?_)
  obtain ⟨hv, hw⟩ := hw
  refine g_icmp_eq (pc := 686) (tgt := 1712) C d_L_686 (by decide) (fun _ => ?_) (fun h9 => absurd hv h9)
  exact hK x1 m1 hw
def wpl_hours (x : XSt) (m : MSt) (a1 a2 a3 a4 : Int32) (K : XSt → MSt → Prop) : Prop := wp_X_hours x (a1) (fun v1 x1 => wp_M_hours m (a1) (fun v2 m1 => v1 = v2 ∧ K x1 m1))
set_option maxRecDepth 20000 in
theorem lc_hours {X : GX} (C : GC X code "SilenceCanalLaw" 4 room_1) {b L j : Nat} {ys : Nat → Int32} (hX : va_X b L ys (xs X) (xs X).heap ∧ b < (xs X).heap.size ∧ ¬ xA X b) (hL : L ≤ 2560) (hj : j + 5 ≤ L) (aX aM : Nat → Nat) (x : XSt) (m : MSt) (K : XSt → MSt → Prop) (hw : wpl_hours x m (ys (j + 1)) (ys (j + 2)) (ys (j + 3)) (ys (j + 4)) K) (hK : ∀ x m, K x m → G X 61 1499 (woL (xt X) aX aM (x, m)) [(0, .ref b), (1, .ref (aX 0)), (2, .ref (aM 0)), (3, .int (nI j))] [] 1712) : G X 61 1499 (woL (xt X) aX aM (x, m)) [(0, .ref b), (1, .ref (aX 0)), (2, .ref (aM 0)), (3, .int (nI j))] [] 691 := by
  unfold wpl_hours at hw
  refine g_aload_n (pc := 691) C d_L_691 1 rfl rfl ?_
  refine g_aload_n (pc := 692) C d_L_692 0 rfl rfl ?_
  refine g_iload_n (pc := 693) C d_L_693 3 rfl rfl ?_
  refine g_iconst (pc := 694) C (v := 1) d_L_694 (by decide) ?_
  refine g_iadd (pc := 695) C d_L_695 ?_
  refine g_sld (pc := 696) C hX hL (q := 1) (by decide) (by omega) d_L_696 ?_
  refine k_I (pc := 697) (co_V C (c_X_hours (xl X) (xD X) (xt X) (xv X) aX x (ys (j + 1)) _ hw) mw_X_hours lk_L_73 d_L_697 (List.range 47) (cC_L1 (xt X) aX aM (x, m)) (by decide) (rec_w C 0 5 rfl rfl) rfl rfl ⟨Nat.le_of_ble_eq_true rfl, Nat.le_of_ble_eq_true rfl⟩ ⟨Nat.le_of_ble_eq_true rfl, Nat.le_of_ble_eq_true rfl⟩ (rest := []) rfl rfl (Nat.le_of_ble_eq_true rfl)) (fun x1 => woL (xt X) aX aM (x1, m)) (cS_L1 (xt X) aX aM (x, m)) (fun v1 x1 hw => ?_)
  refine g_aload_n (pc := 700) C d_L_700 2 rfl rfl ?_
  refine g_aload_n (pc := 701) C d_L_701 0 rfl rfl ?_
  refine g_iload_n (pc := 702) C d_L_702 3 rfl rfl ?_
  refine g_iconst (pc := 703) C (v := 1) d_L_703 (by decide) ?_
  refine g_iadd (pc := 704) C d_L_704 ?_
  refine g_sld (pc := 705) C hX hL (q := 1) (by decide) (by omega) d_L_705 ?_
  refine k_I (pc := 706) (co_V C (c_M_hours (xl X) (xD X) (xt X) (xv X) aM m (ys (j + 1)) _ hw) mw_M_hours lk_L_76 d_L_706 ((List.range 14).map (fun i => 47 + i)) (cC_L2 (xt X) aX aM (x1, m)) nd_2 (rec_w C 47 6 rfl rfl) rfl rfl ⟨Nat.le_of_ble_eq_true rfl, Nat.le_of_ble_eq_true rfl⟩ ⟨Nat.le_of_ble_eq_true rfl, Nat.le_of_ble_eq_true rfl⟩ (rest := [.int v1]) rfl rfl (Nat.le_of_ble_eq_true rfl)) (fun m1 => woL (xt X) aX aM (x1, m1)) (cS_L2 (xt X) aX aM (x1, m)) (fun v2 m1 hw => ?_)
  obtain ⟨hv, hw⟩ := hw
  refine g_icmp_eq (pc := 709) (tgt := 1712) C d_L_709 (by decide) (fun _ => ?_) (fun h9 => absurd hv h9)
  exact hK x1 m1 hw
def wpl_seed (x : XSt) (m : MSt) (a1 a2 a3 a4 : Int32) (K : XSt → MSt → Prop) : Prop := wp_X_seed x (a1) (fun v1 x1 => wp_M_seed m (a1) (fun v2 m1 => v1 = v2 ∧ K x1 m1))
set_option maxRecDepth 20000 in
theorem lc_seed {X : GX} (C : GC X code "SilenceCanalLaw" 4 room_1) {b L j : Nat} {ys : Nat → Int32} (hX : va_X b L ys (xs X) (xs X).heap ∧ b < (xs X).heap.size ∧ ¬ xA X b) (hL : L ≤ 2560) (hj : j + 5 ≤ L) (aX aM : Nat → Nat) (x : XSt) (m : MSt) (K : XSt → MSt → Prop) (hw : wpl_seed x m (ys (j + 1)) (ys (j + 2)) (ys (j + 3)) (ys (j + 4)) K) (hK : ∀ x m, K x m → G X 61 1499 (woL (xt X) aX aM (x, m)) [(0, .ref b), (1, .ref (aX 0)), (2, .ref (aM 0)), (3, .int (nI j))] [] 1712) : G X 61 1499 (woL (xt X) aX aM (x, m)) [(0, .ref b), (1, .ref (aX 0)), (2, .ref (aM 0)), (3, .int (nI j))] [] 714 := by
  unfold wpl_seed at hw
  refine g_aload_n (pc := 714) C d_L_714 1 rfl rfl ?_
  refine g_aload_n (pc := 715) C d_L_715 0 rfl rfl ?_
  refine g_iload_n (pc := 716) C d_L_716 3 rfl rfl ?_
  refine g_iconst (pc := 717) C (v := 1) d_L_717 (by decide) ?_
  refine g_iadd (pc := 718) C d_L_718 ?_
  refine g_sld (pc := 719) C hX hL (q := 1) (by decide) (by omega) d_L_719 ?_
  refine k_I (pc := 720) (co_V C (c_X_seed (xl X) (xD X) (xt X) (xv X) aX x (ys (j + 1)) _ hw) mw_X_seed lk_L_77 d_L_720 (List.range 47) (cC_L1 (xt X) aX aM (x, m)) (by decide) (rec_w C 0 5 rfl rfl) rfl rfl ⟨Nat.le_of_ble_eq_true rfl, Nat.le_of_ble_eq_true rfl⟩ ⟨Nat.le_of_ble_eq_true rfl, Nat.le_of_ble_eq_true rfl⟩ (rest := []) rfl rfl (Nat.le_of_ble_eq_true rfl)) (fun x1 => woL (xt X) aX aM (x1, m)) (cS_L1 (xt X) aX aM (x, m)) (fun v1 x1 hw => ?_)
  refine g_aload_n (pc := 723) C d_L_723 2 rfl rfl ?_
  refine g_aload_n (pc := 724) C d_L_724 0 rfl rfl ?_
  refine g_iload_n (pc := 725) C d_L_725 3 rfl rfl ?_
  refine g_iconst (pc := 726) C (v := 1) d_L_726 (by decide) ?_
  refine g_iadd (pc := 727) C d_L_727 ?_
  refine g_sld (pc := 728) C hX hL (q := 1) (by decide) (by omega) d_L_728 ?_
  refine k_I (pc := 729) (co_V C (c_M_seed (xl X) (xD X) (xt X) (xv X) aM m (ys (j + 1)) _ hw) mw_M_seed lk_L_80 d_L_729 ((List.range 14).map (fun i => 47 + i)) (cC_L2 (xt X) aX aM (x1, m)) nd_2 (rec_w C 47 6 rfl rfl) rfl rfl ⟨Nat.le_of_ble_eq_true rfl, Nat.le_of_ble_eq_true rfl⟩ ⟨Nat.le_of_ble_eq_true rfl, Nat.le_of_ble_eq_true rfl⟩ (rest := [.int v1]) rfl rfl (Nat.le_of_ble_eq_true rfl)) (fun m1 => woL (xt X) aX aM (x1, m1)) (cS_L2 (xt X) aX aM (x1, m)) (fun v2 m1 hw => ?_)
  obtain ⟨hv, hw⟩ := hw
  refine g_icmp_eq (pc := 732) (tgt := 1712) C d_L_732 (by decide) (fun _ => ?_) (fun h9 => absurd hv h9)
  exact hK x1 m1 hw
def wpl_hour (x : XSt) (m : MSt) (a1 a2 a3 a4 : Int32) (K : XSt → MSt → Prop) : Prop := wp_X_hour x  (fun v1 x1 => wp_M_hour m  (fun v2 m1 => v1 = v2 ∧ K x1 m1))
set_option maxRecDepth 20000 in
theorem lc_hour {X : GX} (C : GC X code "SilenceCanalLaw" 4 room_1) {b L j : Nat} {ys : Nat → Int32} (hX : va_X b L ys (xs X) (xs X).heap ∧ b < (xs X).heap.size ∧ ¬ xA X b) (hL : L ≤ 2560) (hj : j + 5 ≤ L) (aX aM : Nat → Nat) (x : XSt) (m : MSt) (K : XSt → MSt → Prop) (hw : wpl_hour x m (ys (j + 1)) (ys (j + 2)) (ys (j + 3)) (ys (j + 4)) K) (hK : ∀ x m, K x m → G X 61 1499 (woL (xt X) aX aM (x, m)) [(0, .ref b), (1, .ref (aX 0)), (2, .ref (aM 0)), (3, .int (nI j))] [] 1712) : G X 61 1499 (woL (xt X) aX aM (x, m)) [(0, .ref b), (1, .ref (aX 0)), (2, .ref (aM 0)), (3, .int (nI j))] [] 737 := by
  unfold wpl_hour at hw
  refine g_aload_n (pc := 737) C d_L_737 1 rfl rfl ?_
  refine k_I (pc := 738) (co_V C (c_X_hour (xl X) (xD X) (xt X) (xv X) aX x  _ hw) mw_X_hour lk_L_81 d_L_738 (List.range 47) (cC_L1 (xt X) aX aM (x, m)) (by decide) (rec_w C 0 5 rfl rfl) rfl rfl ⟨Nat.le_of_ble_eq_true rfl, Nat.le_of_ble_eq_true rfl⟩ ⟨Nat.le_of_ble_eq_true rfl, Nat.le_of_ble_eq_true rfl⟩ (rest := []) rfl rfl (Nat.le_of_ble_eq_true rfl)) (fun x1 => woL (xt X) aX aM (x1, m)) (cS_L1 (xt X) aX aM (x, m)) (fun v1 x1 hw => ?_)
  refine g_aload_n (pc := 741) C d_L_741 2 rfl rfl ?_
  refine k_I (pc := 742) (co_V C (c_M_hour (xl X) (xD X) (xt X) (xv X) aM m  _ hw) mw_M_hour lk_L_84 d_L_742 ((List.range 14).map (fun i => 47 + i)) (cC_L2 (xt X) aX aM (x1, m)) nd_2 (rec_w C 47 6 rfl rfl) rfl rfl ⟨Nat.le_of_ble_eq_true rfl, Nat.le_of_ble_eq_true rfl⟩ ⟨Nat.le_of_ble_eq_true rfl, Nat.le_of_ble_eq_true rfl⟩ (rest := [.int v1]) rfl rfl (Nat.le_of_ble_eq_true rfl)) (fun m1 => woL (xt X) aX aM (x1, m1)) (cS_L2 (xt X) aX aM (x1, m)) (fun v2 m1 hw => ?_)
  obtain ⟨hv, hw⟩ := hw
  refine g_icmp_eq (pc := 745) (tgt := 1712) C d_L_745 (by decide) (fun _ => ?_) (fun h9 => absurd hv h9)
  exact hK x1 m1 hw
def wpl_spoilt (x : XSt) (m : MSt) (a1 a2 a3 a4 : Int32) (K : XSt → MSt → Prop) : Prop := wp_X_spoilt x (a1) (fun v1 x1 => wp_M_spoilt m (a1) (fun v2 m1 => v1 = v2 ∧ K x1 m1))
set_option maxRecDepth 20000 in
theorem lc_spoilt {X : GX} (C : GC X code "SilenceCanalLaw" 4 room_1) {b L j : Nat} {ys : Nat → Int32} (hX : va_X b L ys (xs X) (xs X).heap ∧ b < (xs X).heap.size ∧ ¬ xA X b) (hL : L ≤ 2560) (hj : j + 5 ≤ L) (aX aM : Nat → Nat) (x : XSt) (m : MSt) (K : XSt → MSt → Prop) (hw : wpl_spoilt x m (ys (j + 1)) (ys (j + 2)) (ys (j + 3)) (ys (j + 4)) K) (hK : ∀ x m, K x m → G X 61 1499 (woL (xt X) aX aM (x, m)) [(0, .ref b), (1, .ref (aX 0)), (2, .ref (aM 0)), (3, .int (nI j))] [] 1712) : G X 61 1499 (woL (xt X) aX aM (x, m)) [(0, .ref b), (1, .ref (aX 0)), (2, .ref (aM 0)), (3, .int (nI j))] [] 750 := by
  unfold wpl_spoilt at hw
  refine g_aload_n (pc := 750) C d_L_750 1 rfl rfl ?_
  refine g_aload_n (pc := 751) C d_L_751 0 rfl rfl ?_
  refine g_iload_n (pc := 752) C d_L_752 3 rfl rfl ?_
  refine g_iconst (pc := 753) C (v := 1) d_L_753 (by decide) ?_
  refine g_iadd (pc := 754) C d_L_754 ?_
  refine g_sld (pc := 755) C hX hL (q := 1) (by decide) (by omega) d_L_755 ?_
  refine k_I (pc := 756) (co_V C (c_X_spoilt (xl X) (xD X) (xt X) (xv X) aX x (ys (j + 1)) _ hw) mw_X_spoilt lk_L_85 d_L_756 (List.range 47) (cC_L1 (xt X) aX aM (x, m)) (by decide) (rec_w C 0 5 rfl rfl) rfl rfl ⟨Nat.le_of_ble_eq_true rfl, Nat.le_of_ble_eq_true rfl⟩ ⟨Nat.le_of_ble_eq_true rfl, Nat.le_of_ble_eq_true rfl⟩ (rest := []) rfl rfl (Nat.le_of_ble_eq_true rfl)) (fun x1 => woL (xt X) aX aM (x1, m)) (cS_L1 (xt X) aX aM (x, m)) (fun v1 x1 hw => ?_)
  refine g_aload_n (pc := 759) C d_L_759 2 rfl rfl ?_
  refine g_aload_n (pc := 760) C d_L_760 0 rfl rfl ?_
  refine g_iload_n (pc := 761) C d_L_761 3 rfl rfl ?_
  refine g_iconst (pc := 762) C (v := 1) d_L_762 (by decide) ?_
  refine g_iadd (pc := 763) C d_L_763 ?_
  refine g_sld (pc := 764) C hX hL (q := 1) (by decide) (by omega) d_L_764 ?_
  refine k_I (pc := 765) (co_V C (c_M_spoilt (xl X) (xD X) (xt X) (xv X) aM m (ys (j + 1)) _ hw) mw_M_spoilt lk_L_88 d_L_765 ((List.range 14).map (fun i => 47 + i)) (cC_L2 (xt X) aX aM (x1, m)) nd_2 (rec_w C 47 6 rfl rfl) rfl rfl ⟨Nat.le_of_ble_eq_true rfl, Nat.le_of_ble_eq_true rfl⟩ ⟨Nat.le_of_ble_eq_true rfl, Nat.le_of_ble_eq_true rfl⟩ (rest := [.int v1]) rfl rfl (Nat.le_of_ble_eq_true rfl)) (fun m1 => woL (xt X) aX aM (x1, m1)) (cS_L2 (xt X) aX aM (x1, m)) (fun v2 m1 hw => ?_)
  obtain ⟨hv, hw⟩ := hw
  refine g_icmp_eq (pc := 768) (tgt := 1712) C d_L_768 (by decide) (fun _ => ?_) (fun h9 => absurd hv h9)
  exact hK x1 m1 hw
def wpl_state (x : XSt) (m : MSt) (a1 a2 a3 a4 : Int32) (K : XSt → MSt → Prop) : Prop := wp_X_state x (a1) (fun v1 x1 => wp_M_state m (a1) (fun v2 m1 => v1 = v2 ∧ K x1 m1))
set_option maxRecDepth 20000 in
theorem lc_state {X : GX} (C : GC X code "SilenceCanalLaw" 4 room_1) {b L j : Nat} {ys : Nat → Int32} (hX : va_X b L ys (xs X) (xs X).heap ∧ b < (xs X).heap.size ∧ ¬ xA X b) (hL : L ≤ 2560) (hj : j + 5 ≤ L) (aX aM : Nat → Nat) (x : XSt) (m : MSt) (K : XSt → MSt → Prop) (hw : wpl_state x m (ys (j + 1)) (ys (j + 2)) (ys (j + 3)) (ys (j + 4)) K) (hK : ∀ x m, K x m → G X 61 1499 (woL (xt X) aX aM (x, m)) [(0, .ref b), (1, .ref (aX 0)), (2, .ref (aM 0)), (3, .int (nI j))] [] 1712) : G X 61 1499 (woL (xt X) aX aM (x, m)) [(0, .ref b), (1, .ref (aX 0)), (2, .ref (aM 0)), (3, .int (nI j))] [] 773 := by
  unfold wpl_state at hw
  refine g_aload_n (pc := 773) C d_L_773 1 rfl rfl ?_
  refine g_aload_n (pc := 774) C d_L_774 0 rfl rfl ?_
  refine g_iload_n (pc := 775) C d_L_775 3 rfl rfl ?_
  refine g_iconst (pc := 776) C (v := 1) d_L_776 (by decide) ?_
  refine g_iadd (pc := 777) C d_L_777 ?_
  refine g_sld (pc := 778) C hX hL (q := 1) (by decide) (by omega) d_L_778 ?_
  refine k_I (pc := 779) (co_V C (c_X_state (xl X) (xD X) (xt X) (xv X) aX x (ys (j + 1)) _ hw) mw_X_state lk_L_89 d_L_779 (List.range 47) (cC_L1 (xt X) aX aM (x, m)) (by decide) (rec_w C 0 5 rfl rfl) rfl rfl ⟨Nat.le_of_ble_eq_true rfl, Nat.le_of_ble_eq_true rfl⟩ ⟨Nat.le_of_ble_eq_true rfl, Nat.le_of_ble_eq_true rfl⟩ (rest := []) rfl rfl (Nat.le_of_ble_eq_true rfl)) (fun x1 => woL (xt X) aX aM (x1, m)) (cS_L1 (xt X) aX aM (x, m)) (fun v1 x1 hw => ?_)
  refine g_aload_n (pc := 782) C d_L_782 2 rfl rfl ?_
  refine g_aload_n (pc := 783) C d_L_783 0 rfl rfl ?_
  refine g_iload_n (pc := 784) C d_L_784 3 rfl rfl ?_
  refine g_iconst (pc := 785) C (v := 1) d_L_785 (by decide) ?_
  refine g_iadd (pc := 786) C d_L_786 ?_
  refine g_sld (pc := 787) C hX hL (q := 1) (by decide) (by omega) d_L_787 ?_
  refine k_I (pc := 788) (co_V C (c_M_state (xl X) (xD X) (xt X) (xv X) aM m (ys (j + 1)) _ hw) mw_M_state lk_L_92 d_L_788 ((List.range 14).map (fun i => 47 + i)) (cC_L2 (xt X) aX aM (x1, m)) nd_2 (rec_w C 47 6 rfl rfl) rfl rfl ⟨Nat.le_of_ble_eq_true rfl, Nat.le_of_ble_eq_true rfl⟩ ⟨Nat.le_of_ble_eq_true rfl, Nat.le_of_ble_eq_true rfl⟩ (rest := [.int v1]) rfl rfl (Nat.le_of_ble_eq_true rfl)) (fun m1 => woL (xt X) aX aM (x1, m1)) (cS_L2 (xt X) aX aM (x1, m)) (fun v2 m1 hw => ?_)
  obtain ⟨hv, hw⟩ := hw
  refine g_icmp_eq (pc := 791) (tgt := 1712) C d_L_791 (by decide) (fun _ => ?_) (fun h9 => absurd hv h9)
  exact hK x1 m1 hw
def wpl_freight (x : XSt) (m : MSt) (a1 a2 a3 a4 : Int32) (K : XSt → MSt → Prop) : Prop := wp_X_freight x (a1) (a2) (fun v1 x1 => wp_M_freight m (a1) (a2) (fun v2 m1 => v1 = v2 ∧ K x1 m1))
set_option maxRecDepth 20000 in
theorem lc_freight {X : GX} (C : GC X code "SilenceCanalLaw" 4 room_1) {b L j : Nat} {ys : Nat → Int32} (hX : va_X b L ys (xs X) (xs X).heap ∧ b < (xs X).heap.size ∧ ¬ xA X b) (hL : L ≤ 2560) (hj : j + 5 ≤ L) (aX aM : Nat → Nat) (x : XSt) (m : MSt) (K : XSt → MSt → Prop) (hw : wpl_freight x m (ys (j + 1)) (ys (j + 2)) (ys (j + 3)) (ys (j + 4)) K) (hK : ∀ x m, K x m → G X 61 1499 (woL (xt X) aX aM (x, m)) [(0, .ref b), (1, .ref (aX 0)), (2, .ref (aM 0)), (3, .int (nI j))] [] 1712) : G X 61 1499 (woL (xt X) aX aM (x, m)) [(0, .ref b), (1, .ref (aX 0)), (2, .ref (aM 0)), (3, .int (nI j))] [] 796 := by
  unfold wpl_freight at hw
  refine g_aload_n (pc := 796) C d_L_796 1 rfl rfl ?_
  refine g_aload_n (pc := 797) C d_L_797 0 rfl rfl ?_
  refine g_iload_n (pc := 798) C d_L_798 3 rfl rfl ?_
  refine g_iconst (pc := 799) C (v := 1) d_L_799 (by decide) ?_
  refine g_iadd (pc := 800) C d_L_800 ?_
  refine g_sld (pc := 801) C hX hL (q := 1) (by decide) (by omega) d_L_801 ?_
  refine g_aload_n (pc := 802) C d_L_802 0 rfl rfl ?_
  refine g_iload_n (pc := 803) C d_L_803 3 rfl rfl ?_
  refine g_iconst (pc := 804) C (v := 2) d_L_804 (by decide) ?_
  refine g_iadd (pc := 805) C d_L_805 ?_
  refine g_sld (pc := 806) C hX hL (q := 2) (by decide) (by omega) d_L_806 ?_
  refine k_I (pc := 807) (co_V C (c_X_freight (xl X) (xD X) (xt X) (xv X) aX x (ys (j + 1)) (ys (j + 2)) _ hw) mw_X_freight lk_L_93 d_L_807 (List.range 47) (cC_L1 (xt X) aX aM (x, m)) (by decide) (rec_w C 0 5 rfl rfl) rfl rfl ⟨Nat.le_of_ble_eq_true rfl, Nat.le_of_ble_eq_true rfl⟩ ⟨Nat.le_of_ble_eq_true rfl, Nat.le_of_ble_eq_true rfl⟩ (rest := []) rfl rfl (Nat.le_of_ble_eq_true rfl)) (fun x1 => woL (xt X) aX aM (x1, m)) (cS_L1 (xt X) aX aM (x, m)) (fun v1 x1 hw => ?_)
  refine g_aload_n (pc := 810) C d_L_810 2 rfl rfl ?_
  refine g_aload_n (pc := 811) C d_L_811 0 rfl rfl ?_
  refine g_iload_n (pc := 812) C d_L_812 3 rfl rfl ?_
  refine g_iconst (pc := 813) C (v := 1) d_L_813 (by decide) ?_
  refine g_iadd (pc := 814) C d_L_814 ?_
  refine g_sld (pc := 815) C hX hL (q := 1) (by decide) (by omega) d_L_815 ?_
  refine g_aload_n (pc := 816) C d_L_816 0 rfl rfl ?_
  refine g_iload_n (pc := 817) C d_L_817 3 rfl rfl ?_
  refine g_iconst (pc := 818) C (v := 2) d_L_818 (by decide) ?_
  refine g_iadd (pc := 819) C d_L_819 ?_
  refine g_sld (pc := 820) C hX hL (q := 2) (by decide) (by omega) d_L_820 ?_
  refine k_I (pc := 821) (co_V C (c_M_freight (xl X) (xD X) (xt X) (xv X) aM m (ys (j + 1)) (ys (j + 2)) _ hw) mw_M_freight lk_L_96 d_L_821 ((List.range 14).map (fun i => 47 + i)) (cC_L2 (xt X) aX aM (x1, m)) nd_2 (rec_w C 47 6 rfl rfl) rfl rfl ⟨Nat.le_of_ble_eq_true rfl, Nat.le_of_ble_eq_true rfl⟩ ⟨Nat.le_of_ble_eq_true rfl, Nat.le_of_ble_eq_true rfl⟩ (rest := [.int v1]) rfl rfl (Nat.le_of_ble_eq_true rfl)) (fun m1 => woL (xt X) aX aM (x1, m1)) (cS_L2 (xt X) aX aM (x1, m)) (fun v2 m1 hw => ?_)
  obtain ⟨hv, hw⟩ := hw
  refine g_icmp_eq (pc := 824) (tgt := 1712) C d_L_824 (by decide) (fun _ => ?_) (fun h9 => absurd hv h9)
  exact hK x1 m1 hw
def wpl_lands (x : XSt) (m : MSt) (a1 a2 a3 a4 : Int32) (K : XSt → MSt → Prop) : Prop := wp_X_lands x (a1) (fun v1 x1 => wp_M_lands m (a1) (fun v2 m1 => v1 = v2 ∧ K x1 m1))
set_option maxRecDepth 20000 in
theorem lc_lands {X : GX} (C : GC X code "SilenceCanalLaw" 4 room_1) {b L j : Nat} {ys : Nat → Int32} (hX : va_X b L ys (xs X) (xs X).heap ∧ b < (xs X).heap.size ∧ ¬ xA X b) (hL : L ≤ 2560) (hj : j + 5 ≤ L) (aX aM : Nat → Nat) (x : XSt) (m : MSt) (K : XSt → MSt → Prop) (hw : wpl_lands x m (ys (j + 1)) (ys (j + 2)) (ys (j + 3)) (ys (j + 4)) K) (hK : ∀ x m, K x m → G X 61 1499 (woL (xt X) aX aM (x, m)) [(0, .ref b), (1, .ref (aX 0)), (2, .ref (aM 0)), (3, .int (nI j))] [] 1712) : G X 61 1499 (woL (xt X) aX aM (x, m)) [(0, .ref b), (1, .ref (aX 0)), (2, .ref (aM 0)), (3, .int (nI j))] [] 829 := by
  unfold wpl_lands at hw
  refine g_aload_n (pc := 829) C d_L_829 1 rfl rfl ?_
  refine g_aload_n (pc := 830) C d_L_830 0 rfl rfl ?_
  refine g_iload_n (pc := 831) C d_L_831 3 rfl rfl ?_
  refine g_iconst (pc := 832) C (v := 1) d_L_832 (by decide) ?_
  refine g_iadd (pc := 833) C d_L_833 ?_
  refine g_sld (pc := 834) C hX hL (q := 1) (by decide) (by omega) d_L_834 ?_
  refine k_I (pc := 835) (co_V C (c_X_lands (xl X) (xD X) (xt X) (xv X) aX x (ys (j + 1)) _ hw) mw_X_lands lk_L_97 d_L_835 (List.range 47) (cC_L1 (xt X) aX aM (x, m)) (by decide) (rec_w C 0 5 rfl rfl) rfl rfl ⟨Nat.le_of_ble_eq_true rfl, Nat.le_of_ble_eq_true rfl⟩ ⟨Nat.le_of_ble_eq_true rfl, Nat.le_of_ble_eq_true rfl⟩ (rest := []) rfl rfl (Nat.le_of_ble_eq_true rfl)) (fun x1 => woL (xt X) aX aM (x1, m)) (cS_L1 (xt X) aX aM (x, m)) (fun v1 x1 hw => ?_)
  refine g_aload_n (pc := 838) C d_L_838 2 rfl rfl ?_
  refine g_aload_n (pc := 839) C d_L_839 0 rfl rfl ?_
  refine g_iload_n (pc := 840) C d_L_840 3 rfl rfl ?_
  refine g_iconst (pc := 841) C (v := 1) d_L_841 (by decide) ?_
  refine g_iadd (pc := 842) C d_L_842 ?_
  refine g_sld (pc := 843) C hX hL (q := 1) (by decide) (by omega) d_L_843 ?_
  refine k_I (pc := 844) (co_V C (c_M_lands (xl X) (xD X) (xt X) (xv X) aM m (ys (j + 1)) _ hw) mw_M_lands lk_L_100 d_L_844 ((List.range 14).map (fun i => 47 + i)) (cC_L2 (xt X) aX aM (x1, m)) nd_2 (rec_w C 47 6 rfl rfl) rfl rfl ⟨Nat.le_of_ble_eq_true rfl, Nat.le_of_ble_eq_true rfl⟩ ⟨Nat.le_of_ble_eq_true rfl, Nat.le_of_ble_eq_true rfl⟩ (rest := [.int v1]) rfl rfl (Nat.le_of_ble_eq_true rfl)) (fun m1 => woL (xt X) aX aM (x1, m1)) (cS_L2 (xt X) aX aM (x1, m)) (fun v2 m1 hw => ?_)
  obtain ⟨hv, hw⟩ := hw
  refine g_icmp_eq (pc := 847) (tgt := 1712) C d_L_847 (by decide) (fun _ => ?_) (fun h9 => absurd hv h9)
  exact hK x1 m1 hw
def wpl_meets (x : XSt) (m : MSt) (a1 a2 a3 a4 : Int32) (K : XSt → MSt → Prop) : Prop := wp_X_meets x (a1) (a2) (fun v1 x1 => wp_M_meets m (a1) (a2) (fun v2 m1 => v1 = v2 ∧ K x1 m1))
set_option maxRecDepth 20000 in
theorem lc_meets {X : GX} (C : GC X code "SilenceCanalLaw" 4 room_1) {b L j : Nat} {ys : Nat → Int32} (hX : va_X b L ys (xs X) (xs X).heap ∧ b < (xs X).heap.size ∧ ¬ xA X b) (hL : L ≤ 2560) (hj : j + 5 ≤ L) (aX aM : Nat → Nat) (x : XSt) (m : MSt) (K : XSt → MSt → Prop) (hw : wpl_meets x m (ys (j + 1)) (ys (j + 2)) (ys (j + 3)) (ys (j + 4)) K) (hK : ∀ x m, K x m → G X 61 1499 (woL (xt X) aX aM (x, m)) [(0, .ref b), (1, .ref (aX 0)), (2, .ref (aM 0)), (3, .int (nI j))] [] 1712) : G X 61 1499 (woL (xt X) aX aM (x, m)) [(0, .ref b), (1, .ref (aX 0)), (2, .ref (aM 0)), (3, .int (nI j))] [] 852 := by
  unfold wpl_meets at hw
  refine g_aload_n (pc := 852) C d_L_852 1 rfl rfl ?_
  refine g_aload_n (pc := 853) C d_L_853 0 rfl rfl ?_
  refine g_iload_n (pc := 854) C d_L_854 3 rfl rfl ?_
  refine g_iconst (pc := 855) C (v := 1) d_L_855 (by decide) ?_
  refine g_iadd (pc := 856) C d_L_856 ?_
  refine g_sld (pc := 857) C hX hL (q := 1) (by decide) (by omega) d_L_857 ?_
  refine g_aload_n (pc := 858) C d_L_858 0 rfl rfl ?_
  refine g_iload_n (pc := 859) C d_L_859 3 rfl rfl ?_
  refine g_iconst (pc := 860) C (v := 2) d_L_860 (by decide) ?_
  refine g_iadd (pc := 861) C d_L_861 ?_
  refine g_sld (pc := 862) C hX hL (q := 2) (by decide) (by omega) d_L_862 ?_
  refine k_I (pc := 863) (co_V C (c_X_meets (xl X) (xD X) (xt X) (xv X) aX x (ys (j + 1)) (ys (j + 2)) _ hw) mw_X_meets lk_L_101 d_L_863 (List.range 47) (cC_L1 (xt X) aX aM (x, m)) (by decide) (rec_w C 0 5 rfl rfl) rfl rfl ⟨Nat.le_of_ble_eq_true rfl, Nat.le_of_ble_eq_true rfl⟩ ⟨Nat.le_of_ble_eq_true rfl, Nat.le_of_ble_eq_true rfl⟩ (rest := []) rfl rfl (Nat.le_of_ble_eq_true rfl)) (fun x1 => woL (xt X) aX aM (x1, m)) (cS_L1 (xt X) aX aM (x, m)) (fun v1 x1 hw => ?_)
  refine g_aload_n (pc := 866) C d_L_866 2 rfl rfl ?_
  refine g_aload_n (pc := 867) C d_L_867 0 rfl rfl ?_
  refine g_iload_n (pc := 868) C d_L_868 3 rfl rfl ?_
  refine g_iconst (pc := 869) C (v := 1) d_L_869 (by decide) ?_
  refine g_iadd (pc := 870) C d_L_870 ?_
  refine g_sld (pc := 871) C hX hL (q := 1) (by decide) (by omega) d_L_871 ?_
  refine g_aload_n (pc := 872) C d_L_872 0 rfl rfl ?_
  refine g_iload_n (pc := 873) C d_L_873 3 rfl rfl ?_
  refine g_iconst (pc := 874) C (v := 2) d_L_874 (by decide) ?_
  refine g_iadd (pc := 875) C d_L_875 ?_
  refine g_sld (pc := 876) C hX hL (q := 2) (by decide) (by omega) d_L_876 ?_
  refine k_I (pc := 877) (co_V C (c_M_meets (xl X) (xD X) (xt X) (xv X) aM m (ys (j + 1)) (ys (j + 2)) _ hw) mw_M_meets lk_L_104 d_L_877 ((List.range 14).map (fun i => 47 + i)) (cC_L2 (xt X) aX aM (x1, m)) nd_2 (rec_w C 47 6 rfl rfl) rfl rfl ⟨Nat.le_of_ble_eq_true rfl, Nat.le_of_ble_eq_true rfl⟩ ⟨Nat.le_of_ble_eq_true rfl, Nat.le_of_ble_eq_true rfl⟩ (rest := [.int v1]) rfl rfl (Nat.le_of_ble_eq_true rfl)) (fun m1 => woL (xt X) aX aM (x1, m1)) (cS_L2 (xt X) aX aM (x1, m)) (fun v2 m1 hw => ?_)
  obtain ⟨hv, hw⟩ := hw
  refine g_icmp_eq (pc := 880) (tgt := 1712) C d_L_880 (by decide) (fun _ => ?_) (fun h9 => absurd hv h9)
  exact hK x1 m1 hw
def wpl_quiet (x : XSt) (m : MSt) (a1 a2 a3 a4 : Int32) (K : XSt → MSt → Prop) : Prop := wp_X_quiet x  (fun v1 x1 => wp_M_quiet m  (fun v2 m1 => v1 = v2 ∧ K x1 m1))
set_option maxRecDepth 20000 in
theorem lc_quiet {X : GX} (C : GC X code "SilenceCanalLaw" 4 room_1) {b L j : Nat} {ys : Nat → Int32} (hX : va_X b L ys (xs X) (xs X).heap ∧ b < (xs X).heap.size ∧ ¬ xA X b) (hL : L ≤ 2560) (hj : j + 5 ≤ L) (aX aM : Nat → Nat) (x : XSt) (m : MSt) (K : XSt → MSt → Prop) (hw : wpl_quiet x m (ys (j + 1)) (ys (j + 2)) (ys (j + 3)) (ys (j + 4)) K) (hK : ∀ x m, K x m → G X 61 1499 (woL (xt X) aX aM (x, m)) [(0, .ref b), (1, .ref (aX 0)), (2, .ref (aM 0)), (3, .int (nI j))] [] 1712) : G X 61 1499 (woL (xt X) aX aM (x, m)) [(0, .ref b), (1, .ref (aX 0)), (2, .ref (aM 0)), (3, .int (nI j))] [] 885 := by
  unfold wpl_quiet at hw
  refine g_aload_n (pc := 885) C d_L_885 1 rfl rfl ?_
  refine k_I (pc := 886) (co_V C (c_X_quiet (xl X) (xD X) (xt X) (xv X) aX x  _ hw) mw_X_quiet lk_L_105 d_L_886 (List.range 47) (cC_L1 (xt X) aX aM (x, m)) (by decide) (rec_w C 0 5 rfl rfl) rfl rfl ⟨Nat.le_of_ble_eq_true rfl, Nat.le_of_ble_eq_true rfl⟩ ⟨Nat.le_of_ble_eq_true rfl, Nat.le_of_ble_eq_true rfl⟩ (rest := []) rfl rfl (Nat.le_of_ble_eq_true rfl)) (fun x1 => woL (xt X) aX aM (x1, m)) (cS_L1 (xt X) aX aM (x, m)) (fun v1 x1 hw => ?_)
  refine g_aload_n (pc := 889) C d_L_889 2 rfl rfl ?_
  refine k_I (pc := 890) (co_V C (c_M_quiet (xl X) (xD X) (xt X) (xv X) aM m  _ hw) mw_M_quiet lk_L_108 d_L_890 ((List.range 14).map (fun i => 47 + i)) (cC_L2 (xt X) aX aM (x1, m)) nd_2 (rec_w C 47 6 rfl rfl) rfl rfl ⟨Nat.le_of_ble_eq_true rfl, Nat.le_of_ble_eq_true rfl⟩ ⟨Nat.le_of_ble_eq_true rfl, Nat.le_of_ble_eq_true rfl⟩ (rest := [.int v1]) rfl rfl (Nat.le_of_ble_eq_true rfl)) (fun m1 => woL (xt X) aX aM (x1, m1)) (cS_L2 (xt X) aX aM (x1, m)) (fun v2 m1 hw => ?_)
  obtain ⟨hv, hw⟩ := hw
  refine g_icmp_eq (pc := 893) (tgt := 1712) C d_L_893 (by decide) (fun _ => ?_) (fun h9 => absurd hv h9)
  exact hK x1 m1 hw
def wpl_cargo (x : XSt) (m : MSt) (a1 a2 a3 a4 : Int32) (K : XSt → MSt → Prop) : Prop := wp_X_cargo x (a1) (fun v1 x1 => wp_M_cargo m (a1) (fun v2 m1 => v1 = v2 ∧ K x1 m1))
set_option maxRecDepth 20000 in
theorem lc_cargo {X : GX} (C : GC X code "SilenceCanalLaw" 4 room_1) {b L j : Nat} {ys : Nat → Int32} (hX : va_X b L ys (xs X) (xs X).heap ∧ b < (xs X).heap.size ∧ ¬ xA X b) (hL : L ≤ 2560) (hj : j + 5 ≤ L) (aX aM : Nat → Nat) (x : XSt) (m : MSt) (K : XSt → MSt → Prop) (hw : wpl_cargo x m (ys (j + 1)) (ys (j + 2)) (ys (j + 3)) (ys (j + 4)) K) (hK : ∀ x m, K x m → G X 61 1499 (woL (xt X) aX aM (x, m)) [(0, .ref b), (1, .ref (aX 0)), (2, .ref (aM 0)), (3, .int (nI j))] [] 1712) : G X 61 1499 (woL (xt X) aX aM (x, m)) [(0, .ref b), (1, .ref (aX 0)), (2, .ref (aM 0)), (3, .int (nI j))] [] 898 := by
  unfold wpl_cargo at hw
  refine g_aload_n (pc := 898) C d_L_898 1 rfl rfl ?_
  refine g_aload_n (pc := 899) C d_L_899 0 rfl rfl ?_
  refine g_iload_n (pc := 900) C d_L_900 3 rfl rfl ?_
  refine g_iconst (pc := 901) C (v := 1) d_L_901 (by decide) ?_
  refine g_iadd (pc := 902) C d_L_902 ?_
  refine g_sld (pc := 903) C hX hL (q := 1) (by decide) (by omega) d_L_903 ?_
  refine k_I (pc := 904) (co_V C (c_X_cargo (xl X) (xD X) (xt X) (xv X) aX x (ys (j + 1)) _ hw) mw_X_cargo lk_L_109 d_L_904 (List.range 47) (cC_L1 (xt X) aX aM (x, m)) (by decide) (rec_w C 0 5 rfl rfl) rfl rfl ⟨Nat.le_of_ble_eq_true rfl, Nat.le_of_ble_eq_true rfl⟩ ⟨Nat.le_of_ble_eq_true rfl, Nat.le_of_ble_eq_true rfl⟩ (rest := []) rfl rfl (Nat.le_of_ble_eq_true rfl)) (fun x1 => woL (xt X) aX aM (x1, m)) (cS_L1 (xt X) aX aM (x, m)) (fun v1 x1 hw => ?_)
  refine g_aload_n (pc := 907) C d_L_907 2 rfl rfl ?_
  refine g_aload_n (pc := 908) C d_L_908 0 rfl rfl ?_
  refine g_iload_n (pc := 909) C d_L_909 3 rfl rfl ?_
  refine g_iconst (pc := 910) C (v := 1) d_L_910 (by decide) ?_
  refine g_iadd (pc := 911) C d_L_911 ?_
  refine g_sld (pc := 912) C hX hL (q := 1) (by decide) (by omega) d_L_912 ?_
  refine k_I (pc := 913) (co_V C (c_M_cargo (xl X) (xD X) (xt X) (xv X) aM m (ys (j + 1)) _ hw) mw_M_cargo lk_L_112 d_L_913 ((List.range 14).map (fun i => 47 + i)) (cC_L2 (xt X) aX aM (x1, m)) nd_2 (rec_w C 47 6 rfl rfl) rfl rfl ⟨Nat.le_of_ble_eq_true rfl, Nat.le_of_ble_eq_true rfl⟩ ⟨Nat.le_of_ble_eq_true rfl, Nat.le_of_ble_eq_true rfl⟩ (rest := [.int v1]) rfl rfl (Nat.le_of_ble_eq_true rfl)) (fun m1 => woL (xt X) aX aM (x1, m1)) (cS_L2 (xt X) aX aM (x1, m)) (fun v2 m1 hw => ?_)
  obtain ⟨hv, hw⟩ := hw
  refine g_icmp_eq (pc := 916) (tgt := 1712) C d_L_916 (by decide) (fun _ => ?_) (fun h9 => absurd hv h9)
  exact hK x1 m1 hw
def wpl_stillFor (x : XSt) (m : MSt) (a1 a2 a3 a4 : Int32) (K : XSt → MSt → Prop) : Prop := wp_X_stillFor x (a1) (a2) (fun v1 x1 => wp_M_stillFor m (a1) (a2) (fun v2 m1 => v1 = v2 ∧ K x1 m1))
set_option maxRecDepth 20000 in
theorem lc_stillFor {X : GX} (C : GC X code "SilenceCanalLaw" 4 room_1) {b L j : Nat} {ys : Nat → Int32} (hX : va_X b L ys (xs X) (xs X).heap ∧ b < (xs X).heap.size ∧ ¬ xA X b) (hL : L ≤ 2560) (hj : j + 5 ≤ L) (aX aM : Nat → Nat) (x : XSt) (m : MSt) (K : XSt → MSt → Prop) (hw : wpl_stillFor x m (ys (j + 1)) (ys (j + 2)) (ys (j + 3)) (ys (j + 4)) K) (hK : ∀ x m, K x m → G X 61 1499 (woL (xt X) aX aM (x, m)) [(0, .ref b), (1, .ref (aX 0)), (2, .ref (aM 0)), (3, .int (nI j))] [] 1712) : G X 61 1499 (woL (xt X) aX aM (x, m)) [(0, .ref b), (1, .ref (aX 0)), (2, .ref (aM 0)), (3, .int (nI j))] [] 921 := by
  unfold wpl_stillFor at hw
  refine g_aload_n (pc := 921) C d_L_921 1 rfl rfl ?_
  refine g_aload_n (pc := 922) C d_L_922 0 rfl rfl ?_
  refine g_iload_n (pc := 923) C d_L_923 3 rfl rfl ?_
  refine g_iconst (pc := 924) C (v := 1) d_L_924 (by decide) ?_
  refine g_iadd (pc := 925) C d_L_925 ?_
  refine g_sld (pc := 926) C hX hL (q := 1) (by decide) (by omega) d_L_926 ?_
  refine g_aload_n (pc := 927) C d_L_927 0 rfl rfl ?_
  refine g_iload_n (pc := 928) C d_L_928 3 rfl rfl ?_
  refine g_iconst (pc := 929) C (v := 2) d_L_929 (by decide) ?_
  refine g_iadd (pc := 930) C d_L_930 ?_
  refine g_sld (pc := 931) C hX hL (q := 2) (by decide) (by omega) d_L_931 ?_
  refine k_I (pc := 932) (co_V C (c_X_stillFor (xl X) (xD X) (xt X) (xv X) aX x (ys (j + 1)) (ys (j + 2)) _ hw) mw_X_stillFor lk_L_113 d_L_932 (List.range 47) (cC_L1 (xt X) aX aM (x, m)) (by decide) (rec_w C 0 5 rfl rfl) rfl rfl ⟨Nat.le_of_ble_eq_true rfl, Nat.le_of_ble_eq_true rfl⟩ ⟨Nat.le_of_ble_eq_true rfl, Nat.le_of_ble_eq_true rfl⟩ (rest := []) rfl rfl (Nat.le_of_ble_eq_true rfl)) (fun x1 => woL (xt X) aX aM (x1, m)) (cS_L1 (xt X) aX aM (x, m)) (fun v1 x1 hw => ?_)
  refine g_aload_n (pc := 935) C d_L_935 2 rfl rfl ?_
  refine g_aload_n (pc := 936) C d_L_936 0 rfl rfl ?_
  refine g_iload_n (pc := 937) C d_L_937 3 rfl rfl ?_
  refine g_iconst (pc := 938) C (v := 1) d_L_938 (by decide) ?_
  refine g_iadd (pc := 939) C d_L_939 ?_
  refine g_sld (pc := 940) C hX hL (q := 1) (by decide) (by omega) d_L_940 ?_
  refine g_aload_n (pc := 941) C d_L_941 0 rfl rfl ?_
  refine g_iload_n (pc := 942) C d_L_942 3 rfl rfl ?_
  refine g_iconst (pc := 943) C (v := 2) d_L_943 (by decide) ?_
  refine g_iadd (pc := 944) C d_L_944 ?_
  refine g_sld (pc := 945) C hX hL (q := 2) (by decide) (by omega) d_L_945 ?_
  refine k_I (pc := 946) (co_V C (c_M_stillFor (xl X) (xD X) (xt X) (xv X) aM m (ys (j + 1)) (ys (j + 2)) _ hw) mw_M_stillFor lk_L_116 d_L_946 ((List.range 14).map (fun i => 47 + i)) (cC_L2 (xt X) aX aM (x1, m)) nd_2 (rec_w C 47 6 rfl rfl) rfl rfl ⟨Nat.le_of_ble_eq_true rfl, Nat.le_of_ble_eq_true rfl⟩ ⟨Nat.le_of_ble_eq_true rfl, Nat.le_of_ble_eq_true rfl⟩ (rest := [.int v1]) rfl rfl (Nat.le_of_ble_eq_true rfl)) (fun m1 => woL (xt X) aX aM (x1, m1)) (cS_L2 (xt X) aX aM (x1, m)) (fun v2 m1 hw => ?_)
  obtain ⟨hv, hw⟩ := hw
  refine g_icmp_eq (pc := 949) (tgt := 1712) C d_L_949 (by decide) (fun _ => ?_) (fun h9 => absurd hv h9)
  exact hK x1 m1 hw
def wpl_kindFor (x : XSt) (m : MSt) (a1 a2 a3 a4 : Int32) (K : XSt → MSt → Prop) : Prop := wp_X_kindFor x (a1) (a2) (fun v1 x1 => wp_M_kindFor m (a1) (a2) (fun v2 m1 => v1 = v2 ∧ K x1 m1))
set_option maxRecDepth 20000 in
theorem lc_kindFor {X : GX} (C : GC X code "SilenceCanalLaw" 4 room_1) {b L j : Nat} {ys : Nat → Int32} (hX : va_X b L ys (xs X) (xs X).heap ∧ b < (xs X).heap.size ∧ ¬ xA X b) (hL : L ≤ 2560) (hj : j + 5 ≤ L) (aX aM : Nat → Nat) (x : XSt) (m : MSt) (K : XSt → MSt → Prop) (hw : wpl_kindFor x m (ys (j + 1)) (ys (j + 2)) (ys (j + 3)) (ys (j + 4)) K) (hK : ∀ x m, K x m → G X 61 1499 (woL (xt X) aX aM (x, m)) [(0, .ref b), (1, .ref (aX 0)), (2, .ref (aM 0)), (3, .int (nI j))] [] 1712) : G X 61 1499 (woL (xt X) aX aM (x, m)) [(0, .ref b), (1, .ref (aX 0)), (2, .ref (aM 0)), (3, .int (nI j))] [] 954 := by
  unfold wpl_kindFor at hw
  refine g_aload_n (pc := 954) C d_L_954 1 rfl rfl ?_
  refine g_aload_n (pc := 955) C d_L_955 0 rfl rfl ?_
  refine g_iload_n (pc := 956) C d_L_956 3 rfl rfl ?_
  refine g_iconst (pc := 957) C (v := 1) d_L_957 (by decide) ?_
  refine g_iadd (pc := 958) C d_L_958 ?_
  refine g_sld (pc := 959) C hX hL (q := 1) (by decide) (by omega) d_L_959 ?_
  refine g_aload_n (pc := 960) C d_L_960 0 rfl rfl ?_
  refine g_iload_n (pc := 961) C d_L_961 3 rfl rfl ?_
  refine g_iconst (pc := 962) C (v := 2) d_L_962 (by decide) ?_
  refine g_iadd (pc := 963) C d_L_963 ?_
  refine g_sld (pc := 964) C hX hL (q := 2) (by decide) (by omega) d_L_964 ?_
  refine k_I (pc := 965) (co_V C (c_X_kindFor (xl X) (xD X) (xt X) (xv X) aX x (ys (j + 1)) (ys (j + 2)) _ hw) mw_X_kindFor lk_L_117 d_L_965 (List.range 47) (cC_L1 (xt X) aX aM (x, m)) (by decide) (rec_w C 0 5 rfl rfl) rfl rfl ⟨Nat.le_of_ble_eq_true rfl, Nat.le_of_ble_eq_true rfl⟩ ⟨Nat.le_of_ble_eq_true rfl, Nat.le_of_ble_eq_true rfl⟩ (rest := []) rfl rfl (Nat.le_of_ble_eq_true rfl)) (fun x1 => woL (xt X) aX aM (x1, m)) (cS_L1 (xt X) aX aM (x, m)) (fun v1 x1 hw => ?_)
  refine g_aload_n (pc := 968) C d_L_968 2 rfl rfl ?_
  refine g_aload_n (pc := 969) C d_L_969 0 rfl rfl ?_
  refine g_iload_n (pc := 970) C d_L_970 3 rfl rfl ?_
  refine g_iconst (pc := 971) C (v := 1) d_L_971 (by decide) ?_
  refine g_iadd (pc := 972) C d_L_972 ?_
  refine g_sld (pc := 973) C hX hL (q := 1) (by decide) (by omega) d_L_973 ?_
  refine g_aload_n (pc := 974) C d_L_974 0 rfl rfl ?_
  refine g_iload_n (pc := 975) C d_L_975 3 rfl rfl ?_
  refine g_iconst (pc := 976) C (v := 2) d_L_976 (by decide) ?_
  refine g_iadd (pc := 977) C d_L_977 ?_
  refine g_sld (pc := 978) C hX hL (q := 2) (by decide) (by omega) d_L_978 ?_
  refine k_I (pc := 979) (co_V C (c_M_kindFor (xl X) (xD X) (xt X) (xv X) aM m (ys (j + 1)) (ys (j + 2)) _ hw) mw_M_kindFor lk_L_120 d_L_979 ((List.range 14).map (fun i => 47 + i)) (cC_L2 (xt X) aX aM (x1, m)) nd_2 (rec_w C 47 6 rfl rfl) rfl rfl ⟨Nat.le_of_ble_eq_true rfl, Nat.le_of_ble_eq_true rfl⟩ ⟨Nat.le_of_ble_eq_true rfl, Nat.le_of_ble_eq_true rfl⟩ (rest := [.int v1]) rfl rfl (Nat.le_of_ble_eq_true rfl)) (fun m1 => woL (xt X) aX aM (x1, m1)) (cS_L2 (xt X) aX aM (x1, m)) (fun v2 m1 hw => ?_)
  obtain ⟨hv, hw⟩ := hw
  refine g_icmp_eq (pc := 982) (tgt := 1712) C d_L_982 (by decide) (fun _ => ?_) (fun h9 => absurd hv h9)
  exact hK x1 m1 hw
def wpl_loadFor (x : XSt) (m : MSt) (a1 a2 a3 a4 : Int32) (K : XSt → MSt → Prop) : Prop := wp_X_loadFor x (a1) (a2) (a3) (fun v1 x1 => wp_M_loadFor m (a1) (a2) (a3) (fun v2 m1 => v1 = v2 ∧ K x1 m1))
set_option maxRecDepth 20000 in
theorem lc_loadFor {X : GX} (C : GC X code "SilenceCanalLaw" 4 room_1) {b L j : Nat} {ys : Nat → Int32} (hX : va_X b L ys (xs X) (xs X).heap ∧ b < (xs X).heap.size ∧ ¬ xA X b) (hL : L ≤ 2560) (hj : j + 5 ≤ L) (aX aM : Nat → Nat) (x : XSt) (m : MSt) (K : XSt → MSt → Prop) (hw : wpl_loadFor x m (ys (j + 1)) (ys (j + 2)) (ys (j + 3)) (ys (j + 4)) K) (hK : ∀ x m, K x m → G X 61 1499 (woL (xt X) aX aM (x, m)) [(0, .ref b), (1, .ref (aX 0)), (2, .ref (aM 0)), (3, .int (nI j))] [] 1712) : G X 61 1499 (woL (xt X) aX aM (x, m)) [(0, .ref b), (1, .ref (aX 0)), (2, .ref (aM 0)), (3, .int (nI j))] [] 987 := by
  unfold wpl_loadFor at hw
  refine g_aload_n (pc := 987) C d_L_987 1 rfl rfl ?_
  refine g_aload_n (pc := 988) C d_L_988 0 rfl rfl ?_
  refine g_iload_n (pc := 989) C d_L_989 3 rfl rfl ?_
  refine g_iconst (pc := 990) C (v := 1) d_L_990 (by decide) ?_
  refine g_iadd (pc := 991) C d_L_991 ?_
  refine g_sld (pc := 992) C hX hL (q := 1) (by decide) (by omega) d_L_992 ?_
  refine g_aload_n (pc := 993) C d_L_993 0 rfl rfl ?_
  refine g_iload_n (pc := 994) C d_L_994 3 rfl rfl ?_
  refine g_iconst (pc := 995) C (v := 2) d_L_995 (by decide) ?_
  refine g_iadd (pc := 996) C d_L_996 ?_
  refine g_sld (pc := 997) C hX hL (q := 2) (by decide) (by omega) d_L_997 ?_
  refine g_aload_n (pc := 998) C d_L_998 0 rfl rfl ?_
  refine g_iload_n (pc := 999) C d_L_999 3 rfl rfl ?_
  refine g_iconst (pc := 1000) C (v := 3) d_L_1000 (by decide) ?_
  refine g_iadd (pc := 1001) C d_L_1001 ?_
  refine g_sld (pc := 1002) C hX hL (q := 3) (by decide) (by omega) d_L_1002 ?_
  refine k_I (pc := 1003) (co_V C (c_X_loadFor (xl X) (xD X) (xt X) (xv X) aX x (ys (j + 1)) (ys (j + 2)) (ys (j + 3)) _ hw) mw_X_loadFor lk_L_121 d_L_1003 (List.range 47) (cC_L1 (xt X) aX aM (x, m)) (by decide) (rec_w C 0 5 rfl rfl) rfl rfl ⟨Nat.le_of_ble_eq_true rfl, Nat.le_of_ble_eq_true rfl⟩ ⟨Nat.le_of_ble_eq_true rfl, Nat.le_of_ble_eq_true rfl⟩ (rest := []) rfl rfl (Nat.le_of_ble_eq_true rfl)) (fun x1 => woL (xt X) aX aM (x1, m)) (cS_L1 (xt X) aX aM (x, m)) (fun v1 x1 hw => ?_)
  refine g_aload_n (pc := 1006) C d_L_1006 2 rfl rfl ?_
  refine g_aload_n (pc := 1007) C d_L_1007 0 rfl rfl ?_
  refine g_iload_n (pc := 1008) C d_L_1008 3 rfl rfl ?_
  refine g_iconst (pc := 1009) C (v := 1) d_L_1009 (by decide) ?_
  refine g_iadd (pc := 1010) C d_L_1010 ?_
  refine g_sld (pc := 1011) C hX hL (q := 1) (by decide) (by omega) d_L_1011 ?_
  refine g_aload_n (pc := 1012) C d_L_1012 0 rfl rfl ?_
  refine g_iload_n (pc := 1013) C d_L_1013 3 rfl rfl ?_
  refine g_iconst (pc := 1014) C (v := 2) d_L_1014 (by decide) ?_
  refine g_iadd (pc := 1015) C d_L_1015 ?_
  refine g_sld (pc := 1016) C hX hL (q := 2) (by decide) (by omega) d_L_1016 ?_
  refine g_aload_n (pc := 1017) C d_L_1017 0 rfl rfl ?_
  refine g_iload_n (pc := 1018) C d_L_1018 3 rfl rfl ?_
  refine g_iconst (pc := 1019) C (v := 3) d_L_1019 (by decide) ?_
  refine g_iadd (pc := 1020) C d_L_1020 ?_
  refine g_sld (pc := 1021) C hX hL (q := 3) (by decide) (by omega) d_L_1021 ?_
  refine k_I (pc := 1022) (co_V C (c_M_loadFor (xl X) (xD X) (xt X) (xv X) aM m (ys (j + 1)) (ys (j + 2)) (ys (j + 3)) _ hw) mw_M_loadFor lk_L_124 d_L_1022 ((List.range 14).map (fun i => 47 + i)) (cC_L2 (xt X) aX aM (x1, m)) nd_2 (rec_w C 47 6 rfl rfl) rfl rfl ⟨Nat.le_of_ble_eq_true rfl, Nat.le_of_ble_eq_true rfl⟩ ⟨Nat.le_of_ble_eq_true rfl, Nat.le_of_ble_eq_true rfl⟩ (rest := [.int v1]) rfl rfl (Nat.le_of_ble_eq_true rfl)) (fun m1 => woL (xt X) aX aM (x1, m1)) (cS_L2 (xt X) aX aM (x1, m)) (fun v2 m1 hw => ?_)
  obtain ⟨hv, hw⟩ := hw
  refine g_icmp_eq (pc := 1025) (tgt := 1712) C d_L_1025 (by decide) (fun _ => ?_) (fun h9 => absurd hv h9)
  exact hK x1 m1 hw
def wpl_hushedFor (x : XSt) (m : MSt) (a1 a2 a3 a4 : Int32) (K : XSt → MSt → Prop) : Prop := wp_X_hushedFor x (a1) (a2) (fun v1 x1 => wp_M_hushedFor m (a1) (a2) (fun v2 m1 => v1 = v2 ∧ K x1 m1))
set_option maxRecDepth 20000 in
theorem lc_hushedFor {X : GX} (C : GC X code "SilenceCanalLaw" 4 room_1) {b L j : Nat} {ys : Nat → Int32} (hX : va_X b L ys (xs X) (xs X).heap ∧ b < (xs X).heap.size ∧ ¬ xA X b) (hL : L ≤ 2560) (hj : j + 5 ≤ L) (aX aM : Nat → Nat) (x : XSt) (m : MSt) (K : XSt → MSt → Prop) (hw : wpl_hushedFor x m (ys (j + 1)) (ys (j + 2)) (ys (j + 3)) (ys (j + 4)) K) (hK : ∀ x m, K x m → G X 61 1499 (woL (xt X) aX aM (x, m)) [(0, .ref b), (1, .ref (aX 0)), (2, .ref (aM 0)), (3, .int (nI j))] [] 1712) : G X 61 1499 (woL (xt X) aX aM (x, m)) [(0, .ref b), (1, .ref (aX 0)), (2, .ref (aM 0)), (3, .int (nI j))] [] 1030 := by
  unfold wpl_hushedFor at hw
  refine g_aload_n (pc := 1030) C d_L_1030 1 rfl rfl ?_
  refine g_aload_n (pc := 1031) C d_L_1031 0 rfl rfl ?_
  refine g_iload_n (pc := 1032) C d_L_1032 3 rfl rfl ?_
  refine g_iconst (pc := 1033) C (v := 1) d_L_1033 (by decide) ?_
  refine g_iadd (pc := 1034) C d_L_1034 ?_
  refine g_sld (pc := 1035) C hX hL (q := 1) (by decide) (by omega) d_L_1035 ?_
  refine g_aload_n (pc := 1036) C d_L_1036 0 rfl rfl ?_
  refine g_iload_n (pc := 1037) C d_L_1037 3 rfl rfl ?_
  refine g_iconst (pc := 1038) C (v := 2) d_L_1038 (by decide) ?_
  refine g_iadd (pc := 1039) C d_L_1039 ?_
  refine g_sld (pc := 1040) C hX hL (q := 2) (by decide) (by omega) d_L_1040 ?_
  refine k_I (pc := 1041) (co_V C (c_X_hushedFor (xl X) (xD X) (xt X) (xv X) aX x (ys (j + 1)) (ys (j + 2)) _ hw) mw_X_hushedFor lk_L_125 d_L_1041 (List.range 47) (cC_L1 (xt X) aX aM (x, m)) (by decide) (rec_w C 0 5 rfl rfl) rfl rfl ⟨Nat.le_of_ble_eq_true rfl, Nat.le_of_ble_eq_true rfl⟩ ⟨Nat.le_of_ble_eq_true rfl, Nat.le_of_ble_eq_true rfl⟩ (rest := []) rfl rfl (Nat.le_of_ble_eq_true rfl)) (fun x1 => woL (xt X) aX aM (x1, m)) (cS_L1 (xt X) aX aM (x, m)) (fun v1 x1 hw => ?_)
  refine g_aload_n (pc := 1044) C d_L_1044 2 rfl rfl ?_
  refine g_aload_n (pc := 1045) C d_L_1045 0 rfl rfl ?_
  refine g_iload_n (pc := 1046) C d_L_1046 3 rfl rfl ?_
  refine g_iconst (pc := 1047) C (v := 1) d_L_1047 (by decide) ?_
  refine g_iadd (pc := 1048) C d_L_1048 ?_
  refine g_sld (pc := 1049) C hX hL (q := 1) (by decide) (by omega) d_L_1049 ?_
  refine g_aload_n (pc := 1050) C d_L_1050 0 rfl rfl ?_
  refine g_iload_n (pc := 1051) C d_L_1051 3 rfl rfl ?_
  refine g_iconst (pc := 1052) C (v := 2) d_L_1052 (by decide) ?_
  refine g_iadd (pc := 1053) C d_L_1053 ?_
  refine g_sld (pc := 1054) C hX hL (q := 2) (by decide) (by omega) d_L_1054 ?_
  refine k_I (pc := 1055) (co_V C (c_M_hushedFor (xl X) (xD X) (xt X) (xv X) aM m (ys (j + 1)) (ys (j + 2)) _ hw) mw_M_hushedFor lk_L_128 d_L_1055 ((List.range 14).map (fun i => 47 + i)) (cC_L2 (xt X) aX aM (x1, m)) nd_2 (rec_w C 47 6 rfl rfl) rfl rfl ⟨Nat.le_of_ble_eq_true rfl, Nat.le_of_ble_eq_true rfl⟩ ⟨Nat.le_of_ble_eq_true rfl, Nat.le_of_ble_eq_true rfl⟩ (rest := [.int v1]) rfl rfl (Nat.le_of_ble_eq_true rfl)) (fun m1 => woL (xt X) aX aM (x1, m1)) (cS_L2 (xt X) aX aM (x1, m)) (fun v2 m1 hw => ?_)
  obtain ⟨hv, hw⟩ := hw
  refine g_icmp_eq (pc := 1058) (tgt := 1712) C d_L_1058 (by decide) (fun _ => ?_) (fun h9 => absurd hv h9)
  exact hK x1 m1 hw
def wpl_holdFor (x : XSt) (m : MSt) (a1 a2 a3 a4 : Int32) (K : XSt → MSt → Prop) : Prop := wp_X_holdFor x (a1) (fun v1 x1 => wp_M_holdFor m (a1) (fun v2 m1 => v1 = v2 ∧ K x1 m1))
set_option maxRecDepth 20000 in
theorem lc_holdFor {X : GX} (C : GC X code "SilenceCanalLaw" 4 room_1) {b L j : Nat} {ys : Nat → Int32} (hX : va_X b L ys (xs X) (xs X).heap ∧ b < (xs X).heap.size ∧ ¬ xA X b) (hL : L ≤ 2560) (hj : j + 5 ≤ L) (aX aM : Nat → Nat) (x : XSt) (m : MSt) (K : XSt → MSt → Prop) (hw : wpl_holdFor x m (ys (j + 1)) (ys (j + 2)) (ys (j + 3)) (ys (j + 4)) K) (hK : ∀ x m, K x m → G X 61 1499 (woL (xt X) aX aM (x, m)) [(0, .ref b), (1, .ref (aX 0)), (2, .ref (aM 0)), (3, .int (nI j))] [] 1712) : G X 61 1499 (woL (xt X) aX aM (x, m)) [(0, .ref b), (1, .ref (aX 0)), (2, .ref (aM 0)), (3, .int (nI j))] [] 1063 := by
  unfold wpl_holdFor at hw
  refine g_aload_n (pc := 1063) C d_L_1063 1 rfl rfl ?_
  refine g_aload_n (pc := 1064) C d_L_1064 0 rfl rfl ?_
  refine g_iload_n (pc := 1065) C d_L_1065 3 rfl rfl ?_
  refine g_iconst (pc := 1066) C (v := 1) d_L_1066 (by decide) ?_
  refine g_iadd (pc := 1067) C d_L_1067 ?_
  refine g_sld (pc := 1068) C hX hL (q := 1) (by decide) (by omega) d_L_1068 ?_
  refine k_I (pc := 1069) (co_V C (c_X_holdFor (xl X) (xD X) (xt X) (xv X) aX x (ys (j + 1)) _ hw) mw_X_holdFor lk_L_129 d_L_1069 (List.range 47) (cC_L1 (xt X) aX aM (x, m)) (by decide) (rec_w C 0 5 rfl rfl) rfl rfl ⟨Nat.le_of_ble_eq_true rfl, Nat.le_of_ble_eq_true rfl⟩ ⟨Nat.le_of_ble_eq_true rfl, Nat.le_of_ble_eq_true rfl⟩ (rest := []) rfl rfl (Nat.le_of_ble_eq_true rfl)) (fun x1 => woL (xt X) aX aM (x1, m)) (cS_L1 (xt X) aX aM (x, m)) (fun v1 x1 hw => ?_)
  refine g_aload_n (pc := 1072) C d_L_1072 2 rfl rfl ?_
  refine g_aload_n (pc := 1073) C d_L_1073 0 rfl rfl ?_
  refine g_iload_n (pc := 1074) C d_L_1074 3 rfl rfl ?_
  refine g_iconst (pc := 1075) C (v := 1) d_L_1075 (by decide) ?_
  refine g_iadd (pc := 1076) C d_L_1076 ?_
  refine g_sld (pc := 1077) C hX hL (q := 1) (by decide) (by omega) d_L_1077 ?_
  refine k_I (pc := 1078) (co_V C (c_M_holdFor (xl X) (xD X) (xt X) (xv X) aM m (ys (j + 1)) _ hw) mw_M_holdFor lk_L_132 d_L_1078 ((List.range 14).map (fun i => 47 + i)) (cC_L2 (xt X) aX aM (x1, m)) nd_2 (rec_w C 47 6 rfl rfl) rfl rfl ⟨Nat.le_of_ble_eq_true rfl, Nat.le_of_ble_eq_true rfl⟩ ⟨Nat.le_of_ble_eq_true rfl, Nat.le_of_ble_eq_true rfl⟩ (rest := [.int v1]) rfl rfl (Nat.le_of_ble_eq_true rfl)) (fun m1 => woL (xt X) aX aM (x1, m1)) (cS_L2 (xt X) aX aM (x1, m)) (fun v2 m1 hw => ?_)
  obtain ⟨hv, hw⟩ := hw
  refine g_icmp_eq (pc := 1081) (tgt := 1712) C d_L_1081 (by decide) (fun _ => ?_) (fun h9 => absurd hv h9)
  exact hK x1 m1 hw
def wpl_fits (x : XSt) (m : MSt) (a1 a2 a3 a4 : Int32) (K : XSt → MSt → Prop) : Prop := wp_X_fits x (a1) (a2) (a3) (fun v1 x1 => wp_M_fits m (a1) (a2) (a3) (fun v2 m1 => v1 = v2 ∧ K x1 m1))
set_option maxRecDepth 20000 in
theorem lc_fits {X : GX} (C : GC X code "SilenceCanalLaw" 4 room_1) {b L j : Nat} {ys : Nat → Int32} (hX : va_X b L ys (xs X) (xs X).heap ∧ b < (xs X).heap.size ∧ ¬ xA X b) (hL : L ≤ 2560) (hj : j + 5 ≤ L) (aX aM : Nat → Nat) (x : XSt) (m : MSt) (K : XSt → MSt → Prop) (hw : wpl_fits x m (ys (j + 1)) (ys (j + 2)) (ys (j + 3)) (ys (j + 4)) K) (hK : ∀ x m, K x m → G X 61 1499 (woL (xt X) aX aM (x, m)) [(0, .ref b), (1, .ref (aX 0)), (2, .ref (aM 0)), (3, .int (nI j))] [] 1712) : G X 61 1499 (woL (xt X) aX aM (x, m)) [(0, .ref b), (1, .ref (aX 0)), (2, .ref (aM 0)), (3, .int (nI j))] [] 1086 := by
  unfold wpl_fits at hw
  refine g_aload_n (pc := 1086) C d_L_1086 1 rfl rfl ?_
  refine g_aload_n (pc := 1087) C d_L_1087 0 rfl rfl ?_
  refine g_iload_n (pc := 1088) C d_L_1088 3 rfl rfl ?_
  refine g_iconst (pc := 1089) C (v := 1) d_L_1089 (by decide) ?_
  refine g_iadd (pc := 1090) C d_L_1090 ?_
  refine g_sld (pc := 1091) C hX hL (q := 1) (by decide) (by omega) d_L_1091 ?_
  refine g_aload_n (pc := 1092) C d_L_1092 0 rfl rfl ?_
  refine g_iload_n (pc := 1093) C d_L_1093 3 rfl rfl ?_
  refine g_iconst (pc := 1094) C (v := 2) d_L_1094 (by decide) ?_
  refine g_iadd (pc := 1095) C d_L_1095 ?_
  refine g_sld (pc := 1096) C hX hL (q := 2) (by decide) (by omega) d_L_1096 ?_
  refine g_aload_n (pc := 1097) C d_L_1097 0 rfl rfl ?_
  refine g_iload_n (pc := 1098) C d_L_1098 3 rfl rfl ?_
  refine g_iconst (pc := 1099) C (v := 3) d_L_1099 (by decide) ?_
  refine g_iadd (pc := 1100) C d_L_1100 ?_
  refine g_sld (pc := 1101) C hX hL (q := 3) (by decide) (by omega) d_L_1101 ?_
  refine k_I (pc := 1102) (co_V C (c_X_fits (xl X) (xD X) (xt X) (xv X) aX x (ys (j + 1)) (ys (j + 2)) (ys (j + 3)) _ hw) mw_X_fits lk_L_133 d_L_1102 (List.range 47) (cC_L1 (xt X) aX aM (x, m)) (by decide) (rec_w C 0 5 rfl rfl) rfl rfl ⟨Nat.le_of_ble_eq_true rfl, Nat.le_of_ble_eq_true rfl⟩ ⟨Nat.le_of_ble_eq_true rfl, Nat.le_of_ble_eq_true rfl⟩ (rest := []) rfl rfl (Nat.le_of_ble_eq_true rfl)) (fun x1 => woL (xt X) aX aM (x1, m)) (cS_L1 (xt X) aX aM (x, m)) (fun v1 x1 hw => ?_)
  refine g_aload_n (pc := 1105) C d_L_1105 2 rfl rfl ?_
  refine g_aload_n (pc := 1106) C d_L_1106 0 rfl rfl ?_
  refine g_iload_n (pc := 1107) C d_L_1107 3 rfl rfl ?_
  refine g_iconst (pc := 1108) C (v := 1) d_L_1108 (by decide) ?_
  refine g_iadd (pc := 1109) C d_L_1109 ?_
  refine g_sld (pc := 1110) C hX hL (q := 1) (by decide) (by omega) d_L_1110 ?_
  refine g_aload_n (pc := 1111) C d_L_1111 0 rfl rfl ?_
  refine g_iload_n (pc := 1112) C d_L_1112 3 rfl rfl ?_
  refine g_iconst (pc := 1113) C (v := 2) d_L_1113 (by decide) ?_
  refine g_iadd (pc := 1114) C d_L_1114 ?_
  refine g_sld (pc := 1115) C hX hL (q := 2) (by decide) (by omega) d_L_1115 ?_
  refine g_aload_n (pc := 1116) C d_L_1116 0 rfl rfl ?_
  refine g_iload_n (pc := 1117) C d_L_1117 3 rfl rfl ?_
  refine g_iconst (pc := 1118) C (v := 3) d_L_1118 (by decide) ?_
  refine g_iadd (pc := 1119) C d_L_1119 ?_
  refine g_sld (pc := 1120) C hX hL (q := 3) (by decide) (by omega) d_L_1120 ?_
  refine k_I (pc := 1121) (co_V C (c_M_fits (xl X) (xD X) (xt X) (xv X) aM m (ys (j + 1)) (ys (j + 2)) (ys (j + 3)) _ hw) mw_M_fits lk_L_136 d_L_1121 ((List.range 14).map (fun i => 47 + i)) (cC_L2 (xt X) aX aM (x1, m)) nd_2 (rec_w C 47 6 rfl rfl) rfl rfl ⟨Nat.le_of_ble_eq_true rfl, Nat.le_of_ble_eq_true rfl⟩ ⟨Nat.le_of_ble_eq_true rfl, Nat.le_of_ble_eq_true rfl⟩ (rest := [.int v1]) rfl rfl (Nat.le_of_ble_eq_true rfl)) (fun m1 => woL (xt X) aX aM (x1, m1)) (cS_L2 (xt X) aX aM (x1, m)) (fun v2 m1 hw => ?_)
  obtain ⟨hv, hw⟩ := hw
  refine g_icmp_eq (pc := 1124) (tgt := 1712) C d_L_1124 (by decide) (fun _ => ?_) (fun h9 => absurd hv h9)
  exact hK x1 m1 hw
def wpl_odds (x : XSt) (m : MSt) (a1 a2 a3 a4 : Int32) (K : XSt → MSt → Prop) : Prop := wp_X_odds x (a1) (a2) (a3) (fun v1 x1 => wp_M_odds m (a1) (a2) (a3) (fun v2 m1 => v1 = v2 ∧ K x1 m1))
set_option maxRecDepth 20000 in
theorem lc_odds {X : GX} (C : GC X code "SilenceCanalLaw" 4 room_1) {b L j : Nat} {ys : Nat → Int32} (hX : va_X b L ys (xs X) (xs X).heap ∧ b < (xs X).heap.size ∧ ¬ xA X b) (hL : L ≤ 2560) (hj : j + 5 ≤ L) (aX aM : Nat → Nat) (x : XSt) (m : MSt) (K : XSt → MSt → Prop) (hw : wpl_odds x m (ys (j + 1)) (ys (j + 2)) (ys (j + 3)) (ys (j + 4)) K) (hK : ∀ x m, K x m → G X 61 1499 (woL (xt X) aX aM (x, m)) [(0, .ref b), (1, .ref (aX 0)), (2, .ref (aM 0)), (3, .int (nI j))] [] 1712) : G X 61 1499 (woL (xt X) aX aM (x, m)) [(0, .ref b), (1, .ref (aX 0)), (2, .ref (aM 0)), (3, .int (nI j))] [] 1129 := by
  unfold wpl_odds at hw
  refine g_aload_n (pc := 1129) C d_L_1129 1 rfl rfl ?_
  refine g_aload_n (pc := 1130) C d_L_1130 0 rfl rfl ?_
  refine g_iload_n (pc := 1131) C d_L_1131 3 rfl rfl ?_
  refine g_iconst (pc := 1132) C (v := 1) d_L_1132 (by decide) ?_
  refine g_iadd (pc := 1133) C d_L_1133 ?_
  refine g_sld (pc := 1134) C hX hL (q := 1) (by decide) (by omega) d_L_1134 ?_
  refine g_aload_n (pc := 1135) C d_L_1135 0 rfl rfl ?_
  refine g_iload_n (pc := 1136) C d_L_1136 3 rfl rfl ?_
  refine g_iconst (pc := 1137) C (v := 2) d_L_1137 (by decide) ?_
  refine g_iadd (pc := 1138) C d_L_1138 ?_
  refine g_sld (pc := 1139) C hX hL (q := 2) (by decide) (by omega) d_L_1139 ?_
  refine g_aload_n (pc := 1140) C d_L_1140 0 rfl rfl ?_
  refine g_iload_n (pc := 1141) C d_L_1141 3 rfl rfl ?_
  refine g_iconst (pc := 1142) C (v := 3) d_L_1142 (by decide) ?_
  refine g_iadd (pc := 1143) C d_L_1143 ?_
  refine g_sld (pc := 1144) C hX hL (q := 3) (by decide) (by omega) d_L_1144 ?_
  refine k_L (pc := 1145) (co_V C (c_X_odds (xl X) (xD X) (xt X) (xv X) aX x (ys (j + 1)) (ys (j + 2)) (ys (j + 3)) _ hw) mw_X_odds lk_L_137 d_L_1145 (List.range 47) (cC_L1 (xt X) aX aM (x, m)) (by decide) (rec_w C 0 5 rfl rfl) rfl rfl ⟨Nat.le_of_ble_eq_true rfl, Nat.le_of_ble_eq_true rfl⟩ ⟨Nat.le_of_ble_eq_true rfl, Nat.le_of_ble_eq_true rfl⟩ (rest := []) rfl rfl (Nat.le_of_ble_eq_true rfl)) (fun x1 => woL (xt X) aX aM (x1, m)) (cS_L1 (xt X) aX aM (x, m)) (fun v1 x1 hw => ?_)
  refine g_aload_n (pc := 1148) C d_L_1148 2 rfl rfl ?_
  refine g_aload_n (pc := 1149) C d_L_1149 0 rfl rfl ?_
  refine g_iload_n (pc := 1150) C d_L_1150 3 rfl rfl ?_
  refine g_iconst (pc := 1151) C (v := 1) d_L_1151 (by decide) ?_
  refine g_iadd (pc := 1152) C d_L_1152 ?_
  refine g_sld (pc := 1153) C hX hL (q := 1) (by decide) (by omega) d_L_1153 ?_
  refine g_aload_n (pc := 1154) C d_L_1154 0 rfl rfl ?_
  refine g_iload_n (pc := 1155) C d_L_1155 3 rfl rfl ?_
  refine g_iconst (pc := 1156) C (v := 2) d_L_1156 (by decide) ?_
  refine g_iadd (pc := 1157) C d_L_1157 ?_
  refine g_sld (pc := 1158) C hX hL (q := 2) (by decide) (by omega) d_L_1158 ?_
  refine g_aload_n (pc := 1159) C d_L_1159 0 rfl rfl ?_
  refine g_iload_n (pc := 1160) C d_L_1160 3 rfl rfl ?_
  refine g_iconst (pc := 1161) C (v := 3) d_L_1161 (by decide) ?_
  refine g_iadd (pc := 1162) C d_L_1162 ?_
  refine g_sld (pc := 1163) C hX hL (q := 3) (by decide) (by omega) d_L_1163 ?_
  refine k_L (pc := 1164) (co_V C (c_M_odds (xl X) (xD X) (xt X) (xv X) aM m (ys (j + 1)) (ys (j + 2)) (ys (j + 3)) _ hw) mw_M_odds lk_L_141 d_L_1164 ((List.range 14).map (fun i => 47 + i)) (cC_L2 (xt X) aX aM (x1, m)) nd_2 (rec_w C 47 6 rfl rfl) rfl rfl ⟨Nat.le_of_ble_eq_true rfl, Nat.le_of_ble_eq_true rfl⟩ ⟨Nat.le_of_ble_eq_true rfl, Nat.le_of_ble_eq_true rfl⟩ (rest := [.long v1]) rfl rfl (Nat.le_of_ble_eq_true rfl)) (fun m1 => woL (xt X) aX aM (x1, m1)) (cS_L2 (xt X) aX aM (x1, m)) (fun v2 m1 hw => ?_)
  obtain ⟨hv, hw⟩ := hw
  subst hv
  refine g_lcmp (pc := 1167) C d_L_1167 ?_
  rw [cmp_self]
  refine g_if_eq (pc := 1168) (tgt := 1712) C d_L_1168 (by decide) (fun _ => ?_) (fun h9 => absurd rfl h9)
  exact hK x1 m1 hw
def wpl_hope (x : XSt) (m : MSt) (a1 a2 a3 a4 : Int32) (K : XSt → MSt → Prop) : Prop := wp_X_hope x (a1) (a2) (fun v1 x1 => wp_M_hope m (a1) (a2) (fun v2 m1 => v1 = v2 ∧ K x1 m1))
set_option maxRecDepth 20000 in
theorem lc_hope {X : GX} (C : GC X code "SilenceCanalLaw" 4 room_1) {b L j : Nat} {ys : Nat → Int32} (hX : va_X b L ys (xs X) (xs X).heap ∧ b < (xs X).heap.size ∧ ¬ xA X b) (hL : L ≤ 2560) (hj : j + 5 ≤ L) (aX aM : Nat → Nat) (x : XSt) (m : MSt) (K : XSt → MSt → Prop) (hw : wpl_hope x m (ys (j + 1)) (ys (j + 2)) (ys (j + 3)) (ys (j + 4)) K) (hK : ∀ x m, K x m → G X 61 1499 (woL (xt X) aX aM (x, m)) [(0, .ref b), (1, .ref (aX 0)), (2, .ref (aM 0)), (3, .int (nI j))] [] 1712) : G X 61 1499 (woL (xt X) aX aM (x, m)) [(0, .ref b), (1, .ref (aX 0)), (2, .ref (aM 0)), (3, .int (nI j))] [] 1173 := by
  unfold wpl_hope at hw
  refine g_aload_n (pc := 1173) C d_L_1173 1 rfl rfl ?_
  refine g_aload_n (pc := 1174) C d_L_1174 0 rfl rfl ?_
  refine g_iload_n (pc := 1175) C d_L_1175 3 rfl rfl ?_
  refine g_iconst (pc := 1176) C (v := 1) d_L_1176 (by decide) ?_
  refine g_iadd (pc := 1177) C d_L_1177 ?_
  refine g_sld (pc := 1178) C hX hL (q := 1) (by decide) (by omega) d_L_1178 ?_
  refine g_aload_n (pc := 1179) C d_L_1179 0 rfl rfl ?_
  refine g_iload_n (pc := 1180) C d_L_1180 3 rfl rfl ?_
  refine g_iconst (pc := 1181) C (v := 2) d_L_1181 (by decide) ?_
  refine g_iadd (pc := 1182) C d_L_1182 ?_
  refine g_sld (pc := 1183) C hX hL (q := 2) (by decide) (by omega) d_L_1183 ?_
  refine k_L (pc := 1184) (co_V C (c_X_hope (xl X) (xD X) (xt X) (xv X) aX x (ys (j + 1)) (ys (j + 2)) _ hw) mw_X_hope lk_L_142 d_L_1184 (List.range 47) (cC_L1 (xt X) aX aM (x, m)) (by decide) (rec_w C 0 5 rfl rfl) rfl rfl ⟨Nat.le_of_ble_eq_true rfl, Nat.le_of_ble_eq_true rfl⟩ ⟨Nat.le_of_ble_eq_true rfl, Nat.le_of_ble_eq_true rfl⟩ (rest := []) rfl rfl (Nat.le_of_ble_eq_true rfl)) (fun x1 => woL (xt X) aX aM (x1, m)) (cS_L1 (xt X) aX aM (x, m)) (fun v1 x1 hw => ?_)
  refine g_aload_n (pc := 1187) C d_L_1187 2 rfl rfl ?_
  refine g_aload_n (pc := 1188) C d_L_1188 0 rfl rfl ?_
  refine g_iload_n (pc := 1189) C d_L_1189 3 rfl rfl ?_
  refine g_iconst (pc := 1190) C (v := 1) d_L_1190 (by decide) ?_
  refine g_iadd (pc := 1191) C d_L_1191 ?_
  refine g_sld (pc := 1192) C hX hL (q := 1) (by decide) (by omega) d_L_1192 ?_
  refine g_aload_n (pc := 1193) C d_L_1193 0 rfl rfl ?_
  refine g_iload_n (pc := 1194) C d_L_1194 3 rfl rfl ?_
  refine g_iconst (pc := 1195) C (v := 2) d_L_1195 (by decide) ?_
  refine g_iadd (pc := 1196) C d_L_1196 ?_
  refine g_sld (pc := 1197) C hX hL (q := 2) (by decide) (by omega) d_L_1197 ?_
  refine k_L (pc := 1198) (co_V C (c_M_hope (xl X) (xD X) (xt X) (xv X) aM m (ys (j + 1)) (ys (j + 2)) _ hw) mw_M_hope lk_L_146 d_L_1198 ((List.range 14).map (fun i => 47 + i)) (cC_L2 (xt X) aX aM (x1, m)) nd_2 (rec_w C 47 6 rfl rfl) rfl rfl ⟨Nat.le_of_ble_eq_true rfl, Nat.le_of_ble_eq_true rfl⟩ ⟨Nat.le_of_ble_eq_true rfl, Nat.le_of_ble_eq_true rfl⟩ (rest := [.long v1]) rfl rfl (Nat.le_of_ble_eq_true rfl)) (fun m1 => woL (xt X) aX aM (x1, m1)) (cS_L2 (xt X) aX aM (x1, m)) (fun v2 m1 hw => ?_)
  obtain ⟨hv, hw⟩ := hw
  subst hv
  refine g_lcmp (pc := 1201) C d_L_1201 ?_
  rw [cmp_self]
  refine g_if_eq (pc := 1202) (tgt := 1712) C d_L_1202 (by decide) (fun _ => ?_) (fun h9 => absurd rfl h9)
  exact hK x1 m1 hw
def wpl_prove (x : XSt) (m : MSt) (a1 a2 a3 a4 : Int32) (K : XSt → MSt → Prop) : Prop := wp_X_prove x (a1) (a2) (fun v1 x1 => wp_M_prove m (a1) (a2) (fun v2 m1 => v1 = v2 ∧ K x1 m1))
set_option maxRecDepth 20000 in
theorem lc_prove {X : GX} (C : GC X code "SilenceCanalLaw" 4 room_1) {b L j : Nat} {ys : Nat → Int32} (hX : va_X b L ys (xs X) (xs X).heap ∧ b < (xs X).heap.size ∧ ¬ xA X b) (hL : L ≤ 2560) (hj : j + 5 ≤ L) (aX aM : Nat → Nat) (x : XSt) (m : MSt) (K : XSt → MSt → Prop) (hw : wpl_prove x m (ys (j + 1)) (ys (j + 2)) (ys (j + 3)) (ys (j + 4)) K) (hK : ∀ x m, K x m → G X 61 1499 (woL (xt X) aX aM (x, m)) [(0, .ref b), (1, .ref (aX 0)), (2, .ref (aM 0)), (3, .int (nI j))] [] 1712) : G X 61 1499 (woL (xt X) aX aM (x, m)) [(0, .ref b), (1, .ref (aX 0)), (2, .ref (aM 0)), (3, .int (nI j))] [] 1207 := by
  unfold wpl_prove at hw
  refine g_aload_n (pc := 1207) C d_L_1207 1 rfl rfl ?_
  refine g_aload_n (pc := 1208) C d_L_1208 0 rfl rfl ?_
  refine g_iload_n (pc := 1209) C d_L_1209 3 rfl rfl ?_
  refine g_iconst (pc := 1210) C (v := 1) d_L_1210 (by decide) ?_
  refine g_iadd (pc := 1211) C d_L_1211 ?_
  refine g_sld (pc := 1212) C hX hL (q := 1) (by decide) (by omega) d_L_1212 ?_
  refine g_aload_n (pc := 1213) C d_L_1213 0 rfl rfl ?_
  refine g_iload_n (pc := 1214) C d_L_1214 3 rfl rfl ?_
  refine g_iconst (pc := 1215) C (v := 2) d_L_1215 (by decide) ?_
  refine g_iadd (pc := 1216) C d_L_1216 ?_
  refine g_sld (pc := 1217) C hX hL (q := 2) (by decide) (by omega) d_L_1217 ?_
  refine k_I (pc := 1218) (co_V C (c_X_prove (xl X) (xD X) (xt X) (xv X) aX x (ys (j + 1)) (ys (j + 2)) _ hw) mw_X_prove lk_L_147 d_L_1218 (List.range 47) (cC_L1 (xt X) aX aM (x, m)) (by decide) (rec_w C 0 5 rfl rfl) rfl rfl ⟨Nat.le_of_ble_eq_true rfl, Nat.le_of_ble_eq_true rfl⟩ ⟨Nat.le_of_ble_eq_true rfl, Nat.le_of_ble_eq_true rfl⟩ (rest := []) rfl rfl (Nat.le_of_ble_eq_true rfl)) (fun x1 => woL (xt X) aX aM (x1, m)) (cS_L1 (xt X) aX aM (x, m)) (fun v1 x1 hw => ?_)
  refine g_aload_n (pc := 1221) C d_L_1221 2 rfl rfl ?_
  refine g_aload_n (pc := 1222) C d_L_1222 0 rfl rfl ?_
  refine g_iload_n (pc := 1223) C d_L_1223 3 rfl rfl ?_
  refine g_iconst (pc := 1224) C (v := 1) d_L_1224 (by decide) ?_
  refine g_iadd (pc := 1225) C d_L_1225 ?_
  refine g_sld (pc := 1226) C hX hL (q := 1) (by decide) (by omega) d_L_1226 ?_
  refine g_aload_n (pc := 1227) C d_L_1227 0 rfl rfl ?_
  refine g_iload_n (pc := 1228) C d_L_1228 3 rfl rfl ?_
  refine g_iconst (pc := 1229) C (v := 2) d_L_1229 (by decide) ?_
  refine g_iadd (pc := 1230) C d_L_1230 ?_
  refine g_sld (pc := 1231) C hX hL (q := 2) (by decide) (by omega) d_L_1231 ?_
  refine k_I (pc := 1232) (co_V C (c_M_prove (xl X) (xD X) (xt X) (xv X) aM m (ys (j + 1)) (ys (j + 2)) _ hw) mw_M_prove lk_L_150 d_L_1232 ((List.range 14).map (fun i => 47 + i)) (cC_L2 (xt X) aX aM (x1, m)) nd_2 (rec_w C 47 6 rfl rfl) rfl rfl ⟨Nat.le_of_ble_eq_true rfl, Nat.le_of_ble_eq_true rfl⟩ ⟨Nat.le_of_ble_eq_true rfl, Nat.le_of_ble_eq_true rfl⟩ (rest := [.int v1]) rfl rfl (Nat.le_of_ble_eq_true rfl)) (fun m1 => woL (xt X) aX aM (x1, m1)) (cS_L2 (xt X) aX aM (x1, m)) (fun v2 m1 hw => ?_)
  obtain ⟨hv, hw⟩ := hw
  refine g_icmp_eq (pc := 1235) (tgt := 1712) C d_L_1235 (by decide) (fun _ => ?_) (fun h9 => absurd hv h9)
  exact hK x1 m1 hw
def wpl_row (x : XSt) (m : MSt) (a1 a2 a3 a4 : Int32) (K : XSt → MSt → Prop) : Prop := wp_X_row x (a1) (a2) (fun v1 x1 => wp_M_row m (a1) (a2) (fun v2 m1 => v1 = v2 ∧ K x1 m1))
set_option maxRecDepth 20000 in
theorem lc_row {X : GX} (C : GC X code "SilenceCanalLaw" 4 room_1) {b L j : Nat} {ys : Nat → Int32} (hX : va_X b L ys (xs X) (xs X).heap ∧ b < (xs X).heap.size ∧ ¬ xA X b) (hL : L ≤ 2560) (hj : j + 5 ≤ L) (aX aM : Nat → Nat) (x : XSt) (m : MSt) (K : XSt → MSt → Prop) (hw : wpl_row x m (ys (j + 1)) (ys (j + 2)) (ys (j + 3)) (ys (j + 4)) K) (hK : ∀ x m, K x m → G X 61 1499 (woL (xt X) aX aM (x, m)) [(0, .ref b), (1, .ref (aX 0)), (2, .ref (aM 0)), (3, .int (nI j))] [] 1712) : G X 61 1499 (woL (xt X) aX aM (x, m)) [(0, .ref b), (1, .ref (aX 0)), (2, .ref (aM 0)), (3, .int (nI j))] [] 1240 := by
  unfold wpl_row at hw
  refine g_aload_n (pc := 1240) C d_L_1240 1 rfl rfl ?_
  refine g_aload_n (pc := 1241) C d_L_1241 0 rfl rfl ?_
  refine g_iload_n (pc := 1242) C d_L_1242 3 rfl rfl ?_
  refine g_iconst (pc := 1243) C (v := 1) d_L_1243 (by decide) ?_
  refine g_iadd (pc := 1244) C d_L_1244 ?_
  refine g_sld (pc := 1245) C hX hL (q := 1) (by decide) (by omega) d_L_1245 ?_
  refine g_aload_n (pc := 1246) C d_L_1246 0 rfl rfl ?_
  refine g_iload_n (pc := 1247) C d_L_1247 3 rfl rfl ?_
  refine g_iconst (pc := 1248) C (v := 2) d_L_1248 (by decide) ?_
  refine g_iadd (pc := 1249) C d_L_1249 ?_
  refine g_sld (pc := 1250) C hX hL (q := 2) (by decide) (by omega) d_L_1250 ?_
  refine k_I (pc := 1251) (co_V C (c_X_row (xl X) (xD X) (xt X) (xv X) aX x (ys (j + 1)) (ys (j + 2)) _ hw) mw_X_row lk_L_151 d_L_1251 (List.range 47) (cC_L1 (xt X) aX aM (x, m)) (by decide) (rec_w C 0 5 rfl rfl) rfl rfl ⟨Nat.le_of_ble_eq_true rfl, Nat.le_of_ble_eq_true rfl⟩ ⟨Nat.le_of_ble_eq_true rfl, Nat.le_of_ble_eq_true rfl⟩ (rest := []) rfl rfl (Nat.le_of_ble_eq_true rfl)) (fun x1 => woL (xt X) aX aM (x1, m)) (cS_L1 (xt X) aX aM (x, m)) (fun v1 x1 hw => ?_)
  refine g_aload_n (pc := 1254) C d_L_1254 2 rfl rfl ?_
  refine g_aload_n (pc := 1255) C d_L_1255 0 rfl rfl ?_
  refine g_iload_n (pc := 1256) C d_L_1256 3 rfl rfl ?_
  refine g_iconst (pc := 1257) C (v := 1) d_L_1257 (by decide) ?_
  refine g_iadd (pc := 1258) C d_L_1258 ?_
  refine g_sld (pc := 1259) C hX hL (q := 1) (by decide) (by omega) d_L_1259 ?_
  refine g_aload_n (pc := 1260) C d_L_1260 0 rfl rfl ?_
  refine g_iload_n (pc := 1261) C d_L_1261 3 rfl rfl ?_
  refine g_iconst (pc := 1262) C (v := 2) d_L_1262 (by decide) ?_
  refine g_iadd (pc := 1263) C d_L_1263 ?_
  refine g_sld (pc := 1264) C hX hL (q := 2) (by decide) (by omega) d_L_1264 ?_
  refine k_I (pc := 1265) (co_V C (c_M_row (xl X) (xD X) (xt X) (xv X) aM m (ys (j + 1)) (ys (j + 2)) _ hw) mw_M_row lk_L_154 d_L_1265 ((List.range 14).map (fun i => 47 + i)) (cC_L2 (xt X) aX aM (x1, m)) nd_2 (rec_w C 47 6 rfl rfl) rfl rfl ⟨Nat.le_of_ble_eq_true rfl, Nat.le_of_ble_eq_true rfl⟩ ⟨Nat.le_of_ble_eq_true rfl, Nat.le_of_ble_eq_true rfl⟩ (rest := [.int v1]) rfl rfl (Nat.le_of_ble_eq_true rfl)) (fun m1 => woL (xt X) aX aM (x1, m1)) (cS_L2 (xt X) aX aM (x1, m)) (fun v2 m1 hw => ?_)
  obtain ⟨hv, hw⟩ := hw
  refine g_icmp_eq (pc := 1268) (tgt := 1712) C d_L_1268 (by decide) (fun _ => ?_) (fun h9 => absurd hv h9)
  exact hK x1 m1 hw
def wpl_alterRow (x : XSt) (m : MSt) (a1 a2 a3 a4 : Int32) (K : XSt → MSt → Prop) : Prop := wp_X_alterRow x (a1) (a2) (a3) (fun v1 x1 => wp_M_alterRow m (a1) (a2) (a3) (fun v2 m1 => v1 = v2 ∧ K x1 m1))
set_option maxRecDepth 20000 in
theorem lc_alterRow {X : GX} (C : GC X code "SilenceCanalLaw" 4 room_1) {b L j : Nat} {ys : Nat → Int32} (hX : va_X b L ys (xs X) (xs X).heap ∧ b < (xs X).heap.size ∧ ¬ xA X b) (hL : L ≤ 2560) (hj : j + 5 ≤ L) (aX aM : Nat → Nat) (x : XSt) (m : MSt) (K : XSt → MSt → Prop) (hw : wpl_alterRow x m (ys (j + 1)) (ys (j + 2)) (ys (j + 3)) (ys (j + 4)) K) (hK : ∀ x m, K x m → G X 61 1499 (woL (xt X) aX aM (x, m)) [(0, .ref b), (1, .ref (aX 0)), (2, .ref (aM 0)), (3, .int (nI j))] [] 1712) : G X 61 1499 (woL (xt X) aX aM (x, m)) [(0, .ref b), (1, .ref (aX 0)), (2, .ref (aM 0)), (3, .int (nI j))] [] 1273 := by
  unfold wpl_alterRow at hw
  refine g_aload_n (pc := 1273) C d_L_1273 1 rfl rfl ?_
  refine g_aload_n (pc := 1274) C d_L_1274 0 rfl rfl ?_
  refine g_iload_n (pc := 1275) C d_L_1275 3 rfl rfl ?_
  refine g_iconst (pc := 1276) C (v := 1) d_L_1276 (by decide) ?_
  refine g_iadd (pc := 1277) C d_L_1277 ?_
  refine g_sld (pc := 1278) C hX hL (q := 1) (by decide) (by omega) d_L_1278 ?_
  refine g_aload_n (pc := 1279) C d_L_1279 0 rfl rfl ?_
  refine g_iload_n (pc := 1280) C d_L_1280 3 rfl rfl ?_
  refine g_iconst (pc := 1281) C (v := 2) d_L_1281 (by decide) ?_
  refine g_iadd (pc := 1282) C d_L_1282 ?_
  refine g_sld (pc := 1283) C hX hL (q := 2) (by decide) (by omega) d_L_1283 ?_
  refine g_aload_n (pc := 1284) C d_L_1284 0 rfl rfl ?_
  refine g_iload_n (pc := 1285) C d_L_1285 3 rfl rfl ?_
  refine g_iconst (pc := 1286) C (v := 3) d_L_1286 (by decide) ?_
  refine g_iadd (pc := 1287) C d_L_1287 ?_
  refine g_sld (pc := 1288) C hX hL (q := 3) (by decide) (by omega) d_L_1288 ?_
  refine k_I (pc := 1289) (co_V C (c_X_alterRow (xl X) (xD X) (xt X) (xv X) aX x (ys (j + 1)) (ys (j + 2)) (ys (j + 3)) _ hw) mw_X_alterRow lk_L_155 d_L_1289 (List.range 47) (cC_L1 (xt X) aX aM (x, m)) (by decide) (rec_w C 0 5 rfl rfl) rfl rfl ⟨Nat.le_of_ble_eq_true rfl, Nat.le_of_ble_eq_true rfl⟩ ⟨Nat.le_of_ble_eq_true rfl, Nat.le_of_ble_eq_true rfl⟩ (rest := []) rfl rfl (Nat.le_of_ble_eq_true rfl)) (fun x1 => woL (xt X) aX aM (x1, m)) (cS_L1 (xt X) aX aM (x, m)) (fun v1 x1 hw => ?_)
  refine g_aload_n (pc := 1292) C d_L_1292 2 rfl rfl ?_
  refine g_aload_n (pc := 1293) C d_L_1293 0 rfl rfl ?_
  refine g_iload_n (pc := 1294) C d_L_1294 3 rfl rfl ?_
  refine g_iconst (pc := 1295) C (v := 1) d_L_1295 (by decide) ?_
  refine g_iadd (pc := 1296) C d_L_1296 ?_
  refine g_sld (pc := 1297) C hX hL (q := 1) (by decide) (by omega) d_L_1297 ?_
  refine g_aload_n (pc := 1298) C d_L_1298 0 rfl rfl ?_
  refine g_iload_n (pc := 1299) C d_L_1299 3 rfl rfl ?_
  refine g_iconst (pc := 1300) C (v := 2) d_L_1300 (by decide) ?_
  refine g_iadd (pc := 1301) C d_L_1301 ?_
  refine g_sld (pc := 1302) C hX hL (q := 2) (by decide) (by omega) d_L_1302 ?_
  refine g_aload_n (pc := 1303) C d_L_1303 0 rfl rfl ?_
  refine g_iload_n (pc := 1304) C d_L_1304 3 rfl rfl ?_
  refine g_iconst (pc := 1305) C (v := 3) d_L_1305 (by decide) ?_
  refine g_iadd (pc := 1306) C d_L_1306 ?_
  refine g_sld (pc := 1307) C hX hL (q := 3) (by decide) (by omega) d_L_1307 ?_
  refine k_I (pc := 1308) (co_V C (c_M_alterRow (xl X) (xD X) (xt X) (xv X) aM m (ys (j + 1)) (ys (j + 2)) (ys (j + 3)) _ hw) mw_M_alterRow lk_L_158 d_L_1308 ((List.range 14).map (fun i => 47 + i)) (cC_L2 (xt X) aX aM (x1, m)) nd_2 (rec_w C 47 6 rfl rfl) rfl rfl ⟨Nat.le_of_ble_eq_true rfl, Nat.le_of_ble_eq_true rfl⟩ ⟨Nat.le_of_ble_eq_true rfl, Nat.le_of_ble_eq_true rfl⟩ (rest := [.int v1]) rfl rfl (Nat.le_of_ble_eq_true rfl)) (fun m1 => woL (xt X) aX aM (x1, m1)) (cS_L2 (xt X) aX aM (x1, m)) (fun v2 m1 hw => ?_)
  obtain ⟨hv, hw⟩ := hw
  refine g_icmp_eq (pc := 1311) (tgt := 1712) C d_L_1311 (by decide) (fun _ => ?_) (fun h9 => absurd hv h9)
  exact hK x1 m1 hw
def wpl_judge (x : XSt) (m : MSt) (a1 a2 a3 a4 : Int32) (K : XSt → MSt → Prop) : Prop := wp_X_judge x (a1) (fun v1 x1 => wp_M_judge m (a1) (fun v2 m1 => v1 = v2 ∧ K x1 m1))
set_option maxRecDepth 20000 in
theorem lc_judge {X : GX} (C : GC X code "SilenceCanalLaw" 4 room_1) {b L j : Nat} {ys : Nat → Int32} (hX : va_X b L ys (xs X) (xs X).heap ∧ b < (xs X).heap.size ∧ ¬ xA X b) (hL : L ≤ 2560) (hj : j + 5 ≤ L) (aX aM : Nat → Nat) (x : XSt) (m : MSt) (K : XSt → MSt → Prop) (hw : wpl_judge x m (ys (j + 1)) (ys (j + 2)) (ys (j + 3)) (ys (j + 4)) K) (hK : ∀ x m, K x m → G X 61 1499 (woL (xt X) aX aM (x, m)) [(0, .ref b), (1, .ref (aX 0)), (2, .ref (aM 0)), (3, .int (nI j))] [] 1712) : G X 61 1499 (woL (xt X) aX aM (x, m)) [(0, .ref b), (1, .ref (aX 0)), (2, .ref (aM 0)), (3, .int (nI j))] [] 1316 := by
  unfold wpl_judge at hw
  refine g_aload_n (pc := 1316) C d_L_1316 1 rfl rfl ?_
  refine g_aload_n (pc := 1317) C d_L_1317 0 rfl rfl ?_
  refine g_iload_n (pc := 1318) C d_L_1318 3 rfl rfl ?_
  refine g_iconst (pc := 1319) C (v := 1) d_L_1319 (by decide) ?_
  refine g_iadd (pc := 1320) C d_L_1320 ?_
  refine g_sld (pc := 1321) C hX hL (q := 1) (by decide) (by omega) d_L_1321 ?_
  refine k_I (pc := 1322) (co_V C (c_X_judge (xl X) (xD X) (xt X) (xv X) aX x (ys (j + 1)) _ hw) mw_X_judge lk_L_159 d_L_1322 (List.range 47) (cC_L1 (xt X) aX aM (x, m)) (by decide) (rec_w C 0 5 rfl rfl) rfl rfl ⟨Nat.le_of_ble_eq_true rfl, Nat.le_of_ble_eq_true rfl⟩ ⟨Nat.le_of_ble_eq_true rfl, Nat.le_of_ble_eq_true rfl⟩ (rest := []) rfl rfl (Nat.le_of_ble_eq_true rfl)) (fun x1 => woL (xt X) aX aM (x1, m)) (cS_L1 (xt X) aX aM (x, m)) (fun v1 x1 hw => ?_)
  refine g_aload_n (pc := 1325) C d_L_1325 2 rfl rfl ?_
  refine g_aload_n (pc := 1326) C d_L_1326 0 rfl rfl ?_
  refine g_iload_n (pc := 1327) C d_L_1327 3 rfl rfl ?_
  refine g_iconst (pc := 1328) C (v := 1) d_L_1328 (by decide) ?_
  refine g_iadd (pc := 1329) C d_L_1329 ?_
  refine g_sld (pc := 1330) C hX hL (q := 1) (by decide) (by omega) d_L_1330 ?_
  refine k_I (pc := 1331) (co_V C (c_M_judge (xl X) (xD X) (xt X) (xv X) aM m (ys (j + 1)) _ hw) mw_M_judge lk_L_162 d_L_1331 ((List.range 14).map (fun i => 47 + i)) (cC_L2 (xt X) aX aM (x1, m)) nd_2 (rec_w C 47 6 rfl rfl) rfl rfl ⟨Nat.le_of_ble_eq_true rfl, Nat.le_of_ble_eq_true rfl⟩ ⟨Nat.le_of_ble_eq_true rfl, Nat.le_of_ble_eq_true rfl⟩ (rest := [.int v1]) rfl rfl (Nat.le_of_ble_eq_true rfl)) (fun m1 => woL (xt X) aX aM (x1, m1)) (cS_L2 (xt X) aX aM (x1, m)) (fun v2 m1 hw => ?_)
  obtain ⟨hv, hw⟩ := hw
  refine g_icmp_eq (pc := 1334) (tgt := 1712) C d_L_1334 (by decide) (fun _ => ?_) (fun h9 => absurd hv h9)
  exact hK x1 m1 hw
def wpl_minds (x : XSt) (m : MSt) (a1 a2 a3 a4 : Int32) (K : XSt → MSt → Prop) : Prop := wp_X_minds x (a1) (a2) (a3) (a4) (fun v1 x1 => wp_M_minds m (a1) (a2) (a3) (a4) (fun v2 m1 => v1 = v2 ∧ K x1 m1))
set_option maxRecDepth 20000 in
theorem lc_minds {X : GX} (C : GC X code "SilenceCanalLaw" 4 room_1) {b L j : Nat} {ys : Nat → Int32} (hX : va_X b L ys (xs X) (xs X).heap ∧ b < (xs X).heap.size ∧ ¬ xA X b) (hL : L ≤ 2560) (hj : j + 5 ≤ L) (aX aM : Nat → Nat) (x : XSt) (m : MSt) (K : XSt → MSt → Prop) (hw : wpl_minds x m (ys (j + 1)) (ys (j + 2)) (ys (j + 3)) (ys (j + 4)) K) (hK : ∀ x m, K x m → G X 61 1499 (woL (xt X) aX aM (x, m)) [(0, .ref b), (1, .ref (aX 0)), (2, .ref (aM 0)), (3, .int (nI j))] [] 1712) : G X 61 1499 (woL (xt X) aX aM (x, m)) [(0, .ref b), (1, .ref (aX 0)), (2, .ref (aM 0)), (3, .int (nI j))] [] 1339 := by
  unfold wpl_minds at hw
  refine g_aload_n (pc := 1339) C d_L_1339 1 rfl rfl ?_
  refine g_aload_n (pc := 1340) C d_L_1340 0 rfl rfl ?_
  refine g_iload_n (pc := 1341) C d_L_1341 3 rfl rfl ?_
  refine g_iconst (pc := 1342) C (v := 1) d_L_1342 (by decide) ?_
  refine g_iadd (pc := 1343) C d_L_1343 ?_
  refine g_sld (pc := 1344) C hX hL (q := 1) (by decide) (by omega) d_L_1344 ?_
  refine g_aload_n (pc := 1345) C d_L_1345 0 rfl rfl ?_
  refine g_iload_n (pc := 1346) C d_L_1346 3 rfl rfl ?_
  refine g_iconst (pc := 1347) C (v := 2) d_L_1347 (by decide) ?_
  refine g_iadd (pc := 1348) C d_L_1348 ?_
  refine g_sld (pc := 1349) C hX hL (q := 2) (by decide) (by omega) d_L_1349 ?_
  refine g_aload_n (pc := 1350) C d_L_1350 0 rfl rfl ?_
  refine g_iload_n (pc := 1351) C d_L_1351 3 rfl rfl ?_
  refine g_iconst (pc := 1352) C (v := 3) d_L_1352 (by decide) ?_
  refine g_iadd (pc := 1353) C d_L_1353 ?_
  refine g_sld (pc := 1354) C hX hL (q := 3) (by decide) (by omega) d_L_1354 ?_
  refine g_aload_n (pc := 1355) C d_L_1355 0 rfl rfl ?_
  refine g_iload_n (pc := 1356) C d_L_1356 3 rfl rfl ?_
  refine g_iconst (pc := 1357) C (v := 4) d_L_1357 (by decide) ?_
  refine g_iadd (pc := 1358) C d_L_1358 ?_
  refine g_sld (pc := 1359) C hX hL (q := 4) (by decide) (by omega) d_L_1359 ?_
  refine k_I (pc := 1360) (co_V C (c_X_minds (xl X) (xD X) (xt X) (xv X) aX x (ys (j + 1)) (ys (j + 2)) (ys (j + 3)) (ys (j + 4)) _ hw) mw_X_minds lk_L_163 d_L_1360 (List.range 47) (cC_L1 (xt X) aX aM (x, m)) (by decide) (rec_w C 0 5 rfl rfl) rfl rfl ⟨Nat.le_of_ble_eq_true rfl, Nat.le_of_ble_eq_true rfl⟩ ⟨Nat.le_of_ble_eq_true rfl, Nat.le_of_ble_eq_true rfl⟩ (rest := []) rfl rfl (Nat.le_of_ble_eq_true rfl)) (fun x1 => woL (xt X) aX aM (x1, m)) (cS_L1 (xt X) aX aM (x, m)) (fun v1 x1 hw => ?_)
  refine g_aload_n (pc := 1363) C d_L_1363 2 rfl rfl ?_
  refine g_aload_n (pc := 1364) C d_L_1364 0 rfl rfl ?_
  refine g_iload_n (pc := 1365) C d_L_1365 3 rfl rfl ?_
  refine g_iconst (pc := 1366) C (v := 1) d_L_1366 (by decide) ?_
  refine g_iadd (pc := 1367) C d_L_1367 ?_
  refine g_sld (pc := 1368) C hX hL (q := 1) (by decide) (by omega) d_L_1368 ?_
  refine g_aload_n (pc := 1369) C d_L_1369 0 rfl rfl ?_
  refine g_iload_n (pc := 1370) C d_L_1370 3 rfl rfl ?_
  refine g_iconst (pc := 1371) C (v := 2) d_L_1371 (by decide) ?_
  refine g_iadd (pc := 1372) C d_L_1372 ?_
  refine g_sld (pc := 1373) C hX hL (q := 2) (by decide) (by omega) d_L_1373 ?_
  refine g_aload_n (pc := 1374) C d_L_1374 0 rfl rfl ?_
  refine g_iload_n (pc := 1375) C d_L_1375 3 rfl rfl ?_
  refine g_iconst (pc := 1376) C (v := 3) d_L_1376 (by decide) ?_
  refine g_iadd (pc := 1377) C d_L_1377 ?_
  refine g_sld (pc := 1378) C hX hL (q := 3) (by decide) (by omega) d_L_1378 ?_
  refine g_aload_n (pc := 1379) C d_L_1379 0 rfl rfl ?_
  refine g_iload_n (pc := 1380) C d_L_1380 3 rfl rfl ?_
  refine g_iconst (pc := 1381) C (v := 4) d_L_1381 (by decide) ?_
  refine g_iadd (pc := 1382) C d_L_1382 ?_
  refine g_sld (pc := 1383) C hX hL (q := 4) (by decide) (by omega) d_L_1383 ?_
  refine k_I (pc := 1384) (co_V C (c_M_minds (xl X) (xD X) (xt X) (xv X) aM m (ys (j + 1)) (ys (j + 2)) (ys (j + 3)) (ys (j + 4)) _ hw) mw_M_minds lk_L_166 d_L_1384 ((List.range 14).map (fun i => 47 + i)) (cC_L2 (xt X) aX aM (x1, m)) nd_2 (rec_w C 47 6 rfl rfl) rfl rfl ⟨Nat.le_of_ble_eq_true rfl, Nat.le_of_ble_eq_true rfl⟩ ⟨Nat.le_of_ble_eq_true rfl, Nat.le_of_ble_eq_true rfl⟩ (rest := [.int v1]) rfl rfl (Nat.le_of_ble_eq_true rfl)) (fun m1 => woL (xt X) aX aM (x1, m1)) (cS_L2 (xt X) aX aM (x1, m)) (fun v2 m1 hw => ?_)
  obtain ⟨hv, hw⟩ := hw
  refine g_icmp_eq (pc := 1387) (tgt := 1712) C d_L_1387 (by decide) (fun _ => ?_) (fun h9 => absurd hv h9)
  exact hK x1 m1 hw
def wpl_sheet (x : XSt) (m : MSt) (a1 a2 a3 a4 : Int32) (K : XSt → MSt → Prop) : Prop := wp_X_sheet x (a1) (a2) (a3) (fun v1 x1 => wp_M_sheet m (a1) (a2) (a3) (fun v2 m1 => v1 = v2 ∧ K x1 m1))
set_option maxRecDepth 20000 in
theorem lc_sheet {X : GX} (C : GC X code "SilenceCanalLaw" 4 room_1) {b L j : Nat} {ys : Nat → Int32} (hX : va_X b L ys (xs X) (xs X).heap ∧ b < (xs X).heap.size ∧ ¬ xA X b) (hL : L ≤ 2560) (hj : j + 5 ≤ L) (aX aM : Nat → Nat) (x : XSt) (m : MSt) (K : XSt → MSt → Prop) (hw : wpl_sheet x m (ys (j + 1)) (ys (j + 2)) (ys (j + 3)) (ys (j + 4)) K) (hK : ∀ x m, K x m → G X 61 1499 (woL (xt X) aX aM (x, m)) [(0, .ref b), (1, .ref (aX 0)), (2, .ref (aM 0)), (3, .int (nI j))] [] 1712) : G X 61 1499 (woL (xt X) aX aM (x, m)) [(0, .ref b), (1, .ref (aX 0)), (2, .ref (aM 0)), (3, .int (nI j))] [] 1392 := by
  unfold wpl_sheet at hw
  refine g_aload_n (pc := 1392) C d_L_1392 1 rfl rfl ?_
  refine g_aload_n (pc := 1393) C d_L_1393 0 rfl rfl ?_
  refine g_iload_n (pc := 1394) C d_L_1394 3 rfl rfl ?_
  refine g_iconst (pc := 1395) C (v := 1) d_L_1395 (by decide) ?_
  refine g_iadd (pc := 1396) C d_L_1396 ?_
  refine g_sld (pc := 1397) C hX hL (q := 1) (by decide) (by omega) d_L_1397 ?_
  refine g_aload_n (pc := 1398) C d_L_1398 0 rfl rfl ?_
  refine g_iload_n (pc := 1399) C d_L_1399 3 rfl rfl ?_
  refine g_iconst (pc := 1400) C (v := 2) d_L_1400 (by decide) ?_
  refine g_iadd (pc := 1401) C d_L_1401 ?_
  refine g_sld (pc := 1402) C hX hL (q := 2) (by decide) (by omega) d_L_1402 ?_
  refine g_aload_n (pc := 1403) C d_L_1403 0 rfl rfl ?_
  refine g_iload_n (pc := 1404) C d_L_1404 3 rfl rfl ?_
  refine g_iconst (pc := 1405) C (v := 3) d_L_1405 (by decide) ?_
  refine g_iadd (pc := 1406) C d_L_1406 ?_
  refine g_sld (pc := 1407) C hX hL (q := 3) (by decide) (by omega) d_L_1407 ?_
  refine k_I (pc := 1408) (co_V C (c_X_sheet (xl X) (xD X) (xt X) (xv X) aX x (ys (j + 1)) (ys (j + 2)) (ys (j + 3)) _ hw) mw_X_sheet lk_L_167 d_L_1408 (List.range 47) (cC_L1 (xt X) aX aM (x, m)) (by decide) (rec_w C 0 5 rfl rfl) rfl rfl ⟨Nat.le_of_ble_eq_true rfl, Nat.le_of_ble_eq_true rfl⟩ ⟨Nat.le_of_ble_eq_true rfl, Nat.le_of_ble_eq_true rfl⟩ (rest := []) rfl rfl (Nat.le_of_ble_eq_true rfl)) (fun x1 => woL (xt X) aX aM (x1, m)) (cS_L1 (xt X) aX aM (x, m)) (fun v1 x1 hw => ?_)
  refine g_aload_n (pc := 1411) C d_L_1411 2 rfl rfl ?_
  refine g_aload_n (pc := 1412) C d_L_1412 0 rfl rfl ?_
  refine g_iload_n (pc := 1413) C d_L_1413 3 rfl rfl ?_
  refine g_iconst (pc := 1414) C (v := 1) d_L_1414 (by decide) ?_
  refine g_iadd (pc := 1415) C d_L_1415 ?_
  refine g_sld (pc := 1416) C hX hL (q := 1) (by decide) (by omega) d_L_1416 ?_
  refine g_aload_n (pc := 1417) C d_L_1417 0 rfl rfl ?_
  refine g_iload_n (pc := 1418) C d_L_1418 3 rfl rfl ?_
  refine g_iconst (pc := 1419) C (v := 2) d_L_1419 (by decide) ?_
  refine g_iadd (pc := 1420) C d_L_1420 ?_
  refine g_sld (pc := 1421) C hX hL (q := 2) (by decide) (by omega) d_L_1421 ?_
  refine g_aload_n (pc := 1422) C d_L_1422 0 rfl rfl ?_
  refine g_iload_n (pc := 1423) C d_L_1423 3 rfl rfl ?_
  refine g_iconst (pc := 1424) C (v := 3) d_L_1424 (by decide) ?_
  refine g_iadd (pc := 1425) C d_L_1425 ?_
  refine g_sld (pc := 1426) C hX hL (q := 3) (by decide) (by omega) d_L_1426 ?_
  refine k_I (pc := 1427) (co_V C (c_M_sheet (xl X) (xD X) (xt X) (xv X) aM m (ys (j + 1)) (ys (j + 2)) (ys (j + 3)) _ hw) mw_M_sheet lk_L_170 d_L_1427 ((List.range 14).map (fun i => 47 + i)) (cC_L2 (xt X) aX aM (x1, m)) nd_2 (rec_w C 47 6 rfl rfl) rfl rfl ⟨Nat.le_of_ble_eq_true rfl, Nat.le_of_ble_eq_true rfl⟩ ⟨Nat.le_of_ble_eq_true rfl, Nat.le_of_ble_eq_true rfl⟩ (rest := [.int v1]) rfl rfl (Nat.le_of_ble_eq_true rfl)) (fun m1 => woL (xt X) aX aM (x1, m1)) (cS_L2 (xt X) aX aM (x1, m)) (fun v2 m1 hw => ?_)
  obtain ⟨hv, hw⟩ := hw
  refine g_icmp_eq (pc := 1430) (tgt := 1712) C d_L_1430 (by decide) (fun _ => ?_) (fun h9 => absurd hv h9)
  exact hK x1 m1 hw
def wpl_put (x : XSt) (m : MSt) (a1 a2 a3 a4 : Int32) (K : XSt → MSt → Prop) : Prop := wp_X_put x (a1) (a2) (a3) (fun v1 x1 => wp_M_put m (a1) (a2) (a3) (fun v2 m1 => v1 = v2 ∧ K x1 m1))
set_option maxRecDepth 20000 in
theorem lc_put {X : GX} (C : GC X code "SilenceCanalLaw" 4 room_1) {b L j : Nat} {ys : Nat → Int32} (hX : va_X b L ys (xs X) (xs X).heap ∧ b < (xs X).heap.size ∧ ¬ xA X b) (hL : L ≤ 2560) (hj : j + 5 ≤ L) (aX aM : Nat → Nat) (x : XSt) (m : MSt) (K : XSt → MSt → Prop) (hw : wpl_put x m (ys (j + 1)) (ys (j + 2)) (ys (j + 3)) (ys (j + 4)) K) (hK : ∀ x m, K x m → G X 61 1499 (woL (xt X) aX aM (x, m)) [(0, .ref b), (1, .ref (aX 0)), (2, .ref (aM 0)), (3, .int (nI j))] [] 1712) : G X 61 1499 (woL (xt X) aX aM (x, m)) [(0, .ref b), (1, .ref (aX 0)), (2, .ref (aM 0)), (3, .int (nI j))] [] 1435 := by
  unfold wpl_put at hw
  refine g_aload_n (pc := 1435) C d_L_1435 1 rfl rfl ?_
  refine g_aload_n (pc := 1436) C d_L_1436 0 rfl rfl ?_
  refine g_iload_n (pc := 1437) C d_L_1437 3 rfl rfl ?_
  refine g_iconst (pc := 1438) C (v := 1) d_L_1438 (by decide) ?_
  refine g_iadd (pc := 1439) C d_L_1439 ?_
  refine g_sld (pc := 1440) C hX hL (q := 1) (by decide) (by omega) d_L_1440 ?_
  refine g_aload_n (pc := 1441) C d_L_1441 0 rfl rfl ?_
  refine g_iload_n (pc := 1442) C d_L_1442 3 rfl rfl ?_
  refine g_iconst (pc := 1443) C (v := 2) d_L_1443 (by decide) ?_
  refine g_iadd (pc := 1444) C d_L_1444 ?_
  refine g_sld (pc := 1445) C hX hL (q := 2) (by decide) (by omega) d_L_1445 ?_
  refine g_aload_n (pc := 1446) C d_L_1446 0 rfl rfl ?_
  refine g_iload_n (pc := 1447) C d_L_1447 3 rfl rfl ?_
  refine g_iconst (pc := 1448) C (v := 3) d_L_1448 (by decide) ?_
  refine g_iadd (pc := 1449) C d_L_1449 ?_
  refine g_sld (pc := 1450) C hX hL (q := 3) (by decide) (by omega) d_L_1450 ?_
  refine k_I (pc := 1451) (co_V C (c_X_put (xl X) (xD X) (xt X) (xv X) aX x (ys (j + 1)) (ys (j + 2)) (ys (j + 3)) _ hw) mw_X_put lk_L_171 d_L_1451 (List.range 47) (cC_L1 (xt X) aX aM (x, m)) (by decide) (rec_w C 0 5 rfl rfl) rfl rfl ⟨Nat.le_of_ble_eq_true rfl, Nat.le_of_ble_eq_true rfl⟩ ⟨Nat.le_of_ble_eq_true rfl, Nat.le_of_ble_eq_true rfl⟩ (rest := []) rfl rfl (Nat.le_of_ble_eq_true rfl)) (fun x1 => woL (xt X) aX aM (x1, m)) (cS_L1 (xt X) aX aM (x, m)) (fun v1 x1 hw => ?_)
  refine g_aload_n (pc := 1454) C d_L_1454 2 rfl rfl ?_
  refine g_aload_n (pc := 1455) C d_L_1455 0 rfl rfl ?_
  refine g_iload_n (pc := 1456) C d_L_1456 3 rfl rfl ?_
  refine g_iconst (pc := 1457) C (v := 1) d_L_1457 (by decide) ?_
  refine g_iadd (pc := 1458) C d_L_1458 ?_
  refine g_sld (pc := 1459) C hX hL (q := 1) (by decide) (by omega) d_L_1459 ?_
  refine g_aload_n (pc := 1460) C d_L_1460 0 rfl rfl ?_
  refine g_iload_n (pc := 1461) C d_L_1461 3 rfl rfl ?_
  refine g_iconst (pc := 1462) C (v := 2) d_L_1462 (by decide) ?_
  refine g_iadd (pc := 1463) C d_L_1463 ?_
  refine g_sld (pc := 1464) C hX hL (q := 2) (by decide) (by omega) d_L_1464 ?_
  refine g_aload_n (pc := 1465) C d_L_1465 0 rfl rfl ?_
  refine g_iload_n (pc := 1466) C d_L_1466 3 rfl rfl ?_
  refine g_iconst (pc := 1467) C (v := 3) d_L_1467 (by decide) ?_
  refine g_iadd (pc := 1468) C d_L_1468 ?_
  refine g_sld (pc := 1469) C hX hL (q := 3) (by decide) (by omega) d_L_1469 ?_
  refine k_I (pc := 1470) (co_V C (c_M_put (xl X) (xD X) (xt X) (xv X) aM m (ys (j + 1)) (ys (j + 2)) (ys (j + 3)) _ hw) mw_M_put lk_L_174 d_L_1470 ((List.range 14).map (fun i => 47 + i)) (cC_L2 (xt X) aX aM (x1, m)) nd_2 (rec_w C 47 6 rfl rfl) rfl rfl ⟨Nat.le_of_ble_eq_true rfl, Nat.le_of_ble_eq_true rfl⟩ ⟨Nat.le_of_ble_eq_true rfl, Nat.le_of_ble_eq_true rfl⟩ (rest := [.int v1]) rfl rfl (Nat.le_of_ble_eq_true rfl)) (fun m1 => woL (xt X) aX aM (x1, m1)) (cS_L2 (xt X) aX aM (x1, m)) (fun v2 m1 hw => ?_)
  obtain ⟨hv, hw⟩ := hw
  refine g_icmp_eq (pc := 1473) (tgt := 1712) C d_L_1473 (by decide) (fun _ => ?_) (fun h9 => absurd hv h9)
  exact hK x1 m1 hw
def wpl_item (x : XSt) (m : MSt) (a1 a2 a3 a4 : Int32) (K : XSt → MSt → Prop) : Prop := wp_X_item x (a1) (a2) (a3) (fun v1 x1 => wp_M_item m (a1) (a2) (a3) (fun v2 m1 => v1 = v2 ∧ K x1 m1))
set_option maxRecDepth 20000 in
theorem lc_item {X : GX} (C : GC X code "SilenceCanalLaw" 4 room_1) {b L j : Nat} {ys : Nat → Int32} (hX : va_X b L ys (xs X) (xs X).heap ∧ b < (xs X).heap.size ∧ ¬ xA X b) (hL : L ≤ 2560) (hj : j + 5 ≤ L) (aX aM : Nat → Nat) (x : XSt) (m : MSt) (K : XSt → MSt → Prop) (hw : wpl_item x m (ys (j + 1)) (ys (j + 2)) (ys (j + 3)) (ys (j + 4)) K) (hK : ∀ x m, K x m → G X 61 1499 (woL (xt X) aX aM (x, m)) [(0, .ref b), (1, .ref (aX 0)), (2, .ref (aM 0)), (3, .int (nI j))] [] 1712) : G X 61 1499 (woL (xt X) aX aM (x, m)) [(0, .ref b), (1, .ref (aX 0)), (2, .ref (aM 0)), (3, .int (nI j))] [] 1478 := by
  unfold wpl_item at hw
  refine g_aload_n (pc := 1478) C d_L_1478 1 rfl rfl ?_
  refine g_aload_n (pc := 1479) C d_L_1479 0 rfl rfl ?_
  refine g_iload_n (pc := 1480) C d_L_1480 3 rfl rfl ?_
  refine g_iconst (pc := 1481) C (v := 1) d_L_1481 (by decide) ?_
  refine g_iadd (pc := 1482) C d_L_1482 ?_
  refine g_sld (pc := 1483) C hX hL (q := 1) (by decide) (by omega) d_L_1483 ?_
  refine g_aload_n (pc := 1484) C d_L_1484 0 rfl rfl ?_
  refine g_iload_n (pc := 1485) C d_L_1485 3 rfl rfl ?_
  refine g_iconst (pc := 1486) C (v := 2) d_L_1486 (by decide) ?_
  refine g_iadd (pc := 1487) C d_L_1487 ?_
  refine g_sld (pc := 1488) C hX hL (q := 2) (by decide) (by omega) d_L_1488 ?_
  refine g_aload_n (pc := 1489) C d_L_1489 0 rfl rfl ?_
  refine g_iload_n (pc := 1490) C d_L_1490 3 rfl rfl ?_
  refine g_iconst (pc := 1491) C (v := 3) d_L_1491 (by decide) ?_
  refine g_iadd (pc := 1492) C d_L_1492 ?_
  refine g_sld (pc := 1493) C hX hL (q := 3) (by decide) (by omega) d_L_1493 ?_
  refine k_I (pc := 1494) (co_V C (c_X_item (xl X) (xD X) (xt X) (xv X) aX x (ys (j + 1)) (ys (j + 2)) (ys (j + 3)) _ hw) mw_X_item lk_L_175 d_L_1494 (List.range 47) (cC_L1 (xt X) aX aM (x, m)) (by decide) (rec_w C 0 5 rfl rfl) rfl rfl ⟨Nat.le_of_ble_eq_true rfl, Nat.le_of_ble_eq_true rfl⟩ ⟨Nat.le_of_ble_eq_true rfl, Nat.le_of_ble_eq_true rfl⟩ (rest := []) rfl rfl (Nat.le_of_ble_eq_true rfl)) (fun x1 => woL (xt X) aX aM (x1, m)) (cS_L1 (xt X) aX aM (x, m)) (fun v1 x1 hw => ?_)
  refine g_aload_n (pc := 1497) C d_L_1497 2 rfl rfl ?_
  refine g_aload_n (pc := 1498) C d_L_1498 0 rfl rfl ?_
  refine g_iload_n (pc := 1499) C d_L_1499 3 rfl rfl ?_
  refine g_iconst (pc := 1500) C (v := 1) d_L_1500 (by decide) ?_
  refine g_iadd (pc := 1501) C d_L_1501 ?_
  refine g_sld (pc := 1502) C hX hL (q := 1) (by decide) (by omega) d_L_1502 ?_
  refine g_aload_n (pc := 1503) C d_L_1503 0 rfl rfl ?_
  refine g_iload_n (pc := 1504) C d_L_1504 3 rfl rfl ?_
  refine g_iconst (pc := 1505) C (v := 2) d_L_1505 (by decide) ?_
  refine g_iadd (pc := 1506) C d_L_1506 ?_
  refine g_sld (pc := 1507) C hX hL (q := 2) (by decide) (by omega) d_L_1507 ?_
  refine g_aload_n (pc := 1508) C d_L_1508 0 rfl rfl ?_
  refine g_iload_n (pc := 1509) C d_L_1509 3 rfl rfl ?_
  refine g_iconst (pc := 1510) C (v := 3) d_L_1510 (by decide) ?_
  refine g_iadd (pc := 1511) C d_L_1511 ?_
  refine g_sld (pc := 1512) C hX hL (q := 3) (by decide) (by omega) d_L_1512 ?_
  refine k_I (pc := 1513) (co_V C (c_M_item (xl X) (xD X) (xt X) (xv X) aM m (ys (j + 1)) (ys (j + 2)) (ys (j + 3)) _ hw) mw_M_item lk_L_178 d_L_1513 ((List.range 14).map (fun i => 47 + i)) (cC_L2 (xt X) aX aM (x1, m)) nd_2 (rec_w C 47 6 rfl rfl) rfl rfl ⟨Nat.le_of_ble_eq_true rfl, Nat.le_of_ble_eq_true rfl⟩ ⟨Nat.le_of_ble_eq_true rfl, Nat.le_of_ble_eq_true rfl⟩ (rest := [.int v1]) rfl rfl (Nat.le_of_ble_eq_true rfl)) (fun m1 => woL (xt X) aX aM (x1, m1)) (cS_L2 (xt X) aX aM (x1, m)) (fun v2 m1 hw => ?_)
  obtain ⟨hv, hw⟩ := hw
  refine g_icmp_eq (pc := 1516) (tgt := 1712) C d_L_1516 (by decide) (fun _ => ?_) (fun h9 => absurd hv h9)
  exact hK x1 m1 hw
def wpl_shelf (x : XSt) (m : MSt) (a1 a2 a3 a4 : Int32) (K : XSt → MSt → Prop) : Prop := wp_X_shelf x (a1) (a2) (a3) (fun v1 x1 => wp_M_shelf m (a1) (a2) (a3) (fun v2 m1 => v1 = v2 ∧ K x1 m1))
set_option maxRecDepth 20000 in
theorem lc_shelf {X : GX} (C : GC X code "SilenceCanalLaw" 4 room_1) {b L j : Nat} {ys : Nat → Int32} (hX : va_X b L ys (xs X) (xs X).heap ∧ b < (xs X).heap.size ∧ ¬ xA X b) (hL : L ≤ 2560) (hj : j + 5 ≤ L) (aX aM : Nat → Nat) (x : XSt) (m : MSt) (K : XSt → MSt → Prop) (hw : wpl_shelf x m (ys (j + 1)) (ys (j + 2)) (ys (j + 3)) (ys (j + 4)) K) (hK : ∀ x m, K x m → G X 61 1499 (woL (xt X) aX aM (x, m)) [(0, .ref b), (1, .ref (aX 0)), (2, .ref (aM 0)), (3, .int (nI j))] [] 1712) : G X 61 1499 (woL (xt X) aX aM (x, m)) [(0, .ref b), (1, .ref (aX 0)), (2, .ref (aM 0)), (3, .int (nI j))] [] 1521 := by
  unfold wpl_shelf at hw
  refine g_aload_n (pc := 1521) C d_L_1521 1 rfl rfl ?_
  refine g_aload_n (pc := 1522) C d_L_1522 0 rfl rfl ?_
  refine g_iload_n (pc := 1523) C d_L_1523 3 rfl rfl ?_
  refine g_iconst (pc := 1524) C (v := 1) d_L_1524 (by decide) ?_
  refine g_iadd (pc := 1525) C d_L_1525 ?_
  refine g_sld (pc := 1526) C hX hL (q := 1) (by decide) (by omega) d_L_1526 ?_
  refine g_aload_n (pc := 1527) C d_L_1527 0 rfl rfl ?_
  refine g_iload_n (pc := 1528) C d_L_1528 3 rfl rfl ?_
  refine g_iconst (pc := 1529) C (v := 2) d_L_1529 (by decide) ?_
  refine g_iadd (pc := 1530) C d_L_1530 ?_
  refine g_sld (pc := 1531) C hX hL (q := 2) (by decide) (by omega) d_L_1531 ?_
  refine g_aload_n (pc := 1532) C d_L_1532 0 rfl rfl ?_
  refine g_iload_n (pc := 1533) C d_L_1533 3 rfl rfl ?_
  refine g_iconst (pc := 1534) C (v := 3) d_L_1534 (by decide) ?_
  refine g_iadd (pc := 1535) C d_L_1535 ?_
  refine g_sld (pc := 1536) C hX hL (q := 3) (by decide) (by omega) d_L_1536 ?_
  refine k_I (pc := 1537) (co_V C (c_X_shelf (xl X) (xD X) (xt X) (xv X) aX x (ys (j + 1)) (ys (j + 2)) (ys (j + 3)) _ hw) mw_X_shelf lk_L_179 d_L_1537 (List.range 47) (cC_L1 (xt X) aX aM (x, m)) (by decide) (rec_w C 0 5 rfl rfl) rfl rfl ⟨Nat.le_of_ble_eq_true rfl, Nat.le_of_ble_eq_true rfl⟩ ⟨Nat.le_of_ble_eq_true rfl, Nat.le_of_ble_eq_true rfl⟩ (rest := []) rfl rfl (Nat.le_of_ble_eq_true rfl)) (fun x1 => woL (xt X) aX aM (x1, m)) (cS_L1 (xt X) aX aM (x, m)) (fun v1 x1 hw => ?_)
  refine g_aload_n (pc := 1540) C d_L_1540 2 rfl rfl ?_
  refine g_aload_n (pc := 1541) C d_L_1541 0 rfl rfl ?_
  refine g_iload_n (pc := 1542) C d_L_1542 3 rfl rfl ?_
  refine g_iconst (pc := 1543) C (v := 1) d_L_1543 (by decide) ?_
  refine g_iadd (pc := 1544) C d_L_1544 ?_
  refine g_sld (pc := 1545) C hX hL (q := 1) (by decide) (by omega) d_L_1545 ?_
  refine g_aload_n (pc := 1546) C d_L_1546 0 rfl rfl ?_
  refine g_iload_n (pc := 1547) C d_L_1547 3 rfl rfl ?_
  refine g_iconst (pc := 1548) C (v := 2) d_L_1548 (by decide) ?_
  refine g_iadd (pc := 1549) C d_L_1549 ?_
  refine g_sld (pc := 1550) C hX hL (q := 2) (by decide) (by omega) d_L_1550 ?_
  refine g_aload_n (pc := 1551) C d_L_1551 0 rfl rfl ?_
  refine g_iload_n (pc := 1552) C d_L_1552 3 rfl rfl ?_
  refine g_iconst (pc := 1553) C (v := 3) d_L_1553 (by decide) ?_
  refine g_iadd (pc := 1554) C d_L_1554 ?_
  refine g_sld (pc := 1555) C hX hL (q := 3) (by decide) (by omega) d_L_1555 ?_
  refine k_I (pc := 1556) (co_V C (c_M_shelf (xl X) (xD X) (xt X) (xv X) aM m (ys (j + 1)) (ys (j + 2)) (ys (j + 3)) _ hw) mw_M_shelf lk_L_182 d_L_1556 ((List.range 14).map (fun i => 47 + i)) (cC_L2 (xt X) aX aM (x1, m)) nd_2 (rec_w C 47 6 rfl rfl) rfl rfl ⟨Nat.le_of_ble_eq_true rfl, Nat.le_of_ble_eq_true rfl⟩ ⟨Nat.le_of_ble_eq_true rfl, Nat.le_of_ble_eq_true rfl⟩ (rest := [.int v1]) rfl rfl (Nat.le_of_ble_eq_true rfl)) (fun m1 => woL (xt X) aX aM (x1, m1)) (cS_L2 (xt X) aX aM (x1, m)) (fun v2 m1 hw => ?_)
  obtain ⟨hv, hw⟩ := hw
  refine g_icmp_eq (pc := 1559) (tgt := 1712) C d_L_1559 (by decide) (fun _ => ?_) (fun h9 => absurd hv h9)
  exact hK x1 m1 hw
def wpl_taken (x : XSt) (m : MSt) (a1 a2 a3 a4 : Int32) (K : XSt → MSt → Prop) : Prop := wp_X_taken x (a1) (a2) (fun v1 x1 => wp_M_taken m (a1) (a2) (fun v2 m1 => v1 = v2 ∧ K x1 m1))
set_option maxRecDepth 20000 in
theorem lc_taken {X : GX} (C : GC X code "SilenceCanalLaw" 4 room_1) {b L j : Nat} {ys : Nat → Int32} (hX : va_X b L ys (xs X) (xs X).heap ∧ b < (xs X).heap.size ∧ ¬ xA X b) (hL : L ≤ 2560) (hj : j + 5 ≤ L) (aX aM : Nat → Nat) (x : XSt) (m : MSt) (K : XSt → MSt → Prop) (hw : wpl_taken x m (ys (j + 1)) (ys (j + 2)) (ys (j + 3)) (ys (j + 4)) K) (hK : ∀ x m, K x m → G X 61 1499 (woL (xt X) aX aM (x, m)) [(0, .ref b), (1, .ref (aX 0)), (2, .ref (aM 0)), (3, .int (nI j))] [] 1712) : G X 61 1499 (woL (xt X) aX aM (x, m)) [(0, .ref b), (1, .ref (aX 0)), (2, .ref (aM 0)), (3, .int (nI j))] [] 1564 := by
  unfold wpl_taken at hw
  refine g_aload_n (pc := 1564) C d_L_1564 1 rfl rfl ?_
  refine g_aload_n (pc := 1565) C d_L_1565 0 rfl rfl ?_
  refine g_iload_n (pc := 1566) C d_L_1566 3 rfl rfl ?_
  refine g_iconst (pc := 1567) C (v := 1) d_L_1567 (by decide) ?_
  refine g_iadd (pc := 1568) C d_L_1568 ?_
  refine g_sld (pc := 1569) C hX hL (q := 1) (by decide) (by omega) d_L_1569 ?_
  refine g_aload_n (pc := 1570) C d_L_1570 0 rfl rfl ?_
  refine g_iload_n (pc := 1571) C d_L_1571 3 rfl rfl ?_
  refine g_iconst (pc := 1572) C (v := 2) d_L_1572 (by decide) ?_
  refine g_iadd (pc := 1573) C d_L_1573 ?_
  refine g_sld (pc := 1574) C hX hL (q := 2) (by decide) (by omega) d_L_1574 ?_
  refine k_I (pc := 1575) (co_V C (c_X_taken (xl X) (xD X) (xt X) (xv X) aX x (ys (j + 1)) (ys (j + 2)) _ hw) mw_X_taken lk_L_183 d_L_1575 (List.range 47) (cC_L1 (xt X) aX aM (x, m)) (by decide) (rec_w C 0 5 rfl rfl) rfl rfl ⟨Nat.le_of_ble_eq_true rfl, Nat.le_of_ble_eq_true rfl⟩ ⟨Nat.le_of_ble_eq_true rfl, Nat.le_of_ble_eq_true rfl⟩ (rest := []) rfl rfl (Nat.le_of_ble_eq_true rfl)) (fun x1 => woL (xt X) aX aM (x1, m)) (cS_L1 (xt X) aX aM (x, m)) (fun v1 x1 hw => ?_)
  refine g_aload_n (pc := 1578) C d_L_1578 2 rfl rfl ?_
  refine g_aload_n (pc := 1579) C d_L_1579 0 rfl rfl ?_
  refine g_iload_n (pc := 1580) C d_L_1580 3 rfl rfl ?_
  refine g_iconst (pc := 1581) C (v := 1) d_L_1581 (by decide) ?_
  refine g_iadd (pc := 1582) C d_L_1582 ?_
  refine g_sld (pc := 1583) C hX hL (q := 1) (by decide) (by omega) d_L_1583 ?_
  refine g_aload_n (pc := 1584) C d_L_1584 0 rfl rfl ?_
  refine g_iload_n (pc := 1585) C d_L_1585 3 rfl rfl ?_
  refine g_iconst (pc := 1586) C (v := 2) d_L_1586 (by decide) ?_
  refine g_iadd (pc := 1587) C d_L_1587 ?_
  refine g_sld (pc := 1588) C hX hL (q := 2) (by decide) (by omega) d_L_1588 ?_
  refine k_I (pc := 1589) (co_V C (c_M_taken (xl X) (xD X) (xt X) (xv X) aM m (ys (j + 1)) (ys (j + 2)) _ hw) mw_M_taken lk_L_186 d_L_1589 ((List.range 14).map (fun i => 47 + i)) (cC_L2 (xt X) aX aM (x1, m)) nd_2 (rec_w C 47 6 rfl rfl) rfl rfl ⟨Nat.le_of_ble_eq_true rfl, Nat.le_of_ble_eq_true rfl⟩ ⟨Nat.le_of_ble_eq_true rfl, Nat.le_of_ble_eq_true rfl⟩ (rest := [.int v1]) rfl rfl (Nat.le_of_ble_eq_true rfl)) (fun m1 => woL (xt X) aX aM (x1, m1)) (cS_L2 (xt X) aX aM (x1, m)) (fun v2 m1 hw => ?_)
  obtain ⟨hv, hw⟩ := hw
  refine g_icmp_eq (pc := 1592) (tgt := 1712) C d_L_1592 (by decide) (fun _ => ?_) (fun h9 => absurd hv h9)
  exact hK x1 m1 hw
def wpl_act (x : XSt) (m : MSt) (a1 a2 a3 a4 : Int32) (K : XSt → MSt → Prop) : Prop := wp_X_act x (a1) (a2) (a3) (fun v1 x1 => wp_M_act m (a1) (a2) (a3) (fun v2 m1 => v1 = v2 ∧ K x1 m1))
set_option maxRecDepth 20000 in
theorem lc_act {X : GX} (C : GC X code "SilenceCanalLaw" 4 room_1) {b L j : Nat} {ys : Nat → Int32} (hX : va_X b L ys (xs X) (xs X).heap ∧ b < (xs X).heap.size ∧ ¬ xA X b) (hL : L ≤ 2560) (hj : j + 5 ≤ L) (aX aM : Nat → Nat) (x : XSt) (m : MSt) (K : XSt → MSt → Prop) (hw : wpl_act x m (ys (j + 1)) (ys (j + 2)) (ys (j + 3)) (ys (j + 4)) K) (hK : ∀ x m, K x m → G X 61 1499 (woL (xt X) aX aM (x, m)) [(0, .ref b), (1, .ref (aX 0)), (2, .ref (aM 0)), (3, .int (nI j))] [] 1712) : G X 61 1499 (woL (xt X) aX aM (x, m)) [(0, .ref b), (1, .ref (aX 0)), (2, .ref (aM 0)), (3, .int (nI j))] [] 1597 := by
  unfold wpl_act at hw
  refine g_aload_n (pc := 1597) C d_L_1597 1 rfl rfl ?_
  refine g_aload_n (pc := 1598) C d_L_1598 0 rfl rfl ?_
  refine g_iload_n (pc := 1599) C d_L_1599 3 rfl rfl ?_
  refine g_iconst (pc := 1600) C (v := 1) d_L_1600 (by decide) ?_
  refine g_iadd (pc := 1601) C d_L_1601 ?_
  refine g_sld (pc := 1602) C hX hL (q := 1) (by decide) (by omega) d_L_1602 ?_
  refine g_aload_n (pc := 1603) C d_L_1603 0 rfl rfl ?_
  refine g_iload_n (pc := 1604) C d_L_1604 3 rfl rfl ?_
  refine g_iconst (pc := 1605) C (v := 2) d_L_1605 (by decide) ?_
  refine g_iadd (pc := 1606) C d_L_1606 ?_
  refine g_sld (pc := 1607) C hX hL (q := 2) (by decide) (by omega) d_L_1607 ?_
  refine g_aload_n (pc := 1608) C d_L_1608 0 rfl rfl ?_
  refine g_iload_n (pc := 1609) C d_L_1609 3 rfl rfl ?_
  refine g_iconst (pc := 1610) C (v := 3) d_L_1610 (by decide) ?_
  refine g_iadd (pc := 1611) C d_L_1611 ?_
  refine g_sld (pc := 1612) C hX hL (q := 3) (by decide) (by omega) d_L_1612 ?_
  refine k_I (pc := 1613) (co_V C (c_X_act (xl X) (xD X) (xt X) (xv X) aX x (ys (j + 1)) (ys (j + 2)) (ys (j + 3)) _ hw) mw_X_act lk_L_187 d_L_1613 (List.range 47) (cC_L1 (xt X) aX aM (x, m)) (by decide) (rec_w C 0 5 rfl rfl) rfl rfl ⟨Nat.le_of_ble_eq_true rfl, Nat.le_of_ble_eq_true rfl⟩ ⟨Nat.le_of_ble_eq_true rfl, Nat.le_of_ble_eq_true rfl⟩ (rest := []) rfl rfl (Nat.le_of_ble_eq_true rfl)) (fun x1 => woL (xt X) aX aM (x1, m)) (cS_L1 (xt X) aX aM (x, m)) (fun v1 x1 hw => ?_)
  refine g_aload_n (pc := 1616) C d_L_1616 2 rfl rfl ?_
  refine g_aload_n (pc := 1617) C d_L_1617 0 rfl rfl ?_
  refine g_iload_n (pc := 1618) C d_L_1618 3 rfl rfl ?_
  refine g_iconst (pc := 1619) C (v := 1) d_L_1619 (by decide) ?_
  refine g_iadd (pc := 1620) C d_L_1620 ?_
  refine g_sld (pc := 1621) C hX hL (q := 1) (by decide) (by omega) d_L_1621 ?_
  refine g_aload_n (pc := 1622) C d_L_1622 0 rfl rfl ?_
  refine g_iload_n (pc := 1623) C d_L_1623 3 rfl rfl ?_
  refine g_iconst (pc := 1624) C (v := 2) d_L_1624 (by decide) ?_
  refine g_iadd (pc := 1625) C d_L_1625 ?_
  refine g_sld (pc := 1626) C hX hL (q := 2) (by decide) (by omega) d_L_1626 ?_
  refine g_aload_n (pc := 1627) C d_L_1627 0 rfl rfl ?_
  refine g_iload_n (pc := 1628) C d_L_1628 3 rfl rfl ?_
  refine g_iconst (pc := 1629) C (v := 3) d_L_1629 (by decide) ?_
  refine g_iadd (pc := 1630) C d_L_1630 ?_
  refine g_sld (pc := 1631) C hX hL (q := 3) (by decide) (by omega) d_L_1631 ?_
  refine k_I (pc := 1632) (co_V C (c_M_act (xl X) (xD X) (xt X) (xv X) aM m (ys (j + 1)) (ys (j + 2)) (ys (j + 3)) _ hw) mw_M_act lk_L_190 d_L_1632 ((List.range 14).map (fun i => 47 + i)) (cC_L2 (xt X) aX aM (x1, m)) nd_2 (rec_w C 47 6 rfl rfl) rfl rfl ⟨Nat.le_of_ble_eq_true rfl, Nat.le_of_ble_eq_true rfl⟩ ⟨Nat.le_of_ble_eq_true rfl, Nat.le_of_ble_eq_true rfl⟩ (rest := [.int v1]) rfl rfl (Nat.le_of_ble_eq_true rfl)) (fun m1 => woL (xt X) aX aM (x1, m1)) (cS_L2 (xt X) aX aM (x1, m)) (fun v2 m1 hw => ?_)
  obtain ⟨hv, hw⟩ := hw
  refine g_icmp_eq (pc := 1635) (tgt := 1712) C d_L_1635 (by decide) (fun _ => ?_) (fun h9 => absurd hv h9)
  exact hK x1 m1 hw
def wpl_trace (x : XSt) (m : MSt) (a1 a2 a3 a4 : Int32) (K : XSt → MSt → Prop) : Prop := wp_X_trace x (a1) (fun v1 x1 => wp_M_trace m (a1) (fun v2 m1 => v1 = v2 ∧ K x1 m1))
set_option maxRecDepth 20000 in
theorem lc_trace {X : GX} (C : GC X code "SilenceCanalLaw" 4 room_1) {b L j : Nat} {ys : Nat → Int32} (hX : va_X b L ys (xs X) (xs X).heap ∧ b < (xs X).heap.size ∧ ¬ xA X b) (hL : L ≤ 2560) (hj : j + 5 ≤ L) (aX aM : Nat → Nat) (x : XSt) (m : MSt) (K : XSt → MSt → Prop) (hw : wpl_trace x m (ys (j + 1)) (ys (j + 2)) (ys (j + 3)) (ys (j + 4)) K) (hK : ∀ x m, K x m → G X 61 1499 (woL (xt X) aX aM (x, m)) [(0, .ref b), (1, .ref (aX 0)), (2, .ref (aM 0)), (3, .int (nI j))] [] 1712) : G X 61 1499 (woL (xt X) aX aM (x, m)) [(0, .ref b), (1, .ref (aX 0)), (2, .ref (aM 0)), (3, .int (nI j))] [] 1640 := by
  unfold wpl_trace at hw
  refine g_aload_n (pc := 1640) C d_L_1640 1 rfl rfl ?_
  refine g_aload_n (pc := 1641) C d_L_1641 0 rfl rfl ?_
  refine g_iload_n (pc := 1642) C d_L_1642 3 rfl rfl ?_
  refine g_iconst (pc := 1643) C (v := 1) d_L_1643 (by decide) ?_
  refine g_iadd (pc := 1644) C d_L_1644 ?_
  refine g_sld (pc := 1645) C hX hL (q := 1) (by decide) (by omega) d_L_1645 ?_
  refine k_I (pc := 1646) (co_V C (c_X_trace (xl X) (xD X) (xt X) (xv X) aX x (ys (j + 1)) _ hw) mw_X_trace lk_L_191 d_L_1646 (List.range 47) (cC_L1 (xt X) aX aM (x, m)) (by decide) (rec_w C 0 5 rfl rfl) rfl rfl ⟨Nat.le_of_ble_eq_true rfl, Nat.le_of_ble_eq_true rfl⟩ ⟨Nat.le_of_ble_eq_true rfl, Nat.le_of_ble_eq_true rfl⟩ (rest := []) rfl rfl (Nat.le_of_ble_eq_true rfl)) (fun x1 => woL (xt X) aX aM (x1, m)) (cS_L1 (xt X) aX aM (x, m)) (fun v1 x1 hw => ?_)
  refine g_aload_n (pc := 1649) C d_L_1649 2 rfl rfl ?_
  refine g_aload_n (pc := 1650) C d_L_1650 0 rfl rfl ?_
  refine g_iload_n (pc := 1651) C d_L_1651 3 rfl rfl ?_
  refine g_iconst (pc := 1652) C (v := 1) d_L_1652 (by decide) ?_
  refine g_iadd (pc := 1653) C d_L_1653 ?_
  refine g_sld (pc := 1654) C hX hL (q := 1) (by decide) (by omega) d_L_1654 ?_
  refine k_I (pc := 1655) (co_V C (c_M_trace (xl X) (xD X) (xt X) (xv X) aM m (ys (j + 1)) _ hw) mw_M_trace lk_L_194 d_L_1655 ((List.range 14).map (fun i => 47 + i)) (cC_L2 (xt X) aX aM (x1, m)) nd_2 (rec_w C 47 6 rfl rfl) rfl rfl ⟨Nat.le_of_ble_eq_true rfl, Nat.le_of_ble_eq_true rfl⟩ ⟨Nat.le_of_ble_eq_true rfl, Nat.le_of_ble_eq_true rfl⟩ (rest := [.int v1]) rfl rfl (Nat.le_of_ble_eq_true rfl)) (fun m1 => woL (xt X) aX aM (x1, m1)) (cS_L2 (xt X) aX aM (x1, m)) (fun v2 m1 hw => ?_)
  obtain ⟨hv, hw⟩ := hw
  refine g_icmp_eq (pc := 1658) (tgt := 1712) C d_L_1658 (by decide) (fun _ => ?_) (fun h9 => absurd hv h9)
  exact hK x1 m1 hw
def wpl_many (x : XSt) (m : MSt) (a1 a2 a3 a4 : Int32) (K : XSt → MSt → Prop) : Prop := wp_X_many x (a1) (fun v1 x1 => wp_M_many m (a1) (fun v2 m1 => v1 = v2 ∧ K x1 m1))
set_option maxRecDepth 20000 in
theorem lc_many {X : GX} (C : GC X code "SilenceCanalLaw" 4 room_1) {b L j : Nat} {ys : Nat → Int32} (hX : va_X b L ys (xs X) (xs X).heap ∧ b < (xs X).heap.size ∧ ¬ xA X b) (hL : L ≤ 2560) (hj : j + 5 ≤ L) (aX aM : Nat → Nat) (x : XSt) (m : MSt) (K : XSt → MSt → Prop) (hw : wpl_many x m (ys (j + 1)) (ys (j + 2)) (ys (j + 3)) (ys (j + 4)) K) (hK : ∀ x m, K x m → G X 61 1499 (woL (xt X) aX aM (x, m)) [(0, .ref b), (1, .ref (aX 0)), (2, .ref (aM 0)), (3, .int (nI j))] [] 1712) : G X 61 1499 (woL (xt X) aX aM (x, m)) [(0, .ref b), (1, .ref (aX 0)), (2, .ref (aM 0)), (3, .int (nI j))] [] 1663 := by
  unfold wpl_many at hw
  refine g_aload_n (pc := 1663) C d_L_1663 1 rfl rfl ?_
  refine g_aload_n (pc := 1664) C d_L_1664 0 rfl rfl ?_
  refine g_iload_n (pc := 1665) C d_L_1665 3 rfl rfl ?_
  refine g_iconst (pc := 1666) C (v := 1) d_L_1666 (by decide) ?_
  refine g_iadd (pc := 1667) C d_L_1667 ?_
  refine g_sld (pc := 1668) C hX hL (q := 1) (by decide) (by omega) d_L_1668 ?_
  refine k_I (pc := 1669) (co_V C (c_X_many (xl X) (xD X) (xt X) (xv X) aX x (ys (j + 1)) _ hw) mw_X_many lk_L_195 d_L_1669 (List.range 47) (cC_L1 (xt X) aX aM (x, m)) (by decide) (rec_w C 0 5 rfl rfl) rfl rfl ⟨Nat.le_of_ble_eq_true rfl, Nat.le_of_ble_eq_true rfl⟩ ⟨Nat.le_of_ble_eq_true rfl, Nat.le_of_ble_eq_true rfl⟩ (rest := []) rfl rfl (Nat.le_of_ble_eq_true rfl)) (fun x1 => woL (xt X) aX aM (x1, m)) (cS_L1 (xt X) aX aM (x, m)) (fun v1 x1 hw => ?_)
  refine g_aload_n (pc := 1672) C d_L_1672 2 rfl rfl ?_
  refine g_aload_n (pc := 1673) C d_L_1673 0 rfl rfl ?_
  refine g_iload_n (pc := 1674) C d_L_1674 3 rfl rfl ?_
  refine g_iconst (pc := 1675) C (v := 1) d_L_1675 (by decide) ?_
  refine g_iadd (pc := 1676) C d_L_1676 ?_
  refine g_sld (pc := 1677) C hX hL (q := 1) (by decide) (by omega) d_L_1677 ?_
  refine k_I (pc := 1678) (co_V C (c_M_many (xl X) (xD X) (xt X) (xv X) aM m (ys (j + 1)) _ hw) mw_M_many lk_L_198 d_L_1678 ((List.range 14).map (fun i => 47 + i)) (cC_L2 (xt X) aX aM (x1, m)) nd_2 (rec_w C 47 6 rfl rfl) rfl rfl ⟨Nat.le_of_ble_eq_true rfl, Nat.le_of_ble_eq_true rfl⟩ ⟨Nat.le_of_ble_eq_true rfl, Nat.le_of_ble_eq_true rfl⟩ (rest := [.int v1]) rfl rfl (Nat.le_of_ble_eq_true rfl)) (fun m1 => woL (xt X) aX aM (x1, m1)) (cS_L2 (xt X) aX aM (x1, m)) (fun v2 m1 hw => ?_)
  obtain ⟨hv, hw⟩ := hw
  refine g_icmp_eq (pc := 1681) (tgt := 1712) C d_L_1681 (by decide) (fun _ => ?_) (fun h9 => absurd hv h9)
  exact hK x1 m1 hw
def wpl_keep (x : XSt) (m : MSt) (a1 a2 a3 a4 : Int32) (K : XSt → MSt → Prop) : Prop := wp_X_keep x  (fun v1 x1 => wp_M_keep m  (fun v2 m1 => v1 = v2 ∧ K x1 m1))
set_option maxRecDepth 20000 in
theorem lc_keep {X : GX} (C : GC X code "SilenceCanalLaw" 4 room_1) {b L j : Nat} {ys : Nat → Int32} (hX : va_X b L ys (xs X) (xs X).heap ∧ b < (xs X).heap.size ∧ ¬ xA X b) (hL : L ≤ 2560) (hj : j + 5 ≤ L) (aX aM : Nat → Nat) (x : XSt) (m : MSt) (K : XSt → MSt → Prop) (hw : wpl_keep x m (ys (j + 1)) (ys (j + 2)) (ys (j + 3)) (ys (j + 4)) K) (hK : ∀ x m, K x m → G X 61 1499 (woL (xt X) aX aM (x, m)) [(0, .ref b), (1, .ref (aX 0)), (2, .ref (aM 0)), (3, .int (nI j))] [] 1712) : G X 61 1499 (woL (xt X) aX aM (x, m)) [(0, .ref b), (1, .ref (aX 0)), (2, .ref (aM 0)), (3, .int (nI j))] [] 1686 := by
  unfold wpl_keep at hw
  refine g_aload_n (pc := 1686) C d_L_1686 1 rfl rfl ?_
  refine k_I (pc := 1687) (co_V C (c_X_keep (xl X) (xD X) (xt X) (xv X) aX x  _ hw) mw_X_keep lk_L_199 d_L_1687 (List.range 47) (cC_L1 (xt X) aX aM (x, m)) (by decide) (rec_w C 0 5 rfl rfl) rfl rfl ⟨Nat.le_of_ble_eq_true rfl, Nat.le_of_ble_eq_true rfl⟩ ⟨Nat.le_of_ble_eq_true rfl, Nat.le_of_ble_eq_true rfl⟩ (rest := []) rfl rfl (Nat.le_of_ble_eq_true rfl)) (fun x1 => woL (xt X) aX aM (x1, m)) (cS_L1 (xt X) aX aM (x, m)) (fun v1 x1 hw => ?_)
  refine g_aload_n (pc := 1690) C d_L_1690 2 rfl rfl ?_
  refine k_I (pc := 1691) (co_V C (c_M_keep (xl X) (xD X) (xt X) (xv X) aM m  _ hw) mw_M_keep lk_L_202 d_L_1691 ((List.range 14).map (fun i => 47 + i)) (cC_L2 (xt X) aX aM (x1, m)) nd_2 (rec_w C 47 6 rfl rfl) rfl rfl ⟨Nat.le_of_ble_eq_true rfl, Nat.le_of_ble_eq_true rfl⟩ ⟨Nat.le_of_ble_eq_true rfl, Nat.le_of_ble_eq_true rfl⟩ (rest := [.int v1]) rfl rfl (Nat.le_of_ble_eq_true rfl)) (fun m1 => woL (xt X) aX aM (x1, m1)) (cS_L2 (xt X) aX aM (x1, m)) (fun v2 m1 hw => ?_)
  obtain ⟨hv, hw⟩ := hw
  refine g_icmp_eq (pc := 1694) (tgt := 1712) C d_L_1694 (by decide) (fun _ => ?_) (fun h9 => absurd hv h9)
  exact hK x1 m1 hw
def wpl_again (x : XSt) (m : MSt) (a1 a2 a3 a4 : Int32) (K : XSt → MSt → Prop) : Prop := wp_X_again x  (fun v1 x1 => wp_M_again m  (fun v2 m1 => v1 = v2 ∧ K x1 m1))
set_option maxRecDepth 20000 in
theorem lc_again {X : GX} (C : GC X code "SilenceCanalLaw" 4 room_1) {b L j : Nat} {ys : Nat → Int32} (hX : va_X b L ys (xs X) (xs X).heap ∧ b < (xs X).heap.size ∧ ¬ xA X b) (hL : L ≤ 2560) (hj : j + 5 ≤ L) (aX aM : Nat → Nat) (x : XSt) (m : MSt) (K : XSt → MSt → Prop) (hw : wpl_again x m (ys (j + 1)) (ys (j + 2)) (ys (j + 3)) (ys (j + 4)) K) (hK : ∀ x m, K x m → G X 61 1499 (woL (xt X) aX aM (x, m)) [(0, .ref b), (1, .ref (aX 0)), (2, .ref (aM 0)), (3, .int (nI j))] [] 1712) : G X 61 1499 (woL (xt X) aX aM (x, m)) [(0, .ref b), (1, .ref (aX 0)), (2, .ref (aM 0)), (3, .int (nI j))] [] 1699 := by
  unfold wpl_again at hw
  refine g_aload_n (pc := 1699) C d_L_1699 1 rfl rfl ?_
  refine k_I (pc := 1700) (co_V C (c_X_again (xl X) (xD X) (xt X) (xv X) aX x  _ hw) mw_X_again lk_L_203 d_L_1700 (List.range 47) (cC_L1 (xt X) aX aM (x, m)) (by decide) (rec_w C 0 5 rfl rfl) rfl rfl ⟨Nat.le_of_ble_eq_true rfl, Nat.le_of_ble_eq_true rfl⟩ ⟨Nat.le_of_ble_eq_true rfl, Nat.le_of_ble_eq_true rfl⟩ (rest := []) rfl rfl (Nat.le_of_ble_eq_true rfl)) (fun x1 => woL (xt X) aX aM (x1, m)) (cS_L1 (xt X) aX aM (x, m)) (fun v1 x1 hw => ?_)
  refine g_aload_n (pc := 1703) C d_L_1703 2 rfl rfl ?_
  refine k_I (pc := 1704) (co_V C (c_M_again (xl X) (xD X) (xt X) (xv X) aM m  _ hw) mw_M_again lk_L_206 d_L_1704 ((List.range 14).map (fun i => 47 + i)) (cC_L2 (xt X) aX aM (x1, m)) nd_2 (rec_w C 47 6 rfl rfl) rfl rfl ⟨Nat.le_of_ble_eq_true rfl, Nat.le_of_ble_eq_true rfl⟩ ⟨Nat.le_of_ble_eq_true rfl, Nat.le_of_ble_eq_true rfl⟩ (rest := [.int v1]) rfl rfl (Nat.le_of_ble_eq_true rfl)) (fun m1 => woL (xt X) aX aM (x1, m1)) (cS_L2 (xt X) aX aM (x1, m)) (fun v2 m1 hw => ?_)
  obtain ⟨hv, hw⟩ := hw
  refine g_icmp_eq (pc := 1707) (tgt := 1712) C d_L_1707 (by decide) (fun _ => ?_) (fun h9 => absurd hv h9)
  exact hK x1 m1 hw
