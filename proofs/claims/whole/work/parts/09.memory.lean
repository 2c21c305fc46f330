theorem g_nat {x : Int} (h : 0 ≤ x) : ∃ a : Nat, x = (a : Int) := ⟨x.toNat, by omega⟩
theorem g_nI (a : Nat) : Int32.ofInt (a : Int) = nI a := Int32.ofInt_eq_ofNat
theorem g_lN (a : Nat) : Int64.ofInt (a : Int) = lN a := Int64.ofInt_eq_ofNat
theorem g_div {x y : Int} (h0 : 0 ≤ x) (h1 : x ≤ 2147483647) (h2 : 0 < y) (h3 : y ≤ 2147483647) : Int32.ofInt x / Int32.ofInt y = Int32.ofInt (x / y) := by
  obtain ⟨a, rfl⟩ := g_nat h0
  obtain ⟨d, rfl⟩ := g_nat (Int.le_of_lt h2)
  rw [← Int.natCast_ediv, g_nI, g_nI, g_nI]
  exact pk_div (by omega) (by omega) (by omega)
theorem g_mod {x y : Int} (h0 : 0 ≤ x) (h1 : x ≤ 2147483647) (h2 : 0 < y) (h3 : y ≤ 2147483647) : Int32.ofInt x - Int32.ofInt x / Int32.ofInt y * Int32.ofInt y = Int32.ofInt (x % y) := by
  obtain ⟨a, rfl⟩ := g_nat h0
  obtain ⟨d, rfl⟩ := g_nat (Int.le_of_lt h2)
  rw [← Int.natCast_emod, g_nI, g_nI, g_nI]
  exact pk_rem (by omega) (by omega) (by omega)
theorem g_divL {x y : Int} (h0 : 0 ≤ x) (h1 : x ≤ 9223372036854775807) (h2 : 0 < y) (h3 : y ≤ 9223372036854775807) : Int64.ofInt x / Int64.ofInt y = Int64.ofInt (x / y) := by
  obtain ⟨a, rfl⟩ := g_nat h0
  obtain ⟨d, rfl⟩ := g_nat (Int.le_of_lt h2)
  rw [← Int.natCast_ediv, g_lN, g_lN, g_lN]
  exact pk_lDiv (by omega) (by omega) (by omega)
theorem g_modL {x y : Int} (h0 : 0 ≤ x) (h1 : x ≤ 9223372036854775807) (h2 : 0 < y) (h3 : y ≤ 9223372036854775807) : Int64.ofInt x - Int64.ofInt x / Int64.ofInt y * Int64.ofInt y = Int64.ofInt (x % y) := by
  obtain ⟨a, rfl⟩ := g_nat h0
  obtain ⟨d, rfl⟩ := g_nat (Int.le_of_lt h2)
  rw [← Int.natCast_emod, g_lN, g_lN, g_lN]
  exact pk_lRem (by omega) (by omega) (by omega)
theorem g_ltL {x y : Int} (hx : -9223372036854775808 ≤ x ∧ x ≤ 9223372036854775807) (hy : -9223372036854775808 ≤ y ∧ y ≤ 9223372036854775807) : Int64.ofInt x < Int64.ofInt y ↔ x < y := by rw [Int64.lt_iff_toInt_lt, g_i64 hx, g_i64 hy]
theorem g_ne0 {y : Int} (h : y ≠ 0) (hr : -2147483648 ≤ y ∧ y ≤ 2147483647) : ¬ Int32.ofInt y = 0 := fun e => h ((g_eq hr (by decide)).mp e)
theorem g_ne0L {y : Int} (h : y ≠ 0) (hr : -9223372036854775808 ≤ y ∧ y ≤ 9223372036854775807) : ¬ Int64.ofInt y = 0 := fun e => h (by
  have := congrArg Int64.toInt e
  rwa [g_i64 hr, show (0 : Int64).toInt = 0 from rfl] at this)
theorem g_ofI (x : Int32) : Int32.ofInt x.toInt = x := Int32.ofInt_toInt x
theorem g_ofL (x : Int64) : Int64.ofInt x.toInt = x := Int64.ofInt_toInt x
theorem g_rgI (x : Int32) : -2147483648 ≤ x.toInt ∧ x.toInt ≤ 2147483647 := ⟨by have := Int32.le_toInt x; simpa using this, by have := Int32.toInt_lt x; omega⟩
theorem g_rgL (x : Int64) : -9223372036854775808 ≤ x.toInt ∧ x.toInt ≤ 9223372036854775807 := ⟨by have := Int64.le_toInt x; simpa using this, by have := Int64.toInt_lt x; omega⟩
theorem g_isR_fv {t : FieldType} (h : g_isR t = true) (ad : Int → Nat) (x : Int) (r : Option Int) : g_fv ad t x r = va_rf (r.map ad) := by
  cases t <;> first | rfl | cases h
theorem g_isR_nar {t : FieldType} (h : g_isR t = true) (a : Nat) : narrow t (.ref a) = .ref a := by
  cases t <;> first | rfl | cases h
theorem g_isR_fit {t : FieldType} (h : g_isR t = true) (a : Nat) : fits t (.ref a) = true := by
  cases t <;> first | rfl | cases h
theorem g_wf.up {gi gl : gF} {sh : gSh} (h : g_wf gi gl sh) {a i v : Int} (hv : -2147483648 ≤ v ∧ v ≤ 2147483647) : g_wf (g_up gi a i v) gl sh := ⟨fun b k => by
  unfold g_up
  split
  · exact hv
  · exact h.1 b k, h.2.1, h.2.2⟩
theorem g_wf.upL {gi gl : gF} {sh : gSh} (h : g_wf gi gl sh) {a i v : Int} (hv : -9223372036854775808 ≤ v ∧ v ≤ 9223372036854775807) : g_wf gi (g_up gl a i v) sh := ⟨h.1, fun b k => by
  unfold g_up
  split
  · exact hv
  · exact h.2.1 b k, h.2.2⟩
theorem g_wf.upR {gi gl : gF} {sh : gSh} (h : g_wf gi gl sh) {a i r : Int} (hv : 0 ≤ r ∧ r < (sh.2.2.2 : Int)) : g_wf gi gl (g_up sh.1 a i (some r), sh.2) := ⟨h.1, h.2.1, fun b k z hz => by
  dsimp only [g_up] at hz
  split at hz
  · cases hz; exact hv
  · exact h.2.2 b k z hz⟩
section RULES2
variable {md : gMD} {mc ms pc : Nat} {ls : List (Option gV)} {st : List gV} {gi gl : gF} {sh : gSh} {Q : gQ}
theorem g_idiv {x y : Int} (hd : decode md.2.1 pc = .ok (.idiv, 1)) (h0 : 0 ≤ x) (h1 : 0 < y) (h : Go md mc ms (pc + 1) ls (vI (x / y) :: st) gi gl sh Q) : Go md mc ms pc ls (vI y :: vI x :: st) gi gl sh Q := by
  intro p l e R s m args below meth c Qf A D cy b n0 ad0 MC MS X ad H locs cells slots lsA T
  have hy := g_unI (g_sh T.ok)
  have hx := g_unI (g_sh (g_st T.ok))
  have hq : x / y ≤ x := Int.ediv_le_self y h0
  have hp : 0 ≤ x / y := Int.ediv_nonneg h0 (by omega)
  have k := h p l e R s m args below meth c Qf A D cy b n0 ad0 MC MS X ad H locs cells slots lsA (T.stk (g_sc (g_okI (by omega) (by omega)) (g_st (g_st T.ok))))
  refine lv_idiv X.1.1 X.1.2.1 hd (g_ne0 (by omega) hy) ?_
  rw [g_div h0 hx.2 h1 hy.2]
  exact k
theorem g_irem {x y : Int} (hd : decode md.2.1 pc = .ok (.irem, 1)) (h0 : 0 ≤ x) (h1 : 0 < y) (h : Go md mc ms (pc + 1) ls (vI (x % y) :: st) gi gl sh Q) : Go md mc ms pc ls (vI y :: vI x :: st) gi gl sh Q := by
  intro p l e R s m args below meth c Qf A D cy b n0 ad0 MC MS X ad H locs cells slots lsA T
  have hy := g_unI (g_sh T.ok)
  have hx := g_unI (g_sh (g_st T.ok))
  have hq : x % y < y := Int.emod_lt_of_pos x h1
  have hp : 0 ≤ x % y := Int.emod_nonneg x (by omega)
  have k := h p l e R s m args below meth c Qf A D cy b n0 ad0 MC MS X ad H locs cells slots lsA (T.stk (g_sc (g_okI (by omega) (by omega)) (g_st (g_st T.ok))))
  refine lv_irem X.1.1 X.1.2.1 hd (g_ne0 (by omega) hy) ?_
  rw [g_mod h0 hx.2 h1 hy.2]
  exact k
theorem g_ldiv {x y : Int} (hd : decode md.2.1 pc = .ok (.ldiv, 1)) (h0 : 0 ≤ x) (h1 : 0 < y) (h : Go md mc ms (pc + 1) ls (vL (x / y) :: st) gi gl sh Q) : Go md mc ms pc ls (vL y :: vL x :: st) gi gl sh Q := by
  intro p l e R s m args below meth c Qf A D cy b n0 ad0 MC MS X ad H locs cells slots lsA T
  have hy := g_unL (g_sh T.ok)
  have hx := g_unL (g_sh (g_st T.ok))
  have hq : x / y ≤ x := Int.ediv_le_self y h0
  have hp : 0 ≤ x / y := Int.ediv_nonneg h0 (by omega)
  have k := h p l e R s m args below meth c Qf A D cy b n0 ad0 MC MS X ad H locs cells slots lsA (T.stk (g_sc (g_okL (by omega) (by omega)) (g_st (g_st T.ok))))
  refine lv_ldiv X.1.1 X.1.2.1 hd (g_ne0L (by omega) hy) ?_
  rw [g_divL h0 hx.2 h1 hy.2]
  exact k
theorem g_lrem {x y : Int} (hd : decode md.2.1 pc = .ok (.lrem, 1)) (h0 : 0 ≤ x) (h1 : 0 < y) (h : Go md mc ms (pc + 1) ls (vL (x % y) :: st) gi gl sh Q) : Go md mc ms pc ls (vL y :: vL x :: st) gi gl sh Q := by
  intro p l e R s m args below meth c Qf A D cy b n0 ad0 MC MS X ad H locs cells slots lsA T
  have hy := g_unL (g_sh T.ok)
  have hx := g_unL (g_sh (g_st T.ok))
  have hq : x % y < y := Int.emod_lt_of_pos x h1
  have hp : 0 ≤ x % y := Int.emod_nonneg x (by omega)
  have k := h p l e R s m args below meth c Qf A D cy b n0 ad0 MC MS X ad H locs cells slots lsA (T.stk (g_sc (g_okL (by omega) (by omega)) (g_st (g_st T.ok))))
  refine lv_lrem X.1.1 X.1.2.1 hd (g_ne0L (by omega) hy) ?_
  rw [g_modL h0 hx.2 h1 hy.2]
  exact k
theorem g_iand {x y : Int} (hd : decode md.2.1 pc = .ok (.iand, 1)) (h : Go md mc ms (pc + 1) ls (vI ((Int32.ofInt x &&& Int32.ofInt y).toInt) :: st) gi gl sh Q) : Go md mc ms pc ls (vI y :: vI x :: st) gi gl sh Q := by
  intro p l e R s m args below meth c Qf A D cy b n0 ad0 MC MS X ad H locs cells slots lsA T
  have k := h p l e R s m args below meth c Qf A D cy b n0 ad0 MC MS X ad H locs cells slots lsA (T.stk (g_sc (g_okI (g_rgI _).1 (g_rgI _).2) (g_st (g_st T.ok))))
  refine lv_iand X.1.1 X.1.2.1 hd ?_
  rw [← g_ofI (Int32.ofInt x &&& Int32.ofInt y)]
  exact k
theorem g_land {x y : Int} (hd : decode md.2.1 pc = .ok (.land, 1)) (h : Go md mc ms (pc + 1) ls (vL ((Int64.ofInt x &&& Int64.ofInt y).toInt) :: st) gi gl sh Q) : Go md mc ms pc ls (vL y :: vL x :: st) gi gl sh Q := by
  intro p l e R s m args below meth c Qf A D cy b n0 ad0 MC MS X ad H locs cells slots lsA T
  have k := h p l e R s m args below meth c Qf A D cy b n0 ad0 MC MS X ad H locs cells slots lsA (T.stk (g_sc (g_okL (g_rgL _).1 (g_rgL _).2) (g_st (g_st T.ok))))
  refine lv_land X.1.1 X.1.2.1 hd ?_
  rw [← g_ofL (Int64.ofInt x &&& Int64.ofInt y)]
  exact k
theorem g_lor {x y : Int} (hd : decode md.2.1 pc = .ok (.lor, 1)) (h : Go md mc ms (pc + 1) ls (vL ((Int64.ofInt x ||| Int64.ofInt y).toInt) :: st) gi gl sh Q) : Go md mc ms pc ls (vL y :: vL x :: st) gi gl sh Q := by
  intro p l e R s m args below meth c Qf A D cy b n0 ad0 MC MS X ad H locs cells slots lsA T
  have k := h p l e R s m args below meth c Qf A D cy b n0 ad0 MC MS X ad H locs cells slots lsA (T.stk (g_sc (g_okL (g_rgL _).1 (g_rgL _).2) (g_st (g_st T.ok))))
  refine lv_lor X.1.1 X.1.2.1 hd ?_
  rw [← g_ofL (Int64.ofInt x ||| Int64.ofInt y)]
  exact k
theorem g_lshl {x y : Int} (hd : decode md.2.1 pc = .ok (.lshl, 1)) (h : Go md mc ms (pc + 1) ls (vL ((Int64.ofInt x <<< ((Int32.ofInt y).toInt64 &&& 63)).toInt) :: st) gi gl sh Q) : Go md mc ms pc ls (vI y :: vL x :: st) gi gl sh Q := by
  intro p l e R s m args below meth c Qf A D cy b n0 ad0 MC MS X ad H locs cells slots lsA T
  have k := h p l e R s m args below meth c Qf A D cy b n0 ad0 MC MS X ad H locs cells slots lsA (T.stk (g_sc (g_okL (g_rgL _).1 (g_rgL _).2) (g_st (g_st T.ok))))
  exact lv_lshl X.1.1 X.1.2.1 hd (g_ofL _).symm k
theorem g_i2l {x : Int} (hd : decode md.2.1 pc = .ok (.i2l, 1)) (h : Go md mc ms (pc + 1) ls (vL x :: st) gi gl sh Q) : Go md mc ms pc ls (vI x :: st) gi gl sh Q := by
  intro p l e R s m args below meth c Qf A D cy b n0 ad0 MC MS X ad H locs cells slots lsA T
  have hx := g_unI (g_sh T.ok)
  have k := h p l e R s m args below meth c Qf A D cy b n0 ad0 MC MS X ad H locs cells slots lsA (T.stk (g_sc (g_okL (by omega) (by omega)) (g_st T.ok)))
  refine lv_i2l X.1.1 X.1.2.1 hd (v := Int64.ofInt x) ?_ k
  apply Int64.toInt_inj.mp
  rw [Int32.toInt_toInt64, g_i32 hx, g_i64 ⟨by omega, by omega⟩]
theorem g_l2i {x : Int} (hd : decode md.2.1 pc = .ok (.l2i, 1)) (h1 : -2147483648 ≤ x) (h2 : x ≤ 2147483647) (h : Go md mc ms (pc + 1) ls (vI x :: st) gi gl sh Q) : Go md mc ms pc ls (vL x :: st) gi gl sh Q := by
  intro p l e R s m args below meth c Qf A D cy b n0 ad0 MC MS X ad H locs cells slots lsA T
  have k := h p l e R s m args below meth c Qf A D cy b n0 ad0 MC MS X ad H locs cells slots lsA (T.stk (g_sc (g_okI h1 h2) (g_st T.ok)))
  refine lv_l2i X.1.1 X.1.2.1 hd (v := Int32.ofInt x) ?_ k
  exact Int64.toInt32_ofInt
theorem g_i2c {x : Int} (hd : decode md.2.1 pc = .ok (.i2c, 1)) (h1 : 0 ≤ x) (h2 : x ≤ 65535) (h : Go md mc ms (pc + 1) ls (vI x :: st) gi gl sh Q) : Go md mc ms pc ls (vI x :: st) gi gl sh Q := by
  intro p l e R s m args below meth c Qf A D cy b n0 ad0 MC MS X ad H locs cells slots lsA T
  have k := h p l e R s m args below meth c Qf A D cy b n0 ad0 MC MS X ad H locs cells slots lsA (T.stk (g_sc (g_okI (by omega) (by omega)) (g_st T.ok)))
  refine lv_i2c X.1.1 X.1.2.1 hd (v := Int32.ofInt x) ?_ k
  obtain ⟨a, rfl⟩ := g_nat h1
  rw [g_nI, pk_char, pk_tn (by omega), Nat.mod_eq_of_lt (by omega)]
theorem g_lcmp {x y : Int} (hd : decode md.2.1 pc = .ok (.lcmp, 1)) (h : Go md mc ms (pc + 1) ls (vI (g_cmp x y) :: st) gi gl sh Q) : Go md mc ms pc ls (vL y :: vL x :: st) gi gl sh Q := by
  intro p l e R s m args below meth c Qf A D cy b n0 ad0 MC MS X ad H locs cells slots lsA T
  have hy := g_unL (g_sh T.ok)
  have hx := g_unL (g_sh (g_st T.ok))
  have k := h p l e R s m args below meth c Qf A D cy b n0 ad0 MC MS X ad H locs cells slots lsA (T.stk (g_sc (g_okI (by unfold g_cmp; split <;> (try split) <;> omega) (by unfold g_cmp; split <;> (try split) <;> omega)) (g_st (g_st T.ok))))
  refine W.lcmp X.1.1 X.1.2.1 hd ?_
  have e : lg_cmp (Int64.ofInt x) (Int64.ofInt y) = Int32.ofInt (g_cmp x y) := by
    unfold lg_cmp g_cmp
    have h3 : Int64.ofInt x = Int64.ofInt y ↔ x = y := by rw [← Int64.toInt_inj, g_i64 hx, g_i64 hy]
    simp only [gt_iff_lt, g_ltL hx hy, g_ltL hy hx, h3]
    by_cases h1 : y < x
    · have h2 : ¬ x < y := by omega
      simp only [h1, h2, if_true, if_false] <;> rfl
    · by_cases h2 : x < y
      · have h4 : ¬ x = y := by omega
        simp only [h1, h2, h4, if_true, if_false] <;> rfl
      · have h4 : x = y := by omega
        simp only [h1, h2, h4, if_true, if_false, Int.lt_irrefl] <;> rfl
  rw [e]
  exact k
theorem g_getI {idx ci k : Nat} (K : Int) {a : Int} (hd : decode md.2.1 pc = .ok (.getfield idx, 3)) (hf : g_FI md.1 idx ci k) (hK : ((k : Nat) : Int) = K) (ha : sh.2.1 a = ci) (h : Go md mc ms (pc + 3) ls (vI (gi a K) :: st) gi gl sh Q) : Go md mc ms pc ls (vR a :: st) gi gl sh Q := by
  intro p l e R s m args below meth c Qf A D cy b n0 ad0 MC MS X ad H locs cells slots lsA T
  subst hK
  have hr := g_unR (g_sh T.ok)
  have he : (g_ws cy ad gi gl sh)[a.toNat]? = some (ad a, .inr (ci, g_fs ad gi sh.1 ci a)) := by rw [g_ws_get hr.1 hr.2, g_cell_obj ha hf.1]
  have k0 := h p l e R s m args below meth c Qf A D cy b n0 ad0 MC MS X ad H locs cells slots lsA (T.stk (g_sc (g_okI (T.mm.2.2.2.2.1 _ _).1 (T.mm.2.2.2.2.1 _ _).2) (g_st T.ok)))
  refine va_get (D := D) (ci := ci) (v := .int (Int32.ofInt (gi a k))) (C := g_R ci) (T := g_TT ci) (N := g_nf ci) X.1.1 X.1.2.1 X.1.2.2.2.2.1 (g_inn ci hf.1) X.1.2.2.2.1 T.mm.1 T.mm.2.1 a.toNat he (g_cl ci hf.1) k hf.2.1 (X.1.2.2.2.2.1 _ hf.2.2.2.2) (fun _ h9 => h9) ?_ hd k0
  rw [g_fs_get hf.2.1, hf.2.2.1]; rfl
theorem g_getR {idx ci k : Nat} {fin : Bool} (K : Int) {a r : Int} (hd : decode md.2.1 pc = .ok (.getfield idx, 3)) (hf : g_FR md.1 idx ci k fin) (hK : ((k : Nat) : Int) = K) (ha : sh.2.1 a = ci) (hv : sh.1 a K = some r) (h : Go md mc ms (pc + 3) ls (vR r :: st) gi gl sh Q) : Go md mc ms pc ls (vR a :: st) gi gl sh Q := by
  intro p l e R s m args below meth c Qf A D cy b n0 ad0 MC MS X ad H locs cells slots lsA T
  subst hK
  have hr := g_unR (g_sh T.ok)
  have he : (g_ws cy ad gi gl sh)[a.toNat]? = some (ad a, .inr (ci, g_fs ad gi sh.1 ci a)) := by rw [g_ws_get hr.1 hr.2, g_cell_obj ha hf.1]
  have k0 := h p l e R s m args below meth c Qf A D cy b n0 ad0 MC MS X ad H locs cells slots lsA (T.stk (g_sc (g_okR (T.mm.2.2.2.2.2.2 _ _ _ hv).1 (T.mm.2.2.2.2.2.2 _ _ _ hv).2) (g_st T.ok)))
  refine va_get (D := D) (ci := ci) (v := .ref (ad r)) (C := g_R ci) (T := g_TT ci) (N := g_nf ci) X.1.1 X.1.2.1 X.1.2.2.2.2.1 (g_inn ci hf.1) X.1.2.2.2.1 T.mm.1 T.mm.2.1 a.toNat he (g_cl ci hf.1) k hf.2.1 (X.1.2.2.2.2.1 _ hf.2.2.2.2) (fun _ h9 => h9) ?_ hd k0
  rw [g_fs_get hf.2.1, g_isR_fv hf.2.2.1, hv]; rfl
theorem g_putI {idx ci k : Nat} (K : Int) {a v : Int} (hd : decode md.2.1 pc = .ok (.putfield idx, 3)) (hf : g_FI md.1 idx ci k) (hK : ((k : Nat) : Int) = K) (ha : sh.2.1 a = ci) (h : Go md mc ms (pc + 3) ls st (g_up gi a K v) gl sh Q) : Go md mc ms pc ls (vI v :: vR a :: st) gi gl sh Q := by
  intro p l e R s m args below meth c Qf A D cy b n0 ad0 MC MS X ad H locs cells slots lsA T
  subst hK
  have hr := g_unR (g_sh (g_st T.ok))
  have he : (g_ws cy ad gi gl sh)[a.toNat]? = some (ad a, .inr (ci, g_fs ad gi sh.1 ci a)) := by rw [g_ws_get hr.1 hr.2, g_cell_obj ha hf.1]
  have hv := g_unI (g_sh T.ok)
  refine va_put (D := D) (ci := ci) (v := .int (Int32.ofInt v)) (ty := .int) (C := g_R ci) (T := g_TT ci) (N := g_nf ci) X.1.1 X.1.2.1 X.1.2.2.2.2.1 (g_inn ci hf.1) (g_ft ci) (g_tyk ci hf.1) (g_nmk ci hf.1) X.1.2.2.2.1 T.mm.1 T.mm.2.1 T.mm.2.2.1 T.mm.2.2.2.1 a.toNat he (g_cl ci hf.1) k hf.2.1 (X.1.2.2.2.2.1 _ hf.2.2.2.2) (fun _ h9 => h9) hf.2.2.2.1 (by rw [g_tyk ci hf.1 k hf.2.1, hf.2.2.1]) rfl rfl (by rw [g_fs_len]; exact hf.2.1) hd (fun H1 locs1 hP hD hS => ?_)
  have e9 : (g_ws cy ad gi gl sh).set a.toNat (ad a, .inr (ci, (g_fs ad gi sh.1 ci a).set k (.int (Int32.ofInt v)))) = g_ws cy ad (g_up gi a k v) gl sh := g_ws_set (gr' := sh.1) hr.1 (by rw [g_cell_obj (sh := (sh.1, sh.2)) ha hf.1, ← g_fs_set (k := k) (v := .int (Int32.ofInt v)) (gi := gi) (gi' := g_up gi a k v) (gr := sh.1) (gr' := sh.1) (by rw [hf.2.2.1, g_up_at]; rfl) (fun j hj => ⟨g_up_ne (by omega), rfl⟩)]) (fun i hi => g_cell_congr (g_up_row hi) rfl rfl)
  rw [e9] at hP hD
  exact h p l e R s m args below meth c Qf A D cy b n0 ad0 MC MS X ad H1 locs1 cells slots lsA (T.mem (gr' := sh.1) ⟨T.mm.1, hP, hD, hS, T.mm.2.2.2.2.up hv⟩ (g_st (g_st T.ok)))
theorem g_getIN {idx ci k : Nat} (K : Int) {a : Int} (hd : decode md.2.1 pc = .ok (.getfield idx, 3)) (hf : g_NI md.1 idx ci k) (hK : ((k : Nat) : Int) = K) (ha : sh.2.1 a = ci) (h : Go md mc ms (pc + 3) ls (vI (gi a K) :: st) gi gl sh Q) : Go md mc ms pc ls (vR a :: st) gi gl sh Q := by
  intro p l e R s m args below meth c Qf A D cy b n0 ad0 MC MS X ad H locs cells slots lsA T
  subst hK
  obtain ⟨host, hw⟩ := hf.2.2.2.2
  have hr := g_unR (g_sh T.ok)
  have he : (g_ws cy ad gi gl sh)[a.toNat]? = some (ad a, .inr (ci, g_fs ad gi sh.1 ci a)) := by rw [g_ws_get hr.1 hr.2, g_cell_obj ha hf.1]
  have k0 := h p l e R s m args below meth c Qf A D cy b n0 ad0 MC MS X ad H locs cells slots lsA (T.stk (g_sc (g_okI (T.mm.2.2.2.2.1 _ _).1 (T.mm.2.2.2.2.1 _ _).2) (g_st T.ok)))
  refine va_getN (D := D) (ci := ci) (v := .int (Int32.ofInt (gi a k))) (C := g_R ci) (T := g_TT ci) (N := g_nf ci) X.1.1 X.1.2.1 X.1.2.2.2.2.1 (g_inn ci hf.1) X.1.2.2.2.1 T.mm.1 T.mm.2.1 a.toNat he (g_cl ci hf.1) k hf.2.1 (va_Nw.use rfl (X.1.2.2.2.2.2.1 _ hw)) (fun _ h9 => h9) ?_ hd k0
  rw [g_fs_get hf.2.1, hf.2.2.1]; rfl
theorem g_getRN {idx ci k : Nat} {fin : Bool} (K : Int) {a r : Int} (hd : decode md.2.1 pc = .ok (.getfield idx, 3)) (hf : g_NR md.1 idx ci k fin) (hK : ((k : Nat) : Int) = K) (ha : sh.2.1 a = ci) (hv : sh.1 a K = some r) (h : Go md mc ms (pc + 3) ls (vR r :: st) gi gl sh Q) : Go md mc ms pc ls (vR a :: st) gi gl sh Q := by
  intro p l e R s m args below meth c Qf A D cy b n0 ad0 MC MS X ad H locs cells slots lsA T
  subst hK
  obtain ⟨host, hw⟩ := hf.2.2.2.2
  have hr := g_unR (g_sh T.ok)
  have he : (g_ws cy ad gi gl sh)[a.toNat]? = some (ad a, .inr (ci, g_fs ad gi sh.1 ci a)) := by rw [g_ws_get hr.1 hr.2, g_cell_obj ha hf.1]
  have k0 := h p l e R s m args below meth c Qf A D cy b n0 ad0 MC MS X ad H locs cells slots lsA (T.stk (g_sc (g_okR (T.mm.2.2.2.2.2.2 _ _ _ hv).1 (T.mm.2.2.2.2.2.2 _ _ _ hv).2) (g_st T.ok)))
  refine va_getN (D := D) (ci := ci) (v := .ref (ad r)) (C := g_R ci) (T := g_TT ci) (N := g_nf ci) X.1.1 X.1.2.1 X.1.2.2.2.2.1 (g_inn ci hf.1) X.1.2.2.2.1 T.mm.1 T.mm.2.1 a.toNat he (g_cl ci hf.1) k hf.2.1 (va_Nw.use rfl (X.1.2.2.2.2.2.1 _ hw)) (fun _ h9 => h9) ?_ hd k0
  rw [g_fs_get hf.2.1, g_isR_fv hf.2.2.1, hv]; rfl
theorem g_putIN {idx ci k : Nat} (K : Int) {a v : Int} (hd : decode md.2.1 pc = .ok (.putfield idx, 3)) (hf : g_NI md.1 idx ci k) (hK : ((k : Nat) : Int) = K) (ha : sh.2.1 a = ci) (h : Go md mc ms (pc + 3) ls st (g_up gi a K v) gl sh Q) : Go md mc ms pc ls (vI v :: vR a :: st) gi gl sh Q := by
  intro p l e R s m args below meth c Qf A D cy b n0 ad0 MC MS X ad H locs cells slots lsA T
  subst hK
  obtain ⟨host, hw⟩ := hf.2.2.2.2
  have hr := g_unR (g_sh (g_st T.ok))
  have he : (g_ws cy ad gi gl sh)[a.toNat]? = some (ad a, .inr (ci, g_fs ad gi sh.1 ci a)) := by rw [g_ws_get hr.1 hr.2, g_cell_obj ha hf.1]
  have hv := g_unI (g_sh T.ok)
  refine va_putN (D := D) (ci := ci) (v := .int (Int32.ofInt v)) (ty := .int) (C := g_R ci) (T := g_TT ci) (N := g_nf ci) X.1.1 X.1.2.1 X.1.2.2.2.2.1 (g_inn ci hf.1) (g_ft ci) (g_tyk ci hf.1) (g_nmk ci hf.1) X.1.2.2.2.1 T.mm.1 T.mm.2.1 T.mm.2.2.1 T.mm.2.2.2.1 a.toNat he (g_cl ci hf.1) k hf.2.1 (va_Nw.use rfl (X.1.2.2.2.2.2.1 _ hw)) (fun _ h9 => h9) hf.2.2.2.1 (by rw [g_tyk ci hf.1 k hf.2.1, hf.2.2.1]) rfl rfl (by rw [g_fs_len]; exact hf.2.1) hd (fun H1 locs1 hP hD hS => ?_)
  have e9 : (g_ws cy ad gi gl sh).set a.toNat (ad a, .inr (ci, (g_fs ad gi sh.1 ci a).set k (.int (Int32.ofInt v)))) = g_ws cy ad (g_up gi a k v) gl sh := g_ws_set (gr' := sh.1) hr.1 (by rw [g_cell_obj (sh := (sh.1, sh.2)) ha hf.1, ← g_fs_set (k := k) (v := .int (Int32.ofInt v)) (gi := gi) (gi' := g_up gi a k v) (gr := sh.1) (gr' := sh.1) (by rw [hf.2.2.1, g_up_at]; rfl) (fun j hj => ⟨g_up_ne (by omega), rfl⟩)]) (fun i hi => g_cell_congr (g_up_row hi) rfl rfl)
  rw [e9] at hP hD
  exact h p l e R s m args below meth c Qf A D cy b n0 ad0 MC MS X ad H1 locs1 cells slots lsA (T.mem (gr' := sh.1) ⟨T.mm.1, hP, hD, hS, T.mm.2.2.2.2.up hv⟩ (g_st (g_st T.ok)))
theorem g_putR {idx ci k : Nat} (K : Int) {a v : Int} (hd : decode md.2.1 pc = .ok (.putfield idx, 3)) (hf : g_FR md.1 idx ci k false) (hK : ((k : Nat) : Int) = K) (ha : sh.2.1 a = ci) (h : Go md mc ms (pc + 3) ls st gi gl (g_up sh.1 a K (some v), sh.2) Q) : Go md mc ms pc ls (vR v :: vR a :: st) gi gl sh Q := by
  intro p l e R s m args below meth c Qf A D cy b n0 ad0 MC MS X ad H locs cells slots lsA T
  subst hK
  have hr := g_unR (g_sh (g_st T.ok))
  have he : (g_ws cy ad gi gl sh)[a.toNat]? = some (ad a, .inr (ci, g_fs ad gi sh.1 ci a)) := by rw [g_ws_get hr.1 hr.2, g_cell_obj ha hf.1]
  have hv := g_unR (g_sh T.ok)
  refine va_put (D := D) (ci := ci) (v := .ref (ad v)) (ty := g_ft ci k) (C := g_R ci) (T := g_TT ci) (N := g_nf ci) X.1.1 X.1.2.1 X.1.2.2.2.2.1 (g_inn ci hf.1) (g_ft ci) (g_tyk ci hf.1) (g_nmk ci hf.1) X.1.2.2.2.1 T.mm.1 T.mm.2.1 T.mm.2.2.1 T.mm.2.2.2.1 a.toNat he (g_cl ci hf.1) k hf.2.1 (X.1.2.2.2.2.1 _ hf.2.2.2.2) (fun _ h9 => h9) hf.2.2.2.1 (g_tyk ci hf.1 k hf.2.1) (g_isR_nar hf.2.2.1 _) (g_isR_fit hf.2.2.1 _) (by rw [g_fs_len]; exact hf.2.1) hd (fun H1 locs1 hP hD hS => ?_)
  have e9 : (g_ws cy ad gi gl sh).set a.toNat (ad a, .inr (ci, (g_fs ad gi sh.1 ci a).set k (.ref (ad v)))) = g_ws cy ad gi gl (g_up sh.1 a k (some v), sh.2) := g_ws_set hr.1 (by rw [g_cell_obj (sh := (g_up sh.1 a k (some v), sh.2)) ha hf.1, ← g_fs_set (k := k) (v := .ref (ad v)) (gi := gi) (gi' := gi) (gr := sh.1) (gr' := g_up sh.1 a k (some v)) (by rw [g_isR_fv hf.2.2.1, g_up_at]; rfl) (fun j hj => ⟨rfl, g_up_ne (by omega)⟩)]) (fun i hi => g_cell_congr rfl rfl (g_up_row hi))
  rw [e9] at hP hD
  exact h p l e R s m args below meth c Qf A D cy b n0 ad0 MC MS X ad H1 locs1 cells slots lsA (T.mem ⟨T.mm.1, hP, hD, hS, T.mm.2.2.2.2.upR hv⟩ (g_st (g_st T.ok)))
theorem g_putRF {idx ci k : Nat} (K : Int) {a v : Int} (hd : decode md.2.1 pc = .ok (.putfield idx, 3)) (hf : g_FR md.1 idx ci k true) (hK : ((k : Nat) : Int) = K) (ha : sh.2.1 a = ci) (hin : md.2.2.2.2.2.1.name = "<init>") (hdc : (g_TT ci k).1 = md.1) (h : Go md mc ms (pc + 3) ls st gi gl (g_up sh.1 a K (some v), sh.2) Q) : Go md mc ms pc ls (vR v :: vR a :: st) gi gl sh Q := by
  intro p l e R s m args below meth c Qf A D cy b n0 ad0 MC MS X ad H locs cells slots lsA T
  subst hK
  have hr := g_unR (g_sh (g_st T.ok))
  have he : (g_ws cy ad gi gl sh)[a.toNat]? = some (ad a, .inr (ci, g_fs ad gi sh.1 ci a)) := by rw [g_ws_get hr.1 hr.2, g_cell_obj ha hf.1]
  have hv := g_unR (g_sh T.ok)
  refine va_putF (D := D) (ci := ci) (v := .ref (ad v)) (ty := g_ft ci k) (C := g_R ci) (T := g_TT ci) (N := g_nf ci) X.1.1 X.1.2.1 X.1.2.2.2.2.1 (g_inn ci hf.1) (g_ft ci) (g_tyk ci hf.1) (g_nmk ci hf.1) X.1.2.2.2.1 T.mm.1 T.mm.2.1 T.mm.2.2.1 T.mm.2.2.2.1 a.toNat he (g_cl ci hf.1) k hf.2.1 (X.1.2.2.2.2.1 _ hf.2.2.2.2) (fun _ h9 => h9) hf.2.2.2.1 (X.1.2.2.2.2.2.2.2.2.2.2.1 hin) hdc (g_tyk ci hf.1 k hf.2.1) (g_isR_nar hf.2.2.1 _) (g_isR_fit hf.2.2.1 _) (by rw [g_fs_len]; exact hf.2.1) hd (fun H1 locs1 hP hD hS => ?_)
  have e9 : (g_ws cy ad gi gl sh).set a.toNat (ad a, .inr (ci, (g_fs ad gi sh.1 ci a).set k (.ref (ad v)))) = g_ws cy ad gi gl (g_up sh.1 a k (some v), sh.2) := g_ws_set hr.1 (by rw [g_cell_obj (sh := (g_up sh.1 a k (some v), sh.2)) ha hf.1, ← g_fs_set (k := k) (v := .ref (ad v)) (gi := gi) (gi' := gi) (gr := sh.1) (gr' := g_up sh.1 a k (some v)) (by rw [g_isR_fv hf.2.2.1, g_up_at]; rfl) (fun j hj => ⟨rfl, g_up_ne (by omega)⟩)]) (fun i hi => g_cell_congr rfl rfl (g_up_row hi))
  rw [e9] at hP hD
  exact h p l e R s m args below meth c Qf A D cy b n0 ad0 MC MS X ad H1 locs1 cells slots lsA (T.mem ⟨T.mm.1, hP, hD, hS, T.mm.2.2.2.2.upR hv⟩ (g_st (g_st T.ok)))
end RULES2
