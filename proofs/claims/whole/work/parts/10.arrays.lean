theorem g_ty_at (cy : Nat → ClassId) : ∀ κ : Nat, 10 ≤ κ → κ ≤ 16 → ∃ ty, (g_tys cy)[κ - 10]? = some (cy κ, ty) := by
  intro κ h1 h2
  have : κ = 10 ∨ κ = 11 ∨ κ = 12 ∨ κ = 13 ∨ κ = 14 ∨ κ = 15 ∨ κ = 16 := by omega
  rcases this with rfl | rfl | rfl | rfl | rfl | rfl | rfl <;> exact ⟨_, rfl⟩
/-- the class of an array of references' elements -/
def g_el : Nat → Nat
  | 14 => 0 | 15 => 4 | _ => 6
theorem g_ty_ref (cy : Nat → ClassId) : ∀ κ : Nat, 14 ≤ κ → κ ≤ 16 → (g_tys cy)[κ - 10]? = some (cy κ, .object (g_R (g_el κ))) := by
  intro κ h1 h2
  have : κ = 14 ∨ κ = 15 ∨ κ = 16 := by omega
  rcases this with rfl | rfl | rfl <;> rfl
theorem g_cell_arr {cy : Nat → ClassId} {ad : Int → Nat} {gi gl : gF} {sh : gSh} {a : Int} (h : ¬ sh.2.1 a < 10) : ∃ z, g_cell cy ad gi gl sh a = .inl (cy (sh.2.1 a), sh.2.2.1 a, z) := by
  by_cases h1 : sh.2.1 a = 12
  · exact ⟨_, by rw [g_cell_long h1, h1]⟩
  · by_cases h2 : sh.2.1 a < 14
    · exact ⟨_, g_cell_int rfl h h1 h2⟩
    · exact ⟨_, g_cell_ref rfl h2⟩
theorem g_nb {v : Int} (h : v = 0 ∨ v = 1) : vp_nar .boolean (Int32.ofInt v) = Int32.ofInt v := by
  rcases h with rfl | rfl <;> decide
theorem g_nc {v : Int} (h0 : 0 ≤ v) (h1 : v ≤ 65535) : vp_nar .char (Int32.ofInt v) = Int32.ofInt v := by
  obtain ⟨a, rfl⟩ := g_nat h0
  rw [g_nI, vp_nar, (pk_charN (q := a) (by omega)).1]
section RULES3
variable {md : gMD} {mc ms pc : Nat} {ls : List (Option gV)} {st : List gV} {gi gl : gF} {sh : gSh} {Q : gQ}
theorem g_iaload {a i : Int} (hd : decode md.2.1 pc = .ok (.iaload, 1)) (ha : sh.2.1 a = 11) (h0 : 0 ≤ i) (h1 : i < (sh.2.2.1 a : Int)) (h : Go md mc ms (pc + 1) ls (vI (gi a i) :: st) gi gl sh Q) : Go md mc ms pc ls (vI i :: vR a :: st) gi gl sh Q := by
  intro p l e R s m args below meth c Qf A D cy b n0 ad0 MC MS X ad H locs cells slots lsA T
  have hr := g_unR (g_sh (g_st T.ok))
  have hi := g_unI (g_sh T.ok)
  have he := g_ws_get (cy := cy) (ad := ad) (gi := gi) (gl := gl) hr.1 hr.2
  rw [g_cell_int ha (by decide) (by decide) (by decide)] at he
  have k := h p l e R s m args below meth c Qf A D cy b n0 ad0 MC MS X ad H locs cells slots lsA (T.stk (g_sc (g_okI (T.mm.2.2.2.2.1 _ _).1 (T.mm.2.2.2.2.1 _ _).2) (g_st (g_st T.ok))))
  refine va_iald X.1.1 X.1.2.1 T.mm.1 T.mm.2.1 a.toNat 1 he rfl (g_in h0 h1 hi.2) hd ?_
  rw [g_clN h0 hi.2]
  exact k
theorem g_baload {a i : Int} (hd : decode md.2.1 pc = .ok (.baload, 1)) (ha : sh.2.1 a = 13) (h0 : 0 ≤ i) (h1 : i < (sh.2.2.1 a : Int)) (h : Go md mc ms (pc + 1) ls (vI (gi a i) :: st) gi gl sh Q) : Go md mc ms pc ls (vI i :: vR a :: st) gi gl sh Q := by
  intro p l e R s m args below meth c Qf A D cy b n0 ad0 MC MS X ad H locs cells slots lsA T
  have hr := g_unR (g_sh (g_st T.ok))
  have hi := g_unI (g_sh T.ok)
  have he := g_ws_get (cy := cy) (ad := ad) (gi := gi) (gl := gl) hr.1 hr.2
  rw [g_cell_int ha (by decide) (by decide) (by decide)] at he
  have k := h p l e R s m args below meth c Qf A D cy b n0 ad0 MC MS X ad H locs cells slots lsA (T.stk (g_sc (g_okI (T.mm.2.2.2.2.1 _ _).1 (T.mm.2.2.2.2.1 _ _).2) (g_st (g_st T.ok))))
  refine va_zald X.1.1 X.1.2.1 T.mm.1 T.mm.2.1 a.toNat 3 he rfl (g_in h0 h1 hi.2) hd ?_
  rw [g_clN h0 hi.2]
  exact k
theorem g_caload {a i : Int} (hd : decode md.2.1 pc = .ok (.caload, 1)) (ha : sh.2.1 a = 10) (h0 : 0 ≤ i) (h1 : i < (sh.2.2.1 a : Int)) (h : Go md mc ms (pc + 1) ls (vI (gi a i) :: st) gi gl sh Q) : Go md mc ms pc ls (vI i :: vR a :: st) gi gl sh Q := by
  intro p l e R s m args below meth c Qf A D cy b n0 ad0 MC MS X ad H locs cells slots lsA T
  have hr := g_unR (g_sh (g_st T.ok))
  have hi := g_unI (g_sh T.ok)
  have he := g_ws_get (cy := cy) (ad := ad) (gi := gi) (gl := gl) hr.1 hr.2
  rw [g_cell_int ha (by decide) (by decide) (by decide)] at he
  have k := h p l e R s m args below meth c Qf A D cy b n0 ad0 MC MS X ad H locs cells slots lsA (T.stk (g_sc (g_okI (T.mm.2.2.2.2.1 _ _).1 (T.mm.2.2.2.2.1 _ _).2) (g_st (g_st T.ok))))
  refine va_cald X.1.1 X.1.2.1 T.mm.1 T.mm.2.1 a.toNat 0 he rfl (g_in h0 h1 hi.2) hd ?_
  rw [g_clN h0 hi.2]
  exact k
theorem g_laload {a i : Int} (hd : decode md.2.1 pc = .ok (.laload, 1)) (ha : sh.2.1 a = 12) (h0 : 0 ≤ i) (h1 : i < (sh.2.2.1 a : Int)) (h : Go md mc ms (pc + 1) ls (vL (gl a i) :: st) gi gl sh Q) : Go md mc ms pc ls (vI i :: vR a :: st) gi gl sh Q := by
  intro p l e R s m args below meth c Qf A D cy b n0 ad0 MC MS X ad H locs cells slots lsA T
  have hr := g_unR (g_sh (g_st T.ok))
  have hi := g_unI (g_sh T.ok)
  have he := g_ws_get (cy := cy) (ad := ad) (gi := gi) (gl := gl) hr.1 hr.2
  rw [g_cell_long ha] at he
  have k := h p l e R s m args below meth c Qf A D cy b n0 ad0 MC MS X ad H locs cells slots lsA (T.stk (g_sc (g_okL (T.mm.2.2.2.2.2.1 _ _).1 (T.mm.2.2.2.2.2.1 _ _).2) (g_st (g_st T.ok))))
  refine va_lald X.1.1 X.1.2.1 T.mm.1 T.mm.2.1 a.toNat 2 he rfl (g_in h0 h1 hi.2) hd ?_
  rw [g_clN h0 hi.2]
  exact k
theorem g_aaload {a i r : Int} {κ : Nat} (hd : decode md.2.1 pc = .ok (.aaload, 1)) (ha : sh.2.1 a = κ) (hk1 : 14 ≤ κ) (hk2 : κ ≤ 16) (h0 : 0 ≤ i) (h1 : i < (sh.2.2.1 a : Int)) (hv : sh.1 a i = some r) (h : Go md mc ms (pc + 1) ls (vR r :: st) gi gl sh Q) : Go md mc ms pc ls (vI i :: vR a :: st) gi gl sh Q := by
  intro p l e R s m args below meth c Qf A D cy b n0 ad0 MC MS X ad H locs cells slots lsA T
  have hr := g_unR (g_sh (g_st T.ok))
  have hi := g_unI (g_sh T.ok)
  have he := g_ws_get (cy := cy) (ad := ad) (gi := gi) (gl := gl) hr.1 hr.2
  rw [g_cell_ref ha (by omega)] at he
  have k := h p l e R s m args below meth c Qf A D cy b n0 ad0 MC MS X ad H locs cells slots lsA (T.stk (g_sc (g_okR (T.mm.2.2.2.2.2.2 _ _ _ hv).1 (T.mm.2.2.2.2.2.2 _ _ _ hv).2) (g_st (g_st T.ok))))
  refine va_aldq X.1.1 X.1.2.1 T.mm.1 T.mm.2.1 a.toNat (κ - 10) he (g_ty_ref cy κ hk1 hk2) (g_in h0 h1 hi.2) hd ?_
  rw [g_clN h0 hi.2, hv]
  exact k
theorem g_alen {a : Int} (N : Int) (hd : decode md.2.1 pc = .ok (.arraylength, 1)) (ha : 10 ≤ sh.2.1 a ∧ sh.2.1 a ≤ 16) (hN : (sh.2.2.1 a : Int) = N) (hb : N ≤ 2147483647) (h : Go md mc ms (pc + 1) ls (vI N :: st) gi gl sh Q) : Go md mc ms pc ls (vR a :: st) gi gl sh Q := by
  intro p l e R s m args below meth c Qf A D cy b n0 ad0 MC MS X ad H locs cells slots lsA T
  have hr := g_unR (g_sh T.ok)
  have he := g_ws_get (cy := cy) (ad := ad) (gi := gi) (gl := gl) hr.1 hr.2
  obtain ⟨z, hz⟩ := g_cell_arr (cy := cy) (ad := ad) (gi := gi) (gl := gl) (sh := sh) (a := a) (by omega)
  rw [hz] at he
  obtain ⟨ty, hty⟩ := g_ty_at cy _ ha.1 ha.2
  have k := h p l e R s m args below meth c Qf A D cy b n0 ad0 MC MS X ad H locs cells slots lsA (T.stk (g_sc (g_okI (by omega) hb) (g_st T.ok)))
  refine va_alen X.1.1 X.1.2.1 T.mm.1 T.mm.2.1 a.toNat _ he hty (v := Int32.ofInt N) ?_ hd k
  rw [← hN]
  exact Int32.ofInt_eq_ofNat.symm
theorem g_iastore {a i v : Int} (hd : decode md.2.1 pc = .ok (.iastore, 1)) (ha : sh.2.1 a = 11) (h0 : 0 ≤ i) (h1 : i < (sh.2.2.1 a : Int)) (h : Go md mc ms (pc + 1) ls st (g_up gi a i v) gl sh Q) : Go md mc ms pc ls (vI v :: vI i :: vR a :: st) gi gl sh Q := by
  intro p l e R s m args below meth c Qf A D cy b n0 ad0 MC MS X ad H locs cells slots lsA T
  have hr := g_unR (g_sh (g_st (g_st T.ok)))
  have hi := g_unI (g_sh (g_st T.ok))
  have he := g_ws_get (cy := cy) (ad := ad) (gi := gi) (gl := gl) hr.1 hr.2
  rw [g_cell_int ha (by decide) (by decide) (by decide)] at he
  have hx := g_unI (g_sh T.ok)
  refine va_iast X.1.1 X.1.2.1 T.mm.1 T.mm.2.1 T.mm.2.2.1 T.mm.2.2.2.1 a.toNat 1 he rfl (g_in h0 h1 hi.2) hd (fun H1 locs1 hP hD hS => ?_)
  have e9 : (g_ws cy ad gi gl sh).set a.toNat (ad a, .inl (cy 11, sh.2.2.1 a, .inl (upd (fun j => Int32.ofInt (gi a (j : Int))) (Int32.ofInt i).toNatClampNeg (Int32.ofInt v)))) = g_ws cy ad (g_up gi a i v) gl sh := g_ws_set (gr' := sh.1) hr.1 (by
    rw [g_cell_int (sh := (sh.1, sh.2)) ha (by decide) (by decide) (by decide)]
    have : (fun j : Nat => Int32.ofInt (g_up gi a i v a (j : Int))) = upd (fun j => Int32.ofInt (gi a (j : Int))) (Int32.ofInt i).toNatClampNeg (Int32.ofInt v) := by
      funext j
      have hc := g_clN h0 hi.2
      by_cases hj : j = (Int32.ofInt i).toNatClampNeg
      · subst hj; rw [pk_us, hc, g_up_at]
      · rw [pk_un hj, g_up_ne (by omega)]
    rw [this]) (fun i' hi' => g_cell_congr (g_up_row hi') rfl rfl)
  rw [e9] at hP hD
  exact h p l e R s m args below meth c Qf A D cy b n0 ad0 MC MS X ad H1 locs1 cells slots lsA (T.mem (gr' := sh.1) ⟨T.mm.1, hP, hD, hS, T.mm.2.2.2.2.up hx⟩ (g_st (g_st (g_st T.ok))))
theorem g_bastore {a i v : Int} (hd : decode md.2.1 pc = .ok (.bastore, 1)) (ha : sh.2.1 a = 13) (h0 : 0 ≤ i) (h1 : i < (sh.2.2.1 a : Int)) (hv : v = 0 ∨ v = 1) (h : Go md mc ms (pc + 1) ls st (g_up gi a i v) gl sh Q) : Go md mc ms pc ls (vI v :: vI i :: vR a :: st) gi gl sh Q := by
  intro p l e R s m args below meth c Qf A D cy b n0 ad0 MC MS X ad H locs cells slots lsA T
  have hr := g_unR (g_sh (g_st (g_st T.ok)))
  have hi := g_unI (g_sh (g_st T.ok))
  have he := g_ws_get (cy := cy) (ad := ad) (gi := gi) (gl := gl) hr.1 hr.2
  rw [g_cell_int ha (by decide) (by decide) (by decide)] at he
  have hx := g_unI (g_sh T.ok)
  refine va_zast X.1.1 X.1.2.1 T.mm.1 T.mm.2.1 T.mm.2.2.1 T.mm.2.2.2.1 a.toNat 3 he rfl (g_in h0 h1 hi.2) hd (fun H1 locs1 hP hD hS => ?_)
  rw [g_nb hv] at hP hD
  have e9 : (g_ws cy ad gi gl sh).set a.toNat (ad a, .inl (cy 13, sh.2.2.1 a, .inl (upd (fun j => Int32.ofInt (gi a (j : Int))) (Int32.ofInt i).toNatClampNeg (Int32.ofInt v)))) = g_ws cy ad (g_up gi a i v) gl sh := g_ws_set (gr' := sh.1) hr.1 (by
    rw [g_cell_int (sh := (sh.1, sh.2)) ha (by decide) (by decide) (by decide)]
    have : (fun j : Nat => Int32.ofInt (g_up gi a i v a (j : Int))) = upd (fun j => Int32.ofInt (gi a (j : Int))) (Int32.ofInt i).toNatClampNeg (Int32.ofInt v) := by
      funext j
      have hc := g_clN h0 hi.2
      by_cases hj : j = (Int32.ofInt i).toNatClampNeg
      · subst hj; rw [pk_us, hc, g_up_at]
      · rw [pk_un hj, g_up_ne (by omega)]
    rw [this]) (fun i' hi' => g_cell_congr (g_up_row hi') rfl rfl)
  rw [e9] at hP hD
  exact h p l e R s m args below meth c Qf A D cy b n0 ad0 MC MS X ad H1 locs1 cells slots lsA (T.mem (gr' := sh.1) ⟨T.mm.1, hP, hD, hS, T.mm.2.2.2.2.up hx⟩ (g_st (g_st (g_st T.ok))))
theorem g_castore {a i v : Int} (hd : decode md.2.1 pc = .ok (.castore, 1)) (ha : sh.2.1 a = 10) (h0 : 0 ≤ i) (h1 : i < (sh.2.2.1 a : Int)) (hv0 : 0 ≤ v) (hv1 : v ≤ 65535) (h : Go md mc ms (pc + 1) ls st (g_up gi a i v) gl sh Q) : Go md mc ms pc ls (vI v :: vI i :: vR a :: st) gi gl sh Q := by
  intro p l e R s m args below meth c Qf A D cy b n0 ad0 MC MS X ad H locs cells slots lsA T
  have hr := g_unR (g_sh (g_st (g_st T.ok)))
  have hi := g_unI (g_sh (g_st T.ok))
  have he := g_ws_get (cy := cy) (ad := ad) (gi := gi) (gl := gl) hr.1 hr.2
  rw [g_cell_int ha (by decide) (by decide) (by decide)] at he
  have hx := g_unI (g_sh T.ok)
  refine va_cast X.1.1 X.1.2.1 T.mm.1 T.mm.2.1 T.mm.2.2.1 T.mm.2.2.2.1 a.toNat 0 he rfl (g_in h0 h1 hi.2) hd (fun H1 locs1 hP hD hS => ?_)
  rw [g_nc hv0 hv1] at hP hD
  have e9 : (g_ws cy ad gi gl sh).set a.toNat (ad a, .inl (cy 10, sh.2.2.1 a, .inl (upd (fun j => Int32.ofInt (gi a (j : Int))) (Int32.ofInt i).toNatClampNeg (Int32.ofInt v)))) = g_ws cy ad (g_up gi a i v) gl sh := g_ws_set (gr' := sh.1) hr.1 (by
    rw [g_cell_int (sh := (sh.1, sh.2)) ha (by decide) (by decide) (by decide)]
    have : (fun j : Nat => Int32.ofInt (g_up gi a i v a (j : Int))) = upd (fun j => Int32.ofInt (gi a (j : Int))) (Int32.ofInt i).toNatClampNeg (Int32.ofInt v) := by
      funext j
      have hc := g_clN h0 hi.2
      by_cases hj : j = (Int32.ofInt i).toNatClampNeg
      · subst hj; rw [pk_us, hc, g_up_at]
      · rw [pk_un hj, g_up_ne (by omega)]
    rw [this]) (fun i' hi' => g_cell_congr (g_up_row hi') rfl rfl)
  rw [e9] at hP hD
  exact h p l e R s m args below meth c Qf A D cy b n0 ad0 MC MS X ad H1 locs1 cells slots lsA (T.mem (gr' := sh.1) ⟨T.mm.1, hP, hD, hS, T.mm.2.2.2.2.up hx⟩ (g_st (g_st (g_st T.ok))))
theorem g_lastore {a i v : Int} (hd : decode md.2.1 pc = .ok (.lastore, 1)) (ha : sh.2.1 a = 12) (h0 : 0 ≤ i) (h1 : i < (sh.2.2.1 a : Int)) (h : Go md mc ms (pc + 1) ls st gi (g_up gl a i v) sh Q) : Go md mc ms pc ls (vL v :: vI i :: vR a :: st) gi gl sh Q := by
  intro p l e R s m args below meth c Qf A D cy b n0 ad0 MC MS X ad H locs cells slots lsA T
  have hr := g_unR (g_sh (g_st (g_st T.ok)))
  have hi := g_unI (g_sh (g_st T.ok))
  have he := g_ws_get (cy := cy) (ad := ad) (gi := gi) (gl := gl) hr.1 hr.2
  rw [g_cell_long ha] at he
  have hx := g_unL (g_sh T.ok)
  refine va_last X.1.1 X.1.2.1 T.mm.1 T.mm.2.1 T.mm.2.2.1 T.mm.2.2.2.1 a.toNat 2 he rfl (g_in h0 h1 hi.2) hd (fun H1 locs1 hP hD hS => ?_)
  have e9 : (g_ws cy ad gi gl sh).set a.toNat (ad a, .inl (cy 12, sh.2.2.1 a, .inr (.inl (vp_updL (fun j => Int64.ofInt (gl a (j : Int))) (Int32.ofInt i).toNatClampNeg (Int64.ofInt v))))) = g_ws cy ad gi (g_up gl a i v) sh := g_ws_set (gr' := sh.1) hr.1 (by
    rw [g_cell_long (sh := (sh.1, sh.2)) ha]
    have : (fun j : Nat => Int64.ofInt (g_up gl a i v a (j : Int))) = vp_updL (fun j => Int64.ofInt (gl a (j : Int))) (Int32.ofInt i).toNatClampNeg (Int64.ofInt v) := by
      funext j
      have hc := g_clN h0 hi.2
      by_cases hj : j = (Int32.ofInt i).toNatClampNeg
      · subst hj; rw [pk_uLs, hc, g_up_at]
      · rw [pk_uLn hj, g_up_ne (by omega)]
    rw [this]) (fun i' hi' => g_cell_congr rfl (g_up_row hi') rfl)
  rw [e9] at hP hD
  exact h p l e R s m args below meth c Qf A D cy b n0 ad0 MC MS X ad H1 locs1 cells slots lsA (T.mem (gr' := sh.1) ⟨T.mm.1, hP, hD, hS, T.mm.2.2.2.2.upL hx⟩ (g_st (g_st (g_st T.ok))))
theorem g_aastore {a i v : Int} {κ : Nat} (hd : decode md.2.1 pc = .ok (.aastore, 1)) (ha : sh.2.1 a = κ) (hk1 : 14 ≤ κ) (hk2 : κ ≤ 16) (hv : sh.2.1 v = g_el κ) (h0 : 0 ≤ i) (h1 : i < (sh.2.2.1 a : Int)) (h : Go md mc ms (pc + 1) ls st gi gl (g_up sh.1 a i (some v), sh.2) Q) : Go md mc ms pc ls (vR v :: vI i :: vR a :: st) gi gl sh Q := by
  intro p l e R s m args below meth c Qf A D cy b n0 ad0 MC MS X ad H locs cells slots lsA T
  have hr := g_unR (g_sh (g_st (g_st T.ok)))
  have hi := g_unI (g_sh (g_st T.ok))
  have he := g_ws_get (cy := cy) (ad := ad) (gi := gi) (gl := gl) hr.1 hr.2
  rw [g_cell_ref ha (by omega)] at he
  have hx := g_unR (g_sh T.ok)
  have hw := g_ws_get (cy := cy) (ad := ad) (gi := gi) (gl := gl) hx.1 hx.2
  rw [g_cell_obj hv (by rcases (show κ = 14 ∨ κ = 15 ∨ κ = 16 by omega) with rfl | rfl | rfl <;> decide)] at hw
  refine va_astq (r := (g_R (g_el κ), g_TT (g_el κ), g_nf (g_el κ))) X.1.1 X.1.2.1 T.mm.1 T.mm.2.1 T.mm.2.2.1 T.mm.2.2.2.1 a.toNat (κ - 10) v.toNat (g_el κ) he (g_ty_ref cy κ hk1 hk2) hw (g_cl _ (by rcases (show κ = 14 ∨ κ = 15 ∨ κ = 16 by omega) with rfl | rfl | rfl <;> decide)) (g_in h0 h1 hi.2) hd (fun H1 locs1 hP hD hS => ?_)
  have e9 : (g_ws cy ad gi gl sh).set a.toNat (ad a, .inl (cy κ, sh.2.2.1 a, .inr (.inr (.inr (.inr (va_up (fun j => (sh.1 a (j : Int)).map ad) (Int32.ofInt i).toNatClampNeg (some (ad v)))))))) = g_ws cy ad gi gl (g_up sh.1 a i (some v), sh.2) := g_ws_set hr.1 (by
    rw [g_cell_ref (sh := (g_up sh.1 a i (some v), sh.2)) ha (by omega)]
    have : (fun j : Nat => (g_up sh.1 a i (some v) a (j : Int)).map ad) = va_up (fun j => (sh.1 a (j : Int)).map ad) (Int32.ofInt i).toNatClampNeg (some (ad v)) := by
      funext j
      have hc := g_clN h0 hi.2
      unfold va_up
      by_cases hj : j = (Int32.ofInt i).toNatClampNeg
      · subst hj; rw [if_pos rfl, hc, g_up_at]; rfl
      · rw [if_neg hj, g_up_ne (by omega)]
    dsimp only
    rw [this]) (fun i' hi' => g_cell_congr rfl rfl (g_up_row hi'))
  rw [e9] at hP hD
  exact h p l e R s m args below meth c Qf A D cy b n0 ad0 MC MS X ad H1 locs1 cells slots lsA (T.mem ⟨T.mm.1, hP, hD, hS, T.mm.2.2.2.2.upR hx⟩ (g_st (g_st (g_st T.ok))))
theorem g_return (hd : decode md.2.1 pc = .ok (.return_, 1)) (hr : md.2.2.2.1 = none) (hq : Q none gi gl sh)  : Go md mc ms pc ls [] gi gl sh Q := by
  intro p l e R s m args below meth c Qf A D cy b n0 ad0 MC MS X ad H locs cells slots lsA T
  exact X.2.2.2 none gi gl sh ad H locs cells slots pc lsA hq T.1.1 T.1.2 T.mm (by have := T.2.1.1; omega) (by have := T.2.1.2; omega) (And.intro hr hd) (fun v hv => by cases hv)
theorem g_ireturnT {x : Int} (hd : decode md.2.1 pc = .ok (.ireturn, 1)) (ty : FieldType) (hr : md.2.2.2.1 = some ty) (hn : narrow ty (.int (Int32.ofInt x)) = .int (Int32.ofInt x)) (hq : Q (some (vI x)) gi gl sh)  : Go md mc ms pc ls [vI x] gi gl sh Q := by
  intro p l e R s m args below meth c Qf A D cy b n0 ad0 MC MS X ad H locs cells slots lsA T
  exact X.2.2.2 (some (vI x)) gi gl sh ad H locs cells slots pc lsA hq T.1.1 T.1.2 T.mm (by have := T.2.1.1; omega) (by have := T.2.1.2; omega) (And.intro ⟨ty, hr, hn⟩ hd) (fun v hv => by cases hv; exact g_sh T.ok)
theorem g_ireturn {x : Int} (hd : decode md.2.1 pc = .ok (.ireturn, 1)) (hr : md.2.2.2.1 = some .int) (hq : Q (some (vI x)) gi gl sh) : Go md mc ms pc ls [vI x] gi gl sh Q := g_ireturnT hd .int hr rfl hq
theorem g_zreturn {x : Int} (hd : decode md.2.1 pc = .ok (.ireturn, 1)) (hr : md.2.2.2.1 = some .boolean) (hx : x = 0 ∨ x = 1) (hq : Q (some (vI x)) gi gl sh) : Go md mc ms pc ls [vI x] gi gl sh Q := g_ireturnT hd .boolean hr (by rcases hx with rfl | rfl <;> decide) hq
theorem g_creturn {x : Int} (hd : decode md.2.1 pc = .ok (.ireturn, 1)) (hr : md.2.2.2.1 = some .char) (h0 : 0 ≤ x) (h1 : x ≤ 65535) (hq : Q (some (vI x)) gi gl sh) : Go md mc ms pc ls [vI x] gi gl sh Q := g_ireturnT hd .char hr (by obtain ⟨a, rfl⟩ := g_nat h0; rw [g_nI]; exact (pk_charN (by omega)).1) hq
theorem g_lreturn {x : Int} (hd : decode md.2.1 pc = .ok (.lreturn, 1)) (hr : md.2.2.2.1 = some .long) (hq : Q (some (vL x)) gi gl sh)  : Go md mc ms pc ls [vL x] gi gl sh Q := by
  intro p l e R s m args below meth c Qf A D cy b n0 ad0 MC MS X ad H locs cells slots lsA T
  exact X.2.2.2 (some (vL x)) gi gl sh ad H locs cells slots pc lsA hq T.1.1 T.1.2 T.mm (by have := T.2.1.1; omega) (by have := T.2.1.2; omega) (And.intro hr hd) (fun v hv => by cases hv; exact g_sh T.ok)
theorem g_tableIn {dflt lo hi : Int} {offs : Array Int} {len : Nat} {x off : Int} (tgt : Nat) (hd : decode md.2.1 pc = .ok (.tableswitch dflt lo hi offs, len)) (h1 : lo ≤ x) (h2 : x ≤ hi) (ho : offs[(x - lo).toNat]? = some off) (ht : (pc : Int) + off = (tgt : Int)) (h : Go md mc ms tgt ls st gi gl sh Q) : Go md mc ms pc ls (vI x :: st) gi gl sh Q := by
  intro p l e R s m args below meth c Qf A D cy b n0 ad0 MC MS X ad H locs cells slots lsA T
  have hx := g_i32 (g_unI (g_sh T.ok))
  exact lv_tableIn X.1.1 X.1.2.1 hd (by rw [hx]; omega) (by rw [hx]; omega) (by rw [hx]; exact ho) ht (h p l e R s m args below meth c Qf A D cy b n0 ad0 MC MS X ad H locs cells slots lsA (T.stk (g_st T.ok)))
theorem g_tableOut {dflt lo hi : Int} {offs : Array Int} {len : Nat} {x : Int} (tgt : Nat) (hd : decode md.2.1 pc = .ok (.tableswitch dflt lo hi offs, len)) (h1 : x < lo ∨ hi < x) (ht : (pc : Int) + dflt = (tgt : Int)) (h : Go md mc ms tgt ls st gi gl sh Q) : Go md mc ms pc ls (vI x :: st) gi gl sh Q := by
  intro p l e R s m args below meth c Qf A D cy b n0 ad0 MC MS X ad H locs cells slots lsA T
  have hx := g_i32 (g_unI (g_sh T.ok))
  exact lv_tableOut X.1.1 X.1.2.1 hd (by rw [hx]; exact h1) ht (h p l e R s m args below meth c Qf A D cy b n0 ad0 MC MS X ad H locs cells slots lsA (T.stk (g_st T.ok)))
theorem g_lookup {dflt : Int} {ps : Array (Int × Int)} {len : Nat} {x off : Int} (tgt : Nat) (hd : decode md.2.1 pc = .ok (.lookupswitch dflt ps, len)) (hp : (ps.toList.zip (ps.toList.drop 1)).all (fun (a, next) => a.1 < next.1) = true) (ho : Op.lookupswitch.offset ps.toList dflt x = off) (ht : (pc : Int) + off = (tgt : Int)) (h : Go md mc ms tgt ls st gi gl sh Q) : Go md mc ms pc ls (vI x :: st) gi gl sh Q := by
  intro p l e R s m args below meth c Qf A D cy b n0 ad0 MC MS X ad H locs cells slots lsA T
  have hx := g_i32 (g_unI (g_sh T.ok))
  exact lv_lookup X.1.1 X.1.2.1 hd hp (by rw [hx]; exact ho) ht (h p l e R s m args below meth c Qf A D cy b n0 ad0 MC MS X ad H locs cells slots lsA (T.stk (g_st T.ok)))
theorem g_sload {L : Nat} {xs : Nat → Int32} {i : Int} (hd : decode md.2.1 pc = .ok (.iaload, 1)) (hs : md.2.2.2.2.2.2 = some (L, xs)) (h0 : 0 ≤ i) (h1 : i < (L : Int)) (h : Go md mc ms (pc + 1) ls (vI ((xs i.toNat).toInt) :: st) gi gl sh Q) : Go md mc ms pc ls (vI i :: vS :: st) gi gl sh Q := by
  intro p l e R s m args below meth c Qf A D cy b n0 ad0 MC MS X ad H locs cells slots lsA T
  have hi := g_unI (g_sh T.ok)
  obtain ⟨hX, hb, hA⟩ := X.1.2.2.2.2.2.2.2.2.2.2.2.2 L xs hs
  have k := h p l e R s m args below meth c Qf A D cy b n0 ad0 MC MS X ad H locs cells slots lsA (T.stk (g_sc (g_okI (g_rgI _).1 (g_rgI _).2) (g_st (g_st T.ok))))
  refine va_sld X.1.1 X.1.2.1 hX hb hA T.mm.2.2.2.1 (g_in h0 h1 hi.2) hd ?_
  have e9 : (Int32.ofInt i).toNatClampNeg = i.toNat := by have := g_clN h0 hi.2; omega
  rw [e9, ← g_ofI (xs i.toNat)]
  exact k
theorem g_slen {L : Nat} {xs : Nat → Int32} (hd : decode md.2.1 pc = .ok (.arraylength, 1)) (hs : md.2.2.2.2.2.2 = some (L, xs)) (hb : L ≤ 2147483647) (h : Go md mc ms (pc + 1) ls (vI (L : Int) :: st) gi gl sh Q) : Go md mc ms pc ls (vS :: st) gi gl sh Q := by
  intro p l e R s m args below meth c Qf A D cy b n0 ad0 MC MS X ad H locs cells slots lsA T
  obtain ⟨hX, hb2, hA⟩ := X.1.2.2.2.2.2.2.2.2.2.2.2.2 L xs hs
  have k := h p l e R s m args below meth c Qf A D cy b n0 ad0 MC MS X ad H locs cells slots lsA (T.stk (g_sc (g_okI (by omega) (by omega)) (g_st T.ok)))
  refine va_slen X.1.1 X.1.2.1 hX hb2 hA T.mm.2.2.2.1 hd ?_
  rw [← Int32.ofInt_eq_ofNat]
  exact k
end RULES3
