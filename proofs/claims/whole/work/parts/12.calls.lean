theorem g_catS (b : Nat) (ad : Int → Nat) (st : List gV) : ((st.map (g_rn b ad)).map fun v => v.category).sum ≤ 2 * st.length := by
  induction st with
  | nil => simp
  | cons v st ih =>
    have : (g_rn b ad v).category ≤ 2 := by rcases v with x | x | x | x <;> simp [g_rn, Value.category]
    simp only [List.map_cons, List.sum_cons, List.length_cons]
    omega
/-- System.arraycopy -/
def g_cp (f : gF) (a0 a sp dp n : Int) : gF := fun b j => if b = a ∧ dp ≤ j ∧ j < dp + n then f a0 (sp + (j - dp)) else f b j
theorem g_cp_row {f : gF} {a0 a sp dp n b : Int} (h : b ≠ a) : g_cp f a0 a sp dp n b = f b := by funext j; simp [g_cp, h]
section RULES5
variable {md : gMD} {mc ms pc : Nat} {ls : List (Option gV)} {st : List gV} {gi gl : gF} {sh : gSh} {Q : gQ}
theorem g_objInit {idx : Nat} {a : Int} (hd : decode md.2.1 pc = .ok (.invokespecial idx, 3)) (hl : Cond.methodLink md.1 idx objectInit ∈ lw_good) (hs : st.length ≤ 4) (h : Go md mc ms (pc + 3) ls st gi gl sh Q) : Go md mc ms pc ls (vR a :: st) gi gl sh Q := by
  intro p l e R s m args below meth c Qf A D cy b n0 ad0 MC MS X ad H locs cells slots lsA T
  have hW := X.1.2.2.2.2.1
  have hlev : 1 ≤ md.2.2.2.2.1 := X.1.2.2.2.2.2.2.2.2.2.1
  have hF := X.1.2.2.2.2.2.2.2.1
  have hLo := X.1.2.2.2.2.2.2.2.2.1
  have hc := g_catS b ad st
  refine W.objInit (a := ad a) (rest := st.map (g_rn b ad)) X.1.1 X.1.2.1 X.1.2.2.2.1 (hW _ hl) (hW _ wo_inst) (hW _ wo_code) rfl (by rw [X.1.2.2.1]; exact T.lo.1) rfl hd (by omega) ?_ ?_
  · have := lv_room (m := m) (pc := pc) (ls := lsA) (rest := (vR a :: st).map (g_rn b ad)) (st := st.map (g_rn b ad)) (by omega)
    omega
  · exact W.eq (g2 := F0 m (pc + 3) lsA (st.map (g_rn b ad))) rfl (h p l e R s m args below meth c Qf A D cy b n0 ad0 MC MS X ad H locs cells slots lsA (T.stk (g_st T.ok)))
theorem g_max {idx : Nat} {x y : Int} (hd : decode md.2.1 pc = .ok (.invokestatic idx, 3)) (hl : Cond.methodLink md.1 idx Lib.Math.max.name ∈ lw_good) (hs : st.length ≤ 4) (h : Go md mc ms (pc + 3) ls (vI (max x y) :: st) gi gl sh Q) : Go md mc ms pc ls (vI y :: vI x :: st) gi gl sh Q := by
  intro p l e R s m args below meth c Qf A D cy b n0 ad0 MC MS X ad H locs cells slots lsA T
  have hW := X.1.2.2.2.2.1
  have hlev : 1 ≤ md.2.2.2.2.1 := X.1.2.2.2.2.2.2.2.2.2.1
  have hF := X.1.2.2.2.2.2.2.2.1
  have hLo := X.1.2.2.2.2.2.2.2.2.1
  have hc := g_catS b ad st
  have hy := g_unI (g_sh T.ok)
  have hx := g_unI (g_sh (g_st T.ok))
  have h1 := T.2.1.1
  have h2 := T.2.1.2
  have h3 := X.2.1
  have h4 := X.2.2.1
  have k := h p l e R s m args below meth c Qf A D cy b n0 ad0 MC MS X ad H locs cells slots lsA (T.stk (g_sc (g_okI (by omega) (by omega)) (g_st (g_st T.ok))))
  refine va_mmax X.1.1 X.1.2.1 (X.1.2.2.1.trans T.lo.1.symm) X.1.2.2.2.1 (hW _ hl) (hW _ wmax_stat) (hW _ wmath_init) (hW _ wmax_code) (by omega) (by omega) (by omega) (by omega) hd ?_
  have e9 : (if Int32.ofInt x < Int32.ofInt y then Int32.ofInt y else Int32.ofInt x) = Int32.ofInt (max x y) := by
    by_cases hxy : x < y
    · rw [if_pos ((g_lt hx hy).mpr hxy), Int.max_eq_right (by omega)]
    · rw [if_neg (fun q => hxy ((g_lt hx hy).mp q)), Int.max_eq_left (by omega)]
  rw [e9]
  exact k
theorem g_min {idx : Nat} {x y : Int} (hd : decode md.2.1 pc = .ok (.invokestatic idx, 3)) (hl : Cond.methodLink md.1 idx Lib.Math.min.name ∈ lw_good) (hs : st.length ≤ 4) (h : Go md mc ms (pc + 3) ls (vI (min x y) :: st) gi gl sh Q) : Go md mc ms pc ls (vI y :: vI x :: st) gi gl sh Q := by
  intro p l e R s m args below meth c Qf A D cy b n0 ad0 MC MS X ad H locs cells slots lsA T
  have hW := X.1.2.2.2.2.1
  have hlev : 1 ≤ md.2.2.2.2.1 := X.1.2.2.2.2.2.2.2.2.2.1
  have hF := X.1.2.2.2.2.2.2.2.1
  have hLo := X.1.2.2.2.2.2.2.2.2.1
  have hc := g_catS b ad st
  have hy := g_unI (g_sh T.ok)
  have hx := g_unI (g_sh (g_st T.ok))
  have h1 := T.2.1.1
  have h2 := T.2.1.2
  have h3 := X.2.1
  have h4 := X.2.2.1
  have k := h p l e R s m args below meth c Qf A D cy b n0 ad0 MC MS X ad H locs cells slots lsA (T.stk (g_sc (g_okI (by omega) (by omega)) (g_st (g_st T.ok))))
  refine va_mmin X.1.1 X.1.2.1 (X.1.2.2.1.trans T.lo.1.symm) X.1.2.2.2.1 (hW _ hl) (hW _ wmin_stat) (hW _ wmath_init) (hW _ wmin_code) (by omega) (by omega) (by omega) (by omega) hd ?_
  have e9 : (if Int32.ofInt y < Int32.ofInt x then Int32.ofInt y else Int32.ofInt x) = Int32.ofInt (min x y) := by
    by_cases hxy : y < x
    · rw [if_pos ((g_lt hy hx).mpr hxy), Int.min_eq_right (by omega)]
    · rw [if_neg (fun q => hxy ((g_lt hy hx).mp q)), Int.min_eq_left (by omega)]
  rw [e9]
  exact k
theorem g_copyI {idx : Nat} {a0 a sp dp n : Int} (hd : decode md.2.1 pc = .ok (.invokestatic idx, 3)) (hl : Cond.methodLink md.1 idx arraycopyName ∈ lw_good) (hs : st.length ≤ 4) (hk0 : sh.2.1 a0 = 11) (hk : sh.2.1 a = 11) (h0 : 0 ≤ sp) (h1 : 0 ≤ dp) (h2 : 0 ≤ n) (h3 : sp + n ≤ (sh.2.2.1 a0 : Int)) (h4 : dp + n ≤ (sh.2.2.1 a : Int))
    (h : Go md mc ms (pc + 3) ls st (g_cp gi a0 a sp dp n) gl sh Q) : Go md mc ms pc ls (vI n :: vI dp :: vR a :: vI sp :: vR a0 :: st) gi gl sh Q := by
  intro p l e R s m args below meth c Qf A D cy b n0 ad0 MC MS X ad H locs cells slots lsA T
  have hW := X.1.2.2.2.2.1
  have hlev : 1 ≤ md.2.2.2.2.1 := X.1.2.2.2.2.2.2.2.2.2.1
  have hF := X.1.2.2.2.2.2.2.2.1
  have hLo := X.1.2.2.2.2.2.2.2.2.1
  have hc := g_catS b ad st
  have o1 := g_unI (g_sh T.ok)
  have o2 := g_unI (g_sh (g_st T.ok))
  have o3 := g_unR (g_sh (g_st (g_st T.ok)))
  have o4 := g_unI (g_sh (g_st (g_st (g_st T.ok))))
  have o5 := g_unR (g_sh (g_st (g_st (g_st (g_st T.ok)))))
  have e0 := g_ws_get (cy := cy) (ad := ad) (gi := gi) (gl := gl) o5.1 o5.2
  have e1 := g_ws_get (cy := cy) (ad := ad) (gi := gi) (gl := gl) o3.1 o3.2
  rw [g_cell_int hk0 (by decide) (by decide) (by decide)] at e0
  rw [g_cell_int hk (by decide) (by decide) (by decide)] at e1
  have c1 := g_clN h0 o4.2
  have c2 := g_clN h1 o2.2
  have c3 := g_clN h2 o1.2
  have ng : ∀ z : Int, 0 ≤ z → -2147483648 ≤ z ∧ z ≤ 2147483647 → ¬ Int32.ofInt z < 0 := fun z h9 h8 h7 => by
    have := (g_lt (x := z) (y := 0) h8 (by decide)).mp h7
    omega
  have hnf : nativeFrameWords "java/lang/System" "arraycopy" 5 = 7 := by decide
  refine va_copyi (ty := .int) X.1.1 X.1.2.1 (X.1.2.2.1.trans T.lo.1.symm) X.1.2.2.2.1 (hW _ hl) (hW _ wcopy_nat) (hW _ wcopy_stat) (hW _ wsys_init) T.mm.1 T.mm.2.1 T.mm.2.2.1 T.mm.2.2.2.1 a0.toNat a.toNat 1 1 e0 e1 rfl rfl rfl (ng sp h0 o4) (ng dp h1 o2) (ng n h2 o1) (by omega) (by omega) (fun _ _ => rfl) (by omega) (by omega) hd (fun H1 locs1 hP hD hS => ?_)
  have e9 : (g_ws cy ad gi gl sh).set a.toNat (ad a, .inl (cy 11, sh.2.2.1 a, .inl (va_cpy (fun j => Int32.ofInt (gi a0 (j : Int))) (fun j => Int32.ofInt (gi a (j : Int))) (Int32.ofInt sp).toNatClampNeg (Int32.ofInt dp).toNatClampNeg (Int32.ofInt n).toNatClampNeg))) = g_ws cy ad (g_cp gi a0 a sp dp n) gl sh := g_ws_set (gr' := sh.1) o3.1 (by
    rw [g_cell_int (sh := (sh.1, sh.2)) hk (by decide) (by decide) (by decide)]
    have : (fun j : Nat => Int32.ofInt (g_cp gi a0 a sp dp n a (j : Int))) = va_cpy (fun j => Int32.ofInt (gi a0 (j : Int))) (fun j => Int32.ofInt (gi a (j : Int))) (Int32.ofInt sp).toNatClampNeg (Int32.ofInt dp).toNatClampNeg (Int32.ofInt n).toNatClampNeg := by
      funext j
      unfold g_cp va_cpy
      by_cases hj : dp ≤ (j : Int) ∧ (j : Int) < dp + n
      · rw [if_pos ⟨rfl, hj⟩, if_pos (by omega)]
        congr 2
        omega
      · rw [if_neg (fun q => hj q.2), if_neg (by omega)]
    rw [this]) (fun i' hi' => g_cell_congr (g_cp_row hi') rfl rfl)
  rw [e9] at hP hD
  exact h p l e R s m args below meth c Qf A D cy b n0 ad0 MC MS X ad H1 locs1 cells slots lsA (T.mem (gr' := sh.1) ⟨T.mm.1, hP, hD, hS, ⟨fun x y => by
    unfold g_cp
    split
    · exact T.mm.2.2.2.2.1 _ _
    · exact T.mm.2.2.2.2.1 _ _, T.mm.2.2.2.2.2⟩⟩ (g_st (g_st (g_st (g_st (g_st T.ok))))))
theorem g_copyL {idx : Nat} {a0 a sp dp n : Int} (hd : decode md.2.1 pc = .ok (.invokestatic idx, 3)) (hl : Cond.methodLink md.1 idx arraycopyName ∈ lw_good) (hs : st.length ≤ 4) (hk0 : sh.2.1 a0 = 12) (hk : sh.2.1 a = 12) (h0 : 0 ≤ sp) (h1 : 0 ≤ dp) (h2 : 0 ≤ n) (h3 : sp + n ≤ (sh.2.2.1 a0 : Int)) (h4 : dp + n ≤ (sh.2.2.1 a : Int))
    (h : Go md mc ms (pc + 3) ls st gi (g_cp gl a0 a sp dp n) sh Q) : Go md mc ms pc ls (vI n :: vI dp :: vR a :: vI sp :: vR a0 :: st) gi gl sh Q := by
  intro p l e R s m args below meth c Qf A D cy b n0 ad0 MC MS X ad H locs cells slots lsA T
  have hW := X.1.2.2.2.2.1
  have hlev : 1 ≤ md.2.2.2.2.1 := X.1.2.2.2.2.2.2.2.2.2.1
  have hF := X.1.2.2.2.2.2.2.2.1
  have hLo := X.1.2.2.2.2.2.2.2.2.1
  have hc := g_catS b ad st
  have o1 := g_unI (g_sh T.ok)
  have o2 := g_unI (g_sh (g_st T.ok))
  have o3 := g_unR (g_sh (g_st (g_st T.ok)))
  have o4 := g_unI (g_sh (g_st (g_st (g_st T.ok))))
  have o5 := g_unR (g_sh (g_st (g_st (g_st (g_st T.ok)))))
  have e0 := g_ws_get (cy := cy) (ad := ad) (gi := gi) (gl := gl) o5.1 o5.2
  have e1 := g_ws_get (cy := cy) (ad := ad) (gi := gi) (gl := gl) o3.1 o3.2
  rw [g_cell_long hk0] at e0
  rw [g_cell_long hk] at e1
  have c1 := g_clN h0 o4.2
  have c2 := g_clN h1 o2.2
  have c3 := g_clN h2 o1.2
  have ng : ∀ z : Int, 0 ≤ z → -2147483648 ≤ z ∧ z ≤ 2147483647 → ¬ Int32.ofInt z < 0 := fun z h9 h8 h7 => by
    have := (g_lt (x := z) (y := 0) h8 (by decide)).mp h7
    omega
  have hnf : nativeFrameWords "java/lang/System" "arraycopy" 5 = 7 := by decide
  refine va_copyl (ty := .long) X.1.1 X.1.2.1 (X.1.2.2.1.trans T.lo.1.symm) X.1.2.2.2.1 (hW _ hl) (hW _ wcopy_nat) (hW _ wcopy_stat) (hW _ wsys_init) T.mm.1 T.mm.2.1 T.mm.2.2.1 T.mm.2.2.2.1 a0.toNat a.toNat 2 2 e0 e1 rfl rfl rfl (ng sp h0 o4) (ng dp h1 o2) (ng n h2 o1) (by omega) (by omega) (fun _ _ => rfl) (by omega) (by omega) hd (fun H1 locs1 hP hD hS => ?_)
  have e9 : (g_ws cy ad gi gl sh).set a.toNat (ad a, .inl (cy 12, sh.2.2.1 a, .inr (.inl (va_cpy (fun j => Int64.ofInt (gl a0 (j : Int))) (fun j => Int64.ofInt (gl a (j : Int))) (Int32.ofInt sp).toNatClampNeg (Int32.ofInt dp).toNatClampNeg (Int32.ofInt n).toNatClampNeg)))) = g_ws cy ad gi (g_cp gl a0 a sp dp n) sh := g_ws_set (gr' := sh.1) o3.1 (by
    rw [g_cell_long (sh := (sh.1, sh.2)) hk]
    have : (fun j : Nat => Int64.ofInt (g_cp gl a0 a sp dp n a (j : Int))) = va_cpy (fun j => Int64.ofInt (gl a0 (j : Int))) (fun j => Int64.ofInt (gl a (j : Int))) (Int32.ofInt sp).toNatClampNeg (Int32.ofInt dp).toNatClampNeg (Int32.ofInt n).toNatClampNeg := by
      funext j
      unfold g_cp va_cpy
      by_cases hj : dp ≤ (j : Int) ∧ (j : Int) < dp + n
      · rw [if_pos ⟨rfl, hj⟩, if_pos (by omega)]
        congr 2
        omega
      · rw [if_neg (fun q => hj q.2), if_neg (by omega)]
    rw [this]) (fun i' hi' => g_cell_congr rfl (g_cp_row hi') rfl)
  rw [e9] at hP hD
  exact h p l e R s m args below meth c Qf A D cy b n0 ad0 MC MS X ad H1 locs1 cells slots lsA (T.mem (gr' := sh.1) ⟨T.mm.1, hP, hD, hS, ⟨T.mm.2.2.2.2.1, fun x y => by
    unfold g_cp
    split
    · exact T.mm.2.2.2.2.2.1 _ _
    · exact T.mm.2.2.2.2.2.1 _ _, T.mm.2.2.2.2.2.2⟩⟩ (g_st (g_st (g_st (g_st (g_st T.ok))))))
end RULES5
