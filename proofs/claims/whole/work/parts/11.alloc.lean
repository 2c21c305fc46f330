theorem g_ft_ok : ∀ ci : Nat, ci < 10 → ∀ k : Nat, k < g_nf ci → g_ft ci k = .int ∨ g_isR (g_ft ci k) = true := by
  have h : (List.range 10).all (fun ci => (List.range (g_nf ci)).all (fun k => decide (g_ft ci k = .int) || g_isR (g_ft ci k))) = true := by decide +kernel
  intro ci hc k hk
  have h1 := List.all_eq_true.mp (List.all_eq_true.mp h ci (List.mem_range.mpr hc)) k (List.mem_range.mpr hk)
  rcases Bool.or_eq_true _ _ ▸ h1 with h2 | h2
  · exact Or.inl (of_decide_eq_true h2)
  · exact Or.inr h2
theorem g_cell_ext {cy : Nat → ClassId} {ad ad' : Int → Nat} {gi gl gi' gl' : gF} {sh sh' : gSh} {i : Int} (h1 : gi' i = gi i) (h2 : gl' i = gl i) (h3 : sh'.1 i = sh.1 i) (h4 : sh'.2.1 i = sh.2.1 i) (h5 : sh'.2.2.1 i = sh.2.2.1 i) (h6 : ∀ k r : Int, sh.1 i k = some r → ad' r = ad r) : g_cell cy ad' gi' gl' sh' i = g_cell cy ad gi gl sh i := by
  have hm : ∀ k : Int, (sh.1 i k).map ad' = (sh.1 i k).map ad := fun k => by
    cases hk : sh.1 i k with
    | none => rfl
    | some r => simp [h6 k r hk]
  simp [g_cell, g_fs, g_fv, h1, h2, h3, h4, h5, hm]
/-- one cell more: its kind, its length -/
def g_nsh (sh : gSh) (κ len : Nat) : gSh := (g_row sh.1 (sh.2.2.2 : Int) (fun _ => none), g_row sh.2.1 (sh.2.2.2 : Int) κ, g_row sh.2.2.1 (sh.2.2.2 : Int) len, sh.2.2.2 + 1)
theorem g_ws_push {cy : Nat → ClassId} {ad : Int → Nat} {gi gl : gF} {sh : gSh} {κ len q : Nat} (hwf : g_wf gi gl sh) : g_ws cy (g_row ad (sh.2.2.2 : Int) q) (g_row gi (sh.2.2.2 : Int) (fun _ => 0)) (g_row gl (sh.2.2.2 : Int) (fun _ => 0)) (g_nsh sh κ len) = g_ws cy ad gi gl sh ++ [(q, g_cell cy (g_row ad (sh.2.2.2 : Int) q) (g_row gi (sh.2.2.2 : Int) (fun _ => 0)) (g_row gl (sh.2.2.2 : Int) (fun _ => 0)) (g_nsh sh κ len) (sh.2.2.2 : Int))] := by
  show List.map _ (List.range (sh.2.2.2 + 1)) = _
  rw [List.range_succ, List.map_append]
  congr 1
  · refine List.map_congr_left (fun i hi => ?_)
    have hlt : i < sh.2.2.2 := List.mem_range.mp hi
    have hne : (i : Int) ≠ (sh.2.2.2 : Int) := by omega
    refine Prod.ext (g_row_ne hne) (g_cell_ext (g_row_ne hne) (g_row_ne hne) (g_row_ne hne) (g_row_ne hne) (g_row_ne hne) (fun k r hr => g_row_ne ?_))
    have := (hwf.2.2 _ _ _ hr).2
    omega
  · simp [g_row]
theorem g_rn_row {b q n : Nat} {ad : Int → Nat} {v : gV} (h : g_ok n v) : g_rn b (g_row ad (n : Int) q) v = g_rn b ad v := by
  rcases v with x | x | x | x
  · rfl
  · rfl
  · show Value.ref _ = Value.ref _
    rw [g_row_ne (by have := (g_unR h).2; omega)]
  · rfl
theorem g_ok_mono {n n' : Nat} (h : n ≤ n') {v : gV} (hv : g_ok n v) : g_ok n' v := by
  rcases v with x | x | x | x
  · exact hv
  · exact hv
  · exact g_okR (g_unR hv).1 (by have := (g_unR hv).2; omega)
  · trivial
section ALLOC
variable {md : gMD} {mc ms pc : Nat} {ls : List (Option gV)} {st st' : List gV} {gi gl : gF} {sh : gSh} {Q : gQ} {s : State} {A : Nat → Prop} {D : va_G} {cy : Nat → ClassId} {b n0 : Nat} {ad0 : Int → Nat} {MC MS : Nat} {ad : Int → Nat} {H : Heap} {locs : List Loc} {cells slots : Nat} {lsA : Array Slot}
theorem g_T.alloc {k κ len q : Nat} {H1 : Heap} (T : g_T md (mc + 1) (ms + k) ls st' gi gl sh s A D cy b n0 ad0 MC MS ad H locs cells slots lsA) (hst : ∀ v ∈ st, g_ok sh.2.2.2 v)
    (hP : va_P D vwCl (g_ws cy ad gi gl sh ++ [(q, g_cell cy (g_row ad (sh.2.2.2 : Int) q) (g_row gi (sh.2.2.2 : Int) (fun _ => 0)) (g_row gl (sh.2.2.2 : Int) (fun _ => 0)) (g_nsh sh κ len) (sh.2.2.2 : Int))]) H1)
    (hD : va_D A (g_ws cy ad gi gl sh ++ [(q, g_cell cy (g_row ad (sh.2.2.2 : Int) q) (g_row gi (sh.2.2.2 : Int) (fun _ => 0)) (g_row gl (sh.2.2.2 : Int) (fun _ => 0)) (g_nsh sh κ len) (sh.2.2.2 : Int))])) (hS : va_S A s.heap H1 locs) :
    g_T md mc ms ls (vR (sh.2.2.2 : Int) :: st) (g_row gi (sh.2.2.2 : Int) (fun _ => 0)) (g_row gl (sh.2.2.2 : Int) (fun _ => 0)) (g_nsh sh κ len) s A D cy b n0 ad0 MC MS (g_row ad (sh.2.2.2 : Int) q) H1 locs (cells + 1) (slots + k) lsA := by
  have hwf := T.mm.2.2.2.2
  rw [← g_ws_push hwf] at hP hD
  refine ⟨⟨Nat.le_succ_of_le T.1.1, fun a h0 h1 => ?_⟩, ⟨by have := T.2.1.1; omega, by have := T.2.1.2; omega⟩, ⟨T.mm.1, hP, hD, hS, ⟨fun a k => ?_, fun a k => ?_, fun a k r hr => ?_⟩⟩, ⟨T.lo.1, T.lo.2.1, T.lo.2.2.1, fun i v hi => ?_⟩, g_sc (g_okR (by omega) (by show (sh.2.2.2 : Int) < ((sh.2.2.2 + 1 : Nat) : Int); omega)) (fun v hv => g_ok_mono (Nat.le_succ _) (hst v hv))⟩
  · rw [g_row_ne (by have := T.1.1; omega)]; exact T.1.2 a h0 h1
  · unfold g_row; split
    · exact (by decide : (-2147483648 : Int) ≤ 0 ∧ (0 : Int) ≤ 2147483647)
    · exact hwf.1 a k
  · unfold g_row; split
    · exact (by decide : (-9223372036854775808 : Int) ≤ 0 ∧ (0 : Int) ≤ 9223372036854775807)
    · exact hwf.2.1 a k
  · have hr : g_row sh.1 (sh.2.2.2 : Int) (fun _ => none) a k = some r := hr
    unfold g_row at hr
    split at hr
    · cases hr
    · have := hwf.2.2 a k r hr
      exact ⟨this.1, by show r < ((sh.2.2.2 + 1 : Nat) : Int); omega⟩
  · obtain ⟨h1, h2⟩ := T.lo.2.2.2 i v hi
    exact ⟨by rw [g_rn_row h2]; exact h1, g_ok_mono (Nat.le_succ _) h2⟩
end ALLOC
section RULES4
variable {md : gMD} {mc ms pc : Nat} {ls : List (Option gV)} {st : List gV} {gi gl : gF} {sh : gSh} {Q : gQ}
theorem g_new {idx : Nat} (ci : Nat) (hd : decode md.2.1 pc = .ok (.new idx, 3)) (hcl : Cond.classLink md.1 idx (g_R ci) ∈ lw_good) (hc : ci < 10)
    (h : Go md mc ms (pc + 3) ls (vR (sh.2.2.2 : Int) :: st) (g_row gi (sh.2.2.2 : Int) (fun _ => 0)) (g_row gl (sh.2.2.2 : Int) (fun _ => 0)) (g_nsh sh ci 0) Q) : Go md (mc + 1) (ms + g_nf ci) pc ls st gi gl sh Q := by
  intro p l e R s m args below meth c Qf A D cy b n0 ad0 MC MS X ad H locs cells slots lsA T
  have hfs : ∀ q : Nat, g_cell cy (g_row ad (sh.2.2.2 : Int) q) (g_row gi (sh.2.2.2 : Int) (fun _ => 0)) (g_row gl (sh.2.2.2 : Int) (fun _ => 0)) (g_nsh sh ci 0) (sh.2.2.2 : Int) = .inr (ci, g_fs (fun _ => 0) (fun _ _ => 0) (fun _ _ => none) ci 0) := fun q => by
    rw [g_cell_obj (sh := g_nsh sh ci 0) (by simp [g_nsh, g_row]) hc]
    congr 2
    refine List.map_congr_left (fun k _ => ?_)
    have e1 : g_row gi (sh.2.2.2 : Int) (fun _ => 0) (sh.2.2.2 : Int) (k : Int) = 0 := by simp [g_row]
    have e2 : (g_nsh sh ci 0).1 (sh.2.2.2 : Int) (k : Int) = none := by simp [g_nsh, g_row]
    rw [e1, e2]
    cases g_ft ci k <;> rfl
  have hR1 := T.2.1.1
  have hR2 := T.2.1.2
  have hR3 := X.2.1
  have hR4 := X.2.2.1
  refine va_new (D := D) (cl := vwCl) (ci := ci) (fs := g_fs (fun _ => 0) (fun _ _ => 0) (fun _ _ => none) ci 0) (C := g_R ci) (T := g_TT ci) (N := g_nf ci) X.1.1 X.1.2.1 X.1.2.2.2.2.1 (g_inn ci hc) (g_ft ci) (g_tyk ci hc) X.1.2.2.2.1 (X.1.2.2.2.2.1 _ hcl) (X.1.2.2.2.2.1 _ (g_ins ci hc).1) (X.1.2.2.2.2.1 _ (g_ins ci hc).2) T.mm.1 T.mm.2.1 T.mm.2.2.1 T.mm.2.2.2.1 X.1.2.2.2.2.2.2.2.2.2.2.2.1 (g_cl ci hc) (fun j hj => ?_) (by omega) (by omega) hd (fun q H1 hP hD hS => ?_)
  · have e1 : (g_fs (fun _ => 0) (fun _ _ => 0) (fun _ _ => none) ci 0)[j]? = some _ := g_fs_get hj
    rw [vp_V, List.getD, e1]
    rcases g_ft_ok ci hc j hj with h9 | h9
    · rw [h9]; rfl
    · show defaultValue (g_ft ci j) = g_fv (fun _ => 0) (g_ft ci j) 0 none
      rw [g_isR_fv h9]
      revert h9
      cases g_ft ci j <;> intro h9 <;> first | rfl | cases h9
  · rw [← hfs q] at hP hD
    have k := h p l e R s m args below meth c Qf A D cy b n0 ad0 MC MS X (g_row ad (sh.2.2.2 : Int) q) H1 locs (cells + 1) (slots + g_nf ci) lsA (T.alloc (κ := ci) (len := 0) T.ok hP hD hS)
    have e1 : st.map (g_rn b (g_row ad (sh.2.2.2 : Int) q)) = st.map (g_rn b ad) := List.map_congr_left (fun v hv => g_rn_row (T.ok v hv))
    rw [List.map_cons, e1] at k
    have e2 : g_rn b (g_row ad (sh.2.2.2 : Int) q) (vR (sh.2.2.2 : Int)) = .ref q := by show Value.ref _ = _; simp [g_row]
    rw [e2] at k
    exact k
theorem g_newarr (at_ : ArrayType) (ty : FieldType) (κ : Nat) {N : Int} (a0 : Nat → vp_A) (hat : newarray.typeOf at_ = ty) (hty : ∀ cy : Nat → ClassId, (g_tys cy)[κ - 10]? = some (cy κ, ty)) (hra : ∀ (U : State) (x : ClassId), va_RA U x ty → U.vm.findClass ("[" ++ ty.toString) = some x) (ha0 : ∀ (n : Nat) (cA : ClassId), vp_cell cA (a0 n) = arrV cA n (fun _ => defaultValue ty))
    (hcell : ∀ (cy : Nat → ClassId) (ad : Int → Nat) (gi gl : gF) (sh : gSh) (n : Nat) (z : Int), sh.2.1 z = κ → sh.2.2.1 z = n → (∀ j, gi z j = 0) → (∀ j, gl z j = 0) → g_cell cy ad gi gl sh z = .inl (cy κ, a0 n)) (hcb : componentBytes ty ≤ 8)
    (hw : Cond.arrayClass ty ∈ lw_good) (hd : decode md.2.1 pc = .ok (.newarray at_, 2)) (h0 : 0 ≤ N) (h1 : N ≤ 2000)
    (h : Go md mc ms (pc + 2) ls (vR (sh.2.2.2 : Int) :: st) (g_row gi (sh.2.2.2 : Int) (fun _ => 0)) (g_row gl (sh.2.2.2 : Int) (fun _ => 0)) (g_nsh sh κ N.toNat) Q) : Go md (mc + 1) (ms + N.toNat) pc ls (vI N :: st) gi gl sh Q := by
  intro p l e R s m args below meth c Qf A D cy b n0 ad0 MC MS X ad H locs cells slots lsA T
  subst hat
  have hR1 := T.2.1.1
  have hR2 := T.2.1.2
  have hR3 := X.2.1
  have hR4 := X.2.2.1
  have hN : ((Int32.ofInt N).toNatClampNeg : Int) = N := g_clN h0 (by omega)
  have hneg : ¬ Int32.ofInt N < 0 := fun h9 => by
    have := (g_lt (x := N) (y := 0) ⟨by omega, by omega⟩ (by decide)).mp h9
    omega
  have hby : N.toNat * componentBytes (newarray.typeOf at_) ≤ 536870912 := Nat.le_trans (Nat.mul_le_mul (show N.toNat ≤ 2000 by omega) hcb) (by decide)
  refine va_newa (D := D) (cl := vwCl) (atype := at_) (a0 := a0 N.toNat) (N' := N.toNat) X.1.1 X.1.2.1 (X.1.2.2.2.2.1 _ hw) rfl T.mm.1 T.mm.2.1 T.mm.2.2.1 T.mm.2.2.2.1 X.1.2.2.2.2.2.2.2.2.2.2.2.1 (ha0 N.toNat) hneg (by omega) hby (by omega) (by omega) hd (fun q cA H1 hK hP hD hS => ?_)
  have hc1 := hra s _ (T.mm.1.2 _ _ (hty cy)).2
  have hc2 := hra s cA (hK.2 (g_tys cy).length (cA, newarray.typeOf at_) (by simp)).2
  have hcA : cA = cy κ := Option.some.inj (hc2.symm.trans hc1)
  subst hcA
  rw [← hcell cy (g_row ad (sh.2.2.2 : Int) q) (g_row gi (sh.2.2.2 : Int) (fun _ => 0)) (g_row gl (sh.2.2.2 : Int) (fun _ => 0)) (g_nsh sh κ N.toNat) N.toNat (sh.2.2.2 : Int) (by simp [g_nsh, g_row]) (by simp [g_nsh, g_row]) (fun j => by simp [g_row]) (fun j => by simp [g_row])] at hP hD
  have k := h p l e R s m args below meth c Qf A D cy b n0 ad0 MC MS X (g_row ad (sh.2.2.2 : Int) q) H1 locs (cells + 1) (slots + N.toNat) lsA (T.alloc (κ := κ) (len := N.toNat) (g_st T.ok) hP hD hS)
  have e1 : st.map (g_rn b (g_row ad (sh.2.2.2 : Int) q)) = st.map (g_rn b ad) := List.map_congr_left (fun v hv => g_rn_row (g_st T.ok v hv))
  rw [List.map_cons, e1] at k
  have e2 : g_rn b (g_row ad (sh.2.2.2 : Int) q) (vR (sh.2.2.2 : Int)) = .ref q := by show Value.ref _ = _; simp [g_row]
  rw [e2] at k
  exact k
theorem g_cell_i0 {cy : Nat → ClassId} {ad : Int → Nat} {gi gl : gF} {sh : gSh} {n : Nat} {z : Int} {κ : Nat} (h1 : ¬ κ < 10) (h2 : κ ≠ 12) (h3 : κ < 14) (hk : sh.2.1 z = κ) (hn : sh.2.2.1 z = n) (hi : ∀ j, gi z j = 0) : g_cell cy ad gi gl sh z = .inl (cy κ, n, .inl (fun _ => (0 : Int32))) := by
  rw [g_cell_int hk h1 h2 h3, hn]
  simp only [hi]
  rfl
theorem g_newI {N : Int} (hd : decode md.2.1 pc = .ok (.newarray .int, 2)) (h0 : 0 ≤ N) (h1 : N ≤ 2000) (h : Go md mc ms (pc + 2) ls (vR (sh.2.2.2 : Int) :: st) (g_row gi (sh.2.2.2 : Int) (fun _ => 0)) (g_row gl (sh.2.2.2 : Int) (fun _ => 0)) (g_nsh sh 11 N.toNat) Q) : Go md (mc + 1) (ms + N.toNat) pc ls (vI N :: st) gi gl sh Q :=
  g_newarr .int .int 11 (fun n => (n, .inl (fun _ => (0 : Int32)))) rfl (fun _ => rfl) (fun _ _ h => h) (fun _ _ => rfl) (fun _ _ _ _ _ _ _ hk hn hi _ => g_cell_i0 (by decide) (by decide) (by decide) hk hn hi) (by decide) wa_int hd h0 h1 h
theorem g_newZ {N : Int} (hd : decode md.2.1 pc = .ok (.newarray .boolean, 2)) (h0 : 0 ≤ N) (h1 : N ≤ 2000) (h : Go md mc ms (pc + 2) ls (vR (sh.2.2.2 : Int) :: st) (g_row gi (sh.2.2.2 : Int) (fun _ => 0)) (g_row gl (sh.2.2.2 : Int) (fun _ => 0)) (g_nsh sh 13 N.toNat) Q) : Go md (mc + 1) (ms + N.toNat) pc ls (vI N :: st) gi gl sh Q :=
  g_newarr .boolean .boolean 13 (fun n => (n, .inl (fun _ => (0 : Int32)))) rfl (fun _ => rfl) (fun _ _ h => h) (fun _ _ => rfl) (fun _ _ _ _ _ _ _ hk hn hi _ => g_cell_i0 (by decide) (by decide) (by decide) hk hn hi) (by decide) wa_boolean hd h0 h1 h
theorem g_newC {N : Int} (hd : decode md.2.1 pc = .ok (.newarray .char, 2)) (h0 : 0 ≤ N) (h1 : N ≤ 2000) (h : Go md mc ms (pc + 2) ls (vR (sh.2.2.2 : Int) :: st) (g_row gi (sh.2.2.2 : Int) (fun _ => 0)) (g_row gl (sh.2.2.2 : Int) (fun _ => 0)) (g_nsh sh 10 N.toNat) Q) : Go md (mc + 1) (ms + N.toNat) pc ls (vI N :: st) gi gl sh Q :=
  g_newarr .char .char 10 (fun n => (n, .inl (fun _ => (0 : Int32)))) rfl (fun _ => rfl) (fun _ _ h => h) (fun _ _ => rfl) (fun _ _ _ _ _ _ _ hk hn hi _ => g_cell_i0 (by decide) (by decide) (by decide) hk hn hi) (by decide) wa_char hd h0 h1 h
theorem g_newL {N : Int} (hd : decode md.2.1 pc = .ok (.newarray .long, 2)) (h0 : 0 ≤ N) (h1 : N ≤ 2000) (h : Go md mc ms (pc + 2) ls (vR (sh.2.2.2 : Int) :: st) (g_row gi (sh.2.2.2 : Int) (fun _ => 0)) (g_row gl (sh.2.2.2 : Int) (fun _ => 0)) (g_nsh sh 12 N.toNat) Q) : Go md (mc + 1) (ms + N.toNat) pc ls (vI N :: st) gi gl sh Q :=
  g_newarr .long .long 12 (fun n => (n, .inr (.inl (fun _ => (0 : Int64))))) rfl (fun _ => rfl) (fun _ _ h => h) (fun _ _ => rfl) (fun _ _ _ _ _ _ _ hk hn _ hl => by rw [g_cell_long hk, hn]; simp only [hl]; rfl) (by decide) wa_long hd h0 h1 h
theorem g_anew {idx : Nat} (κ : Nat) {N : Int} (hd : decode md.2.1 pc = .ok (.anewarray idx, 3)) (hcl : Cond.classLink md.1 idx (g_R (g_el κ)) ∈ lw_good) (hk1 : 14 ≤ κ) (hk2 : κ ≤ 16) (hov : g_R (g_el κ) ∈ lw_over) (h0 : 0 ≤ N) (h1 : N ≤ 2000)
    (h : Go md mc ms (pc + 3) ls (vR (sh.2.2.2 : Int) :: st) (g_row gi (sh.2.2.2 : Int) (fun _ => 0)) (g_row gl (sh.2.2.2 : Int) (fun _ => 0)) (g_nsh sh κ N.toNat) Q) : Go md (mc + 1) (ms + N.toNat) pc ls (vI N :: st) gi gl sh Q := by
  intro p l e R s m args below meth c Qf A D cy b n0 ad0 MC MS X ad H locs cells slots lsA T
  have hR1 := T.2.1.1
  have hR2 := T.2.1.2
  have hR3 := X.2.1
  have hR4 := X.2.2.1
  have hN : ((Int32.ofInt N).toNatClampNeg : Int) = N := g_clN h0 (by omega)
  have hneg : ¬ Int32.ofInt N < 0 := fun h9 => by
    have := (g_lt (x := N) (y := 0) ⟨by omega, by omega⟩ (by decide)).mp h9
    omega
  refine va_newq (D := D) (cl := vwCl) (C := g_R (g_el κ)) (N' := N.toNat) X.1.1 X.1.2.1 X.1.2.2.2.1 (X.1.2.2.2.2.1 _ hcl) (X.1.2.2.2.2.2.2.1 _ hov) T.mm.1 T.mm.2.1 T.mm.2.2.1 T.mm.2.2.2.1 X.1.2.2.2.2.2.2.2.2.2.2.2.1 hneg (by omega) (by omega) (by omega) (by omega) hd (fun q cA H1 hK hP hD hS => ?_)
  obtain ⟨_, _, _, _, _, hc1⟩ := (T.mm.1.2 _ _ (g_ty_ref cy κ hk1 hk2)).2
  obtain ⟨_, _, _, _, _, hc2⟩ := (hK.2 (g_tys cy).length (cA, .object (g_R (g_el κ))) (by simp)).2
  have hcA : cA = cy κ := Option.some.inj (hc2.symm.trans hc1)
  subst hcA
  have hcell : g_cell cy (g_row ad (sh.2.2.2 : Int) q) (g_row gi (sh.2.2.2 : Int) (fun _ => 0)) (g_row gl (sh.2.2.2 : Int) (fun _ => 0)) (g_nsh sh κ N.toNat) (sh.2.2.2 : Int) = .inl (cy κ, N.toNat, .inr (.inr (.inr (.inr (fun _ => none))))) := by
    rw [g_cell_ref (sh := g_nsh sh κ N.toNat) (κ := κ) (by simp [g_nsh, g_row]) (by omega)]
    simp [g_nsh, g_row]
  rw [← hcell] at hP hD
  have k := h p l e R s m args below meth c Qf A D cy b n0 ad0 MC MS X (g_row ad (sh.2.2.2 : Int) q) H1 locs (cells + 1) (slots + N.toNat) lsA (T.alloc (κ := κ) (len := N.toNat) (g_st T.ok) hP hD hS)
  have e1 : st.map (g_rn b (g_row ad (sh.2.2.2 : Int) q)) = st.map (g_rn b ad) := List.map_congr_left (fun v hv => g_rn_row (g_st T.ok v hv))
  rw [List.map_cons, e1] at k
  have e2 : g_rn b (g_row ad (sh.2.2.2 : Int) q) (vR (sh.2.2.2 : Int)) = .ref q := by show Value.ref _ = _; simp [g_row]
  rw [e2] at k
  exact k
end RULES4
