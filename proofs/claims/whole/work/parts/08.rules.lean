theorem g_okI {n : Nat} {x : Int} (h1 : -2147483648 ≤ x) (h2 : x ≤ 2147483647) : g_ok n (vI x) := (And.intro h1 h2 : _ ∧ _)
theorem g_okL {n : Nat} {x : Int} (h1 : -9223372036854775808 ≤ x) (h2 : x ≤ 9223372036854775807) : g_ok n (vL x) := (And.intro h1 h2 : _ ∧ _)
theorem g_okR {n : Nat} {a : Int} (h1 : 0 ≤ a) (h2 : a < (n : Int)) : g_ok n (vR a) := (And.intro h1 h2 : _ ∧ _)
theorem g_unI {n : Nat} {x : Int} (h : g_ok n (vI x)) : -2147483648 ≤ x ∧ x ≤ 2147483647 := h
theorem g_unL {n : Nat} {x : Int} (h : g_ok n (vL x)) : -9223372036854775808 ≤ x ∧ x ≤ 9223372036854775807 := h
theorem g_unR {n : Nat} {a : Int} (h : g_ok n (vR a)) : 0 ≤ a ∧ a < (n : Int) := h
/-- a store kills a long of which it takes the second half -/
def g_kp (ls : List (Option gV)) : Nat → List (Option gV)
  | 0 => ls
  | j + 1 => match ls[j]? with
    | some (some (.inr (.inl _))) => ls.set j none
    | _ => ls
def g_s1 (ls : List (Option gV)) (i : Nat) (v : gV) : List (Option gV) := (g_kp ls i).set i (some v)
def g_s2 (ls : List (Option gV)) (i : Nat) (v : gV) : List (Option gV) := ((g_kp ls i).set i (some v)).set (i + 1) none
theorem g_kp_len (ls : List (Option gV)) (i : Nat) : (g_kp ls i).length = ls.length := by
  cases i with
  | zero => rfl
  | succ j => simp only [g_kp]; split <;> simp
theorem g_kp_at {ls : List (Option gV)} {i j : Nat} {v : gV} (h : (g_kp ls i)[j]? = some (some v)) : ls[j]? = some (some v) ∧ ¬ (j + 1 = i ∧ ∃ x, v = .inr (.inl x)) := by
  cases i with
  | zero => exact ⟨h, fun hh => by omega⟩
  | succ k =>
    simp only [g_kp] at h
    split at h
    · rw [List.getElem?_set] at h
      by_cases hk : k = j
      · subst hk; simp only [if_true] at h; split at h <;> simp at h
      · rw [if_neg hk] at h; exact ⟨h, fun hh => hk (by omega)⟩
    · rename_i hno
      refine ⟨h, fun hh => ?_⟩
      obtain ⟨h1, x, rfl⟩ := hh
      have : j = k := by omega
      subst this
      exact hno x h
def g_lv (b : Nat) (ad : Int → Nat) (ls : List (Option gV)) : List (Nat × Value) := (List.range ls.length).filterMap (fun i => match ls[i]? with
  | some (some v) => some (i, g_rn b ad v)
  | _ => none)
theorem g_lv_mem {b : Nat} {ad : Int → Nat} {ls : List (Option gV)} {i : Nat} {v : gV} (h : ls[i]? = some (some v)) : (i, g_rn b ad v) ∈ g_lv b ad ls := by
  refine List.mem_filterMap.mpr ⟨i, List.mem_range.mpr (List.getElem?_eq_some_iff.mp h).1, ?_⟩
  simp [h]
theorem g_lv_of {b : Nat} {ad : Int → Nat} {ls : List (Option gV)} {q : Nat × Value} (h : q ∈ g_lv b ad ls) : ∃ v, ls[q.1]? = some (some v) ∧ q.2 = g_rn b ad v := by
  obtain ⟨i, -, hi⟩ := List.mem_filterMap.mp h
  split at hi
  · rename_i v hv
    cases hi
    exact ⟨v, hv, rfl⟩
  · cases hi
theorem g_Lo.has {b : Nat} {ad : Int → Nat} {n nL : Nat} {lsA : Array Slot} {ls : List (Option gV)} (h : g_Lo b ad n lsA nL ls) : lv_has lsA nL (g_lv b ad ls) := ⟨h.1, h.2.2.1, fun q hq => by
  obtain ⟨v, h1, h2⟩ := g_lv_of hq
  rw [h2]; exact (h.2.2.2 _ _ h1).1⟩
theorem g_cat1 {b : Nat} {ad : Int → Nat} {v : gV} (h : ¬ ∃ x, v = .inr (.inl x)) : (g_rn b ad v).category = 1 := by
  rcases v with x | x | x | x
  · rfl
  · exact absurd ⟨x, rfl⟩ h
  · rfl
  · rfl
theorem g_Lo.s1 {b : Nat} {ad : Int → Nat} {n nL : Nat} {lsA lsB : Array Slot} {ls : List (Option gV)} {i : Nat} {v0 : gV} (h : g_Lo b ad n lsA nL ls) (hv : g_ok n v0) (hb : lv_has lsB nL ((i, g_rn b ad v0) :: (g_lv b ad ls).filter (fun q => !(q.1 == i) && !(q.1 + 1 == i && q.2.category == 2)))) : g_Lo b ad n lsB nL (g_s1 ls i v0) := by
  refine ⟨hb.1, by simp [g_s1, g_kp_len, h.2.1], hb.2.1, fun j v hj => ?_⟩
  rw [g_s1, List.getElem?_set] at hj
  by_cases hij : i = j
  · subst hij
    simp only [if_true] at hj
    split at hj
    · cases hj; exact ⟨hb.2.2 _ List.mem_cons_self, hv⟩
    · cases hj
  · rw [if_neg hij] at hj
    obtain ⟨h1, h2⟩ := g_kp_at hj
    refine ⟨hb.2.2 (j, g_rn b ad v) (List.mem_cons_of_mem _ (List.mem_filter.mpr ⟨g_lv_mem h1, ?_⟩)), (h.2.2.2 _ _ h1).2⟩
    by_cases hl : ∃ x, v = .inr (.inl x)
    · have : ¬ j + 1 = i := fun e => h2 ⟨e, hl⟩
      simp [this, Ne.symm hij]
    · simp [g_cat1 (b := b) (ad := ad) hl, Ne.symm hij]
theorem g_Lo.s2 {b : Nat} {ad : Int → Nat} {n nL : Nat} {lsA lsB : Array Slot} {ls : List (Option gV)} {i : Nat} {v0 : gV} (h : g_Lo b ad n lsA nL ls) (hv : g_ok n v0) (hb : lv_has lsB nL ((i, g_rn b ad v0) :: (g_lv b ad ls).filter (fun q => !(q.1 == i) && (!(q.1 == i + 1) && !(q.1 + 1 == i && q.2.category == 2))))) : g_Lo b ad n lsB nL (g_s2 ls i v0) := by
  refine ⟨hb.1, by simp [g_s2, g_kp_len, h.2.1], hb.2.1, fun j v hj => ?_⟩
  rw [g_s2, List.getElem?_set] at hj
  by_cases hij1 : i + 1 = j
  · subst hij1
    simp only [if_true] at hj
    split at hj <;> simp at hj
  · rw [if_neg hij1, List.getElem?_set] at hj
    by_cases hij : i = j
    · subst hij
      simp only [if_true] at hj
      split at hj
      · cases hj; exact ⟨hb.2.2 _ List.mem_cons_self, hv⟩
      · cases hj
    · rw [if_neg hij] at hj
      obtain ⟨h1, h2⟩ := g_kp_at hj
      refine ⟨hb.2.2 (j, g_rn b ad v) (List.mem_cons_of_mem _ (List.mem_filter.mpr ⟨g_lv_mem h1, ?_⟩)), (h.2.2.2 _ _ h1).2⟩
      by_cases hl : ∃ x, v = .inr (.inl x)
      · have : ¬ j + 1 = i := fun e => h2 ⟨e, hl⟩
        simp [this, Ne.symm hij, Ne.symm hij1]
      · simp [g_cat1 (b := b) (ad := ad) hl, Ne.symm hij, Ne.symm hij1]
def g_cmp (x y : Int) : Int := if y < x then 1 else if x < y then -1 else 0
section RULES
variable {md : gMD} {mc ms pc : Nat} {ls : List (Option gV)} {st : List gV} {gi gl : gF} {sh : gSh} {Q : gQ}
section GTL
variable {s : State} {A : Nat → Prop} {D : va_G} {cy : Nat → ClassId} {b n0 : Nat} {ad0 : Int → Nat} {MC MS : Nat} {ad : Int → Nat} {H : Heap} {locs : List Loc} {cells slots : Nat} {lsA : Array Slot}
theorem g_T.loc (T : g_T md mc ms ls st gi gl sh s A D cy b n0 ad0 MC MS ad H locs cells slots lsA) {ls' : List (Option gV)} {lsB : Array Slot} {st' : List gV} (hL : g_Lo b ad sh.2.2.2 lsB md.2.2.1 ls') (h : ∀ v ∈ st', g_ok sh.2.2.2 v) : g_T md mc ms ls' st' gi gl sh s A D cy b n0 ad0 MC MS ad H locs cells slots lsB := ⟨T.1, T.2.1, T.2.2.1, hL, h⟩
end GTL
theorem g_iconst {n : Int} (hd : decode md.2.1 pc = .ok (.iconst n, 1)) (hn : -128 ≤ n ∧ n ≤ 127) (h : Go md mc ms (pc + 1) ls (vI n :: st) gi gl sh Q) : Go md mc ms pc ls st gi gl sh Q := by
  intro p l e R s m args below meth c Qf A D cy b n0 ad0 MC MS X ad H locs cells slots lsA T
  exact lv_iconst X.1.1 X.1.2.1 hd rfl (h p l e R s m args below meth c Qf A D cy b n0 ad0 MC MS X ad H locs cells slots lsA (T.stk (g_sc (g_okI (by omega) (by omega)) T.ok)))
theorem g_bipush {n : Int} (hd : decode md.2.1 pc = .ok (.bipush n, 2)) (hn : -128 ≤ n ∧ n ≤ 127) (hv : (Int8.ofInt n).toInt32 = Int32.ofInt n) (h : Go md mc ms (pc + 2) ls (vI n :: st) gi gl sh Q) : Go md mc ms pc ls st gi gl sh Q := by
  intro p l e R s m args below meth c Qf A D cy b n0 ad0 MC MS X ad H locs cells slots lsA T
  exact lv_bipush X.1.1 X.1.2.1 hd hv (h p l e R s m args below meth c Qf A D cy b n0 ad0 MC MS X ad H locs cells slots lsA (T.stk (g_sc (g_okI (by omega) (by omega)) T.ok)))
theorem g_sipush {n : Int} (hd : decode md.2.1 pc = .ok (.sipush n, 3)) (hn : -32768 ≤ n ∧ n ≤ 32767) (hv : (Int16.ofInt n).toInt32 = Int32.ofInt n) (h : Go md mc ms (pc + 3) ls (vI n :: st) gi gl sh Q) : Go md mc ms pc ls st gi gl sh Q := by
  intro p l e R s m args below meth c Qf A D cy b n0 ad0 MC MS X ad H locs cells slots lsA T
  exact lv_sipush X.1.1 X.1.2.1 hd hv (h p l e R s m args below meth c Qf A D cy b n0 ad0 MC MS X ad H locs cells slots lsA (T.stk (g_sc (g_okI (by omega) (by omega)) T.ok)))
theorem g_lconst {k : Fin 2} (n : Int) (hd : decode md.2.1 pc = .ok (.lconst k, 1)) (hv : Int64.ofNat (k : Nat) = Int64.ofInt n) (hn : -128 ≤ n ∧ n ≤ 127) (h : Go md mc ms (pc + 1) ls (vL n :: st) gi gl sh Q) : Go md mc ms pc ls st gi gl sh Q := by
  intro p l e R s m args below meth c Qf A D cy b n0 ad0 MC MS X ad H locs cells slots lsA T
  exact lv_lconst X.1.1 X.1.2.1 hd hv (h p l e R s m args below meth c Qf A D cy b n0 ad0 MC MS X ad H locs cells slots lsA (T.stk (g_sc (g_okL (by omega) (by omega)) T.ok)))
theorem g_ldc2 {idx : Nat} {n : Int} (hd : decode md.2.1 pc = .ok (.ldc2_w idx, 3)) (hw : Cond.constantLong md.1 idx (Int64.ofInt n) ∈ lw_good) (hn : -2147483648 ≤ n ∧ n ≤ 4294967295) (h : Go md mc ms (pc + 3) ls (vL n :: st) gi gl sh Q) : Go md mc ms pc ls st gi gl sh Q := by
  intro p l e R s m args below meth c Qf A D cy b n0 ad0 MC MS X ad H locs cells slots lsA T
  exact lv_ldc2 X.1.1 X.1.2.1 X.1.2.2.2.1 (X.1.2.2.2.2.1 _ hw) hd (h p l e R s m args below meth c Qf A D cy b n0 ad0 MC MS X ad H locs cells slots lsA (T.stk (g_sc (g_okL (by omega) (by omega)) T.ok)))
theorem g_iload_n {k : Fin 4} {x : Int} (hd : decode md.2.1 pc = .ok (.iload_n k, 1)) (hl : ls[(k : Nat)]? = some (some (vI x))) (h : Go md mc ms (pc + 1) ls (vI x :: st) gi gl sh Q) : Go md mc ms pc ls st gi gl sh Q := by
  intro p l e R s m args below meth c Qf A D cy b n0 ad0 MC MS X ad H locs cells slots lsA T
  have q := T.lo.2.2.2 _ _ hl
  exact lv_iload_n X.1.1 X.1.2.1 hd rfl q.1 (h p l e R s m args below meth c Qf A D cy b n0 ad0 MC MS X ad H locs cells slots lsA (T.stk (g_sc (q.2) T.ok)))
theorem g_iload {i : Nat} {x : Int} (hd : decode md.2.1 pc = .ok (.iload i, 2)) (hl : ls[i]? = some (some (vI x))) (h : Go md mc ms (pc + 2) ls (vI x :: st) gi gl sh Q) : Go md mc ms pc ls st gi gl sh Q := by
  intro p l e R s m args below meth c Qf A D cy b n0 ad0 MC MS X ad H locs cells slots lsA T
  have q := T.lo.2.2.2 _ _ hl
  exact lv_iload X.1.1 X.1.2.1 hd q.1 (h p l e R s m args below meth c Qf A D cy b n0 ad0 MC MS X ad H locs cells slots lsA (T.stk (g_sc (q.2) T.ok)))
theorem g_lload_n {k : Fin 4} {x : Int} (hd : decode md.2.1 pc = .ok (.lload_n k, 1)) (hl : ls[(k : Nat)]? = some (some (vL x))) (h : Go md mc ms (pc + 1) ls (vL x :: st) gi gl sh Q) : Go md mc ms pc ls st gi gl sh Q := by
  intro p l e R s m args below meth c Qf A D cy b n0 ad0 MC MS X ad H locs cells slots lsA T
  have q := T.lo.2.2.2 _ _ hl
  exact lv_lload_n X.1.1 X.1.2.1 hd rfl q.1 (h p l e R s m args below meth c Qf A D cy b n0 ad0 MC MS X ad H locs cells slots lsA (T.stk (g_sc (q.2) T.ok)))
theorem g_lload {i : Nat} {x : Int} (hd : decode md.2.1 pc = .ok (.lload i, 2)) (hl : ls[i]? = some (some (vL x))) (h : Go md mc ms (pc + 2) ls (vL x :: st) gi gl sh Q) : Go md mc ms pc ls st gi gl sh Q := by
  intro p l e R s m args below meth c Qf A D cy b n0 ad0 MC MS X ad H locs cells slots lsA T
  have q := T.lo.2.2.2 _ _ hl
  exact lv_lload X.1.1 X.1.2.1 hd q.1 (h p l e R s m args below meth c Qf A D cy b n0 ad0 MC MS X ad H locs cells slots lsA (T.stk (g_sc (q.2) T.ok)))
theorem g_aload_n {k : Fin 4} {x : Int} (hd : decode md.2.1 pc = .ok (.aload_n k, 1)) (hl : ls[(k : Nat)]? = some (some (vR x))) (h : Go md mc ms (pc + 1) ls (vR x :: st) gi gl sh Q) : Go md mc ms pc ls st gi gl sh Q := by
  intro p l e R s m args below meth c Qf A D cy b n0 ad0 MC MS X ad H locs cells slots lsA T
  have q := T.lo.2.2.2 _ _ hl
  exact lv_aload_n X.1.1 X.1.2.1 hd rfl q.1 (h p l e R s m args below meth c Qf A D cy b n0 ad0 MC MS X ad H locs cells slots lsA (T.stk (g_sc (q.2) T.ok)))
theorem g_aload {i : Nat} {x : Int} (hd : decode md.2.1 pc = .ok (.aload i, 2)) (hl : ls[i]? = some (some (vR x))) (h : Go md mc ms (pc + 2) ls (vR x :: st) gi gl sh Q) : Go md mc ms pc ls st gi gl sh Q := by
  intro p l e R s m args below meth c Qf A D cy b n0 ad0 MC MS X ad H locs cells slots lsA T
  have q := T.lo.2.2.2 _ _ hl
  exact lv_aload X.1.1 X.1.2.1 hd q.1 (h p l e R s m args below meth c Qf A D cy b n0 ad0 MC MS X ad H locs cells slots lsA (T.stk (g_sc (q.2) T.ok)))
theorem g_aload_nS {k : Fin 4} (hd : decode md.2.1 pc = .ok (.aload_n k, 1)) (hl : ls[(k : Nat)]? = some (some vS)) (h : Go md mc ms (pc + 1) ls (vS :: st) gi gl sh Q) : Go md mc ms pc ls st gi gl sh Q := by
  intro p l e R s m args below meth c Qf A D cy b n0 ad0 MC MS X ad H locs cells slots lsA T
  have q := T.lo.2.2.2 _ _ hl
  exact lv_aload_n X.1.1 X.1.2.1 hd rfl q.1 (h p l e R s m args below meth c Qf A D cy b n0 ad0 MC MS X ad H locs cells slots lsA (T.stk (g_sc (q.2) T.ok)))
theorem g_istore_n {k : Fin 4} {x : Int} (hd : decode md.2.1 pc = .ok (.istore_n k, 1)) (hi : (k : Nat) < md.2.2.1) (h : Go md mc ms (pc + 1) (g_s1 ls (k : Nat) (vI x)) st gi gl sh Q) : Go md mc ms pc ls (vI x :: st) gi gl sh Q := by
  intro p l e R s m args below meth c Qf A D cy b n0 ad0 MC MS X ad H locs cells slots lsA T
  exact lv_istore_n X.1.1 X.1.2.1 hd rfl T.lo.has hi rfl (fun lsB hB => h p l e R s m args below meth c Qf A D cy b n0 ad0 MC MS X ad H locs cells slots lsB (T.loc (T.lo.s1 (g_sh T.ok) hB) (g_st T.ok)))
theorem g_istore {i : Nat} {x : Int} (hd : decode md.2.1 pc = .ok (.istore i, 2)) (hi : i < md.2.2.1) (h : Go md mc ms (pc + 2) (g_s1 ls i (vI x)) st gi gl sh Q) : Go md mc ms pc ls (vI x :: st) gi gl sh Q := by
  intro p l e R s m args below meth c Qf A D cy b n0 ad0 MC MS X ad H locs cells slots lsA T
  exact lv_istore X.1.1 X.1.2.1 hd T.lo.has hi rfl (fun lsB hB => h p l e R s m args below meth c Qf A D cy b n0 ad0 MC MS X ad H locs cells slots lsB (T.loc (T.lo.s1 (g_sh T.ok) hB) (g_st T.ok)))
theorem g_astore_n {k : Fin 4} {x : Int} (hd : decode md.2.1 pc = .ok (.astore_n k, 1)) (hi : (k : Nat) < md.2.2.1) (h : Go md mc ms (pc + 1) (g_s1 ls (k : Nat) (vR x)) st gi gl sh Q) : Go md mc ms pc ls (vR x :: st) gi gl sh Q := by
  intro p l e R s m args below meth c Qf A D cy b n0 ad0 MC MS X ad H locs cells slots lsA T
  exact lv_astore_n X.1.1 X.1.2.1 hd rfl T.lo.has hi rfl (fun lsB hB => h p l e R s m args below meth c Qf A D cy b n0 ad0 MC MS X ad H locs cells slots lsB (T.loc (T.lo.s1 (g_sh T.ok) hB) (g_st T.ok)))
theorem g_astore {i : Nat} {x : Int} (hd : decode md.2.1 pc = .ok (.astore i, 2)) (hi : i < md.2.2.1) (h : Go md mc ms (pc + 2) (g_s1 ls i (vR x)) st gi gl sh Q) : Go md mc ms pc ls (vR x :: st) gi gl sh Q := by
  intro p l e R s m args below meth c Qf A D cy b n0 ad0 MC MS X ad H locs cells slots lsA T
  exact lv_astore X.1.1 X.1.2.1 hd T.lo.has hi rfl (fun lsB hB => h p l e R s m args below meth c Qf A D cy b n0 ad0 MC MS X ad H locs cells slots lsB (T.loc (T.lo.s1 (g_sh T.ok) hB) (g_st T.ok)))
theorem g_lstore_n {k : Fin 4} {x : Int} (hd : decode md.2.1 pc = .ok (.lstore_n k, 1)) (hi : (k : Nat) + 1 < md.2.2.1) (h : Go md mc ms (pc + 1) (g_s2 ls (k : Nat) (vL x)) st gi gl sh Q) : Go md mc ms pc ls (vL x :: st) gi gl sh Q := by
  intro p l e R s m args below meth c Qf A D cy b n0 ad0 MC MS X ad H locs cells slots lsA T
  exact lv_lstore_n X.1.1 X.1.2.1 hd rfl T.lo.has hi rfl (fun lsB hB => h p l e R s m args below meth c Qf A D cy b n0 ad0 MC MS X ad H locs cells slots lsB (T.loc (T.lo.s2 (g_sh T.ok) hB) (g_st T.ok)))
theorem g_lstore {i : Nat} {x : Int} (hd : decode md.2.1 pc = .ok (.lstore i, 2)) (hi : i + 1 < md.2.2.1) (h : Go md mc ms (pc + 2) (g_s2 ls i (vL x)) st gi gl sh Q) : Go md mc ms pc ls (vL x :: st) gi gl sh Q := by
  intro p l e R s m args below meth c Qf A D cy b n0 ad0 MC MS X ad H locs cells slots lsA T
  exact lv_lstore X.1.1 X.1.2.1 hd T.lo.has hi rfl (fun lsB hB => h p l e R s m args below meth c Qf A D cy b n0 ad0 MC MS X ad H locs cells slots lsB (T.loc (T.lo.s2 (g_sh T.ok) hB) (g_st T.ok)))
theorem g_iinc {i : Nat} {n x : Int} (hd : decode md.2.1 pc = .ok (.iinc i n, 3)) (hl : ls[i]? = some (some (vI x))) (hi : i < md.2.2.1) (h1 : -2147483648 ≤ x + n) (h2 : x + n ≤ 2147483647) (h : Go md mc ms (pc + 3) (g_s1 ls i (vI (x + n))) st gi gl sh Q) : Go md mc ms pc ls st gi gl sh Q := by
  intro p l e R s m args below meth c Qf A D cy b n0 ad0 MC MS X ad H locs cells slots lsA T
  obtain ⟨k, hk⟩ := List.mem_iff_getElem?.mp (g_lv_mem (b := b) (ad := ad) hl)
  exact lv_iinc (v := Int32.ofInt (x + n)) X.1.1 X.1.2.1 hd T.lo.has hk (Int32.ofInt_add x n).symm hi rfl (fun lsB hB => h p l e R s m args below meth c Qf A D cy b n0 ad0 MC MS X ad H locs cells slots lsB (T.loc (T.lo.s1 (g_okI h1 h2) hB) T.ok))
theorem g_iadd {x y : Int} (hd : decode md.2.1 pc = .ok (.iadd, 1)) (h1 : -2147483648 ≤ x + y) (h2 : x + y ≤ 2147483647) (h : Go md mc ms (pc + 1) ls (vI (x + y) :: st) gi gl sh Q) : Go md mc ms pc ls (vI y :: vI x :: st) gi gl sh Q := by
  intro p l e R s m args below meth c Qf A D cy b n0 ad0 MC MS X ad H locs cells slots lsA T
  have k := h p l e R s m args below meth c Qf A D cy b n0 ad0 MC MS X ad H locs cells slots lsA (T.stk (g_sc (g_okI h1 h2) (g_st (g_st T.ok))))
  refine lv_iadd X.1.1 X.1.2.1 hd ?_
  rw [← Int32.ofInt_add]
  exact k
theorem g_isub {x y : Int} (hd : decode md.2.1 pc = .ok (.isub, 1)) (h1 : -2147483648 ≤ x - y) (h2 : x - y ≤ 2147483647) (h : Go md mc ms (pc + 1) ls (vI (x - y) :: st) gi gl sh Q) : Go md mc ms pc ls (vI y :: vI x :: st) gi gl sh Q := by
  intro p l e R s m args below meth c Qf A D cy b n0 ad0 MC MS X ad H locs cells slots lsA T
  have k := h p l e R s m args below meth c Qf A D cy b n0 ad0 MC MS X ad H locs cells slots lsA (T.stk (g_sc (g_okI h1 h2) (g_st (g_st T.ok))))
  refine lv_isub X.1.1 X.1.2.1 hd ?_
  rw [← Int32.ofInt_sub]
  exact k
theorem g_imul {x y : Int} (hd : decode md.2.1 pc = .ok (.imul, 1)) (h1 : -2147483648 ≤ x * y) (h2 : x * y ≤ 2147483647) (h : Go md mc ms (pc + 1) ls (vI (x * y) :: st) gi gl sh Q) : Go md mc ms pc ls (vI y :: vI x :: st) gi gl sh Q := by
  intro p l e R s m args below meth c Qf A D cy b n0 ad0 MC MS X ad H locs cells slots lsA T
  have k := h p l e R s m args below meth c Qf A D cy b n0 ad0 MC MS X ad H locs cells slots lsA (T.stk (g_sc (g_okI h1 h2) (g_st (g_st T.ok))))
  refine lv_imul X.1.1 X.1.2.1 hd ?_
  rw [← Int32.ofInt_mul]
  exact k
theorem g_ladd {x y : Int} (hd : decode md.2.1 pc = .ok (.ladd, 1)) (h1 : -9223372036854775808 ≤ x + y) (h2 : x + y ≤ 9223372036854775807) (h : Go md mc ms (pc + 1) ls (vL (x + y) :: st) gi gl sh Q) : Go md mc ms pc ls (vL y :: vL x :: st) gi gl sh Q := by
  intro p l e R s m args below meth c Qf A D cy b n0 ad0 MC MS X ad H locs cells slots lsA T
  have k := h p l e R s m args below meth c Qf A D cy b n0 ad0 MC MS X ad H locs cells slots lsA (T.stk (g_sc (g_okL h1 h2) (g_st (g_st T.ok))))
  refine lv_ladd X.1.1 X.1.2.1 hd ?_
  rw [← Int64.ofInt_add]
  exact k
theorem g_lsub {x y : Int} (hd : decode md.2.1 pc = .ok (.lsub, 1)) (h1 : -9223372036854775808 ≤ x - y) (h2 : x - y ≤ 9223372036854775807) (h : Go md mc ms (pc + 1) ls (vL (x - y) :: st) gi gl sh Q) : Go md mc ms pc ls (vL y :: vL x :: st) gi gl sh Q := by
  intro p l e R s m args below meth c Qf A D cy b n0 ad0 MC MS X ad H locs cells slots lsA T
  have k := h p l e R s m args below meth c Qf A D cy b n0 ad0 MC MS X ad H locs cells slots lsA (T.stk (g_sc (g_okL h1 h2) (g_st (g_st T.ok))))
  refine lv_lsub X.1.1 X.1.2.1 hd ?_
  rw [← Int64.ofInt_sub]
  exact k
theorem g_lmul {x y : Int} (hd : decode md.2.1 pc = .ok (.lmul, 1)) (h1 : -9223372036854775808 ≤ x * y) (h2 : x * y ≤ 9223372036854775807) (h : Go md mc ms (pc + 1) ls (vL (x * y) :: st) gi gl sh Q) : Go md mc ms pc ls (vL y :: vL x :: st) gi gl sh Q := by
  intro p l e R s m args below meth c Qf A D cy b n0 ad0 MC MS X ad H locs cells slots lsA T
  have k := h p l e R s m args below meth c Qf A D cy b n0 ad0 MC MS X ad H locs cells slots lsA (T.stk (g_sc (g_okL h1 h2) (g_st (g_st T.ok))))
  refine lv_lmul X.1.1 X.1.2.1 hd ?_
  rw [← Int64.ofInt_mul]
  exact k
theorem g_icmp_eq {x y : Int} {off : Int} (tgt : Nat) (hd : decode md.2.1 pc = .ok (.if_icmp .eq off, 3)) (ht : (pc : Int) + off = (tgt : Int)) (kt : x = y → Go md mc ms tgt ls st gi gl sh Q) (kf : ¬ (x = y) → Go md mc ms (pc + 3) ls st gi gl sh Q) : Go md mc ms pc ls (vI y :: vI x :: st) gi gl sh Q := by
  intro p l e R s m args below meth c Qf A D cy b n0 ad0 MC MS X ad H locs cells slots lsA T
  have q0 := g_eq (g_unI (g_sh (g_st T.ok))) (g_unI (g_sh T.ok))
  exact lv_icmp_eq X.1.1 X.1.2.1 hd ht (fun q => kt (q0.mp q) p l e R s m args below meth c Qf A D cy b n0 ad0 MC MS X ad H locs cells slots lsA (T.stk (g_st (g_st T.ok)))) (fun q => kf (fun e => q (q0.mpr e)) p l e R s m args below meth c Qf A D cy b n0 ad0 MC MS X ad H locs cells slots lsA (T.stk (g_st (g_st T.ok))))
theorem g_icmp_ne {x y : Int} {off : Int} (tgt : Nat) (hd : decode md.2.1 pc = .ok (.if_icmp .ne off, 3)) (ht : (pc : Int) + off = (tgt : Int)) (kt : x ≠ y → Go md mc ms tgt ls st gi gl sh Q) (kf : ¬ (x ≠ y) → Go md mc ms (pc + 3) ls st gi gl sh Q) : Go md mc ms pc ls (vI y :: vI x :: st) gi gl sh Q := by
  intro p l e R s m args below meth c Qf A D cy b n0 ad0 MC MS X ad H locs cells slots lsA T
  have q0 := g_eq (g_unI (g_sh (g_st T.ok))) (g_unI (g_sh T.ok))
  exact lv_icmp_ne X.1.1 X.1.2.1 hd ht (fun q => kt (fun e => q (q0.mpr e)) p l e R s m args below meth c Qf A D cy b n0 ad0 MC MS X ad H locs cells slots lsA (T.stk (g_st (g_st T.ok)))) (fun q => kf (fun e => e (q0.mp q)) p l e R s m args below meth c Qf A D cy b n0 ad0 MC MS X ad H locs cells slots lsA (T.stk (g_st (g_st T.ok))))
theorem g_icmp_lt {x y : Int} {off : Int} (tgt : Nat) (hd : decode md.2.1 pc = .ok (.if_icmp .lt off, 3)) (ht : (pc : Int) + off = (tgt : Int)) (kt : x < y → Go md mc ms tgt ls st gi gl sh Q) (kf : ¬ (x < y) → Go md mc ms (pc + 3) ls st gi gl sh Q) : Go md mc ms pc ls (vI y :: vI x :: st) gi gl sh Q := by
  intro p l e R s m args below meth c Qf A D cy b n0 ad0 MC MS X ad H locs cells slots lsA T
  have q0 := g_lt (g_unI (g_sh (g_st T.ok))) (g_unI (g_sh T.ok))
  exact lv_icmp_lt X.1.1 X.1.2.1 hd ht (fun q => kt (q0.mp q) p l e R s m args below meth c Qf A D cy b n0 ad0 MC MS X ad H locs cells slots lsA (T.stk (g_st (g_st T.ok)))) (fun q => kf (fun e => q (q0.mpr e)) p l e R s m args below meth c Qf A D cy b n0 ad0 MC MS X ad H locs cells slots lsA (T.stk (g_st (g_st T.ok))))
theorem g_icmp_ge {x y : Int} {off : Int} (tgt : Nat) (hd : decode md.2.1 pc = .ok (.if_icmp .ge off, 3)) (ht : (pc : Int) + off = (tgt : Int)) (kt : y ≤ x → Go md mc ms tgt ls st gi gl sh Q) (kf : ¬ (y ≤ x) → Go md mc ms (pc + 3) ls st gi gl sh Q) : Go md mc ms pc ls (vI y :: vI x :: st) gi gl sh Q := by
  intro p l e R s m args below meth c Qf A D cy b n0 ad0 MC MS X ad H locs cells slots lsA T
  have q0 := g_le (g_unI (g_sh T.ok)) (g_unI (g_sh (g_st T.ok)))
  exact lv_icmp_ge X.1.1 X.1.2.1 hd ht (fun q => kt (q0.mp q) p l e R s m args below meth c Qf A D cy b n0 ad0 MC MS X ad H locs cells slots lsA (T.stk (g_st (g_st T.ok)))) (fun q => kf (fun e => q (q0.mpr e)) p l e R s m args below meth c Qf A D cy b n0 ad0 MC MS X ad H locs cells slots lsA (T.stk (g_st (g_st T.ok))))
theorem g_icmp_gt {x y : Int} {off : Int} (tgt : Nat) (hd : decode md.2.1 pc = .ok (.if_icmp .gt off, 3)) (ht : (pc : Int) + off = (tgt : Int)) (kt : y < x → Go md mc ms tgt ls st gi gl sh Q) (kf : ¬ (y < x) → Go md mc ms (pc + 3) ls st gi gl sh Q) : Go md mc ms pc ls (vI y :: vI x :: st) gi gl sh Q := by
  intro p l e R s m args below meth c Qf A D cy b n0 ad0 MC MS X ad H locs cells slots lsA T
  have q0 := g_lt (g_unI (g_sh T.ok)) (g_unI (g_sh (g_st T.ok)))
  exact lv_icmp_gt X.1.1 X.1.2.1 hd ht (fun q => kt (q0.mp q) p l e R s m args below meth c Qf A D cy b n0 ad0 MC MS X ad H locs cells slots lsA (T.stk (g_st (g_st T.ok)))) (fun q => kf (fun e => q (q0.mpr e)) p l e R s m args below meth c Qf A D cy b n0 ad0 MC MS X ad H locs cells slots lsA (T.stk (g_st (g_st T.ok))))
theorem g_icmp_le {x y : Int} {off : Int} (tgt : Nat) (hd : decode md.2.1 pc = .ok (.if_icmp .le off, 3)) (ht : (pc : Int) + off = (tgt : Int)) (kt : x ≤ y → Go md mc ms tgt ls st gi gl sh Q) (kf : ¬ (x ≤ y) → Go md mc ms (pc + 3) ls st gi gl sh Q) : Go md mc ms pc ls (vI y :: vI x :: st) gi gl sh Q := by
  intro p l e R s m args below meth c Qf A D cy b n0 ad0 MC MS X ad H locs cells slots lsA T
  have q0 := g_le (g_unI (g_sh (g_st T.ok))) (g_unI (g_sh T.ok))
  exact lv_icmp_le X.1.1 X.1.2.1 hd ht (fun q => kt (q0.mp q) p l e R s m args below meth c Qf A D cy b n0 ad0 MC MS X ad H locs cells slots lsA (T.stk (g_st (g_st T.ok)))) (fun q => kf (fun e => q (q0.mpr e)) p l e R s m args below meth c Qf A D cy b n0 ad0 MC MS X ad H locs cells slots lsA (T.stk (g_st (g_st T.ok))))
theorem g_if_eq {x : Int} {off : Int} (tgt : Nat) (hd : decode md.2.1 pc = .ok (.ifCond .eq off, 3)) (ht : (pc : Int) + off = (tgt : Int)) (kt : x = 0 → Go md mc ms tgt ls st gi gl sh Q) (kf : ¬ (x = 0) → Go md mc ms (pc + 3) ls st gi gl sh Q) : Go md mc ms pc ls (vI x :: st) gi gl sh Q := by
  intro p l e R s m args below meth c Qf A D cy b n0 ad0 MC MS X ad H locs cells slots lsA T
  have q0 := g_eq (x := x) (y := 0) (g_unI (g_sh T.ok)) (by decide)
  exact lv_if_eq X.1.1 X.1.2.1 hd ht (fun q => kt (q0.mp q) p l e R s m args below meth c Qf A D cy b n0 ad0 MC MS X ad H locs cells slots lsA (T.stk (g_st T.ok))) (fun q => kf (fun e => q (q0.mpr e)) p l e R s m args below meth c Qf A D cy b n0 ad0 MC MS X ad H locs cells slots lsA (T.stk (g_st T.ok)))
theorem g_if_ne {x : Int} {off : Int} (tgt : Nat) (hd : decode md.2.1 pc = .ok (.ifCond .ne off, 3)) (ht : (pc : Int) + off = (tgt : Int)) (kt : x ≠ 0 → Go md mc ms tgt ls st gi gl sh Q) (kf : ¬ (x ≠ 0) → Go md mc ms (pc + 3) ls st gi gl sh Q) : Go md mc ms pc ls (vI x :: st) gi gl sh Q := by
  intro p l e R s m args below meth c Qf A D cy b n0 ad0 MC MS X ad H locs cells slots lsA T
  have q0 := g_eq (x := x) (y := 0) (g_unI (g_sh T.ok)) (by decide)
  exact lv_if_ne X.1.1 X.1.2.1 hd ht (fun q => kt (fun e => q (q0.mpr e)) p l e R s m args below meth c Qf A D cy b n0 ad0 MC MS X ad H locs cells slots lsA (T.stk (g_st T.ok))) (fun q => kf (fun e => e (q0.mp q)) p l e R s m args below meth c Qf A D cy b n0 ad0 MC MS X ad H locs cells slots lsA (T.stk (g_st T.ok)))
theorem g_if_lt {x : Int} {off : Int} (tgt : Nat) (hd : decode md.2.1 pc = .ok (.ifCond .lt off, 3)) (ht : (pc : Int) + off = (tgt : Int)) (kt : x < 0 → Go md mc ms tgt ls st gi gl sh Q) (kf : ¬ (x < 0) → Go md mc ms (pc + 3) ls st gi gl sh Q) : Go md mc ms pc ls (vI x :: st) gi gl sh Q := by
  intro p l e R s m args below meth c Qf A D cy b n0 ad0 MC MS X ad H locs cells slots lsA T
  have q0 := g_lt (x := x) (y := 0) (g_unI (g_sh T.ok)) (by decide)
  exact lv_if_lt X.1.1 X.1.2.1 hd ht (fun q => kt (q0.mp q) p l e R s m args below meth c Qf A D cy b n0 ad0 MC MS X ad H locs cells slots lsA (T.stk (g_st T.ok))) (fun q => kf (fun e => q (q0.mpr e)) p l e R s m args below meth c Qf A D cy b n0 ad0 MC MS X ad H locs cells slots lsA (T.stk (g_st T.ok)))
theorem g_if_ge {x : Int} {off : Int} (tgt : Nat) (hd : decode md.2.1 pc = .ok (.ifCond .ge off, 3)) (ht : (pc : Int) + off = (tgt : Int)) (kt : 0 ≤ x → Go md mc ms tgt ls st gi gl sh Q) (kf : ¬ (0 ≤ x) → Go md mc ms (pc + 3) ls st gi gl sh Q) : Go md mc ms pc ls (vI x :: st) gi gl sh Q := by
  intro p l e R s m args below meth c Qf A D cy b n0 ad0 MC MS X ad H locs cells slots lsA T
  have q0 := g_le (x := 0) (y := x) (by decide) (g_unI (g_sh T.ok))
  exact lv_if_ge X.1.1 X.1.2.1 hd ht (fun q => kt (q0.mp q) p l e R s m args below meth c Qf A D cy b n0 ad0 MC MS X ad H locs cells slots lsA (T.stk (g_st T.ok))) (fun q => kf (fun e => q (q0.mpr e)) p l e R s m args below meth c Qf A D cy b n0 ad0 MC MS X ad H locs cells slots lsA (T.stk (g_st T.ok)))
theorem g_if_gt {x : Int} {off : Int} (tgt : Nat) (hd : decode md.2.1 pc = .ok (.ifCond .gt off, 3)) (ht : (pc : Int) + off = (tgt : Int)) (kt : 0 < x → Go md mc ms tgt ls st gi gl sh Q) (kf : ¬ (0 < x) → Go md mc ms (pc + 3) ls st gi gl sh Q) : Go md mc ms pc ls (vI x :: st) gi gl sh Q := by
  intro p l e R s m args below meth c Qf A D cy b n0 ad0 MC MS X ad H locs cells slots lsA T
  have q0 := g_lt (x := 0) (y := x) (by decide) (g_unI (g_sh T.ok))
  exact lv_if_gt X.1.1 X.1.2.1 hd ht (fun q => kt (q0.mp q) p l e R s m args below meth c Qf A D cy b n0 ad0 MC MS X ad H locs cells slots lsA (T.stk (g_st T.ok))) (fun q => kf (fun e => q (q0.mpr e)) p l e R s m args below meth c Qf A D cy b n0 ad0 MC MS X ad H locs cells slots lsA (T.stk (g_st T.ok)))
theorem g_if_le {x : Int} {off : Int} (tgt : Nat) (hd : decode md.2.1 pc = .ok (.ifCond .le off, 3)) (ht : (pc : Int) + off = (tgt : Int)) (kt : x ≤ 0 → Go md mc ms tgt ls st gi gl sh Q) (kf : ¬ (x ≤ 0) → Go md mc ms (pc + 3) ls st gi gl sh Q) : Go md mc ms pc ls (vI x :: st) gi gl sh Q := by
  intro p l e R s m args below meth c Qf A D cy b n0 ad0 MC MS X ad H locs cells slots lsA T
  have q0 := g_le (x := x) (y := 0) (g_unI (g_sh T.ok)) (by decide)
  exact lv_if_le X.1.1 X.1.2.1 hd ht (fun q => kt (q0.mp q) p l e R s m args below meth c Qf A D cy b n0 ad0 MC MS X ad H locs cells slots lsA (T.stk (g_st T.ok))) (fun q => kf (fun e => q (q0.mpr e)) p l e R s m args below meth c Qf A D cy b n0 ad0 MC MS X ad H locs cells slots lsA (T.stk (g_st T.ok)))
theorem g_goto {off : Int} (tgt : Nat) (hd : decode md.2.1 pc = .ok (.goto off, 3)) (ht : (pc : Int) + off = (tgt : Int)) (h : Go md mc ms tgt ls st gi gl sh Q) : Go md mc ms pc ls st gi gl sh Q := by
  intro p l e R s m args below meth c Qf A D cy b n0 ad0 MC MS X ad H locs cells slots lsA T
  exact lv_goto X.1.1 X.1.2.1 hd ht (h p l e R s m args below meth c Qf A D cy b n0 ad0 MC MS X ad H locs cells slots lsA T)
theorem g_dup {v : gV} (hd : decode md.2.1 pc = .ok (.dup, 1)) (hv : ∀ y, v ≠ vL y) (h : Go md mc ms (pc + 1) ls (v :: v :: st) gi gl sh Q) : Go md mc ms pc ls (v :: st) gi gl sh Q := by
  intro p l e R s m args below meth c Qf A D cy b n0 ad0 MC MS X ad H locs cells slots lsA T
  exact lv_dup X.1.1 X.1.2.1 hd (g_cat1 (fun hh => hv _ hh.choose_spec)) (h p l e R s m args below meth c Qf A D cy b n0 ad0 MC MS X ad H locs cells slots lsA (T.stk (g_sc (g_sh T.ok) T.ok)))
theorem g_dup2 {v w : gV} (hd : decode md.2.1 pc = .ok (.dup2, 1)) (hv : ∀ y, v ≠ vL y) (hw : ∀ y, w ≠ vL y) (h : Go md mc ms (pc + 1) ls (v :: w :: v :: w :: st) gi gl sh Q) : Go md mc ms pc ls (v :: w :: st) gi gl sh Q := by
  intro p l e R s m args below meth c Qf A D cy b n0 ad0 MC MS X ad H locs cells slots lsA T
  exact lv_dup2_11 X.1.1 X.1.2.1 hd (g_cat1 (fun hh => hv _ hh.choose_spec)) (g_cat1 (fun hh => hw _ hh.choose_spec)) (h p l e R s m args below meth c Qf A D cy b n0 ad0 MC MS X ad H locs cells slots lsA (T.stk (g_sc (g_sh T.ok) (g_sc (g_sh (g_st T.ok)) T.ok))))
theorem g_dup2L {x : Int} (hd : decode md.2.1 pc = .ok (.dup2, 1)) (h : Go md mc ms (pc + 1) ls (vL x :: vL x :: st) gi gl sh Q) : Go md mc ms pc ls (vL x :: st) gi gl sh Q := by
  intro p l e R s m args below meth c Qf A D cy b n0 ad0 MC MS X ad H locs cells slots lsA T
  exact lv_dup2_2 X.1.1 X.1.2.1 hd rfl (h p l e R s m args below meth c Qf A D cy b n0 ad0 MC MS X ad H locs cells slots lsA (T.stk (g_sc (g_sh T.ok) T.ok)))
theorem g_pop {v : gV} (hd : decode md.2.1 pc = .ok (.pop, 1)) (hv : ∀ y, v ≠ vL y) (h : Go md mc ms (pc + 1) ls st gi gl sh Q) : Go md mc ms pc ls (v :: st) gi gl sh Q := by
  intro p l e R s m args below meth c Qf A D cy b n0 ad0 MC MS X ad H locs cells slots lsA T
  exact lv_pop X.1.1 X.1.2.1 hd (g_cat1 (fun hh => hv _ hh.choose_spec)) (h p l e R s m args below meth c Qf A D cy b n0 ad0 MC MS X ad H locs cells slots lsA (T.stk (g_st T.ok)))
end RULES
