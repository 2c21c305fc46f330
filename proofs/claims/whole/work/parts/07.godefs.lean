def g_rn (b : Nat) (ad : Int → Nat) : gV → Value
  | .inl x => .int (Int32.ofInt x)
  | .inr (.inl x) => .long (Int64.ofInt x)
  | .inr (.inr (.inl a)) => .ref (ad a)
  | .inr (.inr (.inr _)) => .ref b
def g_ok (n : Nat) : gV → Prop
  | .inl x => -2147483648 ≤ x ∧ x ≤ 2147483647
  | .inr (.inl x) => -9223372036854775808 ≤ x ∧ x ≤ 9223372036854775807
  | .inr (.inr (.inl a)) => 0 ≤ a ∧ a < (n : Int)
  | .inr (.inr (.inr _)) => True
/-- the content of one cell of an array or one field of an object told anew -/
def g_up {α : Type} (f : Int → Int → α) (a i : Int) (v : α) : Int → Int → α := fun b j => if b = a ∧ j = i then v else f b j
/-- a whole row told anew -/
def g_row {α : Type} (f : Int → α) (a : Int) (v : α) : Int → α := fun b => if b = a then v else f b
def g_fv (ad : Int → Nat) (t : FieldType) (x : Int) (r : Option Int) : Value := match t with
  | .int => .int (Int32.ofInt x)
  | _ => va_rf (r.map ad)
def g_fs (ad : Int → Nat) (gi : gF) (gr : Int → Int → Option Int) (ci : Nat) (a : Int) : List Value := (List.range (g_nf ci)).map (fun k => g_fv ad (g_ft ci k) (gi a (k : Int)) (gr a (k : Int)))
def g_cell (cy : Nat → ClassId) (ad : Int → Nat) (gi gl : gF) (sh : gSh) (a : Int) : va_E :=
  if sh.2.1 a < 10 then .inr (sh.2.1 a, g_fs ad gi sh.1 (sh.2.1 a) a)
  else if sh.2.1 a = 12 then .inl (cy 12, sh.2.2.1 a, .inr (.inl (fun j => Int64.ofInt (gl a (j : Int)))))
  else if sh.2.1 a < 14 then .inl (cy (sh.2.1 a), sh.2.2.1 a, .inl (fun j => Int32.ofInt (gi a (j : Int))))
  else .inl (cy (sh.2.1 a), sh.2.2.1 a, .inr (.inr (.inr (.inr (fun j => (sh.1 a (j : Int)).map ad)))))
def g_ws (cy : Nat → ClassId) (ad : Int → Nat) (gi gl : gF) (sh : gSh) : va_W := (List.range sh.2.2.2).map (fun (i : Nat) => (ad (i : Int), g_cell cy ad gi gl sh (i : Int)))
def g_tys (cy : Nat → ClassId) : List (ClassId × FieldType) := [(cy 10, .char), (cy 11, .int), (cy 12, .long), (cy 13, .boolean), (cy 14, .object "SpeckValves$Blob"), (cy 15, .object "SpeckValves$Stand"), (cy 16, .object "SpeckValves$Valve")]
def g_wf (gi gl : gF) (sh : gSh) : Prop :=
  (∀ a k : Int, -2147483648 ≤ gi a k ∧ gi a k ≤ 2147483647) ∧ (∀ a k : Int, -9223372036854775808 ≤ gl a k ∧ gl a k ≤ 9223372036854775807) ∧ ∀ a k r : Int, sh.1 a k = some r → 0 ≤ r ∧ r < (sh.2.2.2 : Int)
def g_Mm (s : State) (A : Nat → Prop) (D : va_G) (cy : Nat → ClassId) (ad : Int → Nat) (gi gl : gF) (sh : gSh) (H : Heap) (locs : List Loc) : Prop :=
  va_K D vwCl (g_tys cy) s ∧ va_P D vwCl (g_ws cy ad gi gl sh) H ∧ va_D A (g_ws cy ad gi gl sh) ∧ va_S A s.heap H locs ∧ g_wf gi gl sh
def g_Lo (b : Nat) (ad : Int → Nat) (n : Nat) (lsA : Array Slot) (nL : Nat) (ls : List (Option gV)) : Prop :=
  lsA.size = nL ∧ ls.length = nL ∧ lv_wf lsA ∧ ∀ (i : Nat) (v : gV), ls[i]? = some (some v) → lsA[i]? = some (.val (g_rn b ad v)) ∧ g_ok n v
def g_Cx (md : gMD) (p : Program) (R : Room) (s : State) (m : MethodId) (args : Array Value) (meth : Method) (c : Code) (A : Nat → Prop) (b : Nat) : Prop :=
  p.tables.exec = Jvm.exec ∧ c.code = md.2.1 ∧ c.maxLocals = md.2.2.1 ∧ s.vm.findClass md.1 = some m.cls ∧ (∀ w ∈ lw_good, w.before args s = true) ∧ (∀ w ∈ lw_nest, va_Nw w s) ∧ (∀ C ∈ lw_over, va_AO C s) ∧
  md.2.2.2.2.1 ≤ R.frames ∧ 30 * md.2.2.2.2.1 ≤ R.locals ∧ 1 ≤ md.2.2.2.2.1 ∧ (md.2.2.2.2.2.1.name = "<init>" → meth.name = "<init>") ∧ (∀ q : Nat, s.heap.size ≤ q → A q) ∧
  (∀ (L : Nat) (xs : Nat → Int32), md.2.2.2.2.2.2 = some (L, xs) → va_X b L xs s s.heap ∧ b < s.heap.size ∧ ¬ A b)
/-- where a method ends, and with what -/
def g_Rt (md : gMD) (pc : Nat) (r : Option gV) : Prop := match r with
  | none => md.2.2.2.1 = none ∧ decode md.2.1 pc = .ok (.return_, 1)
  | some (.inl x) => (∃ ty, md.2.2.2.1 = some ty ∧ narrow ty (.int (Int32.ofInt x)) = .int (Int32.ofInt x)) ∧ decode md.2.1 pc = .ok (.ireturn, 1)
  | some (.inr (.inl _)) => md.2.2.2.1 = some .long ∧ decode md.2.1 pc = .ok (.lreturn, 1)
  | some (.inr (.inr _)) => False
def g_X (md : gMD) (Q : gQ) (p : Program) (l : Launch) (e : Env) (R : Room) (s : State) (m : MethodId) (args : Array Value) (below : List Frame) (meth : Method) (c : Code) (Qf : State → Prop) (A : Nat → Prop) (D : va_G) (cy : Nat → ClassId) (b n0 : Nat) (ad0 : Int → Nat) (MC MS : Nat) : Prop :=
  g_Cx md p R s m args meth c A b ∧ MC ≤ R.cells ∧ MS ≤ R.slots ∧
  ∀ (r : Option gV) (gi gl : gF) (sh : gSh) (ad : Int → Nat) (H : Heap) (locs : List Loc) (cells slots pc : Nat) (lsA : Array Slot), Q r gi gl sh → n0 ≤ sh.2.2.2 → (∀ a : Int, 0 ≤ a → a < (n0 : Int) → ad a = ad0 a) → g_Mm s A D cy ad gi gl sh H locs → cells ≤ MC → slots ≤ MS → g_Rt md pc r → (∀ v, r = some v → g_ok sh.2.2.2 v) →
    W p l e R s m args below meth c H locs cells slots Qf (F0 m pc lsA (r.toList.map (g_rn b ad)))
def g_T (md : gMD) (mc ms : Nat) (ls : List (Option gV)) (st : List gV) (gi gl : gF) (sh : gSh) (s : State) (A : Nat → Prop) (D : va_G) (cy : Nat → ClassId) (b n0 : Nat) (ad0 : Int → Nat) (MC MS : Nat) (ad : Int → Nat) (H : Heap) (locs : List Loc) (cells slots : Nat) (lsA : Array Slot) : Prop :=
  (n0 ≤ sh.2.2.2 ∧ ∀ a : Int, 0 ≤ a → a < (n0 : Int) → ad a = ad0 a) ∧ (cells + mc ≤ MC ∧ slots + ms ≤ MS) ∧ g_Mm s A D cy ad gi gl sh H locs ∧ g_Lo b ad sh.2.2.2 lsA md.2.2.1 ls ∧ ∀ v ∈ st, g_ok sh.2.2.2 v
/-- from this frame over this memory the method comes to its end with Q -/
def Go (md : gMD) (mc ms pc : Nat) (ls : List (Option gV)) (st : List gV) (gi gl : gF) (sh : gSh) (Q : gQ) : Prop :=
  ∀ (p : Program) (l : Launch) (e : Env) (R : Room) (s : State) (m : MethodId) (args : Array Value) (below : List Frame) (meth : Method) (c : Code) (Qf : State → Prop) (A : Nat → Prop) (D : va_G) (cy : Nat → ClassId) (b n0 : Nat) (ad0 : Int → Nat) (MC MS : Nat),
    g_X md Q p l e R s m args below meth c Qf A D cy b n0 ad0 MC MS →
    ∀ (ad : Int → Nat) (H : Heap) (locs : List Loc) (cells slots : Nat) (lsA : Array Slot), g_T md mc ms ls st gi gl sh s A D cy b n0 ad0 MC MS ad H locs cells slots lsA →
      W p l e R s m args below meth c H locs cells slots Qf (F0 m pc lsA (st.map (g_rn b ad)))
/-! lemmas on the memory -/
theorem g_sc {n : Nat} {v : gV} {st : List gV} (h1 : g_ok n v) (h2 : ∀ w ∈ st, g_ok n w) : ∀ w ∈ v :: st, g_ok n w := fun w hw => (List.mem_cons.mp hw).elim (fun e => e ▸ h1) (h2 w)
theorem g_sh {n : Nat} {v : gV} {st : List gV} (h : ∀ w ∈ v :: st, g_ok n w) : g_ok n v := h v List.mem_cons_self
theorem g_st {n : Nat} {v : gV} {st : List gV} (h : ∀ w ∈ v :: st, g_ok n w) : ∀ w ∈ st, g_ok n w := fun w hw => h w (List.mem_cons_of_mem _ hw)
section GT
variable {md : gMD} {mc ms : Nat} {ls : List (Option gV)} {st : List gV} {gi gl : gF} {sh : gSh} {s : State} {A : Nat → Prop} {D : va_G} {cy : Nat → ClassId} {b n0 : Nat} {ad0 : Int → Nat} {MC MS : Nat} {ad : Int → Nat} {H : Heap} {locs : List Loc} {cells slots : Nat} {lsA : Array Slot}
theorem g_T.stk (T : g_T md mc ms ls st gi gl sh s A D cy b n0 ad0 MC MS ad H locs cells slots lsA) {st' : List gV} (h : ∀ v ∈ st', g_ok sh.2.2.2 v) : g_T md mc ms ls st' gi gl sh s A D cy b n0 ad0 MC MS ad H locs cells slots lsA := ⟨T.1, T.2.1, T.2.2.1, T.2.2.2.1, h⟩
theorem g_T.ok (T : g_T md mc ms ls st gi gl sh s A D cy b n0 ad0 MC MS ad H locs cells slots lsA) : ∀ v ∈ st, g_ok sh.2.2.2 v := T.2.2.2.2
theorem g_T.mm (T : g_T md mc ms ls st gi gl sh s A D cy b n0 ad0 MC MS ad H locs cells slots lsA) : g_Mm s A D cy ad gi gl sh H locs := T.2.2.1
theorem g_T.lo (T : g_T md mc ms ls st gi gl sh s A D cy b n0 ad0 MC MS ad H locs cells slots lsA) : g_Lo b ad sh.2.2.2 lsA md.2.2.1 ls := T.2.2.2.1
/-- ints told anew, the shape and the locals as they are -/
theorem g_T.mem (T : g_T md mc ms ls st gi gl sh s A D cy b n0 ad0 MC MS ad H locs cells slots lsA) {gi' gl' : gF} {gr' : Int → Int → Option Int} {st' : List gV} {H' : Heap} {locs' : List Loc} (hM : g_Mm s A D cy ad gi' gl' (gr', sh.2) H' locs') (h : ∀ v ∈ st', g_ok sh.2.2.2 v) : g_T md mc ms ls st' gi' gl' (gr', sh.2) s A D cy b n0 ad0 MC MS ad H' locs' cells slots lsA := ⟨T.1, T.2.1, hM, T.2.2.2.1, h⟩
end GT
theorem g_ws_get {cy : Nat → ClassId} {ad : Int → Nat} {gi gl : gF} {sh : gSh} {a : Int} (h0 : 0 ≤ a) (h1 : a < (sh.2.2.2 : Int)) : (g_ws cy ad gi gl sh)[a.toNat]? = some (ad a, g_cell cy ad gi gl sh a) := by
  have h2 : a.toNat < sh.2.2.2 := by omega
  have h3 : ((a.toNat : Nat) : Int) = a := by omega
  simp [g_ws, h2, h3]
theorem g_ws_len {cy : Nat → ClassId} {ad : Int → Nat} {gi gl : gF} {sh : gSh} : (g_ws cy ad gi gl sh).length = sh.2.2.2 := by simp [g_ws]
theorem g_ws_set {cy : Nat → ClassId} {ad : Int → Nat} {gi gl gi' gl' : gF} {sh : gSh} {gr' : Int → Int → Option Int} {a : Int} {e : va_E} (h0 : 0 ≤ a) (he : g_cell cy ad gi' gl' (gr', sh.2) a = e) (ho : ∀ i : Int, i ≠ a → g_cell cy ad gi' gl' (gr', sh.2) i = g_cell cy ad gi gl sh i) : (g_ws cy ad gi gl sh).set a.toNat (ad a, e) = g_ws cy ad gi' gl' (gr', sh.2) := by
  apply List.ext_getElem?
  intro i
  rw [List.getElem?_set]
  have hlen : (g_ws cy ad gi gl sh).length = sh.2.2.2 := g_ws_len
  by_cases hi : a.toNat = i
  · subst hi
    by_cases hn : a.toNat < sh.2.2.2
    · rw [if_pos rfl, if_pos (by rw [hlen]; exact hn), ← he]
      exact (g_ws_get (sh := (gr', sh.2)) h0 (by show a < (sh.2.2.2 : Int); omega)).symm
    · rw [if_pos rfl, if_neg (by rw [hlen]; exact hn)]
      simp [g_ws, hn]
  · rw [if_neg hi]
    have hne : (i : Int) ≠ a := by omega
    by_cases hn : i < sh.2.2.2
    · simp [g_ws, hn, ho _ hne]
    · simp [g_ws, hn]
theorem g_fs_get {ad : Int → Nat} {gi : gF} {gr : Int → Int → Option Int} {ci : Nat} {a : Int} {k : Nat} (hk : k < g_nf ci) : (g_fs ad gi gr ci a)[k]? = some (g_fv ad (g_ft ci k) (gi a k) (gr a k)) := by
  simp [g_fs, hk]
theorem g_fs_len {ad : Int → Nat} {gi : gF} {gr : Int → Int → Option Int} {ci : Nat} {a : Int} : (g_fs ad gi gr ci a).length = g_nf ci := by simp [g_fs]
theorem g_fs_set {ad : Int → Nat} {gi gi' : gF} {gr gr' : Int → Int → Option Int} {ci : Nat} {a : Int} {k : Nat} {v : Value} (hv : g_fv ad (g_ft ci k) (gi' a k) (gr' a k) = v) (ho : ∀ j : Nat, j ≠ k → gi' a j = gi a j ∧ gr' a j = gr a j) : (g_fs ad gi gr ci a).set k v = g_fs ad gi' gr' ci a := by
  apply List.ext_getElem?
  intro i
  rw [List.getElem?_set, g_fs_len]
  by_cases hi : k = i
  · subst hi
    by_cases hn : k < g_nf ci
    · rw [if_pos rfl, if_pos hn, g_fs_get hn, hv]
    · rw [if_pos rfl, if_neg hn]; simp [g_fs, hn]
  · rw [if_neg hi]
    by_cases hn : i < g_nf ci
    · rw [g_fs_get hn, g_fs_get hn, (ho i (fun h => hi h.symm)).1, (ho i (fun h => hi h.symm)).2]
    · simp [g_fs, hn]
theorem g_cell_obj {cy : Nat → ClassId} {ad : Int → Nat} {gi gl : gF} {sh : gSh} {a : Int} {ci : Nat} (hk : sh.2.1 a = ci) (hc : ci < 10) : g_cell cy ad gi gl sh a = .inr (ci, g_fs ad gi sh.1 ci a) := by
  simp [g_cell, hk, hc]
theorem g_cell_int {cy : Nat → ClassId} {ad : Int → Nat} {gi gl : gF} {sh : gSh} {a : Int} {κ : Nat} (hk : sh.2.1 a = κ) (h1 : ¬ κ < 10) (h2 : κ ≠ 12) (h3 : κ < 14) : g_cell cy ad gi gl sh a = .inl (cy κ, sh.2.2.1 a, .inl (fun j => Int32.ofInt (gi a (j : Int)))) := by
  simp [g_cell, hk, h1, h2, h3]
theorem g_cell_long {cy : Nat → ClassId} {ad : Int → Nat} {gi gl : gF} {sh : gSh} {a : Int} (hk : sh.2.1 a = 12) : g_cell cy ad gi gl sh a = .inl (cy 12, sh.2.2.1 a, .inr (.inl (fun j => Int64.ofInt (gl a (j : Int))))) := by
  simp [g_cell, hk]
theorem g_cell_ref {cy : Nat → ClassId} {ad : Int → Nat} {gi gl : gF} {sh : gSh} {a : Int} {κ : Nat} (hk : sh.2.1 a = κ) (h3 : ¬ κ < 14) : g_cell cy ad gi gl sh a = .inl (cy κ, sh.2.2.1 a, .inr (.inr (.inr (.inr (fun j => (sh.1 a (j : Int)).map ad))))) := by
  have h1 : ¬ κ < 10 := by omega
  have h2 : κ ≠ 12 := by omega
  simp [g_cell, hk, h1, h2, h3]
theorem g_up_row {α : Type} {f : Int → Int → α} {a i : Int} {v : α} {b : Int} (h : b ≠ a) : g_up f a i v b = f b := by
  funext j; simp [g_up, h]
theorem g_row_ne {α : Type} {f : Int → α} {a : Int} {v : α} {b : Int} (h : b ≠ a) : g_row f a v b = f b := by simp [g_row, h]
theorem g_up_at {α : Type} {f : Int → Int → α} {a i : Int} {v : α} : g_up f a i v a i = v := by simp [g_up]
theorem g_up_ne {α : Type} {f : Int → Int → α} {a i : Int} {v : α} {j : Int} (h : j ≠ i) : g_up f a i v a j = f a j := by simp [g_up, h]
/-- a cell's picture depends on its own rows alone -/
theorem g_cell_congr {cy : Nat → ClassId} {ad : Int → Nat} {gi gl gi' gl' : gF} {sh : gSh} {gr' : Int → Int → Option Int} {i : Int} (h1 : gi' i = gi i) (h2 : gl' i = gl i) (h3 : gr' i = sh.1 i) : g_cell cy ad gi' gl' (gr', sh.2) i = g_cell cy ad gi gl sh i := by
  simp [g_cell, g_fs, h1, h2, h3]
theorem g_i32 {x : Int} (h : -2147483648 ≤ x ∧ x ≤ 2147483647) : (Int32.ofInt x).toInt = x := Int32.toInt_ofInt_of_le (by simpa using h.1) (by have := h.2; simp; omega)
theorem g_i64 {x : Int} (h : -9223372036854775808 ≤ x ∧ x ≤ 9223372036854775807) : (Int64.ofInt x).toInt = x := Int64.toInt_ofInt_of_le (by simpa using h.1) (by have := h.2; simp; omega)
theorem g_lt {x y : Int} (hx : -2147483648 ≤ x ∧ x ≤ 2147483647) (hy : -2147483648 ≤ y ∧ y ≤ 2147483647) : Int32.ofInt x < Int32.ofInt y ↔ x < y := by rw [Int32.lt_iff_toInt_lt, g_i32 hx, g_i32 hy]
theorem g_le {x y : Int} (hx : -2147483648 ≤ x ∧ x ≤ 2147483647) (hy : -2147483648 ≤ y ∧ y ≤ 2147483647) : Int32.ofInt x ≤ Int32.ofInt y ↔ x ≤ y := by rw [Int32.le_iff_toInt_le, g_i32 hx, g_i32 hy]
theorem g_eq {x y : Int} (hx : -2147483648 ≤ x ∧ x ≤ 2147483647) (hy : -2147483648 ≤ y ∧ y ≤ 2147483647) : Int32.ofInt x = Int32.ofInt y ↔ x = y := ⟨fun h => by have := congrArg Int32.toInt h; rwa [g_i32 hx, g_i32 hy] at this, fun h => by rw [h]⟩
theorem g_0 : (0 : Int32) = Int32.ofInt 0 := rfl
theorem g_in {i : Int} {n : Nat} (h0 : 0 ≤ i) (h1 : i < (n : Int)) (hr : i ≤ 2147483647) : vp_in (Int32.ofInt i) n := by
  rw [vp_in_iff, g_i32 ⟨by omega, hr⟩]; exact ⟨h0, h1⟩
theorem g_clN {i : Int} (h0 : 0 ≤ i) (hr : i ≤ 2147483647) : ((Int32.ofInt i).toNatClampNeg : Int) = i := by
  have := g_i32 (x := i) ⟨by omega, hr⟩
  rw [Int32.toNatClampNeg]; rw [this]; omega
