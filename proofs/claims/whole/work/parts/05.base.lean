/-! the pure layer: values, memory, frames; W and its rows are hidden under 'Go' -/
/-- a pure value: an int, a long, a reference (a place of the memory), the script -/
abbrev gV : Type := Int ⊕ (Int ⊕ (Int ⊕ Unit))
abbrev vI (x : Int) : gV := .inl x
abbrev vL (x : Int) : gV := .inr (.inl x)
abbrev vR (a : Int) : gV := .inr (.inr (.inl a))
abbrev vS : gV := .inr (.inr (.inr ()))
abbrev gF : Type := Int → Int → Int
/-- the shape: references, kinds, lengths, how many cells -/
abbrev gSh : Type := (Int → Int → Option Int) × (Int → Nat) × (Int → Nat) × Nat
/-- a method: its class, code, locals, return type, level, name; the script, where it is the law -/
abbrev gMD : Type := String × ByteArray × Nat × Option FieldType × Nat × MethodName × Option (Nat × (Nat → Int32))
abbrev gQ : Type := Option gV → gF → gF → gSh → Prop
def g_R : Nat → String
  | 0 => RX0 | 1 => RX1 | 2 => RX2 | 3 => RX3 | 4 => RX4 | 5 => RX5 | 6 => RX6 | 7 => RX7 | 8 => RX8 | _ => RX9
def g_TT : Nat → u_T
  | 0 => TX0 | 1 => TX1 | 2 => TX2 | 3 => TX3 | 4 => TX4 | 5 => TX5 | 6 => TX6 | 7 => TX7 | 8 => TX8 | _ => TX9
def g_ft : Nat → Nat → FieldType
  | 0 => tyX0 | 1 => tyX1 | 2 => tyX2 | 3 => tyX3 | 4 => tyX4 | 5 => tyX5 | 6 => tyX6 | 7 => tyX7 | 8 => tyX8 | _ => tyX9
def g_nf : Nat → Nat
  | 0 => 8 | 1 => 5 | 2 => 3 | 3 => 10 | 4 => 3 | 5 => 4 | 6 => 3 | 7 => 3 | 8 => 9 | _ => 32
theorem g_cl : ∀ ci : Nat, ci < 10 → vwCl[ci]? = some (g_R ci, g_TT ci, g_nf ci)
  | 0, _ => rfl | 1, _ => rfl | 2, _ => rfl | 3, _ => rfl | 4, _ => rfl | 5, _ => rfl | 6, _ => rfl | 7, _ => rfl | 8, _ => rfl | 9, _ => rfl
  | n + 10, h => absurd h (by omega)
theorem g_tyk : ∀ ci : Nat, ci < 10 → ∀ k, k < g_nf ci → parseFieldDescriptor (g_TT ci k).2.2.1 = some (g_ft ci k)
  | 0, _ => tyX0_ok | 1, _ => tyX1_ok | 2, _ => tyX2_ok | 3, _ => tyX3_ok | 4, _ => tyX4_ok | 5, _ => tyX5_ok | 6, _ => tyX6_ok | 7, _ => tyX7_ok | 8, _ => tyX8_ok | 9, _ => tyX9_ok
  | n + 10, h => absurd h (by omega)
theorem g_nmk : ∀ ci : Nat, ci < 10 → ∀ a, a < g_nf ci → ∀ b, b < g_nf ci → a ≠ b → (g_TT ci a).2.1 ≠ (g_TT ci b).2.1
  | 0, _ => nmX0 | 1, _ => nmX1 | 2, _ => nmX2 | 3, _ => nmX3 | 4, _ => nmX4 | 5, _ => nmX5 | 6, _ => nmX6 | 7, _ => nmX7 | 8, _ => nmX8 | 9, _ => nmX9
  | n + 10, h => absurd h (by omega)
/-- the tables' words that stay true under every shift -/
def lw_good : List Cond := lw_tbl.filter goodWord
theorem lw_gd {w : Cond} (i : Nat) (h : lw_tbl[i]? = some w) (hg : goodWord w = true) : w ∈ lw_good := List.mem_filter.mpr ⟨List.mem_of_getElem? h, hg⟩
theorem lw_gl {ws : List Cond} (ps : List Nat) (hp : ws.map some = ps.map (fun i => lw_tbl[i]?)) (hg : ws.all goodWord = true) : ∀ w ∈ ws, w ∈ lw_good := by
  intro w hw
  have h1 : some w ∈ ws.map some := List.mem_map.mpr ⟨w, hw, rfl⟩
  rw [hp] at h1
  obtain ⟨i, -, hi⟩ := List.mem_map.mp h1
  exact lw_gd i hi (List.all_eq_true.mp hg w hw)
theorem lw_goodIn {ws : List Cond} (h : ∀ w ∈ ws, w ∈ lw_good) : GoodIn lw_good ws := fun w hw => ⟨h w hw, good_of_word (List.mem_filter.mp (h w hw)).2⟩
def g_isR : FieldType → Bool
  | .object _ => true
  | .array _ => true
  | _ => false
def g_FI (own : String) (idx ci k : Nat) : Prop := ci < 10 ∧ k < g_nf ci ∧ g_ft ci k = .int ∧ (g_TT ci k).2.2.2 = false ∧ Cond.fieldLink own idx (g_TT ci k).1 (g_TT ci k).2.1 (g_TT ci k).2.2.1 ∈ lw_good
def g_FR (own : String) (idx ci k : Nat) (fin : Bool) : Prop := ci < 10 ∧ k < g_nf ci ∧ g_isR (g_ft ci k) = true ∧ (g_TT ci k).2.2.2 = fin ∧ Cond.fieldLink own idx (g_TT ci k).1 (g_TT ci k).2.1 (g_TT ci k).2.2.1 ∈ lw_good
/-- an instance method's words: it is of class ci and takes np arguments -/
def g_MV (md : gMD) (ci np : Nat) : Prop :=
  Cond.instanceMethod md.2.2.2.2.2.1 ∈ lw_good ∧ Cond.selects (g_R ci) md.2.2.2.2.2.1 md.2.2.2.2.2.1 ∈ lw_good ∧ Cond.initialized md.2.2.2.2.2.1.cls ∈ lw_good ∧ Cond.code md.2.2.2.2.2.1 md.2.1 md.2.2.1 md.2.2.2.1 ∈ lw_good ∧ plainName md.2.2.2.2.2.1.cls = true ∧ md.2.2.2.2.2.1.cls = md.1 ∧
  md.2.2.2.2.2.1.cls ≠ "java/lang/invoke/MethodHandle" ∧ md.2.2.2.2.2.1.cls ≠ "java/lang/invoke/VarHandle" ∧ (parseMethodDescriptor md.2.2.2.2.2.1.desc).map (fun d => d.parameters.length) = some np
/-- a static method's words -/
def g_MS (md : gMD) (np : Nat) : Prop :=
  Cond.static md.2.2.2.2.2.1 ∈ lw_good ∧ Cond.initialized md.2.2.2.2.2.1.cls ∈ lw_good ∧ Cond.code md.2.2.2.2.2.1 md.2.1 md.2.2.1 md.2.2.2.1 ∈ lw_good ∧ plainName md.2.2.2.2.2.1.cls = true ∧ md.2.2.2.2.2.1.cls = md.1 ∧
  md.2.2.2.2.2.1.cls ≠ "java/lang/invoke/MethodHandle" ∧ md.2.2.2.2.2.1.cls ≠ "java/lang/invoke/VarHandle" ∧ (parseMethodDescriptor md.2.2.2.2.2.1.desc).map (fun d => d.parameters.length) = some np
/-- a constructor's words -/
def g_MI (md : gMD) (np : Nat) : Prop :=
  Cond.instanceMethod md.2.2.2.2.2.1 ∈ lw_good ∧ md.2.2.2.2.2.1.name = "<init>" ∧ Cond.initialized md.2.2.2.2.2.1.cls ∈ lw_good ∧ Cond.code md.2.2.2.2.2.1 md.2.1 md.2.2.1 none ∈ lw_good ∧ plainName md.2.2.2.2.2.1.cls = true ∧ md.2.2.2.2.2.1.cls = md.1 ∧
  md.2.2.2.2.2.1.cls ≠ "java/lang/invoke/MethodHandle" ∧ md.2.2.2.2.2.1.cls ≠ "java/lang/invoke/VarHandle" ∧ (parseMethodDescriptor md.2.2.2.2.2.1.desc).map (fun d => d.parameters.length) = some np ∧ md.2.2.2.1 = none
