/-! THE CLAIM OUT OF ONE WALK OF THE LAW'S BODY. Your part is whole_start (and what it stands on); all else here is the same for every law, but numbers. -/
def R_law : String := "SpeckValvesLaw"
def lw_P (b : Addr) (xs : List Int32) (args : Array Value) (s : State) : Prop := args = #[.ref b] ∧ s.IntsAt b xs ∧ xs.length ≤ 2048 ∧ (Jvm.Cond.and given_1 narrow_1).before args s = true
def lw_Q (_ : Array Value) (s : State) (o : Outcome) (t : State) : Prop := o = .returned (some (.int 1)) ∧ Framed s o t [] 600000 7302249
def lw_Z (below : List Frame) (a : Array Value) (s : State) : State → Prop := fun t => ∃ o, t.status = .running ∧ Ended t below o ∧ lw_Q a s o t
/-- the law's own end, with 1 on the stack, nothing written that was there before, its room as the claim has it -/
theorem lw_ret {p : Program} {l : Launch} {e : Env} {s : State} {m : MethodId} {below : List Frame} {meth : Method} {c : Code} {b : Nat} (hx : p.tables.exec = Jvm.exec) (hb : c.code = code) (hr : meth.sig.returnType = ret) (hlocks : meth.locks = false) {pc : Nat} {H : Heap} {ls : Array Slot} (hdg : decode code pc = .ok (.ireturn, 1)) : W p l e room_1 s m #[Value.ref b] below meth c H [] 600000 7302249 (lw_Z below #[Value.ref b] s) (F0 m pc ls [.int 1]) := by
  intro T hT X
  obtain ⟨fs, hret, hrun, hended, hW, hframe⟩ := X.leave (v := some (.int 1)) (hlocks := hlocks) (fun h => by rw [hr] at h; cases h)
  have hmeth' : T.vm.method? m = some meth := X.method'
  refine ⟨T.setFrames fs, ?_, .returned (some (.int 1)), hrun, hended, rfl, ⟨_, rfl⟩, hW, hframe⟩
  jvm_step X.here [X.here.top, hx, hb, hdg, hmeth', hr, ret, narrow_b1]
  (try refine ⟨rfl, ?_⟩); (try refine ⟨rfl, ?_⟩)
  first | (intro acts; rw [hret _ acts rfl rfl rfl]) | rw [hret _ _ rfl rfl rfl]
  exact Steps.refl _
/-- what holds at the law's entry: the machine, the code, the tables' words (any of lw_tbl by 'hts w (by decide +kernel)'), the script of L ints xs at the cell b, what the Statement gives of the start (any of its parts by flat_of_before) -/
def lw_At (p : Program) (s : State) (m : MethodId) (meth : Method) (c : Code) (b L : Nat) (xs : Nat → Int32) : Prop :=
  p.tables.exec = Jvm.exec ∧ c.code = code ∧ meth.sig.returnType = ret ∧ c.maxLocals = 4 ∧ s.vm.findClass R_law = some m.cls ∧ (∀ w ∈ lw_tbl, w.before #[Value.ref b] s = true) ∧ va_X b L xs s s.heap ∧ b < s.heap.size ∧ meth.locks = false ∧ (Jvm.Cond.and given_1 narrow_1).before #[Value.ref b] s = true

theorem g_arrP {s : State} {args : Array Value} {ty : FieldType} (h : (Cond.arrayClass ty).before args s = true) (hra : ∀ x : ClassId, s.vm.findClass ("[" ++ ty.toString) = some x → va_RA s x ty) : ∃ x : ClassId, ArrOfT s x ty ∧ va_RA s x ty := by
  obtain ⟨x, k, comp, h1, h2, h3⟩ := Cond.arrayClass_spec h
  exact ⟨x, fun n z => ⟨fun _ h => (by cases h), k, h2, comp, h3⟩, hra x h1⟩
theorem g_arrO {s : State} {C : String} (h : va_AO C s) : ∃ x : ClassId, ArrOfT s x (.object C) ∧ va_RA s x (.object C) := by
  obtain ⟨comp, x, k, h1, h2, h3, h4, h5⟩ := Cond.arrayOver_spec h
  exact ⟨x, fun n z => ⟨fun _ h => (by cases h), k, h3, comp, h4⟩, k, comp, h3, h4, h1, h5⟩
theorem g_arrK {s : State} {args : Array Value} (hts : ∀ w ∈ lw_good, w.before args s = true) (hO : ∀ C ∈ lw_over, va_AO C s) : ∃ cy : Nat → ClassId, ∀ (k : Nat) (q : ClassId × FieldType), (g_tys cy)[k]? = some q → ArrOfT s q.1 q.2 ∧ va_RA s q.1 q.2 := by
  obtain ⟨c0, h0⟩ := g_arrP (hts _ wa_char) (fun _ h => h)
  obtain ⟨c1, h1⟩ := g_arrP (hts _ wa_int) (fun _ h => h)
  obtain ⟨c2, h2⟩ := g_arrP (hts _ wa_long) (fun _ h => h)
  obtain ⟨c3, h3⟩ := g_arrP (hts _ wa_boolean) (fun _ h => h)
  obtain ⟨c4, h4⟩ := g_arrO (hO "SpeckValves$Blob" (by decide))
  obtain ⟨c5, h5⟩ := g_arrO (hO "SpeckValves$Stand" (by decide))
  obtain ⟨c6, h6⟩ := g_arrO (hO "SpeckValves$Valve" (by decide))
  refine ⟨fun κ => match κ with
    | 10 => c0 | 11 => c1 | 12 => c2 | 13 => c3 | 14 => c4 | 15 => c5 | _ => c6, ?_⟩
  intro k q hq
  match k, hq with
  | 0, hq => cases hq; exact h0
  | 1, hq => cases hq; exact h1
  | 2, hq => cases hq; exact h2
  | 3, hq => cases hq; exact h3
  | 4, hq => cases hq; exact h4
  | 5, hq => cases hq; exact h5
  | 6, hq => cases hq; exact h6
  | k + 7, hq => simp [g_tys] at hq
theorem g_clsK {s : State} {args : Array Value} (hts : ∀ w ∈ lw_good, w.before args s = true) : ∃ D : va_G, ∀ (k : Nat) (q : vw_C), vwCl[k]? = some q → u_Kn s q.1 q.2.1 q.2.2 (D.1 k) (D.2 k) := by
  have h : ∀ k : Nat, ∃ z : ClassId × (Nat → Nat), k < 10 → u_Kn s (g_R k) (g_TT k) (g_nf k) z.1 z.2 := fun k => by
    by_cases hk : k < 10
    · obtain ⟨a, b, h⟩ := u_known hts (g_inn k hk) (hts _ (g_ins k hk).1)
      exact ⟨(a, b), fun _ => h⟩
    · exact ⟨(0, fun _ => 0), fun h => absurd h hk⟩
  refine ⟨(fun k => (h k).choose.1, fun k => (h k).choose.2), ?_⟩
  intro k q hq
  have hk : k < 10 := (List.getElem?_eq_some_iff.mp hq).1
  rw [g_cl k hk] at hq
  cases hq
  exact (h k).choose_spec hk
/-- the law, out of its Go over the empty memory -/
theorem g_start {p : Program} {e : Env} {s : State} {m : MethodId} {below : List Frame} {meth : Method} {c : Code} (l : Launch) {b L : Nat} {xs : Nat → Int32} (mc ms : Nat) (hmc : mc ≤ 600000) (hms : ms ≤ 7302249)
    (hG : Go (mdL_law L xs) mc ms 0 [some vS, none, none, none] [] (fun _ _ => 0) (fun _ _ => 0) (fun _ _ => none, fun _ => 0, fun _ => 0, 0) (fun r _ _ _ => r = some (vI 1))) (C0 : lw_At p s m meth c b L xs) : W p l e room_1 s m #[Value.ref b] below meth c s.heap [] 0 0 (lw_Z below #[Value.ref b] s) (entryFrame m ([Value.ref b] : List Value).toArray 4) := by
  obtain ⟨hx, hb, hr, hml, hown, hts0, hX, hbl, hlocks, hgv⟩ := C0
  have hts : ∀ w ∈ lw_good, w.before #[Value.ref b] s = true := fun w hw => hts0 w (List.mem_filter.mp hw).1
  have hN : ∀ w ∈ lw_nest, va_Nw w s := fun w hw => va_Nw.of (g_isN_on (g_nestN hw)) (hts0 w (lw_nest_in w hw))
  have hO : ∀ C ∈ lw_over, va_AO C s := fun C hC => va_AO.of (hts0 _ (lw_over_in C hC))
  obtain ⟨cy, hcy⟩ := g_arrK hts hO
  obtain ⟨D, hD⟩ := g_clsK hts
  rw [lg_entry_eq]
  have hcx : g_Cx (mdL_law L xs) p room_1 s m #[Value.ref b] meth c (fun q => s.heap.size ≤ q) b :=
    ⟨hx, hb, hml, hown, hts, hN, hO, (by decide : 8 ≤ 9), (by decide : 30 * 8 ≤ 320), (by decide : 1 ≤ 8), fun h => absurd (show ("law" : String) = "<init>" from h) (by decide), fun q h => h, fun L' xs' h => by
      cases h
      exact ⟨hX, hbl, Nat.not_le.mpr hbl⟩⟩
  have hok : ∀ v ∈ [vS], g_ok 0 v := fun v hv => by rcases List.mem_singleton.mp hv with rfl; trivial
  have hl := g_Lo.entry (b := b) (ad := fun _ => 0) (n := 0) (nL := 4) (as := [vS]) hok (by decide)
  refine hG p l e room_1 s m #[Value.ref b] below meth c (lw_Z below #[Value.ref b] s) (fun q => s.heap.size ≤ q) D cy b 0 (fun _ => 0) mc ms ⟨hcx, hmc, hms, ?_⟩ (fun _ => 0) s.heap [] 0 0 _ ⟨⟨Nat.le_refl _, fun _ _ _ => rfl⟩, ⟨by omega, by omega⟩, ⟨⟨hD, hcy⟩, fun k q h => by simp [g_ws] at h, ⟨fun i j p q h => by simp [g_ws] at h, fun k q h => by simp [g_ws] at h⟩, va_S.rf, ⟨fun _ _ => (by decide : (-2147483648 : Int) ≤ 0 ∧ (0 : Int) ≤ 2147483647), fun _ _ => (by decide : (-9223372036854775808 : Int) ≤ 0 ∧ (0 : Int) ≤ 9223372036854775807), fun _ _ _ h => by cases h⟩⟩, hl, fun v hv => by cases hv⟩
  intro r gi gl sh ad H locs cells slots pc lsA hQ hn hext hM hc hs hR hrok
  subst hQ
  refine va_forget (fun q hq => hM.2.2.2.1.2.2 q hq) ?_
  refine W.widen (k := 600000) (n := 7302249) (Nat.le_trans hc hmc) (Nat.le_trans hs hms) ?_
  exact lw_ret hx hb hr hlocks hR.2
