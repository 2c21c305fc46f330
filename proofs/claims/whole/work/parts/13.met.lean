/-! calls: a callee's Go is its contract -/
theorem g_isN_on {w : Cond} (h : g_isN w = true) : w.onTables = true := by
  cases w <;> first | rfl | cases h
theorem g_isN_warm {w : Cond} {s U : State} (h : g_isN w = true) (hW : s.WarmedH U.vm) (hZ : va_Nw w s) : va_Nw w U := by
  cases w <;> first | exact va_Nw.warmF hW hZ | exact va_Nw.warmM hW hZ | cases h
theorem g_nestN {w : Cond} (hw : w ∈ lw_nest) : g_isN w = true := List.all_eq_true.mp lw_nest_all w hw
/-- the locals at a method's entry -/
def g_sl : List gV → List (Option gV)
  | [] => []
  | .inr (.inl x) :: vs => some (vL x) :: none :: g_sl vs
  | v :: vs => some v :: g_sl vs
def g_ent (nL : Nat) (as : List gV) : List (Option gV) := g_sl as ++ List.replicate (nL - (g_sl as).length) none
theorem g_sl_args (b : Nat) (ad : Int → Nat) : ∀ (as : List gV) (o i : Nat) (v : gV), (g_sl as)[i]? = some (some v) → (o + i, g_rn b ad v) ∈ lv_args o (as.map (g_rn b ad)) ∧ v ∈ as := by
  intro as
  induction as with
  | nil => intro o i v h; simp [g_sl] at h
  | cons w ws ih =>
    intro o i v h
    have one : ∀ (hw : (g_rn b ad w).category ≠ 2), (some w :: g_sl ws)[i]? = some (some v) → (o + i, g_rn b ad v) ∈ lv_args o ((w :: ws).map (g_rn b ad)) ∧ v ∈ w :: ws := by
      intro hw h
      cases i with
      | zero => cases h; exact ⟨by simp [lv_args], List.mem_cons_self⟩
      | succ i =>
        obtain ⟨h1, h2⟩ := ih (o + 1) i v h
        refine ⟨?_, List.mem_cons_of_mem _ h2⟩
        simp only [List.map_cons, lv_args, if_neg hw]
        exact List.mem_cons_of_mem _ (by rw [show o + (i + 1) = o + 1 + i by omega]; exact h1)
    rcases w with x | x | x | x
    · exact one (by simp [g_rn, Value.category]) h
    · have h : (some (vL x) :: none :: g_sl ws)[i]? = some (some v) := h
      match i, h with
      | 0, h => cases h; exact ⟨by simp [lv_args], List.mem_cons_self⟩
      | 1, h => cases h
      | i + 2, h =>
        obtain ⟨h1, h2⟩ := ih (o + 2) i v h
        refine ⟨?_, List.mem_cons_of_mem _ h2⟩
        have hc : (g_rn b ad (Sum.inr (Sum.inl x))).category = 2 := by simp [g_rn, Value.category]
        simp only [List.map_cons, lv_args, if_pos hc]
        exact List.mem_cons_of_mem _ (by rw [show o + (i + 2) = o + 2 + i by omega]; exact h1)
    · exact one (by simp [g_rn, Value.category]) h
    · exact one (by simp [g_rn, Value.category]) h
theorem g_sl_len (b : Nat) (ad : Int → Nat) : ∀ as : List gV, (lg_sl (as.map (g_rn b ad))).length = (g_sl as).length := by
  intro as
  induction as with
  | nil => rfl
  | cons w ws ih =>
    rcases w with x | x | x | x <;> simp [lg_sl, g_sl, g_rn, Value.category] at ih ⊢ <;> omega
theorem g_Lo.entry {b : Nat} {ad : Int → Nat} {n nL : Nat} {as : List gV} (hok : ∀ v ∈ as, g_ok n v) (hn : (g_sl as).length ≤ nL) : g_Lo b ad n ((lg_sl (as.map (g_rn b ad)) ++ List.replicate (nL - (lg_sl (as.map (g_rn b ad))).length) Slot.unset).toArray) nL (g_ent nL as) := by
  have h := lv_entry (as.map (g_rn b ad)) (n := nL) (by rw [g_sl_len]; exact hn)
  refine ⟨h.1, by simp [g_ent]; omega, h.2.1, fun i v hi => ?_⟩
  have hs : (g_sl as)[i]? = some (some v) := by
    unfold g_ent at hi
    by_cases hlt : i < (g_sl as).length
    · rwa [List.getElem?_append_left hlt] at hi
    · rw [List.getElem?_append_right (by omega), List.getElem?_replicate] at hi
      split at hi <;> simp at hi
  obtain ⟨h1, h2⟩ := g_sl_args b ad as 0 i v hs
  rw [Nat.zero_add] at h1
  exact ⟨h.2.2 _ h1, hok v h2⟩
/-- the world that a callee is handed, and what it hands back -/
def g_Pm (D : va_G) (cy : Nat → ClassId) (ad : Int → Nat) (gi gl : gF) (sh : gSh) (A : Nat → Prop) (U : State) : Prop := va_K D vwCl (g_tys cy) U ∧ va_P D vwCl (g_ws cy ad gi gl sh) U.heap ∧ va_D A (g_ws cy ad gi gl sh)
def g_Pre (D : va_G) (cy : Nat → ClassId) (ad : Int → Nat) (gi gl : gF) (sh : gSh) (sz : Nat) (U : State) : Prop := U.heap.size = sz ∧ g_Pm D cy ad gi gl sh (fun _ => True) U ∧ (∀ w ∈ lw_nest, va_Nw w U) ∧ ∀ C ∈ lw_over, va_AO C U
abbrev gU : Type := Option gV × gF × gF × gSh × (Int → Nat)
def g_post (Q : gQ) (ad : Int → Nat) (sh : gSh) (u : gU) : Prop := Q u.1 u.2.1 u.2.2.1 u.2.2.2.1 ∧ sh.2.2.2 ≤ u.2.2.2.1.2.2.2 ∧ (∀ a : Int, 0 ≤ a → a < (sh.2.2.2 : Int) → u.2.2.2.2 a = ad a) ∧ g_wf u.2.1 u.2.2.1 u.2.2.2.1 ∧ ∀ v, u.1 = some v → g_ok u.2.2.2.1.2.2.2 v
def g_back (D : va_G) (cy : Nat → ClassId) (A : Nat → Prop) (u : gU) (t : State) : Prop := g_Pm D cy u.2.2.2.2 u.2.1 u.2.2.1 u.2.2.2.1 A t
abbrev g_words (md : gMD) : List Cond := Cond.code md.2.2.2.2.2.1 md.2.1 md.2.2.1 md.2.2.2.1 :: lw_good
abbrev g_room (md : gMD) (mc ms : Nat) : Room := { frames := md.2.2.2.2.1, cells := mc, slots := ms, locals := 30 * md.2.2.2.2.1 }
section MET
variable {md : gMD} {mc ms : Nat} {as : List gV} {gi gl : gF} {sh : gSh} {Q : gQ}
/-- the body of a callee's contract, for any end that takes the three kinds of return -/
theorem g_body (l : Launch) (D : va_G) (cy : Nat → ClassId) (b : Nat) (ad : Int → Nat) (sz : Nat) (Qc : Array Value → State → Outcome → State → Prop)
    (hG : Go md mc ms 0 (g_ent md.2.2.1 as) [] gi gl sh Q) (hscr : md.2.2.2.2.2.2 = none) (hcls : md.2.2.2.2.2.1.cls = md.1) (hlev : 1 ≤ md.2.2.2.2.1) (hpl : plainName md.2.2.2.2.2.1.cls = true) (hlen : (g_sl as).length ≤ md.2.2.1) (hwf : g_wf gi gl sh) (hok : ∀ v ∈ as, g_ok sh.2.2.2 v)
    (hq : ∀ (s t : State) (r : Option gV) (gi' gl' : gF) (sh' : gSh) (ad' : Int → Nat) (H : Heap) (locs : List Loc), g_post Q ad sh (r, gi', gl', sh', ad') → va_S (va_A (g_ws cy ad gi gl sh) sz) s.heap H locs → va_K D vwCl (g_tys cy) s → va_P D vwCl (g_ws cy ad' gi' gl' sh') H → va_D (va_A (g_ws cy ad gi gl sh) sz) (g_ws cy ad' gi' gl' sh') → t.heap = H → s.WarmedH t.vm → (∀ x : Int, r = some (.inl x) → ∃ ty, md.2.2.2.1 = some ty) → Qc ((as.map (g_rn b ad)).toArray) s (.returned (r.map (g_rn b ad'))) t) :
    Met l md.2.2.2.2.2.1 (g_words md) (g_room md mc ms) (va_Pc (as.map (g_rn b ad)) (g_Pre D cy ad gi gl sh sz)) Qc mc ms (va_A (g_ws cy ad gi gl sh) sz) := by
  refine Met.ofW (cc := md.2.1) (maxL := md.2.2.1) (ret := md.2.2.2.1) hpl rfl ?_
  intro p e s m args below meth c s₁ B hml hv
  obtain ⟨rfl, hsz, ⟨hK, hP, hD0⟩, hN, hO⟩ := hv
  have hx := B.exec
  have hb := B.bytes
  have hr := B.returns
  have hts := atoms_spec (ws := g_words md) B.pre
  have hown : s.vm.findClass md.2.2.2.2.2.1.cls = some m.cls := findClass_of_methodNamed B.named
  have hlocks := B.notSynchronized
  have hin : md.2.2.2.2.2.1.name = "<init>" → meth.name = "<init>" := fun h => (name_of_methodNamed B.named B.method).1.trans h
  subst hsz
  have hD := hD0.self (sz := s.heap.size)
  rw [lg_entry_eq]
  have hcx : g_Cx md p (g_room md mc ms) s m ((as.map (g_rn b ad)).toArray) meth c (va_A (g_ws cy ad gi gl sh) s.heap.size) b :=
    ⟨hx, hb, hml, hcls ▸ hown, fun w hw => hts w (List.mem_cons_of_mem _ hw), hN, hO, Nat.le_refl _, Nat.le_refl _, hlev, hin, fun q h => Or.inr h, fun L xs h => by rw [hscr] at h; cases h⟩
  refine hG p l e (g_room md mc ms) s m ((as.map (g_rn b ad)).toArray) below meth c (MQ below Qc ((as.map (g_rn b ad)).toArray) s mc ms (va_A (g_ws cy ad gi gl sh) s.heap.size)) (va_A (g_ws cy ad gi gl sh) s.heap.size) D cy b sh.2.2.2 ad mc ms ⟨hcx, Nat.le_refl _, Nat.le_refl _, ?_⟩ ad s.heap [] 0 0 _ ⟨⟨Nat.le_refl _, fun _ _ _ => rfl⟩, ⟨by omega, by omega⟩, ⟨hK, hP, hD, va_S.rf, hwf⟩, g_Lo.entry hok hlen, fun v hv => by cases hv⟩
  intro r gi' gl' sh' ad' H locs cells slots pc lsA hQ hn hext hM hc hs hR hrok
  refine W.widen hc hs ?_
  have hpost : g_post Q ad sh (r, gi', gl', sh', ad') := ⟨hQ, hn, hext, hM.2.2.2.2, hrok⟩
  rcases r with _ | x | x | x
  · exact W.vret hx hb (hr.trans hR.1) (fun t ht hW => hq s t none gi' gl' sh' ad' H locs hpost hM.2.2.2.1 hM.1 hM.2.1 hM.2.2.1 ht hW (fun _ h => by cases h)) hM.2.2.2.1.2.2 hR.2
  · obtain ⟨⟨ty, hty, hnar⟩, hd⟩ := hR
    exact W.zret hx hb (hr.trans hty) hnar (fun t ht hW => hq s t (some (.inl x)) gi' gl' sh' ad' H locs hpost hM.2.2.2.1 hM.1 hM.2.1 hM.2.2.1 ht hW (fun _ _ => ⟨ty, hty⟩)) hM.2.2.2.1.2.2 hd
  · exact W.lret hx hb (hr.trans hR.1) (fun t ht hW => hq s t (some (.inr (.inl x))) gi' gl' sh' ad' H locs hpost hM.2.2.2.1 hM.1 hM.2.1 hM.2.2.1 ht hW (fun _ h => by cases h)) hM.2.2.2.1.2.2 hR.2
  · exact hR.elim
end MET
