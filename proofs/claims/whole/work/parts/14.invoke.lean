theorem g_rn_ext {b n : Nat} {ad ad' : Int → Nat} (h : ∀ a : Int, 0 ≤ a → a < (n : Int) → ad' a = ad a) {v : gV} (hv : g_ok n v) : g_rn b ad' v = g_rn b ad v := by
  rcases v with x | x | x | x
  · rfl
  · rfl
  · show Value.ref _ = Value.ref _
    rw [h x (g_unR hv).1 (g_unR hv).2]
  · rfl
theorem g_blind {as : List Value} {D : va_G} {cy : Nat → ClassId} {ad : Int → Nat} {gi gl : gF} {sh : gSh} {sz : Nat} : FrameBlind (va_Pc as (g_Pre D cy ad gi gl sh sz)) := by
  intro a U g mk q
  obtain ⟨q0, q1, ⟨qK, qP, qD⟩, qN, qO⟩ := q
  exact ⟨q0, q1, ⟨va_K.moved (u := U) (U := U.calling g mk a) (Vm.Alike.refl U.vm) qK, qP, qD⟩, fun w hw => va_Nw.same (u := U) (U := U.calling g mk a) (g_isN_on (g_nestN hw)) rfl (qN w hw), fun C hC => va_AO.moved (u := U) (U := U.calling g mk a) (Vm.Alike.refl U.vm) (qO C hC)⟩
theorem g_enter {as : List Value} {D : va_G} {cy : Nat → ClassId} {ad : Int → Nat} {gi gl : gF} {sh : gSh} {s : State} {A : Nat → Prop} {H : Heap} {locs : List Loc} (hM : g_Mm s A D cy ad gi gl sh H locs) (hN : ∀ w ∈ lw_nest, va_Nw w s) (hO : ∀ C ∈ lw_over, va_AO C s) : ∀ U : State, U.heap = H → s.WarmedH U.vm → va_Pc as (g_Pre D cy ad gi gl sh H.size) as.toArray U :=
  fun U hU hW => ⟨rfl, by rw [hU], ⟨va_K.moved hW.alike hM.1, by rw [hU]; exact hM.2.1, hM.2.2.1.weaken (fun _ _ _ _ => trivial)⟩, fun w hw => g_isN_warm (g_nestN hw) hW (hN w hw), fun C hC => va_AO.moved hW.alike (hO C hC)⟩
section BACK
variable {md : gMD} {mc ms mc' ms' : Nat} {ls : List (Option gV)} {st stk st' : List gV} {gi gl gi' gl' : gF} {sh sh' : gSh} {Q : gQ} {s : State} {A : Nat → Prop} {D : va_G} {cy : Nat → ClassId} {b n0 : Nat} {ad0 : Int → Nat} {MC MS : Nat} {ad ad' : Int → Nat} {H : Heap} {locs : List Loc} {cells slots : Nat} {lsA : Array Slot}
theorem g_T.fr (T : g_T md (mc + mc') (ms + ms') ls stk gi gl sh s A D cy b n0 ad0 MC MS ad H locs cells slots lsA) (hA : ∀ q : Nat, s.heap.size ≤ q → A q) : ∀ q, va_A (g_ws cy ad gi gl sh) H.size q → A q := by
  intro q h
  rcases h with ⟨k, e, h⟩ | h
  · exact T.mm.2.2.1.2 _ _ h
  · exact hA q (Nat.le_trans T.mm.2.2.2.1.1 h)
theorem g_T.back {Q' : gQ} {r : Option gV} {t : State} {H1 : Heap} {locs1 : List Loc} (T : g_T md (mc + mc') (ms + ms') ls stk gi gl sh s A D cy b n0 ad0 MC MS ad H locs cells slots lsA) (hA : ∀ q : Nat, s.heap.size ≤ q → A q) (hst : ∀ v ∈ st, g_ok sh.2.2.2 v)
    (hp : g_post Q' ad sh (r, gi', gl', sh', ad')) (hB : g_back D cy (va_A (g_ws cy ad gi gl sh) H.size) (r, gi', gl', sh', ad') t) (ht : t.heap = H1) (hS : va_S A s.heap H1 locs1) :
    g_T md mc ms ls (r.toList ++ st) gi' gl' sh' s A D cy b n0 ad0 MC MS ad' H1 locs1 (cells + mc') (slots + ms') lsA := by
  obtain ⟨hQ, hn, hext, hwf, hr⟩ := hp
  obtain ⟨hK, hP, hD⟩ := hB
  dsimp only at hn hext hwf hr hP hD
  rw [ht] at hP
  refine ⟨⟨Nat.le_trans T.1.1 hn, fun a h0 h1 => (hext a h0 (by have := T.1.1; omega)).trans (T.1.2 a h0 h1)⟩, ⟨by have := T.2.1.1; omega, by have := T.2.1.2; omega⟩, ⟨T.mm.1, hP, hD.weaken (fun _ q _ h => T.fr hA q.1 h), hS, hwf⟩, ⟨T.lo.1, T.lo.2.1, T.lo.2.2.1, fun i v hi => ?_⟩, fun v hv => ?_⟩
  · obtain ⟨h1, h2⟩ := T.lo.2.2.2 i v hi
    exact ⟨by rw [g_rn_ext hext h2]; exact h1, g_ok_mono hn h2⟩
  · rcases List.mem_append.mp hv with h | h
    · cases r with
      | none => cases h
      | some w =>
        rcases List.mem_singleton.mp h with rfl
        exact hr _ rfl
    · exact g_ok_mono hn (hst v h)
end BACK
section METS
variable {md : gMD} {mc ms : Nat} {as : List gV} {gi gl : gF} {sh : gSh} {Q : gQ}
theorem g_met_i (l : Launch) (D : va_G) (cy : Nat → ClassId) (b : Nat) (ad : Int → Nat) (sz : Nat) (hG : Go md mc ms 0 (g_ent md.2.2.1 as) [] gi gl sh Q) (hscr : md.2.2.2.2.2.2 = none) (hcls : md.2.2.2.2.2.1.cls = md.1) (hlev : 1 ≤ md.2.2.2.2.1) (hpl : plainName md.2.2.2.2.2.1.cls = true) (hlen : (g_sl as).length ≤ md.2.2.1) (hwf : g_wf gi gl sh) (hok : ∀ v ∈ as, g_ok sh.2.2.2 v) (hr : ∀ r gi gl sh, Q r gi gl sh → ∃ x, r = some (vI x)) :
    Met l md.2.2.2.2.2.1 (g_words md) (g_room md mc ms) (va_Pc (as.map (g_rn b ad)) (g_Pre D cy ad gi gl sh sz)) (va_Qi (fun r u => g_post Q ad sh u ∧ ∃ x : Int, u.1 = some (vI x) ∧ r = Int32.ofInt x) (g_back D cy (va_A (g_ws cy ad gi gl sh) sz)) (va_A (g_ws cy ad gi gl sh) sz)) mc ms (va_A (g_ws cy ad gi gl sh) sz) := by
  refine g_body l D cy b ad sz _ hG hscr hcls hlev hpl hlen hwf hok ?_
  intro s t r gi' gl' sh' ad' H locs hp hS hK hP hD ht hW _
  obtain ⟨x, rfl⟩ := hr _ _ _ _ hp.1
  exact ⟨⟨_, (some (vI x), gi', gl', sh', ad'), rfl, ⟨hp, x, rfl, rfl⟩, va_K.moved hW.alike hK, by rw [ht]; exact hP, hD⟩, hS.F ht⟩
theorem g_met_l (l : Launch) (D : va_G) (cy : Nat → ClassId) (b : Nat) (ad : Int → Nat) (sz : Nat) (hG : Go md mc ms 0 (g_ent md.2.2.1 as) [] gi gl sh Q) (hscr : md.2.2.2.2.2.2 = none) (hcls : md.2.2.2.2.2.1.cls = md.1) (hlev : 1 ≤ md.2.2.2.2.1) (hpl : plainName md.2.2.2.2.2.1.cls = true) (hlen : (g_sl as).length ≤ md.2.2.1) (hwf : g_wf gi gl sh) (hok : ∀ v ∈ as, g_ok sh.2.2.2 v) (hr : ∀ r gi gl sh, Q r gi gl sh → ∃ x, r = some (vL x)) :
    Met l md.2.2.2.2.2.1 (g_words md) (g_room md mc ms) (va_Pc (as.map (g_rn b ad)) (g_Pre D cy ad gi gl sh sz)) (va_Ql (fun r u => g_post Q ad sh u ∧ ∃ x : Int, u.1 = some (vL x) ∧ r = Int64.ofInt x) (g_back D cy (va_A (g_ws cy ad gi gl sh) sz)) (va_A (g_ws cy ad gi gl sh) sz)) mc ms (va_A (g_ws cy ad gi gl sh) sz) := by
  refine g_body l D cy b ad sz _ hG hscr hcls hlev hpl hlen hwf hok ?_
  intro s t r gi' gl' sh' ad' H locs hp hS hK hP hD ht hW _
  obtain ⟨x, rfl⟩ := hr _ _ _ _ hp.1
  exact ⟨⟨_, (some (vL x), gi', gl', sh', ad'), rfl, ⟨hp, x, rfl, rfl⟩, va_K.moved hW.alike hK, by rw [ht]; exact hP, hD⟩, hS.F ht⟩
theorem g_met_v (l : Launch) (D : va_G) (cy : Nat → ClassId) (b : Nat) (ad : Int → Nat) (sz : Nat) (hG : Go md mc ms 0 (g_ent md.2.2.1 as) [] gi gl sh Q) (hscr : md.2.2.2.2.2.2 = none) (hcls : md.2.2.2.2.2.1.cls = md.1) (hlev : 1 ≤ md.2.2.2.2.1) (hpl : plainName md.2.2.2.2.2.1.cls = true) (hlen : (g_sl as).length ≤ md.2.2.1) (hwf : g_wf gi gl sh) (hok : ∀ v ∈ as, g_ok sh.2.2.2 v) (hr : ∀ r gi gl sh, Q r gi gl sh → r = none) :
    Met l md.2.2.2.2.2.1 (g_words md) (g_room md mc ms) (va_Pc (as.map (g_rn b ad)) (g_Pre D cy ad gi gl sh sz)) (va_Qv (fun u => g_post Q ad sh u ∧ u.1 = none) (g_back D cy (va_A (g_ws cy ad gi gl sh) sz)) (va_A (g_ws cy ad gi gl sh) sz)) mc ms (va_A (g_ws cy ad gi gl sh) sz) := by
  refine g_body l D cy b ad sz _ hG hscr hcls hlev hpl hlen hwf hok ?_
  intro s t r gi' gl' sh' ad' H locs hp hS hK hP hD ht hW _
  obtain rfl := hr _ _ _ _ hp.1
  exact ⟨⟨(none, gi', gl', sh', ad'), rfl, ⟨hp, rfl⟩, va_K.moved hW.alike hK, by rw [ht]; exact hP, hD⟩, hS.F ht⟩
end METS
section CALLS
variable {md md' : gMD} {mc ms mc' ms' pc idx ci np : Nat} {ls : List (Option gV)} {st stk : List gV} {gi gl : gF} {sh : gSh} {Q Q' : gQ}
theorem g_callV_i {a : Int} (as : List gV) (hd : decode md.2.1 pc = .ok (.invokevirtual idx, 3)) (hl : Cond.methodLink md.1 idx md'.2.2.2.2.2.1 ∈ lw_good) (hv : g_MV md' ci np) (hc : ci < 10) (hkd : sh.2.1 a = ci) (hlev : md'.2.2.2.2.1 < md.2.2.2.2.1 ∧ 1 ≤ md'.2.2.2.2.1 ∧ md'.2.2.1 ≤ 11) (hscr : md'.2.2.2.2.2.2 = none) (has : as.length = np) (hlen : (g_sl (vR a :: as)).length ≤ md'.2.2.1) (hstk : stk = as.reverse ++ vR a :: st) (hst : st.length ≤ 4)
    (hG : Go md' mc' ms' 0 (g_ent md'.2.2.1 (vR a :: as)) [] gi gl sh Q') (hr : ∀ r gi gl sh, Q' r gi gl sh → ∃ x, r = some (vI x)) (h : ∀ (x : Int) (gi' gl' : gF) (sh' : gSh), Q' (some (vI x)) gi' gl' sh' → sh.2.2.2 ≤ sh'.2.2.2 → g_wf gi' gl' sh' → Go md mc ms (pc + 3) ls (vI x :: st) gi' gl' sh' Q) : Go md (mc + mc') (ms + ms') pc ls stk gi gl sh Q := by
  intro p l e R s m args below meth c Qf A D cy b n0 ad0 MC MS X ad H locs cells slots lsA T
  subst hstk
  have hW := X.1.2.2.2.2.1
  have hF := X.1.2.2.2.2.2.2.2.1
  have hLo := X.1.2.2.2.2.2.2.2.2.1
  have hA := X.1.2.2.2.2.2.2.2.2.2.2.2.1
  have hcat := g_catS b ad st
  have hR1 := T.2.1.1
  have hR2 := T.2.1.2
  have hR3 := X.2.1
  have hR4 := X.2.2.1
  have hok : ∀ v ∈ vR a :: as, g_ok sh.2.2.2 v := fun v hv => T.ok v (by rcases List.mem_cons.mp hv with rfl | h <;> simp [*])
  have hsto : ∀ v ∈ st, g_ok sh.2.2.2 v := fun v hv => T.ok v (by simp [hv])
  have hra := g_unR (hok (vR a) List.mem_cons_self)
  obtain ⟨v1, v2, v3, v4, v5, v6, v7, v8, v9⟩ := hv
  have he : (g_ws cy ad gi gl sh)[a.toNat]? = some (ad a, .inr (ci, g_fs ad gi sh.1 ci a)) := by rw [g_ws_get hra.1 hra.2, g_cell_obj hkd hc]
  have hcw : CallW R s args md.1 (g_R ci) idx md'.2.2.2.2.2.1 md'.2.1 md'.2.2.1 md'.2.2.2.1 (g_words md') (g_room md' mc' ms') mc' ms' np := ⟨callB_of np hW (lw_goodIn (fun w hw => (List.mem_cons.mp hw).elim (fun h => h ▸ v4) id)) rfl rfl rfl (hW _ v3) (hW _ hl) ⟨v7, v8, v9⟩ ⟨by show md'.2.2.2.2.1 + 1 ≤ _; omega, by show 8 + (md'.2.2.1 + 11) + 30 * md'.2.2.2.2.1 ≤ _; omega⟩, hW _ v1, hW _ v2⟩
  have hpre : PreV s H (g_R ci) (ad a) (va_Pc ((vR a :: as).map (g_rn b ad)) (g_Pre D cy ad gi gl sh H.size)) (as.map (g_rn b ad)) := ⟨g_blind, va_recv T.mm.1 T.mm.2.1 (q := (g_R ci, g_TT ci, g_nf ci)) (g_cl ci hc) he, g_enter T.mm X.1.2.2.2.2.2.1 X.1.2.2.2.2.2.2.1⟩
  have hM := g_met_i l D cy b ad H.size hG hscr v6 hlev.2.1 v5 hlen T.mm.2.2.2.2 hok hr
  refine va_calli (va_runV (b := ad a) (As := as.map (g_rn b ad)) (rest := st.map (g_rn b ad)) ⟨X.1.1, X.1.2.1, X.1.2.2.1, X.1.2.2.2.1, hW⟩ hM hcw hpre rfl (by rw [List.length_map]; exact has) T.lo.1 (by simp [g_rn, List.map_reverse]) (lv_room (by omega)) hd ⟨by omega, by omega⟩) T.mm.2.2.2.1 (fun q _ h9 => T.fr hA q h9) (T.fr hA) (fun r0 u t H1 locs1 ht hvm hw hB hz1 hk1 hS => ?_)
  obtain ⟨r, gi', gl', sh', ad'⟩ := u
  obtain ⟨hp, x, hx, rfl⟩ := hw
  dsimp only at hx
  subst hx
  have T1 := T.back (st := st) hA hsto hp hB ht hS
  have e1 : st.map (g_rn b ad') = st.map (g_rn b ad) := List.map_congr_left (fun v hv => g_rn_ext hp.2.2.1 (hsto v hv))
  have k := h x gi' gl' sh' hp.1 hp.2.1 hp.2.2.2.1 p l e R s m args below meth c Qf A D cy b n0 ad0 MC MS X ad' H1 locs1 (cells + mc') (slots + ms') lsA T1
  rw [List.map_cons, e1] at k
  exact k
theorem g_callV_v {a : Int} (as : List gV) (hd : decode md.2.1 pc = .ok (.invokevirtual idx, 3)) (hl : Cond.methodLink md.1 idx md'.2.2.2.2.2.1 ∈ lw_good) (hv : g_MV md' ci np) (hc : ci < 10) (hkd : sh.2.1 a = ci) (hlev : md'.2.2.2.2.1 < md.2.2.2.2.1 ∧ 1 ≤ md'.2.2.2.2.1 ∧ md'.2.2.1 ≤ 11) (hscr : md'.2.2.2.2.2.2 = none) (has : as.length = np) (hlen : (g_sl (vR a :: as)).length ≤ md'.2.2.1) (hstk : stk = as.reverse ++ vR a :: st) (hst : st.length ≤ 4)
    (hG : Go md' mc' ms' 0 (g_ent md'.2.2.1 (vR a :: as)) [] gi gl sh Q') (hr : ∀ r gi gl sh, Q' r gi gl sh → r = none) (h : ∀ (gi' gl' : gF) (sh' : gSh), Q' none gi' gl' sh' → sh.2.2.2 ≤ sh'.2.2.2 → g_wf gi' gl' sh' → Go md mc ms (pc + 3) ls st gi' gl' sh' Q) : Go md (mc + mc') (ms + ms') pc ls stk gi gl sh Q := by
  intro p l e R s m args below meth c Qf A D cy b n0 ad0 MC MS X ad H locs cells slots lsA T
  subst hstk
  have hW := X.1.2.2.2.2.1
  have hF := X.1.2.2.2.2.2.2.2.1
  have hLo := X.1.2.2.2.2.2.2.2.2.1
  have hA := X.1.2.2.2.2.2.2.2.2.2.2.2.1
  have hcat := g_catS b ad st
  have hR1 := T.2.1.1
  have hR2 := T.2.1.2
  have hR3 := X.2.1
  have hR4 := X.2.2.1
  have hok : ∀ v ∈ vR a :: as, g_ok sh.2.2.2 v := fun v hv => T.ok v (by rcases List.mem_cons.mp hv with rfl | h <;> simp [*])
  have hsto : ∀ v ∈ st, g_ok sh.2.2.2 v := fun v hv => T.ok v (by simp [hv])
  have hra := g_unR (hok (vR a) List.mem_cons_self)
  obtain ⟨v1, v2, v3, v4, v5, v6, v7, v8, v9⟩ := hv
  have he : (g_ws cy ad gi gl sh)[a.toNat]? = some (ad a, .inr (ci, g_fs ad gi sh.1 ci a)) := by rw [g_ws_get hra.1 hra.2, g_cell_obj hkd hc]
  have hcw : CallW R s args md.1 (g_R ci) idx md'.2.2.2.2.2.1 md'.2.1 md'.2.2.1 md'.2.2.2.1 (g_words md') (g_room md' mc' ms') mc' ms' np := ⟨callB_of np hW (lw_goodIn (fun w hw => (List.mem_cons.mp hw).elim (fun h => h ▸ v4) id)) rfl rfl rfl (hW _ v3) (hW _ hl) ⟨v7, v8, v9⟩ ⟨by show md'.2.2.2.2.1 + 1 ≤ _; omega, by show 8 + (md'.2.2.1 + 11) + 30 * md'.2.2.2.2.1 ≤ _; omega⟩, hW _ v1, hW _ v2⟩
  have hpre : PreV s H (g_R ci) (ad a) (va_Pc ((vR a :: as).map (g_rn b ad)) (g_Pre D cy ad gi gl sh H.size)) (as.map (g_rn b ad)) := ⟨g_blind, va_recv T.mm.1 T.mm.2.1 (q := (g_R ci, g_TT ci, g_nf ci)) (g_cl ci hc) he, g_enter T.mm X.1.2.2.2.2.2.1 X.1.2.2.2.2.2.2.1⟩
  have hM := g_met_v l D cy b ad H.size hG hscr v6 hlev.2.1 v5 hlen T.mm.2.2.2.2 hok hr
  refine va_callv (va_runV (b := ad a) (As := as.map (g_rn b ad)) (rest := st.map (g_rn b ad)) ⟨X.1.1, X.1.2.1, X.1.2.2.1, X.1.2.2.2.1, hW⟩ hM hcw hpre rfl (by rw [List.length_map]; exact has) T.lo.1 (by simp [g_rn, List.map_reverse]) (lv_room (by omega)) hd ⟨by omega, by omega⟩) T.mm.2.2.2.1 (fun q _ h9 => T.fr hA q h9) (T.fr hA) (fun u t H1 locs1 ht hvm hw hB hz1 hk1 hS => ?_)
  obtain ⟨r, gi', gl', sh', ad'⟩ := u
  obtain ⟨hp, hx⟩ := hw
  dsimp only at hx
  subst hx
  have T1 := T.back (st := st) hA hsto hp hB ht hS
  have e1 : st.map (g_rn b ad') = st.map (g_rn b ad) := List.map_congr_left (fun v hv => g_rn_ext hp.2.2.1 (hsto v hv))
  have k := h gi' gl' sh' hp.1 hp.2.1 hp.2.2.2.1 p l e R s m args below meth c Qf A D cy b n0 ad0 MC MS X ad' H1 locs1 (cells + mc') (slots + ms') lsA T1
  rw [e1] at k
  exact k
theorem g_callV_l {a : Int} (as : List gV) (hd : decode md.2.1 pc = .ok (.invokevirtual idx, 3)) (hl : Cond.methodLink md.1 idx md'.2.2.2.2.2.1 ∈ lw_good) (hv : g_MV md' ci np) (hc : ci < 10) (hkd : sh.2.1 a = ci) (hlev : md'.2.2.2.2.1 < md.2.2.2.2.1 ∧ 1 ≤ md'.2.2.2.2.1 ∧ md'.2.2.1 ≤ 11) (hscr : md'.2.2.2.2.2.2 = none) (has : as.length = np) (hlen : (g_sl (vR a :: as)).length ≤ md'.2.2.1) (hstk : stk = as.reverse ++ vR a :: st) (hst : st.length ≤ 4)
    (hG : Go md' mc' ms' 0 (g_ent md'.2.2.1 (vR a :: as)) [] gi gl sh Q') (hr : ∀ r gi gl sh, Q' r gi gl sh → ∃ x, r = some (vL x)) (h : ∀ (x : Int) (gi' gl' : gF) (sh' : gSh), Q' (some (vL x)) gi' gl' sh' → sh.2.2.2 ≤ sh'.2.2.2 → g_wf gi' gl' sh' → Go md mc ms (pc + 3) ls (vL x :: st) gi' gl' sh' Q) : Go md (mc + mc') (ms + ms') pc ls stk gi gl sh Q := by
  intro p l e R s m args below meth c Qf A D cy b n0 ad0 MC MS X ad H locs cells slots lsA T
  subst hstk
  have hW := X.1.2.2.2.2.1
  have hF := X.1.2.2.2.2.2.2.2.1
  have hLo := X.1.2.2.2.2.2.2.2.2.1
  have hA := X.1.2.2.2.2.2.2.2.2.2.2.2.1
  have hcat := g_catS b ad st
  have hR1 := T.2.1.1
  have hR2 := T.2.1.2
  have hR3 := X.2.1
  have hR4 := X.2.2.1
  have hok : ∀ v ∈ vR a :: as, g_ok sh.2.2.2 v := fun v hv => T.ok v (by rcases List.mem_cons.mp hv with rfl | h <;> simp [*])
  have hsto : ∀ v ∈ st, g_ok sh.2.2.2 v := fun v hv => T.ok v (by simp [hv])
  have hra := g_unR (hok (vR a) List.mem_cons_self)
  obtain ⟨v1, v2, v3, v4, v5, v6, v7, v8, v9⟩ := hv
  have he : (g_ws cy ad gi gl sh)[a.toNat]? = some (ad a, .inr (ci, g_fs ad gi sh.1 ci a)) := by rw [g_ws_get hra.1 hra.2, g_cell_obj hkd hc]
  have hcw : CallW R s args md.1 (g_R ci) idx md'.2.2.2.2.2.1 md'.2.1 md'.2.2.1 md'.2.2.2.1 (g_words md') (g_room md' mc' ms') mc' ms' np := ⟨callB_of np hW (lw_goodIn (fun w hw => (List.mem_cons.mp hw).elim (fun h => h ▸ v4) id)) rfl rfl rfl (hW _ v3) (hW _ hl) ⟨v7, v8, v9⟩ ⟨by show md'.2.2.2.2.1 + 1 ≤ _; omega, by show 8 + (md'.2.2.1 + 11) + 30 * md'.2.2.2.2.1 ≤ _; omega⟩, hW _ v1, hW _ v2⟩
  have hpre : PreV s H (g_R ci) (ad a) (va_Pc ((vR a :: as).map (g_rn b ad)) (g_Pre D cy ad gi gl sh H.size)) (as.map (g_rn b ad)) := ⟨g_blind, va_recv T.mm.1 T.mm.2.1 (q := (g_R ci, g_TT ci, g_nf ci)) (g_cl ci hc) he, g_enter T.mm X.1.2.2.2.2.2.1 X.1.2.2.2.2.2.2.1⟩
  have hM := g_met_l l D cy b ad H.size hG hscr v6 hlev.2.1 v5 hlen T.mm.2.2.2.2 hok hr
  refine va_calll (va_runV (b := ad a) (As := as.map (g_rn b ad)) (rest := st.map (g_rn b ad)) ⟨X.1.1, X.1.2.1, X.1.2.2.1, X.1.2.2.2.1, hW⟩ hM hcw hpre rfl (by rw [List.length_map]; exact has) T.lo.1 (by simp [g_rn, List.map_reverse]) (lv_room (by omega)) hd ⟨by omega, by omega⟩) T.mm.2.2.2.1 (fun q _ h9 => T.fr hA q h9) (T.fr hA) (fun r0 u t H1 locs1 ht hvm hw hB hz1 hk1 hS => ?_)
  obtain ⟨r, gi', gl', sh', ad'⟩ := u
  obtain ⟨hp, x, hx, rfl⟩ := hw
  dsimp only at hx
  subst hx
  have T1 := T.back (st := st) hA hsto hp hB ht hS
  have e1 : st.map (g_rn b ad') = st.map (g_rn b ad) := List.map_congr_left (fun v hv => g_rn_ext hp.2.2.1 (hsto v hv))
  have k := h x gi' gl' sh' hp.1 hp.2.1 hp.2.2.2.1 p l e R s m args below meth c Qf A D cy b n0 ad0 MC MS X ad' H1 locs1 (cells + mc') (slots + ms') lsA T1
  rw [List.map_cons, e1] at k
  exact k
theorem g_callS_i (as : List gV) (hd : decode md.2.1 pc = .ok (.invokestatic idx, 3)) (hl : Cond.methodLink md.1 idx md'.2.2.2.2.2.1 ∈ lw_good) (hv : g_MS md' np) (hlev : md'.2.2.2.2.1 < md.2.2.2.2.1 ∧ 1 ≤ md'.2.2.2.2.1 ∧ md'.2.2.1 ≤ 11) (hscr : md'.2.2.2.2.2.2 = none) (has : as.length = np) (hlen : (g_sl as).length ≤ md'.2.2.1) (hstk : stk = as.reverse ++ st) (hst : st.length ≤ 4)
    (hG : Go md' mc' ms' 0 (g_ent md'.2.2.1 as) [] gi gl sh Q') (hr : ∀ r gi gl sh, Q' r gi gl sh → ∃ x, r = some (vI x)) (h : ∀ (x : Int) (gi' gl' : gF) (sh' : gSh), Q' (some (vI x)) gi' gl' sh' → sh.2.2.2 ≤ sh'.2.2.2 → g_wf gi' gl' sh' → Go md mc ms (pc + 3) ls (vI x :: st) gi' gl' sh' Q) : Go md (mc + mc') (ms + ms') pc ls stk gi gl sh Q := by
  intro p l e R s m args below meth c Qf A D cy b n0 ad0 MC MS X ad H locs cells slots lsA T
  subst hstk
  have hW := X.1.2.2.2.2.1
  have hF := X.1.2.2.2.2.2.2.2.1
  have hLo := X.1.2.2.2.2.2.2.2.2.1
  have hA := X.1.2.2.2.2.2.2.2.2.2.2.2.1
  have hcat := g_catS b ad st
  have hR1 := T.2.1.1
  have hR2 := T.2.1.2
  have hR3 := X.2.1
  have hR4 := X.2.2.1
  have hok : ∀ v ∈ as, g_ok sh.2.2.2 v := fun v hv => T.ok v (by simp [hv])
  have hsto : ∀ v ∈ st, g_ok sh.2.2.2 v := fun v hv => T.ok v (by simp [hv])
  obtain ⟨v1, v3, v4, v5, v6, v7, v8, v9⟩ := hv
  have hcw : CallB R s args md.1 idx md'.2.2.2.2.2.1 md'.2.1 md'.2.2.1 md'.2.2.2.1 (g_words md') (g_room md' mc' ms') mc' ms' np ∧ (Cond.static md'.2.2.2.2.2.1).before args s = true := ⟨callB_of np hW (lw_goodIn (fun w hw => (List.mem_cons.mp hw).elim (fun h => h ▸ v4) id)) rfl rfl rfl (hW _ v3) (hW _ hl) ⟨v7, v8, v9⟩ ⟨by show md'.2.2.2.2.1 + 1 ≤ _; omega, by show 8 + (md'.2.2.1 + 11) + 30 * md'.2.2.2.2.1 ≤ _; omega⟩, hW _ v1⟩
  have hpre : PreS s H (va_Pc (as.map (g_rn b ad)) (g_Pre D cy ad gi gl sh H.size)) (as.map (g_rn b ad)) := ⟨g_blind, g_enter T.mm X.1.2.2.2.2.2.1 X.1.2.2.2.2.2.2.1⟩
  have hM := g_met_i l D cy b ad H.size hG hscr v6 hlev.2.1 v5 hlen T.mm.2.2.2.2 hok hr
  refine va_calli (va_runS (As := as.map (g_rn b ad)) (rest := st.map (g_rn b ad)) ⟨X.1.1, X.1.2.1, X.1.2.2.1, X.1.2.2.2.1, hW⟩ hM hcw hpre rfl (by rw [List.length_map]; exact has) T.lo.1 (by simp [g_rn, List.map_reverse]) (lv_room (by omega)) hd ⟨by omega, by omega⟩) T.mm.2.2.2.1 (fun q _ h9 => T.fr hA q h9) (T.fr hA) (fun r0 u t H1 locs1 ht hvm hw hB hz1 hk1 hS => ?_)
  obtain ⟨r, gi', gl', sh', ad'⟩ := u
  obtain ⟨hp, x, hx, rfl⟩ := hw
  dsimp only at hx
  subst hx
  have T1 := T.back (st := st) hA hsto hp hB ht hS
  have e1 : st.map (g_rn b ad') = st.map (g_rn b ad) := List.map_congr_left (fun v hv => g_rn_ext hp.2.2.1 (hsto v hv))
  have k := h x gi' gl' sh' hp.1 hp.2.1 hp.2.2.2.1 p l e R s m args below meth c Qf A D cy b n0 ad0 MC MS X ad' H1 locs1 (cells + mc') (slots + ms') lsA T1
  rw [List.map_cons, e1] at k
  exact k
theorem g_callS_v (as : List gV) (hd : decode md.2.1 pc = .ok (.invokestatic idx, 3)) (hl : Cond.methodLink md.1 idx md'.2.2.2.2.2.1 ∈ lw_good) (hv : g_MS md' np) (hlev : md'.2.2.2.2.1 < md.2.2.2.2.1 ∧ 1 ≤ md'.2.2.2.2.1 ∧ md'.2.2.1 ≤ 11) (hscr : md'.2.2.2.2.2.2 = none) (has : as.length = np) (hlen : (g_sl as).length ≤ md'.2.2.1) (hstk : stk = as.reverse ++ st) (hst : st.length ≤ 4)
    (hG : Go md' mc' ms' 0 (g_ent md'.2.2.1 as) [] gi gl sh Q') (hr : ∀ r gi gl sh, Q' r gi gl sh → r = none) (h : ∀ (gi' gl' : gF) (sh' : gSh), Q' none gi' gl' sh' → sh.2.2.2 ≤ sh'.2.2.2 → g_wf gi' gl' sh' → Go md mc ms (pc + 3) ls st gi' gl' sh' Q) : Go md (mc + mc') (ms + ms') pc ls stk gi gl sh Q := by
  intro p l e R s m args below meth c Qf A D cy b n0 ad0 MC MS X ad H locs cells slots lsA T
  subst hstk
  have hW := X.1.2.2.2.2.1
  have hF := X.1.2.2.2.2.2.2.2.1
  have hLo := X.1.2.2.2.2.2.2.2.2.1
  have hA := X.1.2.2.2.2.2.2.2.2.2.2.2.1
  have hcat := g_catS b ad st
  have hR1 := T.2.1.1
  have hR2 := T.2.1.2
  have hR3 := X.2.1
  have hR4 := X.2.2.1
  have hok : ∀ v ∈ as, g_ok sh.2.2.2 v := fun v hv => T.ok v (by simp [hv])
  have hsto : ∀ v ∈ st, g_ok sh.2.2.2 v := fun v hv => T.ok v (by simp [hv])
  obtain ⟨v1, v3, v4, v5, v6, v7, v8, v9⟩ := hv
  have hcw : CallB R s args md.1 idx md'.2.2.2.2.2.1 md'.2.1 md'.2.2.1 md'.2.2.2.1 (g_words md') (g_room md' mc' ms') mc' ms' np ∧ (Cond.static md'.2.2.2.2.2.1).before args s = true := ⟨callB_of np hW (lw_goodIn (fun w hw => (List.mem_cons.mp hw).elim (fun h => h ▸ v4) id)) rfl rfl rfl (hW _ v3) (hW _ hl) ⟨v7, v8, v9⟩ ⟨by show md'.2.2.2.2.1 + 1 ≤ _; omega, by show 8 + (md'.2.2.1 + 11) + 30 * md'.2.2.2.2.1 ≤ _; omega⟩, hW _ v1⟩
  have hpre : PreS s H (va_Pc (as.map (g_rn b ad)) (g_Pre D cy ad gi gl sh H.size)) (as.map (g_rn b ad)) := ⟨g_blind, g_enter T.mm X.1.2.2.2.2.2.1 X.1.2.2.2.2.2.2.1⟩
  have hM := g_met_v l D cy b ad H.size hG hscr v6 hlev.2.1 v5 hlen T.mm.2.2.2.2 hok hr
  refine va_callv (va_runS (As := as.map (g_rn b ad)) (rest := st.map (g_rn b ad)) ⟨X.1.1, X.1.2.1, X.1.2.2.1, X.1.2.2.2.1, hW⟩ hM hcw hpre rfl (by rw [List.length_map]; exact has) T.lo.1 (by simp [g_rn, List.map_reverse]) (lv_room (by omega)) hd ⟨by omega, by omega⟩) T.mm.2.2.2.1 (fun q _ h9 => T.fr hA q h9) (T.fr hA) (fun u t H1 locs1 ht hvm hw hB hz1 hk1 hS => ?_)
  obtain ⟨r, gi', gl', sh', ad'⟩ := u
  obtain ⟨hp, hx⟩ := hw
  dsimp only at hx
  subst hx
  have T1 := T.back (st := st) hA hsto hp hB ht hS
  have e1 : st.map (g_rn b ad') = st.map (g_rn b ad) := List.map_congr_left (fun v hv => g_rn_ext hp.2.2.1 (hsto v hv))
  have k := h gi' gl' sh' hp.1 hp.2.1 hp.2.2.2.1 p l e R s m args below meth c Qf A D cy b n0 ad0 MC MS X ad' H1 locs1 (cells + mc') (slots + ms') lsA T1
  rw [e1] at k
  exact k
theorem g_callI {a : Int} (as : List gV) (hd : decode md.2.1 pc = .ok (.invokespecial idx, 3)) (hl : Cond.methodLink md.1 idx md'.2.2.2.2.2.1 ∈ lw_good) (hv : g_MI md' np) (hlev : md'.2.2.2.2.1 < md.2.2.2.2.1 ∧ 1 ≤ md'.2.2.2.2.1 ∧ md'.2.2.1 ≤ 11) (hscr : md'.2.2.2.2.2.2 = none) (has : as.length = np) (hlen : (g_sl (vR a :: as)).length ≤ md'.2.2.1) (hstk : stk = as.reverse ++ vR a :: st) (hst : st.length ≤ 4)
    (hG : Go md' mc' ms' 0 (g_ent md'.2.2.1 (vR a :: as)) [] gi gl sh Q') (hr : ∀ r gi gl sh, Q' r gi gl sh → r = none) (h : ∀ (gi' gl' : gF) (sh' : gSh), Q' none gi' gl' sh' → sh.2.2.2 ≤ sh'.2.2.2 → g_wf gi' gl' sh' → Go md mc ms (pc + 3) ls st gi' gl' sh' Q) : Go md (mc + mc') (ms + ms') pc ls stk gi gl sh Q := by
  intro p l e R s m args below meth c Qf A D cy b n0 ad0 MC MS X ad H locs cells slots lsA T
  subst hstk
  have hW := X.1.2.2.2.2.1
  have hF := X.1.2.2.2.2.2.2.2.1
  have hLo := X.1.2.2.2.2.2.2.2.2.1
  have hA := X.1.2.2.2.2.2.2.2.2.2.2.2.1
  have hcat := g_catS b ad st
  have hR1 := T.2.1.1
  have hR2 := T.2.1.2
  have hR3 := X.2.1
  have hR4 := X.2.2.1
  have hok : ∀ v ∈ vR a :: as, g_ok sh.2.2.2 v := fun v hv => T.ok v (by rcases List.mem_cons.mp hv with rfl | h <;> simp [*])
  have hsto : ∀ v ∈ st, g_ok sh.2.2.2 v := fun v hv => T.ok v (by simp [hv])
  have hra := g_unR (hok (vR a) List.mem_cons_self)
  obtain ⟨v1, vn, v3, v4, v5, v6, v7, v8, v9, v10⟩ := hv
  have v4' : Cond.code md'.2.2.2.2.2.1 md'.2.1 md'.2.2.1 md'.2.2.2.1 ∈ lw_good := by rw [v10]; exact v4
  have hcw : CallB R s args md.1 idx md'.2.2.2.2.2.1 md'.2.1 md'.2.2.1 none (g_words md') (g_room md' mc' ms') mc' ms' np ∧ md'.2.2.2.2.2.1.name = "<init>" ∧ (Cond.instanceMethod md'.2.2.2.2.2.1).before args s = true := ⟨callB_of np hW (lw_goodIn (fun w hw => (List.mem_cons.mp hw).elim (fun h => h ▸ v4') id)) (by rw [g_words, v10]) rfl rfl (hW _ v3) (hW _ hl) ⟨v7, v8, v9⟩ ⟨by show md'.2.2.2.2.1 + 1 ≤ _; omega, by show 8 + (md'.2.2.1 + 11) + 30 * md'.2.2.2.2.1 ≤ _; omega⟩, vn, hW _ v1⟩
  have hpre : PreS s H (va_Pc ((vR a :: as).map (g_rn b ad)) (g_Pre D cy ad gi gl sh H.size)) (.ref (ad a) :: as.map (g_rn b ad)) := ⟨g_blind, g_enter T.mm X.1.2.2.2.2.2.1 X.1.2.2.2.2.2.2.1⟩
  have hM := g_met_v l D cy b ad H.size hG hscr v6 hlev.2.1 v5 hlen T.mm.2.2.2.2 hok hr
  refine va_callv (va_runI (b := ad a) (As := as.map (g_rn b ad)) (rest := st.map (g_rn b ad)) ⟨X.1.1, X.1.2.1, X.1.2.2.1, X.1.2.2.2.1, hW⟩ hM hcw hpre rfl (by rw [List.length_map]; exact has) T.lo.1 (by simp [g_rn, List.map_reverse]) (lv_room (by omega)) hd ⟨by omega, by omega⟩) T.mm.2.2.2.1 (fun q _ h9 => T.fr hA q h9) (T.fr hA) (fun u t H1 locs1 ht hvm hw hB hz1 hk1 hS => ?_)
  obtain ⟨r, gi', gl', sh', ad'⟩ := u
  obtain ⟨hp, hx⟩ := hw
  dsimp only at hx
  subst hx
  have T1 := T.back (st := st) hA hsto hp hB ht hS
  have e1 : st.map (g_rn b ad') = st.map (g_rn b ad) := List.map_congr_left (fun v hv => g_rn_ext hp.2.2.1 (hsto v hv))
  have k := h gi' gl' sh' hp.1 hp.2.1 hp.2.2.2.1 p l e R s m args below meth c Qf A D cy b n0 ad0 MC MS X ad' H1 locs1 (cells + mc') (slots + ms') lsA T1
  rw [e1] at k
  exact k
theorem g_callIN {a : Int} {host : String} (as : List gV) (hd : decode md.2.1 pc = .ok (.invokespecial idx, 3)) (hl : Cond.methodLinkNest md.1 idx md'.2.2.2.2.2.1 host ∈ lw_nest) (hv : g_MI md' np) (hlev : md'.2.2.2.2.1 < md.2.2.2.2.1 ∧ 1 ≤ md'.2.2.2.2.1 ∧ md'.2.2.1 ≤ 11) (hscr : md'.2.2.2.2.2.2 = none) (has : as.length = np) (hlen : (g_sl (vR a :: as)).length ≤ md'.2.2.1) (hstk : stk = as.reverse ++ vR a :: st) (hst : st.length ≤ 4)
    (hG : Go md' mc' ms' 0 (g_ent md'.2.2.1 (vR a :: as)) [] gi gl sh Q') (hr : ∀ r gi gl sh, Q' r gi gl sh → r = none) (h : ∀ (gi' gl' : gF) (sh' : gSh), Q' none gi' gl' sh' → sh.2.2.2 ≤ sh'.2.2.2 → g_wf gi' gl' sh' → Go md mc ms (pc + 3) ls st gi' gl' sh' Q) : Go md (mc + mc') (ms + ms') pc ls stk gi gl sh Q := by
  intro p l e R s m args below meth c Qf A D cy b n0 ad0 MC MS X ad H locs cells slots lsA T
  subst hstk
  have hW := X.1.2.2.2.2.1
  have hF := X.1.2.2.2.2.2.2.2.1
  have hLo := X.1.2.2.2.2.2.2.2.2.1
  have hA := X.1.2.2.2.2.2.2.2.2.2.2.2.1
  have hcat := g_catS b ad st
  have hR1 := T.2.1.1
  have hR2 := T.2.1.2
  have hR3 := X.2.1
  have hR4 := X.2.2.1
  have hok : ∀ v ∈ vR a :: as, g_ok sh.2.2.2 v := fun v hv => T.ok v (by rcases List.mem_cons.mp hv with rfl | h <;> simp [*])
  have hsto : ∀ v ∈ st, g_ok sh.2.2.2 v := fun v hv => T.ok v (by simp [hv])
  have hra := g_unR (hok (vR a) List.mem_cons_self)
  obtain ⟨v1, vn, v3, v4, v5, v6, v7, v8, v9, v10⟩ := hv
  have v4' : Cond.code md'.2.2.2.2.2.1 md'.2.1 md'.2.2.1 md'.2.2.2.1 ∈ lw_good := by rw [v10]; exact v4
  have hcw : va_CN R s args md.1 idx md'.2.2.2.2.2.1 host md'.2.1 md'.2.2.1 none (g_words md') (g_room md' mc' ms') mc' ms' np ∧ md'.2.2.2.2.2.1.name = "<init>" ∧ (Cond.instanceMethod md'.2.2.2.2.2.1).before args s = true := ⟨va_cnB np hW (lw_goodIn (fun w hw => (List.mem_cons.mp hw).elim (fun h => h ▸ v4') id)) (by rw [g_words, v10]) rfl rfl (X.1.2.2.2.2.2.1 _ hl) (hW _ v3) ⟨v7, v8, v9⟩ ⟨by show md'.2.2.2.2.1 + 1 ≤ _; omega, by show 8 + (md'.2.2.1 + 11) + 30 * md'.2.2.2.2.1 ≤ _; omega⟩, vn, hW _ v1⟩
  have hpre : PreS s H (va_Pc ((vR a :: as).map (g_rn b ad)) (g_Pre D cy ad gi gl sh H.size)) (.ref (ad a) :: as.map (g_rn b ad)) := ⟨g_blind, g_enter T.mm X.1.2.2.2.2.2.1 X.1.2.2.2.2.2.2.1⟩
  have hM := g_met_v l D cy b ad H.size hG hscr v6 hlev.2.1 v5 hlen T.mm.2.2.2.2 hok hr
  refine va_callv (va_runIN (b := ad a) (As := as.map (g_rn b ad)) (rest := st.map (g_rn b ad)) ⟨X.1.1, X.1.2.1, X.1.2.2.1, X.1.2.2.2.1, hW⟩ hM hcw hpre rfl (by rw [List.length_map]; exact has) T.lo.1 (by simp [g_rn, List.map_reverse]) (lv_room (by omega)) hd ⟨by omega, by omega⟩) T.mm.2.2.2.1 (fun q _ h9 => T.fr hA q h9) (T.fr hA) (fun u t H1 locs1 ht hvm hw hB hz1 hk1 hS => ?_)
  obtain ⟨r, gi', gl', sh', ad'⟩ := u
  obtain ⟨hp, hx⟩ := hw
  dsimp only at hx
  subst hx
  have T1 := T.back (st := st) hA hsto hp hB ht hS
  have e1 : st.map (g_rn b ad') = st.map (g_rn b ad) := List.map_congr_left (fun v hv => g_rn_ext hp.2.2.1 (hsto v hv))
  have k := h gi' gl' sh' hp.1 hp.2.1 hp.2.2.2.1 p l e R s m args below meth c Qf A D cy b n0 ad0 MC MS X ad' H1 locs1 (cells + mc') (slots + ms') lsA T1
  rw [e1] at k
  exact k
end CALLS
