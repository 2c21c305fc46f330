/-! constructors: objects made, one behind the other -/
theorem Go.wk {md : gMD} {mc ms mc' ms' pc : Nat} {ls : List (Option gV)} {st : List gV} {gi gl : gF} {sh : gSh} {Q : gQ} (h1 : mc ≤ mc') (h2 : ms ≤ ms') (h : Go md mc ms pc ls st gi gl sh Q) : Go md mc' ms' pc ls st gi gl sh Q := by
  intro p l e R s m args below meth c Qf A D cy b n0 ad0 MC MS X ad H locs cells slots lsA T
  exact h p l e R s m args below meth c Qf A D cy b n0 ad0 MC MS X ad H locs cells slots lsA ⟨T.1, ⟨by have := T.2.1.1; omega, by have := T.2.1.2; omega⟩, T.2.2⟩
/-- a cell's shape is as it was -/
def Ag (s s' : gSh) (b : Int) : Prop := s'.1 b = s.1 b ∧ s'.2.1 b = s.2.1 b ∧ s'.2.2.1 b = s.2.2.1 b
theorem Ag.rf {s : gSh} {b : Int} : Ag s s b := ⟨rfl, rfl, rfl⟩
theorem Ag.tr {s s' s2 : gSh} {b : Int} (h : Ag s s' b) (h' : Ag s' s2 b) : Ag s s2 b := ⟨h'.1.trans h.1, h'.2.1.trans h.2.1, h'.2.2.trans h.2.2⟩
theorem Ag.nsh {s : gSh} {κ len : Nat} {b : Int} (h : b ≠ (s.2.2.2 : Int)) : Ag s (g_nsh s κ len) b := ⟨g_row_ne h, g_row_ne h, g_row_ne h⟩
theorem Ag.up {s : gSh} {a k b : Int} {r : Option Int} (h : b ≠ a) : Ag s (g_up s.1 a k r, s.2) b := ⟨g_up_row h, rfl, rfl⟩
theorem nsh_k {s : gSh} {κ len : Nat} {n : Int} (h : (s.2.2.2 : Int) = n) : (g_nsh s κ len).2.1 n = κ ∧ (g_nsh s κ len).2.2.1 n = len ∧ (((g_nsh s κ len).2.2.2 : Nat) : Int) = n + 1 := by
  subst h
  exact ⟨g_row_at, g_row_at, by show (((s.2.2.2 + 1 : Nat)) : Int) = _; omega⟩
theorem alz {g : gF} {n : Int} (h : g n = fun _ => 0) : g_row g n (fun _ => 0) = g := by rw [← h, g_row_self]
theorem isStand.ag {s s' : gSh} {a : Int} (h : isStand s a) (e : ∀ b : Int, a ≤ b → b ≤ a + 2 → Ag s s' b) : isStand s' a := by
  have e0 := e a (by omega) (by omega)
  have e1 := e (a + 1) (by omega) (by omega)
  have e2 := e (a + 2) (by omega) (by omega)
  unfold isStand
  rw [e0.1, e0.2.1, e1.2.1, e1.2.2, e2.2.1, e2.2.2]
  exact h
theorem isValve.ag {s s' : gSh} {a : Int} (h : isValve s a) (e : ∀ b : Int, a ≤ b → b ≤ a + 2 → Ag s s' b) : isValve s' a := by
  have e0 := e a (by omega) (by omega)
  have e1 := e (a + 1) (by omega) (by omega)
  have e2 := e (a + 2) (by omega) (by omega)
  unfold isValve
  rw [e0.1, e0.2.1, e1.2.1, e1.2.2, e2.2.1, e2.2.2]
  exact h
theorem isPlan.ag {s s' : gSh} {a : Int} (h : isPlan s a) (e : ∀ b : Int, a ≤ b → b ≤ a + 2 → Ag s s' b) : isPlan s' a := by
  have e0 := e a (by omega) (by omega)
  have e1 := e (a + 1) (by omega) (by omega)
  have e2 := e (a + 2) (by omega) (by omega)
  unfold isPlan
  rw [e0.1, e0.2.1, e1.2.1, e1.2.2, e2.2.1, e2.2.2]
  exact h
theorem isText.ag {s s' : gSh} (h : isText s) (e : ∀ b : Int, 1 ≤ b → b ≤ 3 → Ag s s' b) : isText s' := by
  have e0 := e 1 (by omega) (by omega)
  have e1 := e 2 (by omega) (by omega)
  have e2 := e 3 (by omega) (by omega)
  unfold isText
  rw [e0.1, e0.2.1, e1.2.1, e1.2.2, e2.2.1, e2.2.2]
  exact h
theorem isHist.ag {s s' : gSh} (h : isHist s) (e : ∀ b : Int, 7 ≤ b → b < 27 → Ag s s' b) : isHist s' := by
  obtain ⟨h1, h2, h3, h4, h5⟩ := h
  have e0 := e 7 (by omega) (by omega)
  have e1 := e 8 (by omega) (by omega)
  refine ⟨by rw [e0.2.1]; exact h1, by rw [e0.1]; exact h2, by rw [e1.2.1]; exact h3, by rw [e1.2.2]; exact h4, fun i i0 i1 => ⟨by rw [e1.1]; exact (h5 i i0 i1).1, (h5 i i0 i1).2.ag (fun b b0 b1 => e b (by omega) (by omega))⟩⟩
theorem isVerd.ag {s s' : gSh} {v : Int} (h : isVerd s v) (e : ∀ b : Int, v ≤ b → b < v + 52 → Ag s s' b) : isVerd s' v := by
  obtain ⟨h1, h2, h3, h4, h5, h6, h7, h8, h9, h10, h11⟩ := h
  have e0 := e v (by omega) (by omega)
  have e1 := e (v + 1) (by omega) (by omega)
  have e2 := e (v + 2) (by omega) (by omega)
  have e3 := e (v + 3) (by omega) (by omega)
  refine ⟨by rw [e0.2.1]; exact h1, by rw [e0.1]; exact h2, by rw [e0.1]; exact h3, by rw [e0.1]; exact h4, by rw [e1.2.1]; exact h5, by rw [e1.2.2]; exact h6, by rw [e2.2.1]; exact h7, by rw [e2.2.2]; exact h8, by rw [e3.2.1]; exact h9, by rw [e3.2.2]; exact h10, fun j j0 j1 => ⟨by rw [e3.1]; exact (h11 j j0 j1).1, (h11 j j0 j1).2.ag (fun b b0 b1 => e b (by omega) (by omega))⟩⟩
theorem isFold.ag {s s' : gSh} {oa : Int} (h : isFold s oa) (e : ∀ b : Int, 27 ≤ b → b < 79 → Ag s s' b) : isFold s' oa := by
  unfold isFold at h ⊢
  have e0 := e 27 (by omega) (by omega)
  have e1 := e 28 (by omega) (by omega)
  have e2 := e 29 (by omega) (by omega)
  have e3 := e 30 (by omega) (by omega)
  have e4 := e 31 (by omega) (by omega)
  rw [e0.1, e0.2.1, e1.2.1, e1.2.2, e2.2.1, e2.2.2, e3.2.1, e3.2.2, e4.2.1, e4.2.2]
  obtain ⟨h1, h2, h3, h4, h5, h6, h7, h8, h9, h10, h11, h12, h13, h14⟩ := h
  refine ⟨h1, h2, h3, h4, h5, h6, h7, h8, h9, h10, h11, h12, fun i i0 i1 => ?_, fun i i0 i1 => ?_⟩
  · rw [e1.1, (e (32 + i) (by omega) (by omega)).2.1]; exact h13 i i0 i1
  · rw [e2.1, (e (63 + i) (by omega) (by omega)).2.1]; exact h14 i i0 i1
/-- made: the memory is as it was, cells ahead of a too -/
def NX (gi gl : gF) (sh : gSh) (a n : Int) (P : gSh → Prop) : gQ := fun r gi' gl' sh' => r = none ∧ gi' = gi ∧ gl' = gl ∧ ((sh'.2.2.2 : Nat) : Int) = n ∧ (∀ b : Int, b < a → Ag sh sh' b) ∧ P sh'
/-- nothing has been written from a on -/
def Zr (gi gl : gF) (a : Int) : Prop := ∀ b : Int, a ≤ b → (gi b = fun _ => 0) ∧ gl b = fun _ => 0
section INIT1
variable {gi gl : gF} {sh : gSh} {a : Int}
theorem c_iBlob : Ct mdX0_init 0 0 [vR a] gi gl sh (Rt none gi gl sh) := by
  show Go mdX0_init 0 0 0 [some (vR a)] [] gi gl sh _
  refine g_aload_n dX0_init_0 rfl ?_
  refine g_objInit dX0_init_1 mlX0_3 (Nat.le_of_ble_eq_true rfl) ?_
  refine g_return dX0_init_4 rfl ?_
  exact ⟨rfl, rfl, rfl, rfl⟩

set_option maxRecDepth 20000 in
set_option maxHeartbeats 1000000 in
theorem c_iStand (hk : sh.2.1 a = 4) (hn : (sh.2.2.2 : Int) = a + 1) (hz : Zr gi gl (a + 1)) : Ct mdX4_init 2 64 [vR a] gi gl sh (NX gi gl sh a (a + 3) (fun s => isStand s a)) := by
  show Go mdX4_init 2 64 0 [some (vR a)] [] gi gl sh _
  obtain ⟨R, K, Ln, c⟩ := sh
  have hc : (c : Int) = a + 1 := hn
  have hc2 : ((c + 1 : Nat) : Int) = a + 2 := by omega
  have hk : K a = 4 := hk
  refine g_aload_n dX4_init_0 rfl ?_
  refine g_objInit dX4_init_1 mlX4_3 (Nat.le_of_ble_eq_true rfl) ?_
  refine g_aload_n dX4_init_4 rfl ?_
  refine g_bipush dX4_init_5 (by decide) (by decide) ?_
  refine Go.wk (mc := 1 + 1) (ms := 4 + Int.toNat 60) (by decide) (by decide) ?_
  refine g_newL dX4_init_7 (by decide) (by decide) ?_
  dsimp only [g_nsh]
  rw [hc, alz (hz (a + 1) (by omega)).1, alz (hz (a + 1) (by omega)).2]
  refine g_putRF 0 dX4_init_9 flX4_9 rfl (by show g_row K (a + 1) _ a = _; rw [g_row_ne (by omega)]; exact hk) rfl rfl ?_
  refine g_aload_n dX4_init_12 rfl ?_
  refine g_iconst dX4_init_13 (by decide) ?_
  refine Go.wk (mc := 0 + 1) (ms := 0 + Int.toNat 4) (by decide) (by decide) ?_
  refine g_newI dX4_init_14 (by decide) (by decide) ?_
  dsimp only [g_nsh]
  rw [hc2, alz (hz (a + 2) (by omega)).1, alz (hz (a + 2) (by omega)).2]
  refine g_putRF 1 dX4_init_16 flX4_15 rfl (by show g_row (g_row K (a + 1) _) (a + 2) _ a = _; rw [g_row_ne (by omega), g_row_ne (by omega)]; exact hk) rfl rfl ?_
  refine g_return dX4_init_19 rfl ?_
  refine ⟨rfl, rfl, rfl, by show ((c + 1 + 1 : Nat) : Int) = a + 3; omega, fun b hb => ⟨?_, ?_, ?_⟩, ?_⟩
  · show g_up (g_row (g_up (g_row R (a + 1) _) a 0 _) (a + 2) _) a 1 _ b = R b
    rw [g_up_row (by omega), g_row_ne (by omega), g_up_row (by omega), g_row_ne (by omega)]
  · show g_row (g_row K (a + 1) _) (a + 2) _ b = K b
    rw [g_row_ne (by omega), g_row_ne (by omega)]
  · show g_row (g_row Ln (a + 1) _) (a + 2) _ b = Ln b
    rw [g_row_ne (by omega), g_row_ne (by omega)]
  · refine ⟨?_, ?_, ?_, ?_, ?_, ?_, ?_⟩
    · show g_row (g_row K (a + 1) _) (a + 2) _ a = _
      rw [g_row_ne (by omega), g_row_ne (by omega)]; exact hk
    · show g_up (g_row (g_up (g_row R (a + 1) _) a 0 _) (a + 2) _) a 1 _ a 0 = _
      rw [g_up_ne (by decide), g_row_ne (by omega), g_up_at]
    · show g_up (g_row (g_up (g_row R (a + 1) _) a 0 _) (a + 2) _) a 1 _ a 1 = _
      rw [g_up_at]
    · show g_row (g_row K (a + 1) _) (a + 2) _ (a + 1) = _
      rw [g_row_ne (by omega), g_row_at]
    · show ((g_row (g_row Ln (a + 1) _) (a + 2) _ (a + 1) : Nat) : Int) = _
      rw [g_row_ne (by omega), g_row_at]; rfl
    · show g_row (g_row K (a + 1) _) (a + 2) _ (a + 2) = _
      rw [g_row_at]
    · show ((g_row (g_row Ln (a + 1) _) (a + 2) _ (a + 2) : Nat) : Int) = _
      rw [g_row_at]; rfl
set_option maxRecDepth 20000 in
set_option maxHeartbeats 1000000 in
theorem c_iValve (hk : sh.2.1 a = 6) (hn : (sh.2.2.2 : Int) = a + 1) (hz : Zr gi gl (a + 1)) : Ct mdX6_init 2 62 [vR a] gi gl sh (NX gi gl sh a (a + 3) (fun s => isValve s a)) := by
  show Go mdX6_init 2 62 0 [some (vR a)] [] gi gl sh _
  obtain ⟨R, K, Ln, c⟩ := sh
  have hc : (c : Int) = a + 1 := hn
  have hc2 : ((c + 1 : Nat) : Int) = a + 2 := by omega
  have hk : K a = 6 := hk
  refine g_aload_n dX6_init_0 rfl ?_
  refine g_objInit dX6_init_1 mlX6_3 (Nat.le_of_ble_eq_true rfl) ?_
  refine g_aload_n dX6_init_4 rfl ?_
  refine g_bipush dX6_init_5 (by decide) (by decide) ?_
  refine Go.wk (mc := 1 + 1) (ms := 31 + Int.toNat 31) (by decide) (by decide) ?_
  refine g_newI dX6_init_7 (by decide) (by decide) ?_
  dsimp only [g_nsh]
  rw [hc, alz (hz (a + 1) (by omega)).1, alz (hz (a + 1) (by omega)).2]
  refine g_putRF 0 dX6_init_9 flX6_9 rfl (by show g_row K (a + 1) _ a = _; rw [g_row_ne (by omega)]; exact hk) rfl rfl ?_
  refine g_aload_n dX6_init_12 rfl ?_
  refine g_bipush dX6_init_13 (by decide) (by decide) ?_
  refine Go.wk (mc := 0 + 1) (ms := 0 + Int.toNat 31) (by decide) (by decide) ?_
  refine g_newI dX6_init_15 (by decide) (by decide) ?_
  dsimp only [g_nsh]
  rw [hc2, alz (hz (a + 2) (by omega)).1, alz (hz (a + 2) (by omega)).2]
  refine g_putRF 1 dX6_init_17 flX6_15 rfl (by show g_row (g_row K (a + 1) _) (a + 2) _ a = _; rw [g_row_ne (by omega), g_row_ne (by omega)]; exact hk) rfl rfl ?_
  refine g_return dX6_init_20 rfl ?_
  refine ⟨rfl, rfl, rfl, by show ((c + 1 + 1 : Nat) : Int) = a + 3; omega, fun b hb => ⟨?_, ?_, ?_⟩, ?_⟩
  · show g_up (g_row (g_up (g_row R (a + 1) _) a 0 _) (a + 2) _) a 1 _ b = R b
    rw [g_up_row (by omega), g_row_ne (by omega), g_up_row (by omega), g_row_ne (by omega)]
  · show g_row (g_row K (a + 1) _) (a + 2) _ b = K b
    rw [g_row_ne (by omega), g_row_ne (by omega)]
  · show g_row (g_row Ln (a + 1) _) (a + 2) _ b = Ln b
    rw [g_row_ne (by omega), g_row_ne (by omega)]
  · refine ⟨?_, ?_, ?_, ?_, ?_, ?_, ?_⟩
    · show g_row (g_row K (a + 1) _) (a + 2) _ a = _
      rw [g_row_ne (by omega), g_row_ne (by omega)]; exact hk
    · show g_up (g_row (g_up (g_row R (a + 1) _) a 0 _) (a + 2) _) a 1 _ a 0 = _
      rw [g_up_ne (by decide), g_row_ne (by omega), g_up_at]
    · show g_up (g_row (g_up (g_row R (a + 1) _) a 0 _) (a + 2) _) a 1 _ a 1 = _
      rw [g_up_at]
    · show g_row (g_row K (a + 1) _) (a + 2) _ (a + 1) = _
      rw [g_row_ne (by omega), g_row_at]
    · show ((g_row (g_row Ln (a + 1) _) (a + 2) _ (a + 1) : Nat) : Int) = _
      rw [g_row_ne (by omega), g_row_at]; rfl
    · show g_row (g_row K (a + 1) _) (a + 2) _ (a + 2) = _
      rw [g_row_at]
    · show ((g_row (g_row Ln (a + 1) _) (a + 2) _ (a + 2) : Nat) : Int) = _
      rw [g_row_at]; rfl
set_option maxRecDepth 20000 in
set_option maxHeartbeats 1000000 in
theorem c_iText0 (hk : sh.2.1 a = 5) (hn : (sh.2.2.2 : Int) = a + 1) (hz : Zr gi gl (a + 1)) : Ct mdX5_init 2 205 [vR a] gi gl sh (NX gi gl sh a (a + 3) (fun s => s.2.1 a = 5 ∧ s.1 a 0 = some (a + 1) ∧ s.1 a 1 = some (a + 2) ∧ s.2.1 (a + 1) = 10 ∧ (s.2.2.1 (a + 1) : Int) = 200 ∧ s.2.1 (a + 2) = 11 ∧ (s.2.2.1 (a + 2) : Int) = 5)) := by
  show Go mdX5_init 2 205 0 [some (vR a)] [] gi gl sh _
  obtain ⟨R, K, Ln, c⟩ := sh
  have hc : (c : Int) = a + 1 := hn
  have hc2 : ((c + 1 : Nat) : Int) = a + 2 := by omega
  have hk : K a = 5 := hk
  refine g_aload_n dX5_init_0 rfl ?_
  refine g_objInit dX5_init_1 mlX5_3 (Nat.le_of_ble_eq_true rfl) ?_
  refine g_aload_n dX5_init_4 rfl ?_
  refine g_sipush dX5_init_5 (by decide) (by decide) ?_
  refine Go.wk (mc := 1 + 1) (ms := 5 + Int.toNat 200) (by decide) (by decide) ?_
  refine g_newC dX5_init_8 (by decide) (by decide) ?_
  dsimp only [g_nsh]
  rw [hc, alz (hz (a + 1) (by omega)).1, alz (hz (a + 1) (by omega)).2]
  refine g_putRF 0 dX5_init_10 flX5_9 rfl (by show g_row K (a + 1) _ a = _; rw [g_row_ne (by omega)]; exact hk) rfl rfl ?_
  refine g_aload_n dX5_init_13 rfl ?_
  refine g_iconst dX5_init_14 (by decide) ?_
  refine Go.wk (mc := 0 + 1) (ms := 0 + Int.toNat 5) (by decide) (by decide) ?_
  refine g_newI dX5_init_15 (by decide) (by decide) ?_
  dsimp only [g_nsh]
  rw [hc2, alz (hz (a + 2) (by omega)).1, alz (hz (a + 2) (by omega)).2]
  refine g_putRF 1 dX5_init_17 flX5_15 rfl (by show g_row (g_row K (a + 1) _) (a + 2) _ a = _; rw [g_row_ne (by omega), g_row_ne (by omega)]; exact hk) rfl rfl ?_
  refine g_return dX5_init_20 rfl ?_
  refine ⟨rfl, rfl, rfl, by show ((c + 1 + 1 : Nat) : Int) = a + 3; omega, fun b hb => ⟨?_, ?_, ?_⟩, ?_⟩
  · show g_up (g_row (g_up (g_row R (a + 1) _) a 0 _) (a + 2) _) a 1 _ b = R b
    rw [g_up_row (by omega), g_row_ne (by omega), g_up_row (by omega), g_row_ne (by omega)]
  · show g_row (g_row K (a + 1) _) (a + 2) _ b = K b
    rw [g_row_ne (by omega), g_row_ne (by omega)]
  · show g_row (g_row Ln (a + 1) _) (a + 2) _ b = Ln b
    rw [g_row_ne (by omega), g_row_ne (by omega)]
  · refine ⟨?_, ?_, ?_, ?_, ?_, ?_, ?_⟩
    · show g_row (g_row K (a + 1) _) (a + 2) _ a = _
      rw [g_row_ne (by omega), g_row_ne (by omega)]; exact hk
    · show g_up (g_row (g_up (g_row R (a + 1) _) a 0 _) (a + 2) _) a 1 _ a 0 = _
      rw [g_up_ne (by decide), g_row_ne (by omega), g_up_at]
    · show g_up (g_row (g_up (g_row R (a + 1) _) a 0 _) (a + 2) _) a 1 _ a 1 = _
      rw [g_up_at]
    · show g_row (g_row K (a + 1) _) (a + 2) _ (a + 1) = _
      rw [g_row_ne (by omega), g_row_at]
    · show ((g_row (g_row Ln (a + 1) _) (a + 2) _ (a + 1) : Nat) : Int) = _
      rw [g_row_ne (by omega), g_row_at]; rfl
    · show g_row (g_row K (a + 1) _) (a + 2) _ (a + 2) = _
      rw [g_row_at]
    · show ((g_row (g_row Ln (a + 1) _) (a + 2) _ (a + 2) : Nat) : Int) = _
      rw [g_row_at]; rfl
set_option maxRecDepth 20000 in
set_option maxHeartbeats 1000000 in
theorem c_iPlan (hk : sh.2.1 a = 3) (hn : (sh.2.2.2 : Int) = a + 1) (hz : Zr gi gl (a + 1)) : Ct mdX3_init 2 8 [vR a] gi gl sh (NX (pn_reset gi a) gl sh a (a + 3) (fun s => isPlan s a)) := by
  show Go mdX3_init 2 8 0 [some (vR a)] [] gi gl sh _
  obtain ⟨R, K, Ln, c⟩ := sh
  have hc : (c : Int) = a + 1 := hn
  have hc2 : ((c + 1 : Nat) : Int) = a + 2 := by omega
  have hk : K a = 3 := hk
  refine g_aload_n dX3_init_0 rfl ?_
  refine g_objInit dX3_init_1 mlX3_3 (Nat.le_of_ble_eq_true rfl) ?_
  refine g_aload_n dX3_init_4 rfl ?_
  refine g_iconst dX3_init_5 (by decide) ?_
  refine Go.wk (mc := 1 + 1) (ms := 4 + Int.toNat 4) (by decide) (by decide) ?_
  refine g_newI dX3_init_6 (by decide) (by decide) ?_
  dsimp only [g_nsh]
  rw [hc, alz (hz (a + 1) (by omega)).1, alz (hz (a + 1) (by omega)).2]
  refine g_putRF 0 dX3_init_8 flX3_9 rfl (by show g_row K (a + 1) _ a = _; rw [g_row_ne (by omega)]; exact hk) rfl rfl ?_
  refine g_aload_n dX3_init_11 rfl ?_
  refine g_iconst dX3_init_12 (by decide) ?_
  refine Go.wk (mc := 0 + 1) (ms := 0 + Int.toNat 4) (by decide) (by decide) ?_
  refine g_newI dX3_init_13 (by decide) (by decide) ?_
  dsimp only [g_nsh]
  rw [hc2, alz (hz (a + 2) (by omega)).1, alz (hz (a + 2) (by omega)).2]
  refine g_putRF 1 dX3_init_15 flX3_15 rfl (by show g_row (g_row K (a + 1) _) (a + 2) _ a = _; rw [g_row_ne (by omega), g_row_ne (by omega)]; exact hk) rfl rfl ?_
  refine g_aload_n dX3_init_18 rfl ?_
  refine g_cVv [] dX3_init_19 mlX3_18 mvX3_reset (by decide) (by show g_row (g_row K (a + 1) _) (a + 2) _ a = _; rw [g_row_ne (by omega), g_row_ne (by omega)]; exact hk) (by decide) rfl rfl (Nat.le_of_ble_eq_true rfl) rfl (Nat.le_of_ble_eq_true rfl) (c_reset (by show g_row (g_row K (a + 1) _) (a + 2) _ a = _; rw [g_row_ne (by omega), g_row_ne (by omega)]; exact hk)) ?_
  refine g_return dX3_init_22 rfl ?_
  refine ⟨rfl, rfl, rfl, by show ((c + 1 + 1 : Nat) : Int) = a + 3; omega, fun b hb => ⟨?_, ?_, ?_⟩, ?_⟩
  · show g_up (g_row (g_up (g_row R (a + 1) _) a 0 _) (a + 2) _) a 1 _ b = R b
    rw [g_up_row (by omega), g_row_ne (by omega), g_up_row (by omega), g_row_ne (by omega)]
  · show g_row (g_row K (a + 1) _) (a + 2) _ b = K b
    rw [g_row_ne (by omega), g_row_ne (by omega)]
  · show g_row (g_row Ln (a + 1) _) (a + 2) _ b = Ln b
    rw [g_row_ne (by omega), g_row_ne (by omega)]
  · refine ⟨?_, ?_, ?_, ?_, ?_, ?_, ?_⟩
    · show g_row (g_row K (a + 1) _) (a + 2) _ a = _
      rw [g_row_ne (by omega), g_row_ne (by omega)]; exact hk
    · show g_up (g_row (g_up (g_row R (a + 1) _) a 0 _) (a + 2) _) a 1 _ a 0 = _
      rw [g_up_ne (by decide), g_row_ne (by omega), g_up_at]
    · show g_up (g_row (g_up (g_row R (a + 1) _) a 0 _) (a + 2) _) a 1 _ a 1 = _
      rw [g_up_at]
    · show g_row (g_row K (a + 1) _) (a + 2) _ (a + 1) = _
      rw [g_row_ne (by omega), g_row_at]
    · show ((g_row (g_row Ln (a + 1) _) (a + 2) _ (a + 1) : Nat) : Int) = _
      rw [g_row_ne (by omega), g_row_at]; rfl
    · show g_row (g_row K (a + 1) _) (a + 2) _ (a + 2) = _
      rw [g_row_at]
    · show ((g_row (g_row Ln (a + 1) _) (a + 2) _ (a + 2) : Nat) : Int) = _
      rw [g_row_at]; rfl
end INIT1
