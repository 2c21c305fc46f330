/-! the law's loop, and its start -/
theorem isSV.ag {s s' : gSh} {la oa : Int} (h : isSV s la oa) (e : ∀ b : Int, b < 190 → Ag s s' b) : isSV s' la oa := by
  obtain ⟨h0, hT, hS, hH, hF, hV, hW, h183, hP, hQ⟩ := h
  have e0 := e 0 (by decide)
  have e1 := e 183 (by decide)
  refine ⟨?_, hT.ag (fun b b0 b1 => e b (by omega)), hS.ag (fun b b0 b1 => e b (by omega)), hH.ag (fun b b0 b1 => e b (by omega)), hF.ag (fun b b0 b1 => e b (by omega)), hV.ag (fun b b0 b1 => e b (by omega)), hW.ag (fun b b0 b1 => e b (by omega)), ?_, hP.ag (fun b b0 b1 => e b (by omega)), hQ.ag (fun b b0 b1 => e b (by omega))⟩
  · rw [e0.1, e0.2.1]; exact h0
  · rw [e1.2.1, e1.2.2]; exact h183
section LAW3
variable {L : Nat} {xs : Nat → Int32}
set_option maxRecDepth 20000 in
set_option maxHeartbeats 2000000 in
theorem l_law (hL : L ≤ 2048) : ∀ (n : Nat) (i : Int), (L : Int) - i ≤ n → 0 ≤ i → i ≤ 2052 → ∀ (gi gl : gF) (sh : gSh) (la oa : Int), LI gi gl sh la oa → Go (mdL_law L xs) 0 0 18 [some vS, some (vR 0), some (vR 190), some (vI i)] [] gi gl sh QL := by
  intro n
  induction n with
  | zero =>
    intro i h1 h0 h2 gi gl sh la oa hI
    refine g_iload_n dL_law_18 rfl ?_
    refine g_aload_nS dL_law_19 rfl ?_
    refine g_slen dL_law_20 rfl (by omega) ?_
    refine g_iconst dL_law_21 (by decide) ?_
    refine g_isub dL_law_22 (by omega) (by omega) ?_
    refine g_icmp_gt 516 dL_law_23 (by decide) (fun h23 => ?_) (fun h23 => ?_)
    · skip
      refine g_iconst dL_law_516 (by decide) ?_
      refine g_zreturn dL_law_517 rfl (by decide) ?_
      exact rfl
    · exfalso; omega
  | succ n ih =>
    intro i h1 h0 h2 gi gl sh la oa hI
    have nx : i + 4 ≤ (L : Int) → ∀ (g l : gF) (s : gSh) (la oa : Int), LI g l s la oa → Go (mdL_law L xs) 0 0 510 [some vS, some (vR 0), some (vR 190), some (vI i)] [] g l s QL := fun hb g l s la oa hI2 => by
      refine n_iinc (lN := [_, _, _, some (vI (i + 4))]) dL_law_510 rfl (Nat.le_of_ble_eq_true rfl) (by omega) (by omega) rfl ?_
      refine g_goto 18 dL_law_513 (by decide) ?_
      exact ih (i + 4) (by omega) (by omega) (by omega) g l s la oa hI2
    refine g_iload_n dL_law_18 rfl ?_
    refine g_aload_nS dL_law_19 rfl ?_
    refine g_slen dL_law_20 rfl (by omega) ?_
    refine g_iconst dL_law_21 (by decide) ?_
    refine g_isub dL_law_22 (by omega) (by omega) ?_
    refine g_icmp_gt 516 dL_law_23 (by decide) (fun h23 => ?_) (fun h23 => ?_)
    · skip
      refine g_iconst dL_law_516 (by decide) ?_
      refine g_zreturn dL_law_517 rfl (by decide) ?_
      exact rfl
    · skip
      refine g_aload_nS dL_law_26 rfl ?_
      refine g_iload_n dL_law_27 rfl ?_
      refine g_sload dL_law_28 rfl (by omega) (by omega) ?_
      refine g_bipush dL_law_29 (by decide) (by decide) ?_
      refine g_iand dL_law_31 ?_
      generalize (Int32.ofInt ((xs i.toNat).toInt) &&& Int32.ofInt 15).toInt = z
      rcases (show z < 0 ∨ 15 < z ∨ z = 0 ∨ z = 1 ∨ z = 2 ∨ z = 3 ∨ z = 4 ∨ z = 5 ∨ z = 6 ∨ z = 7 ∨ z = 8 ∨ z = 9 ∨ z = 10 ∨ z = 11 ∨ z = 12 ∨ z = 13 ∨ z = 14 ∨ z = 15 by omega) with hsw | hsw | hsw | hsw | hsw | hsw | hsw | hsw | hsw | hsw | hsw | hsw | hsw | hsw | hsw | hsw | hsw | hsw
      · skip
        refine g_tableOut 510 dL_law_32 (by omega) (by decide) ?_
        exact nx (by omega) _ _ _ _ _ hI
      · skip
        refine g_tableOut 510 dL_law_32 (by omega) (by decide) ?_
        exact nx (by omega) _ _ _ _ _ hI
      · skip
        refine g_tableIn 112 dL_law_32 (by omega) (by omega) (by rw [hsw]; rfl) (by decide) ?_
        exact k_write hL ⟨h0, by omega⟩ hI (nx (by omega))
      · skip
        refine g_tableIn 135 dL_law_32 (by omega) (by omega) (by rw [hsw]; rfl) (by decide) ?_
        exact k_wipe hL ⟨h0, by omega⟩ hI (nx (by omega))
      · skip
        refine g_tableIn 148 dL_law_32 (by omega) (by omega) (by rw [hsw]; rfl) (by decide) ?_
        exact k_fault hL ⟨h0, by omega⟩ hI (nx (by omega))
      · skip
        refine g_tableIn 161 dL_law_32 (by omega) (by omega) (by rw [hsw]; rfl) (by decide) ?_
        exact k_lay hL ⟨h0, by omega⟩ hI (nx (by omega))
      · skip
        refine g_tableIn 174 dL_law_32 (by omega) (by omega) (by rw [hsw]; rfl) (by decide) ?_
        exact k_see hL ⟨h0, by omega⟩ hI (nx (by omega))
      · skip
        refine g_tableIn 227 dL_law_32 (by omega) (by omega) (by rw [hsw]; rfl) (by decide) ?_
        exact k_rule hL ⟨h0, by omega⟩ hI (nx (by omega))
      · skip
        refine g_tableIn 260 dL_law_32 (by omega) (by omega) (by rw [hsw]; rfl) (by decide) ?_
        exact k_clear hL ⟨h0, by omega⟩ hI (nx (by omega))
      · skip
        refine g_tableIn 273 dL_law_32 (by omega) (by omega) (by rw [hsw]; rfl) (by decide) ?_
        exact k_undo hL ⟨h0, by omega⟩ hI (nx (by omega))
      · skip
        refine g_tableIn 286 dL_law_32 (by omega) (by omega) (by rw [hsw]; rfl) (by decide) ?_
        exact k_blob hL ⟨h0, by omega⟩ hI (nx (by omega))
      · skip
        refine g_tableIn 319 dL_law_32 (by omega) (by omega) (by rw [hsw]; rfl) (by decide) ?_
        exact k_open hL ⟨h0, by omega⟩ hI (nx (by omega))
      · skip
        refine g_tableIn 342 dL_law_32 (by omega) (by omega) (by rw [hsw]; rfl) (by decide) ?_
        exact k_opening hL ⟨h0, by omega⟩ hI (nx (by omega))
      · skip
        refine g_tableIn 385 dL_law_32 (by omega) (by omega) (by rw [hsw]; rfl) (by decide) ?_
        exact k_air hL ⟨h0, by omega⟩ hI (nx (by omega))
      · skip
        refine g_tableIn 408 dL_law_32 (by omega) (by omega) (by rw [hsw]; rfl) (by decide) ?_
        exact k_gain hL ⟨h0, by omega⟩ hI (nx (by omega))
      · skip
        refine g_tableIn 421 dL_law_32 (by omega) (by omega) (by rw [hsw]; rfl) (by decide) ?_
        exact k_best hL ⟨h0, by omega⟩ hI (nx (by omega))
      · skip
        refine g_tableIn 454 dL_law_32 (by omega) (by omega) (by rw [hsw]; rfl) (by decide) ?_
        exact k_count hL ⟨h0, by omega⟩ hI (nx (by omega))
      · skip
        refine g_tableIn 477 dL_law_32 (by omega) (by omega) (by rw [hsw]; rfl) (by decide) ?_
        exact k_told hL ⟨h0, by omega⟩ hI (nx (by omega))
set_option maxRecDepth 20000 in
set_option maxHeartbeats 2000000 in
theorem law_go (hL : L ≤ 2048) {s0 : gSh} (h0 : ((s0.2.2.2 : Nat) : Int) = 0) : Go (mdL_law L xs) 215 8187 0 [some vS, none, none, none] [] gZ gZ s0 QL := by
  refine Go.wk (mc := 214 + 1) (ms := 8178 + g_nf 8) (by decide) (by decide) ?_
  refine g_new 8 dL_law_0 clL_7 (by decide) ?_
  rw [h0, alz (g := gZ) rfl]
  have f1 := nsh_k (s := s0) (κ := 8) (len := 0) h0
  generalize g_nsh s0 8 0 = s1 at f1 ⊢
  refine g_dup dL_law_3 (fun _ h9 => by cases h9) ?_
  refine Go.wk (mc := 25 + 189) (ms := 4749 + 3429) (by decide) (by decide) ?_
  refine g_callI [] dL_law_4 mlL_9 miX8_init ⟨(Nat.le_of_ble_eq_true rfl), (Nat.le_of_ble_eq_true rfl), (Nat.le_of_ble_eq_true rfl)⟩ rfl rfl (Nat.le_of_ble_eq_true rfl) rfl (Nat.le_of_ble_eq_true rfl) (c_iSV f1.1 f1.2.2) (fun _ _ _ _ q => q.1) (fun g1 l1 s2 q w1 w2 => ?_)
  obtain ⟨-, hc, hn, hz, x1, x4, x7, ⟨y2, y3, y4, y5, y6, y7, y8, y9⟩, u0, u1, v0, v1⟩ := q
  refine n_astore_n (lN := [some vS, some (vR 0), none, none]) dL_law_7 (Nat.le_of_ble_eq_true rfl) rfl ?_
  refine Go.wk (mc := 24 + 1) (ms := 4717 + g_nf 9) (by decide) (by decide) ?_
  refine g_new 9 dL_law_8 clL_10 (by decide) ?_
  rw [hn, alz (hz 190 (by decide)).1, alz (hz 190 (by decide)).2]
  have f2 := nsh_k (s := s2) (κ := 9) (len := 0) hn
  have a2 : ∀ b : Int, b < 190 → Ag s2 (g_nsh s2 9 0) b := fun b hb => Ag.nsh (by rw [hn]; omega)
  generalize g_nsh s2 9 0 = s3 at f2 a2 ⊢
  refine g_dup dL_law_11 (fun _ h9 => by cases h9) ?_
  refine Go.wk (mc := 0 + 24) (ms := 0 + 4717) (by decide) (by decide) ?_
  refine g_callI [] dL_law_12 mlL_12 miX9_init ⟨(Nat.le_of_ble_eq_true rfl), (Nat.le_of_ble_eq_true rfl), (Nat.le_of_ble_eq_true rfl)⟩ rfl rfl (Nat.le_of_ble_eq_true rfl) rfl (Nat.le_of_ble_eq_true rfl) (c_iMd f2.1 f2.2.2 hz) (fun _ _ _ _ q => q.1) (fun g3 l3 s4 q w3 w4 => ?_)
  obtain ⟨-, hM, hn4, a4, eg, el, m7, m5, m1, ⟨p0, p1, p2, p3, p4, p5, p6⟩, k0, k1, n0, n61, n62⟩ := q
  refine n_astore_n (lN := [some vS, some (vR 0), some (vR 190), none]) dL_law_15 (Nat.le_of_ble_eq_true rfl) rfl ?_
  refine g_iconst dL_law_16 (by decide) ?_
  refine n_istore_n (lN := [some vS, some (vR 0), some (vR 190), some (vI 0)]) dL_law_17 (Nat.le_of_ble_eq_true rfl) rfl ?_
  have hc4 : CI g3 l3 s4 187 30 := by
    have h9 := hc.hl eg el
    exact ⟨⟨h9.1.1.ag (fun b hb => (a2 b hb).tr (a4 b hb)), h9.1.2⟩, h9.2⟩
  refine l_law hL L 0 (by omega) (by decide) (by decide) g3 l3 s4 187 30 ⟨hc4, hM, ⟨?_, fun j j0 j1 => ?_⟩, ⟨?_, ?_, ?_⟩, ⟨?_, ?_, ?_⟩, ?_, ?_⟩
  · rw [m7, eg 1 (by decide), x1]
  · rw [eg 1 (by decide), x1] at j1; omega
  · rw [m1, eg 187 (by decide), y2]
  · rw [eg 187 (by decide)]
    refine k7 ?_ ?_ ?_ ?_ ?_ ?_ ?_
    · rw [p0]; exact y3.symm
    · rw [p1]; exact y4.symm
    · rw [p2]; exact y5.symm
    · rw [p3]; exact y6.symm
    · rw [p4]; exact y7.symm
    · rw [p5]; exact y8.symm
    · rw [p6]; exact y9.symm
  · intro k q0 q1
    rw [eg 187 (by decide), y2] at q1
    show g3 192 k = g3 188 k
    rw [eg 188 (by decide)]
    rcases (show k = 0 ∨ k = 1 by omega) with rfl | rfl
    · rw [k0, u0]
    · rw [k1, u1]
  · show l3 193 0 = g3 4 2
    rw [n0, eg 4 (by decide), x4]
  · intro t t0 t1
    have t2 : t < g3 4 2 := t1
    rw [eg 4 (by decide), x4] at t2
    omega
  · intro k q0 q1
    rw [eg 187 (by decide), y2] at q1
    show l3 193 (61 + k) = g3 6 k
    rw [eg 6 (by decide)]
    rcases (show k = 0 ∨ k = 1 by omega) with rfl | rfl
    · rw [v0]; exact n61
    · rw [v1]; exact n62
  · rw [m5, eg 7 (by decide), x7]
  · intro u q0 q1
    rw [eg 7 (by decide), x7] at q1
    omega
end LAW3
