/-! constructors with loops -/
section INIT2
variable {gi gl : gF} {sh : gSh} {v : Int}

/-- a history with the first i stands -/
def HF (s0 s : gSh) (i : Int) : Prop := s.2.1 7 = 2 ∧ s.1 7 0 = some 8 ∧ s.2.1 8 = 15 ∧ (s.2.2.1 8 : Int) = 6 ∧ (∀ j : Int, 0 ≤ j → j < i → s.1 8 j = some (9 + 3 * j) ∧ isStand s (9 + 3 * j)) ∧ ((s.2.2.2 : Nat) : Int) = 9 + 3 * i ∧ ∀ b : Int, b < 7 → Ag s0 s b
set_option maxRecDepth 20000 in
set_option maxHeartbeats 2000000 in
theorem l_iH (hz : Zr gi gl 8) (s0 : gSh) : ∀ (n : Nat) (i : Int) (s : gSh), i + n = 6 → 0 ≤ i → HF s0 s i → Go mdX2_init (3 * n) (67 * n) 15 [some (vR 7), some (vI i)] [] gi gl s (NX gi gl s0 7 27 isHist) := by
  intro n
  induction n with
  | zero =>
    intro i s h1 h2 h
    obtain ⟨k7, r7, k8, l8, hs, hn, ha⟩ := h
    refine g_iload_n dX2_init_15 rfl ?_
    refine g_aload_n dX2_init_16 rfl ?_
    refine g_getR 0 dX2_init_17 flX2_11 rfl (by assumption) (by assumption) ?_
    refine g_alen _ dX2_init_20 (by omega) (by assumption) (by decide) ?_
    refine g_icmp_ge 43 dX2_init_21 (by decide) (fun h21 => ?_) (fun h21 => ?_)
    · skip
      refine g_return dX2_init_43 rfl ?_
      exact ⟨rfl, rfl, rfl, by rw [hn]; omega, ha, k7, r7, k8, l8, fun j j0 j1 => hs j j0 (by omega)⟩
    · exfalso; omega
  | succ n ih =>
    intro i s h1 h2 h
    obtain ⟨k7, r7, k8, l8, hs, hn, ha⟩ := h
    refine g_iload_n dX2_init_15 rfl ?_
    refine g_aload_n dX2_init_16 rfl ?_
    refine g_getR 0 dX2_init_17 flX2_11 rfl (by assumption) (by assumption) ?_
    refine g_alen _ dX2_init_20 (by omega) (by assumption) (by decide) ?_
    refine g_icmp_ge 43 dX2_init_21 (by decide) (fun h21 => ?_) (fun h21 => ?_)
    · exfalso; omega
    · skip
      refine g_aload_n dX2_init_24 rfl ?_
      refine g_getR 0 dX2_init_25 flX2_11 rfl (by assumption) (by assumption) ?_
      refine g_iload_n dX2_init_28 rfl ?_
      refine Go.wk (mc := 3 * n + 2 + 1) (ms := 67 * n + 64 + g_nf 4) (by omega) (by show 67 * n + 64 + 3 ≤ _; omega) ?_
      refine g_new 4 dX2_init_29 clX2_9 (by decide) ?_
      rw [hn, alz (hz (9 + 3 * i) (by omega)).1, alz (hz (9 + 3 * i) (by omega)).2]
      have f1 := nsh_k (s := s) (κ := 4) (len := 0) hn
      have f2 : ∀ b : Int, b ≠ 9 + 3 * i → Ag s (g_nsh s 4 0) b := fun b hb => Ag.nsh (by rw [hn]; exact hb)
      generalize g_nsh s 4 0 = s1 at f1 f2 ⊢
      refine g_dup dX2_init_32 (fun _ h9 => by cases h9) ?_
      refine g_callIN [] dX2_init_33 mnX2_17 miX4_init (by decide) rfl rfl (Nat.le_of_ble_eq_true rfl) rfl (Nat.le_of_ble_eq_true rfl) (c_iStand (a := 9 + 3 * i) f1.1 f1.2.2 (fun b hb => hz b (by omega))) (fun _ _ _ _ q => q.1) (fun g1 l1 s2 q w1 w2 => ?_)
      obtain ⟨-, q2, q3, q4, q5, q6⟩ := q
      subst q2 q3
      have a2 : ∀ b : Int, b < 9 + 3 * i → Ag s s2 b := fun b hb => (f2 b (by omega)).tr (q5 b hb)
      refine g_aastore (κ := 15) dX2_init_36 (by rw [(a2 8 (by omega)).2.1]; exact k8) (by decide) (by decide) q6.1 (by omega) (by rw [(a2 8 (by omega)).2.2, l8]; omega) ?_
      refine n_iinc (lN := [_, some (vI (i + 1))]) dX2_init_37 rfl (by decide) (by omega) (by omega) rfl ?_
      refine g_goto 15 dX2_init_40 (by decide) ?_
      have a3 : ∀ b : Int, b ≠ 8 → Ag s2 (g_up s2.1 8 i (some (9 + 3 * i)), s2.2) b := fun b hb => Ag.up hb
      refine ih (i + 1) _ (by omega) (by omega) ⟨?_, ?_, ?_, ?_, fun j j0 j1 => ⟨?_, ?_⟩, ?_, fun b hb => ((ha b hb).tr (a2 b (by omega))).tr (a3 b (by omega))⟩
      · show s2.2.1 7 = 2; rw [(a2 7 (by omega)).2.1]; exact k7
      · rw [(a3 7 (by omega)).1, (a2 7 (by omega)).1]; exact r7
      · show s2.2.1 8 = 15; rw [(a2 8 (by omega)).2.1]; exact k8
      · show (s2.2.2.1 8 : Int) = 6; rw [(a2 8 (by omega)).2.2]; exact l8
      · show g_up s2.1 8 i (some (9 + 3 * i)) 8 j = some (9 + 3 * j)
        by_cases e : j = i
        · rw [e, g_up_at]
        · rw [g_up_ne e, (a2 8 (by omega)).1]; exact (hs j j0 (by omega)).1
      · by_cases e : j = i
        · rw [e]; exact q6.ag (fun b b0 b1 => a3 b (by omega))
        · exact (hs j j0 (by omega)).2.ag (fun b b0 b1 => (a2 b (by omega)).tr (a3 b (by omega)))
      · show ((s2.2.2.2 : Nat) : Int) = _; rw [q4]; omega
set_option maxRecDepth 20000 in
set_option maxHeartbeats 2000000 in
theorem c_iHist (hk : sh.2.1 7 = 2) (hn : (sh.2.2.2 : Int) = 8) (hz : Zr gi gl 8) : Ct mdX2_init 19 408 [vR 7] gi gl sh (NX gi gl sh 7 27 isHist) := by
  show Go mdX2_init 19 408 0 [some (vR 7), none] [] gi gl sh _
  refine g_aload_n dX2_init_0 rfl ?_
  refine g_objInit dX2_init_1 mlX2_3 (Nat.le_of_ble_eq_true rfl) ?_
  refine g_aload_n dX2_init_4 rfl ?_
  refine g_bipush dX2_init_5 (by decide) (by decide) ?_
  refine Go.wk (mc := 18 + 1) (ms := 402 + Int.toNat 6) (by decide) (by decide) ?_
  refine g_anew 15 dX2_init_7 clX2_9 (by decide) (by decide) (by decide) (by decide) (by decide) ?_
  rw [hn, alz (hz 8 (by omega)).1, alz (hz 8 (by omega)).2]
  have f1 := nsh_k (s := sh) (κ := 15) (len := Int.toNat 6) hn
  have f2 : ∀ b : Int, b ≠ 8 → Ag sh (g_nsh sh 15 (Int.toNat 6)) b := fun b hb => Ag.nsh (by rw [hn]; exact hb)
  generalize g_nsh sh 15 (Int.toNat 6) = s1 at f1 f2 ⊢
  refine g_putRF 0 dX2_init_10 flX2_11 rfl (by rw [(f2 7 (by omega)).2.1]; exact hk) rfl rfl ?_
  refine g_iconst dX2_init_13 (by decide) ?_
  refine n_istore_n (lN := [_, _]) dX2_init_14 (by decide) rfl ?_
  have a3 : ∀ b : Int, b ≠ 7 → Ag s1 (g_up s1.1 7 0 (some 8), s1.2) b := fun b hb => Ag.up hb
  refine l_iH hz sh 6 0 _ (by omega) (Int.le_refl _) ⟨?_, ?_, ?_, ?_, fun j j0 j1 => by omega, ?_, fun b hb => (f2 b (by omega)).tr (a3 b (by omega))⟩
  · show s1.2.1 7 = 2; rw [(f2 7 (by omega)).2.1]; exact hk
  · show g_up s1.1 7 0 (some 8) 7 0 = some 8
    exact g_up_at
  · show s1.2.1 8 = 15; exact f1.1
  · show (s1.2.2.1 8 : Int) = 6; rw [f1.2.1]; rfl
  · show ((s1.2.2.2 : Nat) : Int) = _; rw [f1.2.2]; rfl
/-- a verdict with the first i valves -/
def VF (s0 s : gSh) (v i : Int) : Prop := (s.2.1 v = 7 ∧ s.1 v 0 = some (v + 1) ∧ s.1 v 1 = some (v + 2) ∧ s.1 v 2 = some (v + 3) ∧ s.2.1 (v + 1) = 11 ∧ (s.2.2.1 (v + 1) : Int) = 31 ∧ s.2.1 (v + 2) = 13 ∧ (s.2.2.1 (v + 2) : Int) = 31 ∧ s.2.1 (v + 3) = 16 ∧ (s.2.2.1 (v + 3) : Int) = 16) ∧ (∀ j : Int, 0 ≤ j → j < i → s.1 (v + 3) j = some (v + 4 + 3 * j) ∧ isValve s (v + 4 + 3 * j)) ∧ ((s.2.2.2 : Nat) : Int) = v + 4 + 3 * i ∧ ∀ b : Int, b < v → Ag s0 s b
set_option maxRecDepth 20000 in
set_option maxHeartbeats 2000000 in
theorem l_iV (hz : Zr gi gl (v + 1)) (s0 : gSh) : ∀ (n : Nat) (i : Int) (s : gSh), i + n = 16 → 0 ≤ i → VF s0 s v i → Go mdX7_init (3 * n) (65 * n) 31 [some (vR v), some (vI i)] [] gi gl s (NX gi gl s0 v (v + 52) (fun s => isVerd s v)) := by
  intro n
  induction n with
  | zero =>
    intro i s h1 h2 h
    obtain ⟨⟨k0, r0, r1, r2, k1, l1, k2, l2, k3, l3⟩, hs, hn, ha⟩ := h
    refine g_iload_n dX7_init_31 rfl ?_
    refine g_aload_n dX7_init_32 rfl ?_
    refine g_getR 2 dX7_init_33 flX7_21 rfl (by assumption) (by assumption) ?_
    refine g_alen _ dX7_init_36 (by omega) (by assumption) (by decide) ?_
    refine g_icmp_ge 59 dX7_init_37 (by decide) (fun h37 => ?_) (fun h37 => ?_)
    · skip
      refine g_return dX7_init_59 rfl ?_
      exact ⟨rfl, rfl, rfl, by rw [hn]; omega, ha, k0, r0, r1, r2, k1, l1, k2, l2, k3, l3, fun j j0 j1 => hs j j0 (by omega)⟩
    · exfalso; omega
  | succ n ih =>
    intro i s h1 h2 h
    obtain ⟨⟨k0, r0, r1, r2, k1, l1, k2, l2, k3, l3⟩, hs, hn, ha⟩ := h
    refine g_iload_n dX7_init_31 rfl ?_
    refine g_aload_n dX7_init_32 rfl ?_
    refine g_getR 2 dX7_init_33 flX7_21 rfl (by assumption) (by assumption) ?_
    refine g_alen _ dX7_init_36 (by omega) (by assumption) (by decide) ?_
    refine g_icmp_ge 59 dX7_init_37 (by decide) (fun h37 => ?_) (fun h37 => ?_)
    · exfalso; omega
    · skip
      refine g_aload_n dX7_init_40 rfl ?_
      refine g_getR 2 dX7_init_41 flX7_21 rfl (by assumption) (by assumption) ?_
      refine g_iload_n dX7_init_44 rfl ?_
      refine Go.wk (mc := 3 * n + 2 + 1) (ms := 65 * n + 62 + g_nf 6) (by omega) (by show 65 * n + 62 + 3 ≤ _; omega) ?_
      refine g_new 6 dX7_init_45 clX7_19 (by decide) ?_
      rw [hn, alz (hz (v + 4 + 3 * i) (by omega)).1, alz (hz (v + 4 + 3 * i) (by omega)).2]
      have f1 := nsh_k (s := s) (κ := 6) (len := 0) hn
      have f2 : ∀ b : Int, b ≠ v + 4 + 3 * i → Ag s (g_nsh s 6 0) b := fun b hb => Ag.nsh (by rw [hn]; exact hb)
      generalize g_nsh s 6 0 = s1 at f1 f2 ⊢
      refine g_dup dX7_init_48 (fun _ h9 => by cases h9) ?_
      refine g_callIN [] dX7_init_49 mnX7_25 miX6_init (by decide) rfl rfl (Nat.le_of_ble_eq_true rfl) rfl (Nat.le_of_ble_eq_true rfl) (c_iValve (a := v + 4 + 3 * i) f1.1 f1.2.2 (fun b hb => hz b (by omega))) (fun _ _ _ _ q => q.1) (fun g1 gl1 s2 q w1 w2 => ?_)
      obtain ⟨-, q2, q3, q4, q5, q6⟩ := q
      subst q2 q3
      have a2 : ∀ b : Int, b < v + 4 + 3 * i → Ag s s2 b := fun b hb => (f2 b (by omega)).tr (q5 b hb)
      refine g_aastore (κ := 16) dX7_init_52 (by rw [(a2 (v + 3) (by omega)).2.1]; exact k3) (by decide) (by decide) q6.1 (by omega) (by rw [(a2 (v + 3) (by omega)).2.2, l3]; omega) ?_
      refine n_iinc (lN := [_, some (vI (i + 1))]) dX7_init_53 rfl (by decide) (by omega) (by omega) rfl ?_
      refine g_goto 31 dX7_init_56 (by decide) ?_
      have a3 : ∀ b : Int, b ≠ v + 3 → Ag s2 (g_up s2.1 (v + 3) i (some (v + 4 + 3 * i)), s2.2) b := fun b hb => Ag.up hb
      have e0 := a2 v (by omega)
      have e1 := a2 (v + 1) (by omega)
      have e2 := a2 (v + 2) (by omega)
      have e3 := a2 (v + 3) (by omega)
      have eu := (a3 v (by omega)).1
      refine ih (i + 1) _ (by omega) (by omega) ⟨⟨e0.2.1.trans k0, ?_, ?_, ?_, e1.2.1.trans k1, by show (s2.2.2.1 (v + 1) : Int) = 31; rw [e1.2.2]; exact l1, e2.2.1.trans k2, by show (s2.2.2.1 (v + 2) : Int) = 31; rw [e2.2.2]; exact l2, e3.2.1.trans k3, by show (s2.2.2.1 (v + 3) : Int) = 16; rw [e3.2.2]; exact l3⟩, fun j j0 j1 => ⟨?_, ?_⟩, ?_, fun b hb => ((ha b hb).tr (a2 b (by omega))).tr (a3 b (by omega))⟩
      · rw [eu, e0.1]; exact r0
      · rw [eu, e0.1]; exact r1
      · rw [eu, e0.1]; exact r2
      · show g_up s2.1 (v + 3) i (some (v + 4 + 3 * i)) (v + 3) j = some (v + 4 + 3 * j)
        by_cases e : j = i
        · rw [e, g_up_at]
        · rw [g_up_ne e, e3.1]; exact (hs j j0 (by omega)).1
      · by_cases e : j = i
        · rw [e]; exact q6.ag (fun b b0 b1 => a3 b (by omega))
        · exact (hs j j0 (by omega)).2.ag (fun b b0 b1 => (a2 b (by omega)).tr (a3 b (by omega)))
      · show ((s2.2.2.2 : Nat) : Int) = _; rw [q4]; omega
set_option maxRecDepth 20000 in
set_option maxHeartbeats 2000000 in
theorem c_iVerd (hk : sh.2.1 v = 7) (hn : (sh.2.2.2 : Int) = v + 1) (hz : Zr gi gl (v + 1)) : Ct mdX7_init 51 1118 [vR v] gi gl sh (NX gi gl sh v (v + 52) (fun s => isVerd s v)) := by
  show Go mdX7_init 51 1118 0 [some (vR v), none] [] gi gl sh _
  obtain ⟨R, K, Ln, c⟩ := sh
  have hc : (c : Int) = v + 1 := hn
  have hc2 : ((c + 1 : Nat) : Int) = v + 2 := by omega
  have hc3 : ((c + 1 + 1 : Nat) : Int) = v + 3 := by omega
  have hk : K v = 7 := hk
  refine g_aload_n dX7_init_0 rfl ?_
  refine g_objInit dX7_init_1 mlX7_3 (Nat.le_of_ble_eq_true rfl) ?_
  refine g_aload_n dX7_init_4 rfl ?_
  refine g_bipush dX7_init_5 (by decide) (by decide) ?_
  refine Go.wk (mc := 50 + 1) (ms := 1087 + Int.toNat 31) (by decide) (by decide) ?_
  refine g_newI dX7_init_7 (by decide) (by decide) ?_
  dsimp only [g_nsh]
  rw [hc, alz (hz (v + 1) (by omega)).1, alz (hz (v + 1) (by omega)).2]
  refine g_putRF 0 dX7_init_9 flX7_9 rfl (by simp only [g_row]; (repeat rw [if_neg (by omega)]); exact hk) rfl rfl ?_
  refine g_aload_n dX7_init_12 rfl ?_
  refine g_bipush dX7_init_13 (by decide) (by decide) ?_
  refine Go.wk (mc := 49 + 1) (ms := 1056 + Int.toNat 31) (by decide) (by decide) ?_
  refine g_newZ dX7_init_15 (by decide) (by decide) ?_
  dsimp only [g_nsh]
  rw [hc2, alz (hz (v + 2) (by omega)).1, alz (hz (v + 2) (by omega)).2]
  refine g_putRF 1 dX7_init_17 flX7_15 rfl (by simp only [g_row]; (repeat rw [if_neg (by omega)]); exact hk) rfl rfl ?_
  refine g_aload_n dX7_init_20 rfl ?_
  refine g_bipush dX7_init_21 (by decide) (by decide) ?_
  refine Go.wk (mc := 48 + 1) (ms := 1040 + Int.toNat 16) (by decide) (by decide) ?_
  refine g_anew 16 dX7_init_23 clX7_19 (by decide) (by decide) (by decide) (by decide) (by decide) ?_
  dsimp only [g_nsh]
  rw [hc3, alz (hz (v + 3) (by omega)).1, alz (hz (v + 3) (by omega)).2]
  refine g_putRF 2 dX7_init_26 flX7_21 rfl (by simp only [g_row]; (repeat rw [if_neg (by omega)]); exact hk) rfl rfl ?_
  refine g_iconst dX7_init_29 (by decide) ?_
  refine n_istore_n (lN := [_, _]) dX7_init_30 (by decide) rfl ?_
  refine l_iV hz (R, K, Ln, c) 16 0 _ (by omega) (Int.le_refl _) ⟨⟨?_, ?_, ?_, ?_, ?_, ?_, ?_, ?_, ?_, ?_⟩, fun j j0 j1 => by omega, by show ((c + 1 + 1 + 1 : Nat) : Int) = _; omega, fun b hb => ⟨?_, ?_, ?_⟩⟩
  all_goals (try dsimp only)
  all_goals (repeat (first | rw [g_up_at] | rw [g_up_ne (by decide)] | rw [g_up_row (by omega)] | rw [g_row_at] | rw [g_row_ne (by omega)]))
  all_goals first | done | rfl | exact hk
/-- a fold with the first i ended ones and the first j live ones -/
def FF (s0 s : gSh) (i j : Int) : Prop := (s.2.1 27 = 1 ∧ s.1 27 0 = some 28 ∧ s.1 27 1 = some 29 ∧ s.1 27 2 = some 30 ∧ s.1 27 3 = some 31) ∧ (s.2.1 28 = 14 ∧ (s.2.2.1 28 : Int) = 31 ∧ s.2.1 29 = 14 ∧ (s.2.2.1 29 : Int) = 16 ∧ (s.2.1 30 = 11 ∧ (s.2.2.1 30 : Int) = 16) ∧ s.2.1 31 = 11 ∧ (s.2.2.1 31 : Int) = 16) ∧ (∀ k : Int, 0 ≤ k → k < i → s.1 28 k = some (32 + k) ∧ s.2.1 (32 + k) = 0) ∧ (∀ k : Int, 0 ≤ k → k < j → s.1 29 k = some (63 + k) ∧ s.2.1 (63 + k) = 0) ∧ ∀ b : Int, b < 27 → Ag s0 s b
theorem FF.more {s0 s : gSh} {i j a x n : Int} (h : FF s0 s i j) (hn : ((s.2.2.2 : Nat) : Int) = n) (ha : a = 28 ∨ a = 29) (h63 : 32 + i ≤ n) (h79 : j = 0 ∨ 63 + j ≤ n) (i31 : 0 ≤ i ∧ i ≤ 31) (j31 : 0 ≤ j) (e : (a = 28 ∧ x = i ∧ n = 32 + i ∧ j = 0) ∨ (a = 29 ∧ x = j ∧ n = 63 + j ∧ i = 31)) : FF s0 (g_up (g_nsh s 0 0).1 a x (some n), (g_nsh s 0 0).2) (if a = 28 then i + 1 else i) (if a = 28 then j else j + 1) := by
  obtain ⟨h1, h2, h3, h4, h5⟩ := h
  have f1 := nsh_k (s := s) (κ := 0) (len := 0) hn
  have f2 : ∀ b : Int, b ≠ n → Ag s (g_nsh s 0 0) b := fun b hb => Ag.nsh (by rw [hn]; exact hb)
  generalize g_nsh s 0 0 = s1 at f1 f2 ⊢
  have a3 : ∀ b : Int, b ≠ a → Ag s1 (g_up s1.1 a x (some n), s1.2) b := fun b hb => Ag.up hb
  have hb0 : ∀ b : Int, b < 32 → b ≠ n := fun b hb => by omega
  have e27 := (f2 27 (by omega)).tr (a3 27 (by omega))
  have e28 := f2 28 (by omega)
  have e29 := f2 29 (by omega)
  have e30 := (f2 30 (by omega)).tr (a3 30 (by omega))
  have e31 := (f2 31 (by omega)).tr (a3 31 (by omega))
  refine ⟨?_, ?_, fun k k0 k1 => ⟨?_, ?_⟩, fun k k0 k1 => ⟨?_, ?_⟩, fun b hb => (h5 b hb).tr ((f2 b (by omega)).tr (a3 b (by omega)))⟩
  · rw [e27.1, e27.2.1]; exact h1
  · rw [e30.2.1, e30.2.2, e31.2.1, e31.2.2]
    show s1.2.1 28 = 14 ∧ (s1.2.2.1 28 : Int) = 31 ∧ s1.2.1 29 = 14 ∧ (s1.2.2.1 29 : Int) = 16 ∧ _
    rw [e28.2.1, e28.2.2, e29.2.1, e29.2.2]
    exact h2
  · show g_up s1.1 a x (some n) 28 k = _
    rcases e with e | e
    · rw [if_pos e.1] at k1
      rw [e.1]
      by_cases c : k = x
      · rw [c, g_up_at]; congr 1; omega
      · rw [g_up_ne c, e28.1]; exact (h3 k k0 (by omega)).1
    · rw [if_neg (by omega)] at k1
      rw [g_up_row (by omega), e28.1]; exact (h3 k k0 k1).1
  · show s1.2.1 (32 + k) = 0
    rcases e with e | e
    · rw [if_pos e.1] at k1
      by_cases c : k = x
      · rw [show 32 + k = n by omega]; exact f1.1
      · rw [(f2 (32 + k) (by omega)).2.1]; exact (h3 k k0 (by omega)).2
    · rw [if_neg (by omega)] at k1
      rw [(f2 (32 + k) (by omega)).2.1]; exact (h3 k k0 k1).2
  · show g_up s1.1 a x (some n) 29 k = _
    rcases e with e | e
    · rw [if_pos e.1] at k1
      omega
    · rw [if_neg (by omega)] at k1
      rw [e.1]
      by_cases c : k = x
      · rw [c, g_up_at]; congr 1; omega
      · rw [g_up_ne c, e29.1]; exact (h4 k k0 (by omega)).1
  · show s1.2.1 (63 + k) = 0
    rcases e with e | e
    · rw [if_pos e.1] at k1
      omega
    · rw [if_neg (by omega)] at k1
      by_cases c : k = x
      · rw [show 63 + k = n by omega]; exact f1.1
      · rw [(f2 (63 + k) (by omega)).2.1]; exact (h4 k k0 (by omega)).2

set_option maxRecDepth 20000 in
set_option maxHeartbeats 2000000 in
theorem l_iF2 (hz : Zr gi gl 28) (s0 : gSh) : ∀ (n : Nat) (j : Int) (s : gSh), j + n = 16 → 0 ≤ j → FF s0 s 31 j → ((s.2.2.2 : Nat) : Int) = 63 + j → Go mdX1_init n (8 * n) 70 [some (vR 27), some (vI j)] [] gi gl s (NX gi gl s0 27 79 (fun s => isFold s 30)) := by
  intro n
  induction n with
  | zero =>
    intro j s h1 h2 h hn
    obtain ⟨⟨k27, r0, r1, r2, r3⟩, ⟨k28, l28, k29, l29, h30, h31⟩, h3, h4, ha⟩ := id h
    refine g_iload_n dX1_init_70 rfl ?_
    refine g_aload_n dX1_init_71 rfl ?_
    refine g_getR 1 dX1_init_72 flX1_17 rfl (by assumption) (by assumption) ?_
    refine g_alen _ dX1_init_75 (by omega) (by assumption) (by decide) ?_
    refine g_icmp_ge 98 dX1_init_76 (by decide) (fun h76 => ?_) (fun h76 => ?_)
    · skip
      refine g_return dX1_init_98 rfl ?_
      exact ⟨rfl, rfl, rfl, by rw [hn]; omega, ha, k27, r0, r1, r2, r3, Or.inl rfl, k28, l28, k29, l29, h30, h31, h3, fun k k0 k1 => h4 k k0 (by omega)⟩
    · exfalso; omega
  | succ n ih =>
    intro j s h1 h2 h hn
    obtain ⟨⟨k27, r0, r1, r2, r3⟩, ⟨k28, l28, k29, l29, h30, h31⟩, h3, h4, ha⟩ := id h
    refine g_iload_n dX1_init_70 rfl ?_
    refine g_aload_n dX1_init_71 rfl ?_
    refine g_getR 1 dX1_init_72 flX1_17 rfl (by assumption) (by assumption) ?_
    refine g_alen _ dX1_init_75 (by omega) (by assumption) (by decide) ?_
    refine g_icmp_ge 98 dX1_init_76 (by decide) (fun h76 => ?_) (fun h76 => ?_)
    · exfalso; omega
    · skip
      refine g_aload_n dX1_init_79 rfl ?_
      refine g_getR 1 dX1_init_80 flX1_17 rfl (by assumption) (by assumption) ?_
      refine g_iload_n dX1_init_83 rfl ?_
      refine Go.wk (mc := n + 1) (ms := 8 * n + g_nf 0) (by omega) (by show 8 * n + 8 ≤ _; omega) ?_
      refine g_new 0 dX1_init_84 clX1_9 (by decide) ?_
      rw [hn, alz (hz (63 + j) (by omega)).1, alz (hz (63 + j) (by omega)).2]
      refine g_dup dX1_init_87 (fun _ h9 => by cases h9) ?_
      refine Go.wk (mc := n + 0) (ms := 8 * n + 0) (by omega) (by omega) ?_
      refine g_cIN [] dX1_init_88 mnX1_27 miX0_init (by decide) rfl rfl (Nat.le_of_ble_eq_true rfl) rfl (Nat.le_of_ble_eq_true rfl) (c_iBlob) ?_
      have f1 := nsh_k (s := s) (κ := 0) (len := 0) hn
      have f2 : Ag s (g_nsh s 0 0) 29 := Ag.nsh (by rw [hn]; omega)
      refine g_aastore (κ := 14) dX1_init_91 (by rw [f2.2.1]; exact k29) (by decide) (by decide) f1.1 (by omega) (by rw [f2.2.2, l29]; omega) ?_
      refine n_iinc (lN := [_, some (vI (j + 1))]) dX1_init_92 rfl (by decide) (by omega) (by omega) rfl ?_
      refine g_goto 70 dX1_init_95 (by decide) ?_
      have hm := FF.more (a := 29) (x := j) (n := 63 + j) h hn (by omega) (by omega) (by omega) (by omega) (by omega) (by omega)
      rw [if_neg (by decide), if_neg (by decide)] at hm
      refine ih (j + 1) _ (by omega) (by omega) hm ?_
      show (((g_nsh s 0 0).2.2.2 : Nat) : Int) = _
      rw [f1.2.2]; omega
set_option maxRecDepth 20000 in
set_option maxHeartbeats 2000000 in
theorem l_iF1 (hz : Zr gi gl 28) (s0 : gSh) : ∀ (n : Nat) (i : Int) (s : gSh), i + n = 31 → 0 ≤ i → FF s0 s i 0 → ((s.2.2.2 : Nat) : Int) = 32 + i → Go mdX1_init (n + 16) (8 * n + 128) 40 [some (vR 27), some (vI i)] [] gi gl s (NX gi gl s0 27 79 (fun s => isFold s 30)) := by
  intro n
  induction n with
  | zero =>
    intro i s h1 h2 h hn
    obtain ⟨⟨k27, r0, r1, r2, r3⟩, ⟨k28, l28, k29, l29, h30, h31⟩, h3, h4, ha⟩ := id h
    have hi : i = 31 := by omega
    subst hi
    refine Go.wk (mc := 16) (ms := 8 * 16) (by omega) (by omega) ?_
    refine g_iload_n dX1_init_40 rfl ?_
    refine g_aload_n dX1_init_41 rfl ?_
    refine g_getR 0 dX1_init_42 flX1_11 rfl (by assumption) (by assumption) ?_
    refine g_alen _ dX1_init_45 (by omega) (by assumption) (by decide) ?_
    refine g_icmp_ge 68 dX1_init_46 (by decide) (fun h46 => ?_) (fun h46 => ?_)
    · skip
      refine g_iconst dX1_init_68 (by decide) ?_
      refine n_istore_n (lN := [_, _]) dX1_init_69 (by decide) rfl ?_
      exact l_iF2 hz s0 16 0 s (by omega) (Int.le_refl _) h (by rw [hn]; rfl)
    · exfalso; omega
  | succ n ih =>
    intro i s h1 h2 h hn
    obtain ⟨⟨k27, r0, r1, r2, r3⟩, ⟨k28, l28, k29, l29, h30, h31⟩, h3, h4, ha⟩ := id h
    refine g_iload_n dX1_init_40 rfl ?_
    refine g_aload_n dX1_init_41 rfl ?_
    refine g_getR 0 dX1_init_42 flX1_11 rfl (by assumption) (by assumption) ?_
    refine g_alen _ dX1_init_45 (by omega) (by assumption) (by decide) ?_
    refine g_icmp_ge 68 dX1_init_46 (by decide) (fun h46 => ?_) (fun h46 => ?_)
    · exfalso; omega
    · skip
      refine g_aload_n dX1_init_49 rfl ?_
      refine g_getR 0 dX1_init_50 flX1_11 rfl (by assumption) (by assumption) ?_
      refine g_iload_n dX1_init_53 rfl ?_
      refine Go.wk (mc := n + 16 + 1) (ms := 8 * n + 128 + g_nf 0) (by omega) (by show 8 * n + 128 + 8 ≤ _; omega) ?_
      refine g_new 0 dX1_init_54 clX1_9 (by decide) ?_
      rw [hn, alz (hz (32 + i) (by omega)).1, alz (hz (32 + i) (by omega)).2]
      refine g_dup dX1_init_57 (fun _ h9 => by cases h9) ?_
      refine Go.wk (mc := n + 16 + 0) (ms := 8 * n + 128 + 0) (by omega) (by omega) ?_
      refine g_cIN [] dX1_init_58 mnX1_27 miX0_init (by decide) rfl rfl (Nat.le_of_ble_eq_true rfl) rfl (Nat.le_of_ble_eq_true rfl) (c_iBlob) ?_
      have f1 := nsh_k (s := s) (κ := 0) (len := 0) hn
      have f2 : Ag s (g_nsh s 0 0) 28 := Ag.nsh (by rw [hn]; omega)
      refine g_aastore (κ := 14) dX1_init_61 (by rw [f2.2.1]; exact k28) (by decide) (by decide) f1.1 (by omega) (by rw [f2.2.2, l28]; omega) ?_
      refine n_iinc (lN := [_, some (vI (i + 1))]) dX1_init_62 rfl (by decide) (by omega) (by omega) rfl ?_
      refine g_goto 40 dX1_init_65 (by decide) ?_
      have hm := FF.more (a := 28) (x := i) (n := 32 + i) h hn (by omega) (by omega) (by omega) (by omega) (by omega) (by omega)
      rw [if_pos rfl, if_pos rfl] at hm
      refine ih (i + 1) _ (by omega) (by omega) hm ?_
      show (((g_nsh s 0 0).2.2.2 : Nat) : Int) = _
      rw [f1.2.2]; omega
set_option maxRecDepth 20000 in
set_option maxHeartbeats 2000000 in
theorem c_iFold (hk : sh.2.1 27 = 1) (hn : (sh.2.2.2 : Int) = 28) (hz : Zr gi gl 28) : Ct mdX1_init 51 455 [vR 27] gi gl sh (NX gi gl sh 27 79 (fun s => isFold s 30)) := by
  show Go mdX1_init 51 455 0 [some (vR 27), none] [] gi gl sh _
  obtain ⟨R, K, Ln, c⟩ := sh
  have hc : (c : Int) = 28 := hn
  have hc2 : ((c + 1 : Nat) : Int) = 29 := by omega
  have hc3 : ((c + 1 + 1 : Nat) : Int) = 30 := by omega
  have hc4 : ((c + 1 + 1 + 1 : Nat) : Int) = 31 := by omega
  have hk : K 27 = 1 := hk
  refine g_aload_n dX1_init_0 rfl ?_
  refine g_objInit dX1_init_1 mlX1_3 (Nat.le_of_ble_eq_true rfl) ?_
  refine g_aload_n dX1_init_4 rfl ?_
  refine g_bipush dX1_init_5 (by decide) (by decide) ?_
  refine Go.wk (mc := 50 + 1) (ms := 424 + Int.toNat 31) (by decide) (by decide) ?_
  refine g_anew 14 dX1_init_7 clX1_9 (by decide) (by decide) (by decide) (by decide) (by decide) ?_
  dsimp only [g_nsh]
  rw [hc, alz (hz 28 (by omega)).1, alz (hz 28 (by omega)).2]
  refine g_putRF 0 dX1_init_10 flX1_11 rfl (by simp only [g_row]; (repeat rw [if_neg (by omega)]); exact hk) rfl rfl ?_
  refine g_aload_n dX1_init_13 rfl ?_
  refine g_bipush dX1_init_14 (by decide) (by decide) ?_
  refine Go.wk (mc := 49 + 1) (ms := 408 + Int.toNat 16) (by decide) (by decide) ?_
  refine g_anew 14 dX1_init_16 clX1_9 (by decide) (by decide) (by decide) (by decide) (by decide) ?_
  dsimp only [g_nsh]
  rw [hc2, alz (hz 29 (by omega)).1, alz (hz 29 (by omega)).2]
  refine g_putRF 1 dX1_init_19 flX1_17 rfl (by simp only [g_row]; (repeat rw [if_neg (by omega)]); exact hk) rfl rfl ?_
  refine g_aload_n dX1_init_22 rfl ?_
  refine g_bipush dX1_init_23 (by decide) (by decide) ?_
  refine Go.wk (mc := 48 + 1) (ms := 392 + Int.toNat 16) (by decide) (by decide) ?_
  refine g_newI dX1_init_25 (by decide) (by decide) ?_
  dsimp only [g_nsh]
  rw [hc3, alz (hz 30 (by omega)).1, alz (hz 30 (by omega)).2]
  refine g_putR 2 dX1_init_27 flX1_20 rfl (by simp only [g_row]; (repeat rw [if_neg (by omega)]); exact hk) ?_
  refine g_aload_n dX1_init_30 rfl ?_
  refine g_bipush dX1_init_31 (by decide) (by decide) ?_
  refine Go.wk (mc := 47 + 1) (ms := 376 + Int.toNat 16) (by decide) (by decide) ?_
  refine g_newI dX1_init_33 (by decide) (by decide) ?_
  dsimp only [g_nsh]
  rw [hc4, alz (hz 31 (by omega)).1, alz (hz 31 (by omega)).2]
  refine g_putR 3 dX1_init_35 flX1_24 rfl (by simp only [g_row]; (repeat rw [if_neg (by omega)]); exact hk) ?_
  refine g_iconst dX1_init_38 (by decide) ?_
  refine n_istore_n (lN := [_, _]) dX1_init_39 (by decide) rfl ?_
  refine l_iF1 hz (R, K, Ln, c) 31 0 _ (by omega) (Int.le_refl _) ⟨⟨?_, ?_, ?_, ?_, ?_⟩, ⟨?_, ?_, ?_, ?_, ⟨?_, ?_⟩, ?_, ?_⟩, fun j j0 j1 => by omega, fun j j0 j1 => by omega, fun b hb => ⟨?_, ?_, ?_⟩⟩ (by show ((c + 1 + 1 + 1 + 1 : Nat) : Int) = _; omega)
  all_goals (try dsimp only)
  all_goals (repeat (first | rw [g_up_at] | rw [g_up_ne (by decide)] | rw [g_up_row (by omega)] | rw [g_row_at] | rw [g_row_ne (by omega)]))
  all_goals first | done | rfl | exact hk
end INIT2
