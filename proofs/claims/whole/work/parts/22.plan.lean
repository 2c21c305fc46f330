/-! Plan: kinds at a+1, numbers at a+2; ruleCount 2, width 3, valveCount 4, fall 5, ahead 6, behind 7, darkFrom 8, rest 9 -/
def isPlan (sh : gSh) (a : Int) : Prop := sh.2.1 a = 3 ∧ sh.1 a 0 = some (a + 1) ∧ sh.1 a 1 = some (a + 2) ∧ sh.2.1 (a + 1) = 11 ∧ (sh.2.2.1 (a + 1) : Int) = 4 ∧ sh.2.1 (a + 2) = 11 ∧ (sh.2.2.1 (a + 2) : Int) = 4
def pn_reset (gi : gF) (a : Int) : gF := g_up (g_up (g_up (g_up (g_up (g_up (g_up (g_up gi a 2 0) a 3 8) a 4 4) a 5 6) a 6 1) a 7 1) a 8 7) a 9 2
def pn_add (gi : gF) (a k n : Int) : gF := g_up (g_up (g_up gi (a + 1) (gi a 2) k) (a + 2) (gi a 2) n) a 2 (gi a 2 + 1)
def pn_grid (gi : gF) (a w v f h b : Int) : gF := g_up (g_up (g_up (g_up (g_up gi a 3 w) a 4 v) a 5 f) a 6 h) a 7 b
def pn_gok (w v f h b : Int) : Prop := (4 ≤ w ∧ w ≤ 16) ∧ (1 ≤ v ∧ w % v = 0) ∧ (0 ≤ f ∧ f ≤ 20) ∧ (0 ≤ h ∧ h ≤ 5) ∧ (0 ≤ b ∧ b ≤ 5)
theorem p10_b : ∀ n : Nat, n ≤ 16 → (1 : Int) ≤ 10 ^ n ∧ (10 : Int) ^ n ≤ 10000000000000000 := by decide
section PLAN
variable {gi gl gi1 : gF} {sh : gSh} {a b : Int}
set_option maxRecDepth 20000 in
set_option maxHeartbeats 1000000 in
theorem c_reset (hk : sh.2.1 a = 3) : Ct mdX3_reset 0 0 [vR a] gi gl sh (Rt none (pn_reset gi a) gl sh) := by
  show Go mdX3_reset 0 0 0 [some (vR a)] [] gi gl sh _
  refine g_aload_n dX3_reset_0 rfl ?_
  refine g_iconst dX3_reset_1 (by decide) ?_
  refine g_putI 2 dX3_reset_2 flX3_21 rfl (by assumption) ?_
  refine g_aload_n dX3_reset_5 rfl ?_
  refine g_bipush dX3_reset_6 (by decide) (by decide) ?_
  refine g_putI 3 dX3_reset_8 flX3_25 rfl (by assumption) ?_
  refine g_aload_n dX3_reset_11 rfl ?_
  refine g_iconst dX3_reset_12 (by decide) ?_
  refine g_putI 4 dX3_reset_13 flX3_28 rfl (by assumption) ?_
  refine g_aload_n dX3_reset_16 rfl ?_
  refine g_bipush dX3_reset_17 (by decide) (by decide) ?_
  refine g_putI 5 dX3_reset_19 flX3_31 rfl (by assumption) ?_
  refine g_aload_n dX3_reset_22 rfl ?_
  refine g_iconst dX3_reset_23 (by decide) ?_
  refine g_putI 6 dX3_reset_24 flX3_34 rfl (by assumption) ?_
  refine g_aload_n dX3_reset_27 rfl ?_
  refine g_iconst dX3_reset_28 (by decide) ?_
  refine g_putI 7 dX3_reset_29 flX3_37 rfl (by assumption) ?_
  refine g_aload_n dX3_reset_32 rfl ?_
  refine g_bipush dX3_reset_33 (by decide) (by decide) ?_
  refine g_putI 8 dX3_reset_35 flX3_40 rfl (by assumption) ?_
  refine g_aload_n dX3_reset_38 rfl ?_
  refine g_iconst dX3_reset_39 (by decide) ?_
  refine g_putI 9 dX3_reset_40 flX3_43 rfl (by assumption) ?_
  refine g_return dX3_reset_43 rfl ?_
  exact ⟨rfl, rfl, rfl, rfl⟩

set_option maxRecDepth 20000 in
set_option maxHeartbeats 1000000 in
theorem c_isBetween (v lo hi z : Int) (h1 : lo ≤ v ∧ v ≤ hi → z = 1) (h0 : ¬ (lo ≤ v ∧ v ≤ hi) → z = 0) : Ct mdX3_isBetween 0 0 [vI v, vI lo, vI hi] gi gl sh (Rt (some (vI z)) gi gl sh) := by
  show Go mdX3_isBetween 0 0 0 [some (vI v), some (vI lo), some (vI hi)] [] gi gl sh _
  refine g_iload_n dX3_isBetween_0 rfl ?_
  refine g_iload_n dX3_isBetween_1 rfl ?_
  refine g_icmp_lt 14 dX3_isBetween_2 (by decide) (fun h2 => ?_) (fun h2 => ?_)
  · skip
    refine g_iconst dX3_isBetween_14 (by decide) ?_
    refine g_zreturn dX3_isBetween_15 rfl (by omega) ?_
    exact ⟨by first | (rw [h1 (by omega)]; done) | (rw [h0 (by omega)]; done), rfl, rfl, rfl⟩
  · skip
    refine g_iload_n dX3_isBetween_5 rfl ?_
    refine g_iload_n dX3_isBetween_6 rfl ?_
    refine g_icmp_gt 14 dX3_isBetween_7 (by decide) (fun h7 => ?_) (fun h7 => ?_)
    · skip
      refine g_iconst dX3_isBetween_14 (by decide) ?_
      refine g_zreturn dX3_isBetween_15 rfl (by omega) ?_
      exact ⟨by first | (rw [h1 (by omega)]; done) | (rw [h0 (by omega)]; done), rfl, rfl, rfl⟩
    · skip
      refine g_iconst dX3_isBetween_10 (by decide) ?_
      refine g_goto 15 dX3_isBetween_11 (by decide) ?_
      refine g_zreturn dX3_isBetween_15 rfl (by omega) ?_
      exact ⟨by first | (rw [h1 (by omega)]; done) | (rw [h0 (by omega)]; done), rfl, rfl, rfl⟩

set_option maxRecDepth 20000 in
set_option maxHeartbeats 1000000 in
theorem c_addRule1 (hV : isPlan sh a) (k n : Int) (hr : 0 ≤ gi a 2 ∧ gi a 2 < 4) (hk : 0 ≤ k ∧ k ≤ 3) (hn : 1 ≤ n ∧ n ≤ 99) : Ct mdX3_addRule 0 0 [vR a, vI k, vI n] gi gl sh (Rt (some (vI 1)) (pn_add gi a k n) gl sh) := by
  show Go mdX3_addRule 0 0 0 [some (vR a), some (vI k), some (vI n)] [] gi gl sh _
  obtain ⟨k0, r0, r1, k1, l1, k2, l2⟩ := id hV
  have e1 : a ≠ a + 1 := by omega
  have e2 : a ≠ a + 2 := by omega
  refine g_aload_n dX3_addRule_0 rfl ?_
  refine g_getI 2 dX3_addRule_1 flX3_21 rfl (by assumption) ?_
  refine g_iconst dX3_addRule_4 (by decide) ?_
  refine g_icmp_ge 27 dX3_addRule_5 (by decide) (fun h5 => ?_) (fun h5 => ?_)
  · exfalso; omega
  · skip
    refine g_iload_n dX3_addRule_8 rfl ?_
    refine g_iconst dX3_addRule_9 (by decide) ?_
    refine g_iconst dX3_addRule_10 (by decide) ?_
    refine g_cSi [_, _, _] dX3_addRule_11 mlX3_61 msX3_isBetween (by decide) rfl rfl (Nat.le_of_ble_eq_true rfl) rfl (Nat.le_of_ble_eq_true rfl) (c_isBetween k 0 3 1 (fun _ => rfl) (fun h => by omega)) ?_
    refine g_if_eq 27 dX3_addRule_14 (by decide) (fun h14 => ?_) (fun h14 => ?_)
    · exfalso; omega
    · skip
      refine g_iload_n dX3_addRule_17 rfl ?_
      refine g_iconst dX3_addRule_18 (by decide) ?_
      refine g_bipush dX3_addRule_19 (by decide) (by decide) ?_
      refine g_cSi [_, _, _] dX3_addRule_21 mlX3_61 msX3_isBetween (by decide) rfl rfl (Nat.le_of_ble_eq_true rfl) rfl (Nat.le_of_ble_eq_true rfl) (c_isBetween n 1 99 1 (fun _ => rfl) (fun h => by omega)) ?_
      refine g_if_ne 29 dX3_addRule_24 (by decide) (fun h24 => ?_) (fun h24 => ?_)
      · skip
        refine g_aload_n dX3_addRule_29 rfl ?_
        refine g_getR 0 dX3_addRule_30 flX3_9 rfl (by assumption) (by assumption) ?_
        refine g_aload_n dX3_addRule_33 rfl ?_
        refine g_getI 2 dX3_addRule_34 flX3_21 rfl (by assumption) ?_
        refine g_iload_n dX3_addRule_37 rfl ?_
        refine g_iastore dX3_addRule_38 (by assumption) (by omega) (by omega) ?_
        refine g_aload_n dX3_addRule_39 rfl ?_
        refine g_getR 1 dX3_addRule_40 flX3_15 rfl (by assumption) (by assumption) ?_
        refine g_aload_n dX3_addRule_43 rfl ?_
        refine g_getI 2 dX3_addRule_44 flX3_21 rfl (by assumption) ?_
        refine g_iload_n dX3_addRule_47 rfl ?_
        refine g_iastore dX3_addRule_48 (by assumption) (by simp only [g_up_row e1] <;> omega) (by simp only [g_up_row e1] <;> omega) ?_
        refine g_aload_n dX3_addRule_49 rfl ?_
        refine g_dup dX3_addRule_50 (fun _ h9 => by cases h9) ?_
        refine g_getI 2 dX3_addRule_51 flX3_21 rfl (by assumption) ?_
        refine g_iconst dX3_addRule_54 (by decide) ?_
        refine g_iadd dX3_addRule_55 (by simp only [g_up_row e1, g_up_row e2] <;> omega) (by simp only [g_up_row e1, g_up_row e2] <;> omega) ?_
        refine g_putI 2 dX3_addRule_56 flX3_21 rfl (by assumption) ?_
        refine g_iconst dX3_addRule_59 (by decide) ?_
        refine g_zreturn dX3_addRule_60 rfl (by omega) ?_
        exact ⟨rfl, by simp only [g_up_row e1, g_up_row e2, pn_add], rfl, rfl⟩
      · exfalso; omega

set_option maxRecDepth 20000 in
set_option maxHeartbeats 1000000 in
theorem c_addRule0 (k n : Int) (hk0 : sh.2.1 a = 3) (h : ¬ (gi a 2 < 4 ∧ (0 ≤ k ∧ k ≤ 3) ∧ (1 ≤ n ∧ n ≤ 99))) : Ct mdX3_addRule 0 0 [vR a, vI k, vI n] gi gl sh (Rt (some (vI 0)) gi gl sh) := by
  show Go mdX3_addRule 0 0 0 [some (vR a), some (vI k), some (vI n)] [] gi gl sh _
  obtain ⟨z, hz1, hz0, -⟩ := z_ex (0 ≤ k ∧ k ≤ 3)
  obtain ⟨y, hy1, hy0, -⟩ := z_ex (1 ≤ n ∧ n ≤ 99)
  refine g_aload_n dX3_addRule_0 rfl ?_
  refine g_getI 2 dX3_addRule_1 flX3_21 rfl (by assumption) ?_
  refine g_iconst dX3_addRule_4 (by decide) ?_
  refine g_icmp_ge 27 dX3_addRule_5 (by decide) (fun h5 => ?_) (fun h5 => ?_)
  · skip
    refine g_iconst dX3_addRule_27 (by decide) ?_
    refine g_zreturn dX3_addRule_28 rfl (by omega) ?_
    exact ⟨rfl, rfl, rfl, rfl⟩
  · skip
    refine g_iload_n dX3_addRule_8 rfl ?_
    refine g_iconst dX3_addRule_9 (by decide) ?_
    refine g_iconst dX3_addRule_10 (by decide) ?_
    refine g_cSi [_, _, _] dX3_addRule_11 mlX3_61 msX3_isBetween (by decide) rfl rfl (Nat.le_of_ble_eq_true rfl) rfl (Nat.le_of_ble_eq_true rfl) (c_isBetween k 0 3 z hz1 hz0) ?_
    refine g_if_eq 27 dX3_addRule_14 (by decide) (fun h14 => ?_) (fun h14 => ?_)
    · skip
      refine g_iconst dX3_addRule_27 (by decide) ?_
      refine g_zreturn dX3_addRule_28 rfl (by omega) ?_
      exact ⟨rfl, rfl, rfl, rfl⟩
    · skip
      refine g_iload_n dX3_addRule_17 rfl ?_
      refine g_iconst dX3_addRule_18 (by decide) ?_
      refine g_bipush dX3_addRule_19 (by decide) (by decide) ?_
      refine g_cSi [_, _, _] dX3_addRule_21 mlX3_61 msX3_isBetween (by decide) rfl rfl (Nat.le_of_ble_eq_true rfl) rfl (Nat.le_of_ble_eq_true rfl) (c_isBetween n 1 99 y hy1 hy0) ?_
      refine g_if_ne 29 dX3_addRule_24 (by decide) (fun h24 => ?_) (fun h24 => ?_)
      · skip
        exfalso; omega
      · skip
        refine g_iconst dX3_addRule_27 (by decide) ?_
        refine g_zreturn dX3_addRule_28 rfl (by omega) ?_
        exact ⟨rfl, rfl, rfl, rfl⟩

set_option maxRecDepth 20000 in
set_option maxHeartbeats 1000000 in
theorem c_takeDark1 (v : Int) (hk : sh.2.1 a = 3) (h : 1 ≤ v ∧ v ≤ 9) : Ct mdX3_takeDark 0 0 [vR a, vI v] gi gl sh (Rt (some (vI 1)) (g_up gi a 8 v) gl sh) := by
  show Go mdX3_takeDark 0 0 0 [some (vR a), some (vI v)] [] gi gl sh _
  refine g_iload_n dX3_takeDark_0 rfl ?_
  refine g_iconst dX3_takeDark_1 (by decide) ?_
  refine g_bipush dX3_takeDark_2 (by decide) (by decide) ?_
  refine g_cSi [_, _, _] dX3_takeDark_4 mlX3_61 msX3_isBetween (by decide) rfl rfl (Nat.le_of_ble_eq_true rfl) rfl (Nat.le_of_ble_eq_true rfl) (c_isBetween v 1 9 1 (fun _ => rfl) (fun h => by omega)) ?_
  refine g_if_ne 12 dX3_takeDark_7 (by decide) (fun h7 => ?_) (fun h7 => ?_)
  · skip
    refine g_aload_n dX3_takeDark_12 rfl ?_
    refine g_iload_n dX3_takeDark_13 rfl ?_
    refine g_putI 8 dX3_takeDark_14 flX3_40 rfl (by assumption) ?_
    refine g_iconst dX3_takeDark_17 (by decide) ?_
    refine g_zreturn dX3_takeDark_18 rfl (by omega) ?_
    exact ⟨rfl, rfl, rfl, rfl⟩
  · exfalso; omega

set_option maxRecDepth 20000 in
set_option maxHeartbeats 1000000 in
theorem c_takeDark0 (v : Int) (hk : sh.2.1 a = 3) (h : ¬ (1 ≤ v ∧ v ≤ 9)) : Ct mdX3_takeDark 0 0 [vR a, vI v] gi gl sh (Rt (some (vI 0)) gi gl sh) := by
  show Go mdX3_takeDark 0 0 0 [some (vR a), some (vI v)] [] gi gl sh _
  refine g_iload_n dX3_takeDark_0 rfl ?_
  refine g_iconst dX3_takeDark_1 (by decide) ?_
  refine g_bipush dX3_takeDark_2 (by decide) (by decide) ?_
  refine g_cSi [_, _, _] dX3_takeDark_4 mlX3_61 msX3_isBetween (by decide) rfl rfl (Nat.le_of_ble_eq_true rfl) rfl (Nat.le_of_ble_eq_true rfl) (c_isBetween v 1 9 0 (fun q => absurd q h) (fun _ => rfl)) ?_
  refine g_if_ne 12 dX3_takeDark_7 (by decide) (fun h7 => ?_) (fun h7 => ?_)
  · exfalso; omega
  · skip
    refine g_iconst dX3_takeDark_10 (by decide) ?_
    refine g_zreturn dX3_takeDark_11 rfl (by omega) ?_
    exact ⟨rfl, rfl, rfl, rfl⟩

set_option maxRecDepth 20000 in
set_option maxHeartbeats 1000000 in
theorem c_takeRest1 (v : Int) (hk : sh.2.1 a = 3) (h : 0 ≤ v ∧ v ≤ 9) : Ct mdX3_takeRest 0 0 [vR a, vI v] gi gl sh (Rt (some (vI 1)) (g_up gi a 9 v) gl sh) := by
  show Go mdX3_takeRest 0 0 0 [some (vR a), some (vI v)] [] gi gl sh _
  refine g_iload_n dX3_takeRest_0 rfl ?_
  refine g_iconst dX3_takeRest_1 (by decide) ?_
  refine g_bipush dX3_takeRest_2 (by decide) (by decide) ?_
  refine g_cSi [_, _, _] dX3_takeRest_4 mlX3_61 msX3_isBetween (by decide) rfl rfl (Nat.le_of_ble_eq_true rfl) rfl (Nat.le_of_ble_eq_true rfl) (c_isBetween v 0 9 1 (fun _ => rfl) (fun h => by omega)) ?_
  refine g_if_ne 12 dX3_takeRest_7 (by decide) (fun h7 => ?_) (fun h7 => ?_)
  · skip
    refine g_aload_n dX3_takeRest_12 rfl ?_
    refine g_iload_n dX3_takeRest_13 rfl ?_
    refine g_putI 9 dX3_takeRest_14 flX3_43 rfl (by assumption) ?_
    refine g_iconst dX3_takeRest_17 (by decide) ?_
    refine g_zreturn dX3_takeRest_18 rfl (by omega) ?_
    exact ⟨rfl, rfl, rfl, rfl⟩
  · exfalso; omega

set_option maxRecDepth 20000 in
set_option maxHeartbeats 1000000 in
theorem c_takeRest0 (v : Int) (hk : sh.2.1 a = 3) (h : ¬ (0 ≤ v ∧ v ≤ 9)) : Ct mdX3_takeRest 0 0 [vR a, vI v] gi gl sh (Rt (some (vI 0)) gi gl sh) := by
  show Go mdX3_takeRest 0 0 0 [some (vR a), some (vI v)] [] gi gl sh _
  refine g_iload_n dX3_takeRest_0 rfl ?_
  refine g_iconst dX3_takeRest_1 (by decide) ?_
  refine g_bipush dX3_takeRest_2 (by decide) (by decide) ?_
  refine g_cSi [_, _, _] dX3_takeRest_4 mlX3_61 msX3_isBetween (by decide) rfl rfl (Nat.le_of_ble_eq_true rfl) rfl (Nat.le_of_ble_eq_true rfl) (c_isBetween v 0 9 0 (fun q => absurd q h) (fun _ => rfl)) ?_
  refine g_if_ne 12 dX3_takeRest_7 (by decide) (fun h7 => ?_) (fun h7 => ?_)
  · exfalso; omega
  · skip
    refine g_iconst dX3_takeRest_10 (by decide) ?_
    refine g_zreturn dX3_takeRest_11 rfl (by omega) ?_
    exact ⟨rfl, rfl, rfl, rfl⟩

set_option maxRecDepth 20000 in
set_option maxHeartbeats 1000000 in
theorem c_takeGrid1 (hk : sh.2.1 a = 3) (hb : sh.2.1 b = 11) (hl : (sh.2.2.1 b : Int) = 5) (hab : b ≠ a) (h : pn_gok (gi b 0) (gi b 1) (gi b 2) (gi b 3) (gi b 4)) : Ct mdX3_takeGrid 0 0 [vR a, vR b] gi gl sh (Rt (some (vI 1)) (pn_grid gi a (gi b 0) (gi b 1) (gi b 2) (gi b 3) (gi b 4)) gl sh) := by
  show Go mdX3_takeGrid 0 0 0 [some (vR a), some (vR b)] [] gi gl sh _
  obtain ⟨q0, q1, q2, q3, q4⟩ := h
  refine g_aload_n dX3_takeGrid_0 rfl ?_
  refine g_alen _ dX3_takeGrid_1 (by omega) (by assumption) (by decide) ?_
  refine g_iconst dX3_takeGrid_2 (by decide) ?_
  refine g_icmp_lt 18 dX3_takeGrid_3 (by decide) (fun h3 => ?_) (fun h3 => ?_)
  · exfalso; omega
  · skip
    refine g_aload_n dX3_takeGrid_6 rfl ?_
    refine g_iconst dX3_takeGrid_7 (by decide) ?_
    refine g_iaload dX3_takeGrid_8 (by assumption) (by omega) (by omega) ?_
    refine g_iconst dX3_takeGrid_9 (by decide) ?_
    refine g_bipush dX3_takeGrid_10 (by decide) (by decide) ?_
    refine g_cSi [_, _, _] dX3_takeGrid_12 mlX3_61 msX3_isBetween (by decide) rfl rfl (Nat.le_of_ble_eq_true rfl) rfl (Nat.le_of_ble_eq_true rfl) (c_isBetween _ 4 16 1 (fun _ => rfl) (fun h => absurd q0 h)) ?_
    refine g_if_ne 20 dX3_takeGrid_15 (by decide) (fun h15 => ?_) (fun h15 => ?_)
    · skip
      refine g_aload_n dX3_takeGrid_20 rfl ?_
      refine g_iconst dX3_takeGrid_21 (by decide) ?_
      refine g_iaload dX3_takeGrid_22 (by assumption) (by omega) (by omega) ?_
      refine g_iconst dX3_takeGrid_23 (by decide) ?_
      refine g_icmp_lt 37 dX3_takeGrid_24 (by decide) (fun h24 => ?_) (fun h24 => ?_)
      · exfalso; have := q1.1; clear q0 q2 q3 q4; omega
      · skip
        refine g_aload_n dX3_takeGrid_27 rfl ?_
        refine g_iconst dX3_takeGrid_28 (by decide) ?_
        refine g_iaload dX3_takeGrid_29 (by assumption) (by omega) (by omega) ?_
        refine g_aload_n dX3_takeGrid_30 rfl ?_
        refine g_iconst dX3_takeGrid_31 (by decide) ?_
        refine g_iaload dX3_takeGrid_32 (by assumption) (by omega) (by omega) ?_
        refine g_irem dX3_takeGrid_33 (by first | exact Int.le_trans (by decide) q0.1 | exact Int.lt_of_lt_of_le (by decide) q1.1) (by first | exact Int.le_trans (by decide) q0.1 | exact Int.lt_of_lt_of_le (by decide) q1.1) ?_
        refine g_if_eq 39 dX3_takeGrid_34 (by decide) (fun h34 => ?_) (fun h34 => ?_)
        · skip
          refine g_aload_n dX3_takeGrid_39 rfl ?_
          refine g_iconst dX3_takeGrid_40 (by decide) ?_
          refine g_iaload dX3_takeGrid_41 (by assumption) (by omega) (by omega) ?_
          refine g_iconst dX3_takeGrid_42 (by decide) ?_
          refine g_bipush dX3_takeGrid_43 (by decide) (by decide) ?_
          refine g_cSi [_, _, _] dX3_takeGrid_45 mlX3_61 msX3_isBetween (by decide) rfl rfl (Nat.le_of_ble_eq_true rfl) rfl (Nat.le_of_ble_eq_true rfl) (c_isBetween _ 0 20 1 (fun _ => rfl) (fun h => absurd q2 h)) ?_
          refine g_if_eq 73 dX3_takeGrid_48 (by decide) (fun h48 => ?_) (fun h48 => ?_)
          · exfalso; omega
          · skip
            refine g_aload_n dX3_takeGrid_51 rfl ?_
            refine g_iconst dX3_takeGrid_52 (by decide) ?_
            refine g_iaload dX3_takeGrid_53 (by assumption) (by omega) (by omega) ?_
            refine g_iconst dX3_takeGrid_54 (by decide) ?_
            refine g_iconst dX3_takeGrid_55 (by decide) ?_
            refine g_cSi [_, _, _] dX3_takeGrid_56 mlX3_61 msX3_isBetween (by decide) rfl rfl (Nat.le_of_ble_eq_true rfl) rfl (Nat.le_of_ble_eq_true rfl) (c_isBetween _ 0 5 1 (fun _ => rfl) (fun h => absurd q3 h)) ?_
            refine g_if_eq 73 dX3_takeGrid_59 (by decide) (fun h59 => ?_) (fun h59 => ?_)
            · exfalso; omega
            · skip
              refine g_aload_n dX3_takeGrid_62 rfl ?_
              refine g_iconst dX3_takeGrid_63 (by decide) ?_
              refine g_iaload dX3_takeGrid_64 (by assumption) (by omega) (by omega) ?_
              refine g_iconst dX3_takeGrid_65 (by decide) ?_
              refine g_iconst dX3_takeGrid_66 (by decide) ?_
              refine g_cSi [_, _, _] dX3_takeGrid_67 mlX3_61 msX3_isBetween (by decide) rfl rfl (Nat.le_of_ble_eq_true rfl) rfl (Nat.le_of_ble_eq_true rfl) (c_isBetween _ 0 5 1 (fun _ => rfl) (fun h => absurd q4 h)) ?_
              refine g_if_ne 75 dX3_takeGrid_70 (by decide) (fun h70 => ?_) (fun h70 => ?_)
              · skip
                refine g_aload_n dX3_takeGrid_75 rfl ?_
                refine g_aload_n dX3_takeGrid_76 rfl ?_
                refine g_iconst dX3_takeGrid_77 (by decide) ?_
                refine g_iaload dX3_takeGrid_78 (by assumption) (by omega) (by omega) ?_
                refine g_putI 3 dX3_takeGrid_79 flX3_25 rfl (by assumption) ?_
                refine g_aload_n dX3_takeGrid_82 rfl ?_
                refine g_aload_n dX3_takeGrid_83 rfl ?_
                refine g_iconst dX3_takeGrid_84 (by decide) ?_
                refine g_iaload dX3_takeGrid_85 (by assumption) (by omega) (by omega) ?_
                refine g_putI 4 dX3_takeGrid_86 flX3_28 rfl (by assumption) ?_
                refine g_aload_n dX3_takeGrid_89 rfl ?_
                refine g_aload_n dX3_takeGrid_90 rfl ?_
                refine g_iconst dX3_takeGrid_91 (by decide) ?_
                refine g_iaload dX3_takeGrid_92 (by assumption) (by omega) (by omega) ?_
                refine g_putI 5 dX3_takeGrid_93 flX3_31 rfl (by assumption) ?_
                refine g_aload_n dX3_takeGrid_96 rfl ?_
                refine g_aload_n dX3_takeGrid_97 rfl ?_
                refine g_iconst dX3_takeGrid_98 (by decide) ?_
                refine g_iaload dX3_takeGrid_99 (by assumption) (by omega) (by omega) ?_
                refine g_putI 6 dX3_takeGrid_100 flX3_34 rfl (by assumption) ?_
                refine g_aload_n dX3_takeGrid_103 rfl ?_
                refine g_aload_n dX3_takeGrid_104 rfl ?_
                refine g_iconst dX3_takeGrid_105 (by decide) ?_
                refine g_iaload dX3_takeGrid_106 (by assumption) (by omega) (by omega) ?_
                refine g_putI 7 dX3_takeGrid_107 flX3_37 rfl (by assumption) ?_
                refine g_iconst dX3_takeGrid_110 (by decide) ?_
                refine g_zreturn dX3_takeGrid_111 rfl (by omega) ?_
                exact ⟨rfl, by simp only [g_up_row hab, pn_grid], rfl, rfl⟩
              · exfalso; omega
        · exfalso; exact h34 q1.2
    · exfalso; omega

set_option maxRecDepth 20000 in
set_option maxHeartbeats 1000000 in
theorem c_takeGrid0 (hk : sh.2.1 a = 3) (hb : sh.2.1 b = 11) (hl : (sh.2.2.1 b : Int) = 5) (h0 : 0 ≤ gi b 0) (h : ¬ pn_gok (gi b 0) (gi b 1) (gi b 2) (gi b 3) (gi b 4)) : Ct mdX3_takeGrid 0 0 [vR a, vR b] gi gl sh (Rt (some (vI 0)) gi gl sh) := by
  show Go mdX3_takeGrid 0 0 0 [some (vR a), some (vR b)] [] gi gl sh _
  obtain ⟨z0, z1, z2, -⟩ := z_ex (4 ≤ gi b 0 ∧ gi b 0 ≤ 16)
  obtain ⟨y0, y1, y2, -⟩ := z_ex (0 ≤ gi b 2 ∧ gi b 2 ≤ 20)
  obtain ⟨x0, x1, x2, -⟩ := z_ex (0 ≤ gi b 3 ∧ gi b 3 ≤ 5)
  obtain ⟨w0, w1, w2, -⟩ := z_ex (0 ≤ gi b 4 ∧ gi b 4 ≤ 5)
  refine g_aload_n dX3_takeGrid_0 rfl ?_
  refine g_alen _ dX3_takeGrid_1 (by omega) (by assumption) (by decide) ?_
  refine g_iconst dX3_takeGrid_2 (by decide) ?_
  refine g_icmp_lt 18 dX3_takeGrid_3 (by decide) (fun h3 => ?_) (fun h3 => ?_)
  · exfalso; revert h3; decide
  · skip
    refine g_aload_n dX3_takeGrid_6 rfl ?_
    refine g_iconst dX3_takeGrid_7 (by decide) ?_
    refine g_iaload dX3_takeGrid_8 (by assumption) (by omega) (by omega) ?_
    refine g_iconst dX3_takeGrid_9 (by decide) ?_
    refine g_bipush dX3_takeGrid_10 (by decide) (by decide) ?_
    refine g_cSi [_, _, _] dX3_takeGrid_12 mlX3_61 msX3_isBetween (by decide) rfl rfl (Nat.le_of_ble_eq_true rfl) rfl (Nat.le_of_ble_eq_true rfl) (c_isBetween _ 4 16 z0 z1 z2) ?_
    refine g_if_ne 20 dX3_takeGrid_15 (by decide) (fun h15 => ?_) (fun h15 => ?_)
    · skip
      refine g_aload_n dX3_takeGrid_20 rfl ?_
      refine g_iconst dX3_takeGrid_21 (by decide) ?_
      refine g_iaload dX3_takeGrid_22 (by assumption) (by omega) (by omega) ?_
      refine g_iconst dX3_takeGrid_23 (by decide) ?_
      refine g_icmp_lt 37 dX3_takeGrid_24 (by decide) (fun h24 => ?_) (fun h24 => ?_)
      · skip
        refine g_iconst dX3_takeGrid_37 (by decide) ?_
        refine g_zreturn dX3_takeGrid_38 rfl (by omega) ?_
        exact ⟨rfl, rfl, rfl, rfl⟩
      · skip
        refine g_aload_n dX3_takeGrid_27 rfl ?_
        refine g_iconst dX3_takeGrid_28 (by decide) ?_
        refine g_iaload dX3_takeGrid_29 (by assumption) (by omega) (by omega) ?_
        refine g_aload_n dX3_takeGrid_30 rfl ?_
        refine g_iconst dX3_takeGrid_31 (by decide) ?_
        refine g_iaload dX3_takeGrid_32 (by assumption) (by omega) (by omega) ?_
        refine g_irem dX3_takeGrid_33 (by first | exact h0 | (clear z1 z2 y1 y2 x1 x2 w1 w2; omega)) (by first | exact h0 | (clear z1 z2 y1 y2 x1 x2 w1 w2; omega)) ?_
        refine g_if_eq 39 dX3_takeGrid_34 (by decide) (fun h34 => ?_) (fun h34 => ?_)
        · skip
          refine g_aload_n dX3_takeGrid_39 rfl ?_
          refine g_iconst dX3_takeGrid_40 (by decide) ?_
          refine g_iaload dX3_takeGrid_41 (by assumption) (by omega) (by omega) ?_
          refine g_iconst dX3_takeGrid_42 (by decide) ?_
          refine g_bipush dX3_takeGrid_43 (by decide) (by decide) ?_
          refine g_cSi [_, _, _] dX3_takeGrid_45 mlX3_61 msX3_isBetween (by decide) rfl rfl (Nat.le_of_ble_eq_true rfl) rfl (Nat.le_of_ble_eq_true rfl) (c_isBetween _ 0 20 y0 y1 y2) ?_
          refine g_if_eq 73 dX3_takeGrid_48 (by decide) (fun h48 => ?_) (fun h48 => ?_)
          · skip
            refine g_iconst dX3_takeGrid_73 (by decide) ?_
            refine g_zreturn dX3_takeGrid_74 rfl (by omega) ?_
            exact ⟨rfl, rfl, rfl, rfl⟩
          · skip
            refine g_aload_n dX3_takeGrid_51 rfl ?_
            refine g_iconst dX3_takeGrid_52 (by decide) ?_
            refine g_iaload dX3_takeGrid_53 (by assumption) (by omega) (by omega) ?_
            refine g_iconst dX3_takeGrid_54 (by decide) ?_
            refine g_iconst dX3_takeGrid_55 (by decide) ?_
            refine g_cSi [_, _, _] dX3_takeGrid_56 mlX3_61 msX3_isBetween (by decide) rfl rfl (Nat.le_of_ble_eq_true rfl) rfl (Nat.le_of_ble_eq_true rfl) (c_isBetween _ 0 5 x0 x1 x2) ?_
            refine g_if_eq 73 dX3_takeGrid_59 (by decide) (fun h59 => ?_) (fun h59 => ?_)
            · skip
              refine g_iconst dX3_takeGrid_73 (by decide) ?_
              refine g_zreturn dX3_takeGrid_74 rfl (by omega) ?_
              exact ⟨rfl, rfl, rfl, rfl⟩
            · skip
              refine g_aload_n dX3_takeGrid_62 rfl ?_
              refine g_iconst dX3_takeGrid_63 (by decide) ?_
              refine g_iaload dX3_takeGrid_64 (by assumption) (by omega) (by omega) ?_
              refine g_iconst dX3_takeGrid_65 (by decide) ?_
              refine g_iconst dX3_takeGrid_66 (by decide) ?_
              refine g_cSi [_, _, _] dX3_takeGrid_67 mlX3_61 msX3_isBetween (by decide) rfl rfl (Nat.le_of_ble_eq_true rfl) rfl (Nat.le_of_ble_eq_true rfl) (c_isBetween _ 0 5 w0 w1 w2) ?_
              refine g_if_ne 75 dX3_takeGrid_70 (by decide) (fun h70 => ?_) (fun h70 => ?_)
              · skip
                exfalso; exact h ⟨Classical.byContradiction (fun q => h15 (z2 q)), ⟨by clear z1 z2 y1 y2 x1 x2 w1 w2; omega, h34⟩, Classical.byContradiction (fun q => h48 (y2 q)), Classical.byContradiction (fun q => h59 (x2 q)), Classical.byContradiction (fun q => h70 (w2 q))⟩
              · skip
                refine g_iconst dX3_takeGrid_73 (by decide) ?_
                refine g_zreturn dX3_takeGrid_74 rfl (by omega) ?_
                exact ⟨rfl, rfl, rfl, rfl⟩
        · skip
          refine g_iconst dX3_takeGrid_37 (by decide) ?_
          refine g_zreturn dX3_takeGrid_38 rfl (by omega) ?_
          exact ⟨rfl, rfl, rfl, rfl⟩
    · skip
      refine g_iconst dX3_takeGrid_18 (by decide) ?_
      refine g_zreturn dX3_takeGrid_19 rfl (by omega) ?_
      exact ⟨rfl, rfl, rfl, rfl⟩

set_option maxRecDepth 20000 in
theorem c_takeItem_103 (hk : sh.2.1 a = 3) (hb : sh.2.1 b = 11) (hl : (sh.2.2.1 b : Int) = 5) (z : Int) (hz : z = 0 ∨ z = 1) (hG : Ct mdX3_takeGrid 0 0 [vR a, vR b] gi gl sh (Rt (some (vI z)) gi1 gl sh)) : Ct mdX3_takeItem 0 0 [vR a, vI 103, vR b] gi gl sh (Rt (some (vI z)) gi1 gl sh) := by
  show Go mdX3_takeItem 0 0 0 [some (vR a), some (vI 103), some (vR b)] [] gi gl sh _
  refine g_aload_n dX3_takeItem_0 rfl ?_
  refine g_alen _ dX3_takeItem_1 (by omega) (by assumption) (by decide) ?_
  refine g_iconst dX3_takeItem_2 (by decide) ?_
  refine g_icmp_ge 8 dX3_takeItem_3 (by decide) (fun h3 => ?_) (fun h3 => ?_)
  · skip
    refine g_iload_n dX3_takeItem_8 rfl ?_
    refine g_lookup (off := 43) 52 dX3_takeItem_9 (by decide) rfl (by decide) ?_
    refine g_aload_n dX3_takeItem_52 rfl ?_
    refine g_aload_n dX3_takeItem_53 rfl ?_
    refine g_cVi [_] dX3_takeItem_54 mlX3_46 mvX3_takeGrid (by decide) (by assumption) (by decide) rfl rfl (Nat.le_of_ble_eq_true rfl) rfl (Nat.le_of_ble_eq_true rfl) (hG) ?_
    refine g_zreturn dX3_takeItem_57 rfl (by omega) ?_
    exact ⟨rfl, rfl, rfl, rfl⟩
  · exfalso; omega
set_option maxRecDepth 20000 in
theorem c_takeItem_114 (hk : sh.2.1 a = 3) (hb : sh.2.1 b = 11) (hl : (sh.2.2.1 b : Int) = 5) (z : Int) (hz : z = 0 ∨ z = 1) (hG : Ct mdX3_addRule 0 0 [vR a, vI (gi b 0), vI (gi b 1)] gi gl sh (Rt (some (vI z)) gi1 gl sh)) : Ct mdX3_takeItem 0 0 [vR a, vI 114, vR b] gi gl sh (Rt (some (vI z)) gi1 gl sh) := by
  show Go mdX3_takeItem 0 0 0 [some (vR a), some (vI 114), some (vR b)] [] gi gl sh _
  refine g_aload_n dX3_takeItem_0 rfl ?_
  refine g_alen _ dX3_takeItem_1 (by omega) (by assumption) (by decide) ?_
  refine g_iconst dX3_takeItem_2 (by decide) ?_
  refine g_icmp_ge 8 dX3_takeItem_3 (by decide) (fun h3 => ?_) (fun h3 => ?_)
  · skip
    refine g_iload_n dX3_takeItem_8 rfl ?_
    refine g_lookup (off := 49) 58 dX3_takeItem_9 (by decide) rfl (by decide) ?_
    refine g_aload_n dX3_takeItem_58 rfl ?_
    refine g_aload_n dX3_takeItem_59 rfl ?_
    refine g_iconst dX3_takeItem_60 (by decide) ?_
    refine g_iaload dX3_takeItem_61 (by assumption) (by omega) (by omega) ?_
    refine g_aload_n dX3_takeItem_62 rfl ?_
    refine g_iconst dX3_takeItem_63 (by decide) ?_
    refine g_iaload dX3_takeItem_64 (by assumption) (by omega) (by omega) ?_
    refine g_cVi [_, _] dX3_takeItem_65 mlX3_50 mvX3_addRule (by decide) (by assumption) (by decide) rfl rfl (Nat.le_of_ble_eq_true rfl) rfl (Nat.le_of_ble_eq_true rfl) (hG) ?_
    refine g_zreturn dX3_takeItem_68 rfl (by omega) ?_
    exact ⟨rfl, rfl, rfl, rfl⟩
  · exfalso; omega
set_option maxRecDepth 20000 in
theorem c_takeItem_100 (hk : sh.2.1 a = 3) (hb : sh.2.1 b = 11) (hl : (sh.2.2.1 b : Int) = 5) (z : Int) (hz : z = 0 ∨ z = 1) (hG : Ct mdX3_takeDark 0 0 [vR a, vI (gi b 0)] gi gl sh (Rt (some (vI z)) gi1 gl sh)) : Ct mdX3_takeItem 0 0 [vR a, vI 100, vR b] gi gl sh (Rt (some (vI z)) gi1 gl sh) := by
  show Go mdX3_takeItem 0 0 0 [some (vR a), some (vI 100), some (vR b)] [] gi gl sh _
  refine g_aload_n dX3_takeItem_0 rfl ?_
  refine g_alen _ dX3_takeItem_1 (by omega) (by assumption) (by decide) ?_
  refine g_iconst dX3_takeItem_2 (by decide) ?_
  refine g_icmp_ge 8 dX3_takeItem_3 (by decide) (fun h3 => ?_) (fun h3 => ?_)
  · skip
    refine g_iload_n dX3_takeItem_8 rfl ?_
    refine g_lookup (off := 60) 69 dX3_takeItem_9 (by decide) rfl (by decide) ?_
    refine g_aload_n dX3_takeItem_69 rfl ?_
    refine g_aload_n dX3_takeItem_70 rfl ?_
    refine g_iconst dX3_takeItem_71 (by decide) ?_
    refine g_iaload dX3_takeItem_72 (by assumption) (by omega) (by omega) ?_
    refine g_cVi [_] dX3_takeItem_73 mlX3_54 mvX3_takeDark (by decide) (by assumption) (by decide) rfl rfl (Nat.le_of_ble_eq_true rfl) rfl (Nat.le_of_ble_eq_true rfl) (hG) ?_
    refine g_zreturn dX3_takeItem_76 rfl (by omega) ?_
    exact ⟨rfl, rfl, rfl, rfl⟩
  · exfalso; omega
set_option maxRecDepth 20000 in
theorem c_takeItem_113 (hk : sh.2.1 a = 3) (hb : sh.2.1 b = 11) (hl : (sh.2.2.1 b : Int) = 5) (z : Int) (hz : z = 0 ∨ z = 1) (hG : Ct mdX3_takeRest 0 0 [vR a, vI (gi b 0)] gi gl sh (Rt (some (vI z)) gi1 gl sh)) : Ct mdX3_takeItem 0 0 [vR a, vI 113, vR b] gi gl sh (Rt (some (vI z)) gi1 gl sh) := by
  show Go mdX3_takeItem 0 0 0 [some (vR a), some (vI 113), some (vR b)] [] gi gl sh _
  refine g_aload_n dX3_takeItem_0 rfl ?_
  refine g_alen _ dX3_takeItem_1 (by omega) (by assumption) (by decide) ?_
  refine g_iconst dX3_takeItem_2 (by decide) ?_
  refine g_icmp_ge 8 dX3_takeItem_3 (by decide) (fun h3 => ?_) (fun h3 => ?_)
  · skip
    refine g_iload_n dX3_takeItem_8 rfl ?_
    refine g_lookup (off := 68) 77 dX3_takeItem_9 (by decide) rfl (by decide) ?_
    refine g_aload_n dX3_takeItem_77 rfl ?_
    refine g_aload_n dX3_takeItem_78 rfl ?_
    refine g_iconst dX3_takeItem_79 (by decide) ?_
    refine g_iaload dX3_takeItem_80 (by assumption) (by omega) (by omega) ?_
    refine g_cVi [_] dX3_takeItem_81 mlX3_58 mvX3_takeRest (by decide) (by assumption) (by decide) rfl rfl (Nat.le_of_ble_eq_true rfl) rfl (Nat.le_of_ble_eq_true rfl) (hG) ?_
    refine g_zreturn dX3_takeItem_84 rfl (by omega) ?_
    exact ⟨rfl, rfl, rfl, rfl⟩
  · exfalso; omega
set_option maxRecDepth 20000 in
theorem l_lineBound (hk : sh.2.1 a = 3) (hw : 0 ≤ gi a 3 ∧ gi a 3 ≤ 16) : ∀ (n : Nat) (k x : Int), 0 ≤ k → k ≤ gi a 3 → gi a 3 - k = n → x = 10 ^ k.toNat → Go mdX3_lineBound 0 0 4 [some (vR a), some (vL x), none, some (vI k)] [] gi gl sh (Rt (some (vL (10 ^ (gi a 3).toNat))) gi gl sh) := by
  intro n
  induction n with
  | zero =>
    intro k x h0 h2 h1 hx
    refine g_iload_n dX3_lineBound_4 rfl ?_
    refine g_aload_n dX3_lineBound_5 rfl ?_
    refine g_getI 3 dX3_lineBound_6 flX3_25 rfl (by assumption) ?_
    refine g_icmp_ge 24 dX3_lineBound_9 (by decide) (fun h9 => ?_) (fun h9 => ?_)
    · skip
      refine g_lload_n dX3_lineBound_24 rfl ?_
      refine g_lreturn dX3_lineBound_25 rfl ?_
      exact ⟨by rw [hx, show k.toNat = (gi a 3).toNat by omega], rfl, rfl, rfl⟩
    · exfalso; omega
  | succ n ih =>
    intro k x h0 h2 h1 hx
    have hb := p10_b k.toNat (by omega)
    refine g_iload_n dX3_lineBound_4 rfl ?_
    refine g_aload_n dX3_lineBound_5 rfl ?_
    refine g_getI 3 dX3_lineBound_6 flX3_25 rfl (by assumption) ?_
    refine g_icmp_ge 24 dX3_lineBound_9 (by decide) (fun h9 => ?_) (fun h9 => ?_)
    · exfalso; omega
    · skip
      refine g_lload_n dX3_lineBound_12 rfl ?_
      refine g_ldc2 (n := 10) dX3_lineBound_13 cnX3_65 (by decide) ?_
      refine g_lmul dX3_lineBound_16 (by omega) (by omega) ?_
      refine n_lstore_n (lN := [_, _, _, _]) dX3_lineBound_17 (by decide) rfl ?_
      refine n_iinc (lN := [_, _, _, _]) dX3_lineBound_18 rfl (by decide) (by omega) (by omega) rfl ?_
      refine g_goto 4 dX3_lineBound_21 (by decide) ?_
      exact ih (k + 1) (x * 10) (by omega) (by omega) (by omega) (by rw [hx, show (k + 1).toNat = k.toNat + 1 by omega, Int.pow_succ])
theorem c_lineBound (hk : sh.2.1 a = 3) (hw : 0 ≤ gi a 3 ∧ gi a 3 ≤ 16) : Ct mdX3_lineBound 0 0 [vR a] gi gl sh (Rt (some (vL (10 ^ (gi a 3).toNat))) gi gl sh) := by
  show Go mdX3_lineBound 0 0 0 [some (vR a), none, none, none] [] gi gl sh _
  refine g_lconst 1 dX3_lineBound_0 (by decide) (by decide) ?_
  refine n_lstore_n (lN := [_, _, _, _]) dX3_lineBound_1 (by decide) rfl ?_
  refine g_iconst dX3_lineBound_2 (by decide) ?_
  refine n_istore_n (lN := [_, _, _, _]) dX3_lineBound_3 (by decide) rfl ?_
  exact l_lineBound hk hw (gi a 3).toNat 0 1 (by omega) (by omega) (by omega) rfl
set_option maxRecDepth 20000 in
set_option maxHeartbeats 1000000 in
theorem c_valveOver (hk : sh.2.1 a = 3) (c : Int) (hc : 0 ≤ c) (hv : 1 ≤ gi a 4) (hw : 0 ≤ gi a 3) (hq : 0 < gi a 3 / gi a 4) : Ct mdX3_valveOver 0 0 [vR a, vI c] gi gl sh (Rt (some (vI (c / (gi a 3 / gi a 4)))) gi gl sh) := by
  show Go mdX3_valveOver 0 0 0 [some (vR a), some (vI c), none] [] gi gl sh _
  refine g_aload_n dX3_valveOver_0 rfl ?_
  refine g_getI 4 dX3_valveOver_1 flX3_28 rfl (by assumption) ?_
  refine g_if_le 19 dX3_valveOver_4 (by decide) (fun h4 => ?_) (fun h4 => ?_)
  · exfalso; omega
  · skip
    refine g_aload_n dX3_valveOver_7 rfl ?_
    refine g_getI 3 dX3_valveOver_8 flX3_25 rfl (by assumption) ?_
    refine g_aload_n dX3_valveOver_11 rfl ?_
    refine g_getI 4 dX3_valveOver_12 flX3_28 rfl (by assumption) ?_
    refine g_idiv dX3_valveOver_15 (by omega) (by omega) ?_
    refine g_goto 20 dX3_valveOver_16 (by decide) ?_
    refine n_istore_n (lN := [_, _, _]) dX3_valveOver_20 (by decide) rfl ?_
    refine g_iload_n dX3_valveOver_21 rfl ?_
    refine g_if_le 31 dX3_valveOver_22 (by decide) (fun h22 => ?_) (fun h22 => ?_)
    · exfalso; omega
    · skip
      refine g_iload_n dX3_valveOver_25 rfl ?_
      refine g_iload_n dX3_valveOver_26 rfl ?_
      refine g_idiv dX3_valveOver_27 (by omega) (by omega) ?_
      refine g_goto 32 dX3_valveOver_28 (by decide) ?_
      refine g_ireturn dX3_valveOver_32 rfl ?_
      exact ⟨rfl, rfl, rfl, rfl⟩

set_option maxRecDepth 20000 in
set_option maxHeartbeats 1000000 in
theorem c_wantedFrom (hk : sh.2.1 a = 3) (hb : sh.2.1 b = 0) (h1 : 0 ≤ gi b 0 ∧ gi b 0 ≤ 100000) (h2 : 0 ≤ gi a 5 ∧ gi a 5 ≤ 100) (h3 : 0 ≤ gi a 6 ∧ gi a 6 ≤ 100) : Ct mdX3_wantedFrom 0 0 [vR a, vR b] gi gl sh (Rt (some (vI (gi b 0 + gi a 5 - gi a 6))) gi gl sh) := by
  show Go mdX3_wantedFrom 0 0 0 [some (vR a), some (vR b)] [] gi gl sh _
  refine g_aload_n dX3_wantedFrom_0 rfl ?_
  refine g_getIN 0 dX3_wantedFrom_1 fnX3_67 rfl (by assumption) ?_
  refine g_aload_n dX3_wantedFrom_4 rfl ?_
  refine g_getI 5 dX3_wantedFrom_5 flX3_31 rfl (by assumption) ?_
  refine g_iadd dX3_wantedFrom_8 (by omega) (by omega) ?_
  refine g_aload_n dX3_wantedFrom_9 rfl ?_
  refine g_getI 6 dX3_wantedFrom_10 flX3_34 rfl (by assumption) ?_
  refine g_isub dX3_wantedFrom_13 (by omega) (by omega) ?_
  refine g_ireturn dX3_wantedFrom_14 rfl ?_
  exact ⟨rfl, rfl, rfl, rfl⟩

set_option maxRecDepth 20000 in
set_option maxHeartbeats 1000000 in
theorem c_wantedTo (hk : sh.2.1 a = 3) (hb : sh.2.1 b = 0) (h1 : 0 ≤ gi b 1 ∧ gi b 1 ≤ 100000) (h2 : 0 ≤ gi a 5 ∧ gi a 5 ≤ 100) (h3 : 0 ≤ gi a 7 ∧ gi a 7 ≤ 100) : Ct mdX3_wantedTo 0 0 [vR a, vR b] gi gl sh (Rt (some (vI (gi b 1 + gi a 5 + gi a 7))) gi gl sh) := by
  show Go mdX3_wantedTo 0 0 0 [some (vR a), some (vR b)] [] gi gl sh _
  refine g_aload_n dX3_wantedTo_0 rfl ?_
  refine g_getIN 1 dX3_wantedTo_1 fnX3_72 rfl (by assumption) ?_
  refine g_aload_n dX3_wantedTo_4 rfl ?_
  refine g_getI 5 dX3_wantedTo_5 flX3_31 rfl (by assumption) ?_
  refine g_iadd dX3_wantedTo_8 (by omega) (by omega) ?_
  refine g_aload_n dX3_wantedTo_9 rfl ?_
  refine g_getI 7 dX3_wantedTo_10 flX3_37 rfl (by assumption) ?_
  refine g_iadd dX3_wantedTo_13 (by omega) (by omega) ?_
  refine g_ireturn dX3_wantedTo_14 rfl ?_
  exact ⟨rfl, rfl, rfl, rfl⟩

set_option maxRecDepth 20000 in
set_option maxHeartbeats 1000000 in
theorem c_isLate (hk : sh.2.1 a = 3) (hb : sh.2.1 b = 0) (h1 : 0 ≤ gi b 1 ∧ gi b 1 ≤ 100000) (h0 : 0 ≤ gi b 0 ∧ gi b 0 ≤ 100000) (h2 : 0 ≤ gi a 5 ∧ gi a 5 ≤ 100) (h3 : 0 ≤ gi a 6 ∧ gi a 6 ≤ 100) (z : Int) (z1 : gi b 0 + gi a 5 - gi a 6 < gi b 1 + 1 → z = 1) (z0 : ¬ gi b 0 + gi a 5 - gi a 6 < gi b 1 + 1 → z = 0) : Ct mdX3_isLate 0 0 [vR a, vR b] gi gl sh (Rt (some (vI z)) gi gl sh) := by
  show Go mdX3_isLate 0 0 0 [some (vR a), some (vR b)] [] gi gl sh _
  refine g_aload_n dX3_isLate_0 rfl ?_
  refine g_aload_n dX3_isLate_1 rfl ?_
  refine g_cVi [_] dX3_isLate_2 mlX3_75 mvX3_wantedFrom (by decide) (by assumption) (by decide) rfl rfl (Nat.le_of_ble_eq_true rfl) rfl (Nat.le_of_ble_eq_true rfl) (c_wantedFrom hk hb h0 h2 h3) ?_
  refine g_aload_n dX3_isLate_5 rfl ?_
  refine g_cVi [] dX3_isLate_6 mlX3_79 mvX0_endTick (by decide) (by assumption) (by decide) rfl rfl (Nat.le_of_ble_eq_true rfl) rfl (Nat.le_of_ble_eq_true rfl) (c_endTick hb h1) ?_
  refine g_icmp_ge 16 dX3_isLate_9 (by decide) (fun h9 => ?_) (fun h9 => ?_)
  · skip
    refine g_iconst dX3_isLate_16 (by decide) ?_
    refine g_zreturn dX3_isLate_17 rfl (by omega) ?_
    exact ⟨by first | (rw [z1 (by omega)]; done) | (rw [z0 (by omega)]; done), rfl, rfl, rfl⟩
  · skip
    refine g_iconst dX3_isLate_12 (by decide) ?_
    refine g_goto 17 dX3_isLate_13 (by decide) ?_
    refine g_zreturn dX3_isLate_17 rfl (by omega) ?_
    exact ⟨by first | (rw [z1 (by omega)]; done) | (rw [z0 (by omega)]; done), rfl, rfl, rfl⟩

end PLAN
