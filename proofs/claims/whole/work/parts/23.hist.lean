/-! History: ring at 8, held 1, next 2; the stand at 4 -/
def isHist (sh : gSh) : Prop := sh.2.1 7 = 2 ∧ sh.1 7 0 = some 8 ∧ sh.2.1 8 = 15 ∧ (sh.2.2.1 8 : Int) = 6 ∧ ∀ i : Int, 0 ≤ i → i < 6 → sh.1 8 i = some (9 + 3 * i) ∧ isStand sh (9 + 3 * i)
def hs_next (n : Int) : Int := if n + 1 < 6 then n + 1 else 0
def hs_last (n : Int) : Int := if 0 < n then n - 1 else 5
def hs_keep (gi : gF) : gF := g_up (g_up (g_up (g_cp gi 6 (9 + 3 * gi 7 2 + 2) 0 0 4) (9 + 3 * gi 7 2) 2 (gi 4 2)) 7 2 (hs_next (gi 7 2))) 7 1 (min (gi 7 1 + 1) 6)
def hs_keepL (gi gl : gF) : gF := g_cp gl 5 (9 + 3 * gi 7 2 + 1) 0 0 60
def hs_back (gi : gF) (l : Int) : gF := g_up (g_up (g_up (g_cp gi (9 + 3 * l + 2) 6 0 0 4) 4 2 (gi (9 + 3 * l) 2)) 7 2 l) 7 1 (gi 7 1 - 1)
def hs_backL (gl : gF) (l : Int) : gF := g_cp gl (9 + 3 * l + 1) 5 0 0 60
section HIST
variable {gi gl gi1 : gF} {sh : gSh}
set_option maxRecDepth 20000 in
set_option maxHeartbeats 1000000 in
theorem c_keep (hV : isHist sh) (hS : isStand sh 4) (hn : 0 ≤ gi 7 2 ∧ gi 7 2 < 6) (hh : 0 ≤ gi 7 1 ∧ gi 7 1 ≤ 6) : Ct mdX2_keep 0 0 [vR 7, vR 4] gi gl sh (Rt none (hs_keep gi) (hs_keepL gi gl) sh) := by
  show Go mdX2_keep 0 0 0 [some (vR 7), some (vR 4)] [] gi gl sh _
  obtain ⟨k0, r0, k1, l1, hR⟩ := id hV
  obtain ⟨hr, hq⟩ := hR (gi 7 2) hn.1 hn.2
  have hq0 := hq.1
  have eA : (7 : Int) ≠ 9 + 3 * gi 7 2 := by omega
  have eB : (7 : Int) ≠ 9 + 3 * gi 7 2 + 2 := by omega
  clear hR
  refine g_aload_n dX2_keep_0 rfl ?_
  refine g_getI 2 dX2_keep_1 flX2_18 rfl (by assumption) ?_
  refine g_if_lt 19 dX2_keep_4 (by decide) (fun h4 => ?_) (fun h4 => ?_)
  · exfalso; omega
  · skip
    refine g_aload_n dX2_keep_7 rfl ?_
    refine g_getI 2 dX2_keep_8 flX2_18 rfl (by assumption) ?_
    refine g_aload_n dX2_keep_11 rfl ?_
    refine g_getR 0 dX2_keep_12 flX2_11 rfl (by assumption) (by assumption) ?_
    refine g_alen _ dX2_keep_15 (by omega) (by assumption) (by decide) ?_
    refine g_icmp_lt 20 dX2_keep_16 (by decide) (fun h16 => ?_) (fun h16 => ?_)
    · skip
      refine g_aload_n dX2_keep_20 rfl ?_
      refine g_getR 0 dX2_keep_21 flX2_11 rfl (by assumption) (by assumption) ?_
      refine g_aload_n dX2_keep_24 rfl ?_
      refine g_getI 2 dX2_keep_25 flX2_18 rfl (by assumption) ?_
      refine g_aaload dX2_keep_28 (by assumption) (by decide) (by decide) (by omega) (by omega) (by assumption) ?_
      refine g_aload_n dX2_keep_29 rfl ?_
      refine g_cVv [_] dX2_keep_30 mlX2_22 mvX4_copyFrom (by decide) (by assumption) (by decide) rfl rfl (Nat.le_of_ble_eq_true rfl) rfl (Nat.le_of_ble_eq_true rfl) (c_sCopy hq hS (by omega)) ?_
      refine g_aload_n dX2_keep_33 rfl ?_
      refine g_aload_n dX2_keep_34 rfl ?_
      refine g_getI 2 dX2_keep_35 flX2_18 rfl (by assumption) ?_
      refine g_iconst dX2_keep_38 (by decide) ?_
      refine g_iadd dX2_keep_39 (by simp only [g_up_row eA, g_cp_row eB] <;> omega) (by simp only [g_up_row eA, g_cp_row eB] <;> omega) ?_
      refine g_bipush dX2_keep_40 (by decide) (by decide) ?_
      simp only [g_up_row eA, g_cp_row eB]
      refine g_icmp_ge 54 dX2_keep_42 (by decide) (fun h42 => ?_) (fun h42 => ?_)
      · skip
        refine g_iconst dX2_keep_54 (by decide) ?_
        refine g_putI 2 dX2_keep_55 flX2_18 rfl (by assumption) ?_
        refine g_aload_n dX2_keep_58 rfl ?_
        refine g_aload_n dX2_keep_59 rfl ?_
        refine g_getI 1 dX2_keep_60 flX2_26 rfl (by assumption) ?_
        refine g_iconst dX2_keep_63 (by decide) ?_
        refine g_iadd dX2_keep_64 (by simp only [g_up_row eA, g_cp_row eB, g_up_ne (show (1 : Int) ≠ 2 by decide)] <;> omega) (by simp only [g_up_row eA, g_cp_row eB, g_up_ne (show (1 : Int) ≠ 2 by decide)] <;> omega) ?_
        refine g_bipush dX2_keep_65 (by decide) (by decide) ?_
        refine g_min dX2_keep_67 mlX2_29 (Nat.le_of_ble_eq_true rfl) ?_
        refine g_putI 1 dX2_keep_70 flX2_26 rfl (by assumption) ?_
        refine g_return dX2_keep_73 rfl ?_
        refine ⟨rfl, ?_, rfl, rfl⟩
        simp only [g_up_row eA, g_cp_row eB, g_up_ne (show (1 : Int) ≠ 2 by decide), hs_keep, hs_next]
        first | rw [if_neg (by omega)] | rw [if_pos (by omega)]
        rfl
      · skip
        refine g_aload_n dX2_keep_45 rfl ?_
        refine g_getI 2 dX2_keep_46 flX2_18 rfl (by assumption) ?_
        refine g_iconst dX2_keep_49 (by decide) ?_
        refine g_iadd dX2_keep_50 (by simp only [g_up_row eA, g_cp_row eB] <;> omega) (by simp only [g_up_row eA, g_cp_row eB] <;> omega) ?_
        refine g_goto 55 dX2_keep_51 (by decide) ?_
        refine g_putI 2 dX2_keep_55 flX2_18 rfl (by assumption) ?_
        refine g_aload_n dX2_keep_58 rfl ?_
        refine g_aload_n dX2_keep_59 rfl ?_
        refine g_getI 1 dX2_keep_60 flX2_26 rfl (by assumption) ?_
        refine g_iconst dX2_keep_63 (by decide) ?_
        refine g_iadd dX2_keep_64 (by simp only [g_up_row eA, g_cp_row eB, g_up_ne (show (1 : Int) ≠ 2 by decide)] <;> omega) (by simp only [g_up_row eA, g_cp_row eB, g_up_ne (show (1 : Int) ≠ 2 by decide)] <;> omega) ?_
        refine g_bipush dX2_keep_65 (by decide) (by decide) ?_
        refine g_min dX2_keep_67 mlX2_29 (Nat.le_of_ble_eq_true rfl) ?_
        refine g_putI 1 dX2_keep_70 flX2_26 rfl (by assumption) ?_
        refine g_return dX2_keep_73 rfl ?_
        refine ⟨rfl, ?_, rfl, rfl⟩
        simp only [g_up_row eA, g_cp_row eB, g_up_ne (show (1 : Int) ≠ 2 by decide), hs_keep, hs_next]
        first | rw [if_neg (by omega)] | rw [if_pos (by omega)]
        rfl
    · exfalso; omega

set_option maxRecDepth 20000 in
set_option maxHeartbeats 1000000 in
theorem c_giveBack (hV : isHist sh) (hS : isStand sh 4) (hn : 0 ≤ gi 7 2 ∧ gi 7 2 < 6) (hh : 0 < gi 7 1 ∧ gi 7 1 ≤ 6) (l : Int) (hl : l = hs_last (gi 7 2)) : Ct mdX2_giveBack 0 0 [vR 7, vR 4] gi gl sh (Rt none (hs_back gi l) (hs_backL gl l) sh) := by
  show Go mdX2_giveBack 0 0 0 [some (vR 7), some (vR 4), none] [] gi gl sh _
  obtain ⟨k0, r0, k1, l1, hR⟩ := id hV
  have hl2 : 0 ≤ l ∧ l < 6 := by rw [hl]; unfold hs_last; split <;> omega
  obtain ⟨hr, hq⟩ := hR l hl2.1 hl2.2
  have hq0 := hq.1
  have hS0 := hS.1
  clear hR
  refine g_aload_n dX2_giveBack_0 rfl ?_
  refine g_getI 2 dX2_giveBack_1 flX2_18 rfl (by assumption) ?_
  refine g_if_le 16 dX2_giveBack_4 (by decide) (fun h4 => ?_) (fun h4 => ?_)
  · skip
    refine g_iconst dX2_giveBack_16 (by decide) ?_
    refine n_istore_n (lN := [_, _, _]) dX2_giveBack_17 (by decide) rfl ?_
    first | (rw [show gi 7 2 - 1 = l by rw [hl, hs_last, if_pos (by omega)]]) | (rw [show (5 : Int) = l by rw [hl, hs_last, if_neg (by omega)]])
    refine g_aload_n dX2_giveBack_18 rfl ?_
    refine g_getI 1 dX2_giveBack_19 flX2_26 rfl (by assumption) ?_
    refine g_if_eq 34 dX2_giveBack_22 (by decide) (fun h22 => ?_) (fun h22 => ?_)
    · exfalso; omega
    · skip
      refine g_iload_n dX2_giveBack_25 rfl ?_
      refine g_aload_n dX2_giveBack_26 rfl ?_
      refine g_getR 0 dX2_giveBack_27 flX2_11 rfl (by assumption) (by assumption) ?_
      refine g_alen _ dX2_giveBack_30 (by omega) (by assumption) (by decide) ?_
      refine g_icmp_lt 35 dX2_giveBack_31 (by decide) (fun h31 => ?_) (fun h31 => ?_)
      · skip
        refine g_aload_n dX2_giveBack_35 rfl ?_
        refine g_aload_n dX2_giveBack_36 rfl ?_
        refine g_getR 0 dX2_giveBack_37 flX2_11 rfl (by assumption) (by assumption) ?_
        refine g_iload_n dX2_giveBack_40 rfl ?_
        refine g_aaload dX2_giveBack_41 (by assumption) (by decide) (by decide) (by omega) (by omega) (by assumption) ?_
        refine g_cVv [_] dX2_giveBack_42 mlX2_22 mvX4_copyFrom (by decide) (by assumption) (by decide) rfl rfl (Nat.le_of_ble_eq_true rfl) rfl (Nat.le_of_ble_eq_true rfl) (c_sCopy hS hq (by omega)) ?_
        refine g_aload_n dX2_giveBack_45 rfl ?_
        refine g_iload_n dX2_giveBack_46 rfl ?_
        refine g_putI 2 dX2_giveBack_47 flX2_18 rfl (by assumption) ?_
        refine g_aload_n dX2_giveBack_50 rfl ?_
        refine g_dup dX2_giveBack_51 (fun _ h9 => by cases h9) ?_
        refine g_getI 1 dX2_giveBack_52 flX2_26 rfl (by assumption) ?_
        refine g_iconst dX2_giveBack_55 (by decide) ?_
        refine g_isub dX2_giveBack_56 (by simp only [g_up_ne (show (1 : Int) ≠ 2 by decide), g_up_row (show (7 : Int) ≠ 4 by decide), g_cp_row (show (7 : Int) ≠ 4 + 2 by decide)] <;> omega) (by simp only [g_up_ne (show (1 : Int) ≠ 2 by decide), g_up_row (show (7 : Int) ≠ 4 by decide), g_cp_row (show (7 : Int) ≠ 4 + 2 by decide)] <;> omega) ?_
        refine g_putI 1 dX2_giveBack_57 flX2_26 rfl (by assumption) ?_
        refine g_return dX2_giveBack_60 rfl ?_
        refine ⟨rfl, ?_, rfl, rfl⟩
        simp only [g_up_ne (show (1 : Int) ≠ 2 by decide), g_up_row (show (7 : Int) ≠ 4 by decide), g_cp_row (show (7 : Int) ≠ 4 + 2 by decide), hs_back]
        rfl
      · exfalso; omega
  · skip
    refine g_aload_n dX2_giveBack_7 rfl ?_
    refine g_getI 2 dX2_giveBack_8 flX2_18 rfl (by assumption) ?_
    refine g_iconst dX2_giveBack_11 (by decide) ?_
    refine g_isub dX2_giveBack_12 (by omega) (by omega) ?_
    refine g_goto 17 dX2_giveBack_13 (by decide) ?_
    refine n_istore_n (lN := [_, _, _]) dX2_giveBack_17 (by decide) rfl ?_
    first | (rw [show gi 7 2 - 1 = l by rw [hl, hs_last, if_pos (by omega)]]) | (rw [show (5 : Int) = l by rw [hl, hs_last, if_neg (by omega)]])
    refine g_aload_n dX2_giveBack_18 rfl ?_
    refine g_getI 1 dX2_giveBack_19 flX2_26 rfl (by assumption) ?_
    refine g_if_eq 34 dX2_giveBack_22 (by decide) (fun h22 => ?_) (fun h22 => ?_)
    · exfalso; omega
    · skip
      refine g_iload_n dX2_giveBack_25 rfl ?_
      refine g_aload_n dX2_giveBack_26 rfl ?_
      refine g_getR 0 dX2_giveBack_27 flX2_11 rfl (by assumption) (by assumption) ?_
      refine g_alen _ dX2_giveBack_30 (by omega) (by assumption) (by decide) ?_
      refine g_icmp_lt 35 dX2_giveBack_31 (by decide) (fun h31 => ?_) (fun h31 => ?_)
      · skip
        refine g_aload_n dX2_giveBack_35 rfl ?_
        refine g_aload_n dX2_giveBack_36 rfl ?_
        refine g_getR 0 dX2_giveBack_37 flX2_11 rfl (by assumption) (by assumption) ?_
        refine g_iload_n dX2_giveBack_40 rfl ?_
        refine g_aaload dX2_giveBack_41 (by assumption) (by decide) (by decide) (by omega) (by omega) (by assumption) ?_
        refine g_cVv [_] dX2_giveBack_42 mlX2_22 mvX4_copyFrom (by decide) (by assumption) (by decide) rfl rfl (Nat.le_of_ble_eq_true rfl) rfl (Nat.le_of_ble_eq_true rfl) (c_sCopy hS hq (by omega)) ?_
        refine g_aload_n dX2_giveBack_45 rfl ?_
        refine g_iload_n dX2_giveBack_46 rfl ?_
        refine g_putI 2 dX2_giveBack_47 flX2_18 rfl (by assumption) ?_
        refine g_aload_n dX2_giveBack_50 rfl ?_
        refine g_dup dX2_giveBack_51 (fun _ h9 => by cases h9) ?_
        refine g_getI 1 dX2_giveBack_52 flX2_26 rfl (by assumption) ?_
        refine g_iconst dX2_giveBack_55 (by decide) ?_
        refine g_isub dX2_giveBack_56 (by simp only [g_up_ne (show (1 : Int) ≠ 2 by decide), g_up_row (show (7 : Int) ≠ 4 by decide), g_cp_row (show (7 : Int) ≠ 4 + 2 by decide)] <;> omega) (by simp only [g_up_ne (show (1 : Int) ≠ 2 by decide), g_up_row (show (7 : Int) ≠ 4 by decide), g_cp_row (show (7 : Int) ≠ 4 + 2 by decide)] <;> omega) ?_
        refine g_putI 1 dX2_giveBack_57 flX2_26 rfl (by assumption) ?_
        refine g_return dX2_giveBack_60 rfl ?_
        refine ⟨rfl, ?_, rfl, rfl⟩
        simp only [g_up_ne (show (1 : Int) ≠ 2 by decide), g_up_row (show (7 : Int) ≠ 4 by decide), g_cp_row (show (7 : Int) ≠ 4 + 2 by decide), hs_back]
        rfl
      · exfalso; omega

set_option maxRecDepth 20000 in
set_option maxHeartbeats 1000000 in
theorem c_forget (hk : sh.2.1 7 = 2) : Ct mdX2_forget 0 0 [vR 7] gi gl sh (Rt none (g_up gi 7 1 0) gl sh) := by
  show Go mdX2_forget 0 0 0 [some (vR 7)] [] gi gl sh _
  refine g_aload_n dX2_forget_0 rfl ?_
  refine g_iconst dX2_forget_1 (by decide) ?_
  refine g_putI 1 dX2_forget_2 flX2_26 rfl (by assumption) ?_
  refine g_return dX2_forget_5 rfl ?_
  exact ⟨rfl, rfl, rfl, rfl⟩

end HIST
