/-! Stand: lineCount; lines at a+1, numbers at a+2. Valve: firsts at a+1, lasts at a+2, openings -/
theorem z_ex (P : Prop) : ∃ z : Int, (P → z = 1) ∧ (¬ P → z = 0) ∧ (z = 0 ∨ z = 1) := by
  by_cases h : P
  · exact ⟨1, fun _ => rfl, fun h2 => absurd h h2, Or.inr rfl⟩
  · exact ⟨0, fun h2 => absurd h2 h, fun _ => rfl, Or.inl rfl⟩
theorem g_up_up {α : Type} {f : Int → Int → α} {a i : Int} {v w : α} : g_up (g_up f a i v) a i w = g_up f a i w := by
  funext b j; simp only [g_up]; split <;> rfl
theorem g_up_comm {α : Type} {f : Int → Int → α} {a i b j : Int} {v w : α} (h : a ≠ b ∨ i ≠ j) : g_up (g_up f a i v) b j w = g_up (g_up f b j w) a i v := by
  funext x y; simp only [g_up]
  by_cases h1 : x = b ∧ y = j
  · by_cases h2 : x = a ∧ y = i
    · exfalso; rcases h with h | h
      · exact h (h2.1.symm.trans h1.1)
      · exact h (h2.2.symm.trans h1.2)
    · simp [h1, h2]
      intro h3 h4; exact absurd ⟨h1.1.trans h3, h1.2.trans h4⟩ h2
  · by_cases h2 : x = a ∧ y = i
    · simp [h1, h2]
      intro h3 h4; exact absurd ⟨h2.1.trans h3, h2.2.trans h4⟩ h1
    · simp [h1, h2]
def isStand (sh : gSh) (a : Int) : Prop := sh.2.1 a = 4 ∧ sh.1 a 0 = some (a + 1) ∧ sh.1 a 1 = some (a + 2) ∧ sh.2.1 (a + 1) = 12 ∧ (sh.2.2.1 (a + 1) : Int) = 60 ∧ sh.2.1 (a + 2) = 11 ∧ (sh.2.2.1 (a + 2) : Int) = 4
def isValve (sh : gSh) (a : Int) : Prop := sh.2.1 a = 6 ∧ sh.1 a 0 = some (a + 1) ∧ sh.1 a 1 = some (a + 2) ∧ sh.2.1 (a + 1) = 11 ∧ (sh.2.2.1 (a + 1) : Int) = 31 ∧ sh.2.1 (a + 2) = 11 ∧ (sh.2.2.1 (a + 2) : Int) = 31
def vl_near (l f r : Int) : Prop := f - l - 1 ≤ 0 ∨ f - l - 1 < r
def vl_w (fs ls : gRw) (r : Int) : Nat → Int → Nat × Int
  | 0, f => (0, f)
  | n + 1, f => if f - ls (n : Int) - 1 ≤ 0 ∨ f - ls (n : Int) - 1 < r then vl_w fs ls r n (min f (fs (n : Int))) else (n + 1, f)
theorem vl_w_le (fs ls : gRw) (r : Int) : ∀ (n : Nat) (f : Int), (vl_w fs ls r n f).1 ≤ n := by
  intro n
  induction n with
  | zero => intro f; exact Nat.le_refl _
  | succ n ih =>
    intro f
    unfold vl_w
    split
    · exact Nat.le_succ_of_le (ih _)
    · exact Nat.le_refl _
def vl_put (gi : gF) (a m f t : Int) : gF := g_up (g_up (g_up gi (a + 1) m f) (a + 2) m t) a 2 (m + 1)
def vl_sum (fs ls : gRw) : Nat → Int
  | 0 => 0
  | n + 1 => vl_sum fs ls n + (ls (n : Int) - fs (n : Int) + 1)
def vl_ok (gi : gF) (a n : Int) : Prop := ∀ k : Int, 0 ≤ k → k < n → -1000 ≤ gi (a + 1) k ∧ gi (a + 1) k ≤ 1000 ∧ -1000 ≤ gi (a + 2) k ∧ gi (a + 2) k ≤ 1000
theorem vl_sum_b {gi : gF} {a : Int} : ∀ n : Nat, vl_ok gi a n → -3000 * (n : Int) ≤ vl_sum (gi (a + 1)) (gi (a + 2)) n ∧ vl_sum (gi (a + 1)) (gi (a + 2)) n ≤ 3000 * (n : Int) := by
  intro n
  induction n with
  | zero => intro _; simp [vl_sum]
  | succ n ih =>
    intro h
    have h1 := ih (fun k h0 h1 => h k h0 (by omega))
    have h2 := h n (by omega) (by omega)
    simp only [vl_sum]
    omega
section VALVE
variable {gi gl : gF} {sh : gSh} {a b : Int}
set_option maxRecDepth 20000 in
set_option maxHeartbeats 1000000 in
theorem c_sAddLine (hV : isStand sh a) (n : Int) (h : 0 ≤ gi a 2 ∧ gi a 2 < 60) : Ct mdX4_addLine 0 0 [vR a, vL n] gi gl sh (Rt none (g_up gi a 2 (gi a 2 + 1)) (g_up gl (a + 1) (gi a 2) n) sh) := by
  show Go mdX4_addLine 0 0 0 [some (vR a), some (vL n), none] [] gi gl sh _
  obtain ⟨k0, r0, r1, k1, l1, k2, l2⟩ := id hV
  refine g_aload_n dX4_addLine_0 rfl ?_
  refine g_getI 2 dX4_addLine_1 flX4_19 rfl (by assumption) ?_
  refine g_if_lt 39 dX4_addLine_4 (by decide) (fun h4 => ?_) (fun h4 => ?_)
  · exfalso; omega
  · skip
    refine g_aload_n dX4_addLine_7 rfl ?_
    refine g_getI 2 dX4_addLine_8 flX4_19 rfl (by assumption) ?_
    refine g_aload_n dX4_addLine_11 rfl ?_
    refine g_getR 0 dX4_addLine_12 flX4_9 rfl (by assumption) (by assumption) ?_
    refine g_alen _ dX4_addLine_15 (by omega) (by assumption) (by decide) ?_
    refine g_icmp_ge 39 dX4_addLine_16 (by decide) (fun h16 => ?_) (fun h16 => ?_)
    · exfalso; omega
    · skip
      refine g_aload_n dX4_addLine_19 rfl ?_
      refine g_getR 0 dX4_addLine_20 flX4_9 rfl (by assumption) (by assumption) ?_
      refine g_aload_n dX4_addLine_23 rfl ?_
      refine g_getI 2 dX4_addLine_24 flX4_19 rfl (by assumption) ?_
      refine g_lload_n dX4_addLine_27 rfl ?_
      refine g_lastore dX4_addLine_28 (by assumption) (by omega) (by omega) ?_
      refine g_aload_n dX4_addLine_29 rfl ?_
      refine g_dup dX4_addLine_30 (fun _ h9 => by cases h9) ?_
      refine g_getI 2 dX4_addLine_31 flX4_19 rfl (by assumption) ?_
      refine g_iconst dX4_addLine_34 (by decide) ?_
      refine g_iadd dX4_addLine_35 (by omega) (by omega) ?_
      refine g_putI 2 dX4_addLine_36 flX4_19 rfl (by assumption) ?_
      refine g_return dX4_addLine_39 rfl ?_
      exact ⟨rfl, rfl, rfl, rfl⟩

set_option maxRecDepth 20000 in
set_option maxHeartbeats 1000000 in
theorem c_sCopy (hV : isStand sh a) (hU : isStand sh b) (h1 : b ≠ a + 2) : Ct mdX4_copyFrom 0 0 [vR a, vR b] gi gl sh (Rt none (g_up (g_cp gi (b + 2) (a + 2) 0 0 4) a 2 (gi b 2)) (g_cp gl (b + 1) (a + 1) 0 0 60) sh) := by
  show Go mdX4_copyFrom 0 0 0 [some (vR a), some (vR b)] [] gi gl sh _
  obtain ⟨k0, r0, r1, k1, l1, k2, l2⟩ := id hV
  obtain ⟨j0, s0, s1, j1, m1, j2, m2⟩ := id hU
  refine g_aload_n dX4_copyFrom_0 rfl ?_
  refine g_getR 0 dX4_copyFrom_1 flX4_9 rfl (by assumption) (by assumption) ?_
  refine g_iconst dX4_copyFrom_4 (by decide) ?_
  refine g_aload_n dX4_copyFrom_5 rfl ?_
  refine g_getR 0 dX4_copyFrom_6 flX4_9 rfl (by assumption) (by assumption) ?_
  refine g_iconst dX4_copyFrom_9 (by decide) ?_
  refine g_bipush dX4_copyFrom_10 (by decide) (by decide) ?_
  refine g_copyL dX4_copyFrom_12 mlX4_23 (Nat.le_of_ble_eq_true rfl) (by assumption) (by assumption) (by omega) (by omega) (by omega) (by omega) (by omega) ?_
  refine g_aload_n dX4_copyFrom_15 rfl ?_
  refine g_getR 1 dX4_copyFrom_16 flX4_15 rfl (by assumption) (by assumption) ?_
  refine g_iconst dX4_copyFrom_19 (by decide) ?_
  refine g_aload_n dX4_copyFrom_20 rfl ?_
  refine g_getR 1 dX4_copyFrom_21 flX4_15 rfl (by assumption) (by assumption) ?_
  refine g_iconst dX4_copyFrom_24 (by decide) ?_
  refine g_iconst dX4_copyFrom_25 (by decide) ?_
  refine g_copyI dX4_copyFrom_26 mlX4_23 (Nat.le_of_ble_eq_true rfl) (by assumption) (by assumption) (by omega) (by omega) (by omega) (by omega) (by omega) ?_
  refine g_aload_n dX4_copyFrom_29 rfl ?_
  refine g_aload_n dX4_copyFrom_30 rfl ?_
  refine g_getI 2 dX4_copyFrom_31 flX4_19 rfl (by assumption) ?_
  refine g_putI 2 dX4_copyFrom_34 flX4_19 rfl (by assumption) ?_
  refine g_return dX4_copyFrom_37 rfl ?_
  exact ⟨rfl, by rw [g_cp_row h1], rfl, rfl⟩

set_option maxRecDepth 20000 in
set_option maxHeartbeats 1000000 in
theorem c_isNear (l f r z : Int) (h1 : vl_near l f r → z = 1) (h0 : ¬ vl_near l f r → z = 0) (hl : -1000 ≤ l ∧ l ≤ 1000) (hf : -1000 ≤ f ∧ f ≤ 1000) : Ct mdX6_isNear 0 0 [vI l, vI f, vI r] gi gl sh (Rt (some (vI z)) gi gl sh) := by
  show Go mdX6_isNear 0 0 0 [some (vI l), some (vI f), some (vI r), none] [] gi gl sh _
  refine g_iload_n dX6_isNear_0 rfl ?_
  refine g_iload_n dX6_isNear_1 rfl ?_
  refine g_isub dX6_isNear_2 (by omega) (by omega) ?_
  refine g_iconst dX6_isNear_3 (by decide) ?_
  refine g_isub dX6_isNear_4 (by omega) (by omega) ?_
  refine n_istore_n (lN := [_, _, _, _]) dX6_isNear_5 (by decide) rfl ?_
  refine g_iload_n dX6_isNear_6 rfl ?_
  refine g_if_le 15 dX6_isNear_7 (by decide) (fun h7 => ?_) (fun h7 => ?_)
  · skip
    refine g_iconst dX6_isNear_15 (by decide) ?_
    refine g_goto 20 dX6_isNear_16 (by decide) ?_
    refine g_zreturn dX6_isNear_20 rfl (by omega) ?_
    exact ⟨by first | (rw [h1 (by unfold vl_near; omega)]; done) | (rw [h0 (by unfold vl_near; omega)]; done), rfl, rfl, rfl⟩
  · skip
    refine g_iload_n dX6_isNear_10 rfl ?_
    refine g_iload_n dX6_isNear_11 rfl ?_
    refine g_icmp_ge 19 dX6_isNear_12 (by decide) (fun h12 => ?_) (fun h12 => ?_)
    · skip
      refine g_iconst dX6_isNear_19 (by decide) ?_
      refine g_zreturn dX6_isNear_20 rfl (by omega) ?_
      exact ⟨by first | (rw [h1 (by unfold vl_near; omega)]; done) | (rw [h0 (by unfold vl_near; omega)]; done), rfl, rfl, rfl⟩
    · skip
      refine g_iconst dX6_isNear_15 (by decide) ?_
      refine g_goto 20 dX6_isNear_16 (by decide) ?_
      refine g_zreturn dX6_isNear_20 rfl (by omega) ?_
      exact ⟨by first | (rw [h1 (by unfold vl_near; omega)]; done) | (rw [h0 (by unfold vl_near; omega)]; done), rfl, rfl, rfl⟩

set_option maxRecDepth 20000 in
theorem l_isOpenWithin (hV : isValve sh a) (fr to z : Int) (hn : gi a 2 ≤ 31) (hz1 : (∃ k : Int, 0 ≤ k ∧ k < gi a 2 ∧ gi (a + 1) k ≤ to ∧ fr ≤ gi (a + 2) k) → z = 1) (hz0 : ¬ (∃ k : Int, 0 ≤ k ∧ k < gi a 2 ∧ gi (a + 1) k ≤ to ∧ fr ≤ gi (a + 2) k) → z = 0) :
    ∀ (n : Nat) (k : Int), 0 ≤ k → gi a 2 - k < n → (∀ i : Int, 0 ≤ i → i < k → ¬ (gi (a + 1) i ≤ to ∧ fr ≤ gi (a + 2) i)) → Go mdX6_isOpenWithin 0 0 2 [some (vR a), some (vI fr), some (vI to), some (vI k)] [] gi gl sh (Rt (some (vI z)) gi gl sh) := by
  obtain ⟨k0, r0, r1, k1, l1, k2, l2⟩ := id hV
  intro n
  induction n with
  | zero =>
    intro k h0 h1 hb
    refine g_iload_n dX6_isOpenWithin_2 rfl ?_
    refine g_aload_n dX6_isOpenWithin_3 rfl ?_
    refine g_getI 2 dX6_isOpenWithin_4 flX6_18 rfl (by assumption) ?_
    refine g_icmp_ge 47 dX6_isOpenWithin_7 (by decide) (fun h7 => ?_) (fun h7 => ?_)
    · refine g_iconst dX6_isOpenWithin_47 (by decide) ?_
      refine g_ireturnT dX6_isOpenWithin_48 .boolean rfl (by decide) ?_
      exact ⟨by rw [hz0 (fun ⟨i, i0, i1, i2⟩ => hb i i0 (by omega) i2)], rfl, rfl, rfl⟩
    · exfalso; omega
  | succ n ih =>
    intro k h0 h1 hb
    refine g_iload_n dX6_isOpenWithin_2 rfl ?_
    refine g_aload_n dX6_isOpenWithin_3 rfl ?_
    refine g_getI 2 dX6_isOpenWithin_4 flX6_18 rfl (by assumption) ?_
    refine g_icmp_ge 47 dX6_isOpenWithin_7 (by decide) (fun h7 => ?_) (fun h7 => ?_)
    · skip
      refine g_iconst dX6_isOpenWithin_47 (by decide) ?_
      refine g_zreturn dX6_isOpenWithin_48 rfl (by omega) ?_
      exact ⟨by rw [hz0 (fun ⟨i, i0, i1, i2⟩ => hb i i0 (by omega) i2)], rfl, rfl, rfl⟩
    · skip
      refine g_iload_n dX6_isOpenWithin_10 rfl ?_
      refine g_aload_n dX6_isOpenWithin_11 rfl ?_
      refine g_getR 0 dX6_isOpenWithin_12 flX6_9 rfl (by assumption) (by assumption) ?_
      refine g_alen _ dX6_isOpenWithin_15 (by omega) (by assumption) (by decide) ?_
      refine g_icmp_ge 47 dX6_isOpenWithin_16 (by decide) (fun h16 => ?_) (fun h16 => ?_)
      · exfalso; omega
      · skip
        refine g_aload_n dX6_isOpenWithin_19 rfl ?_
        refine g_getR 0 dX6_isOpenWithin_20 flX6_9 rfl (by assumption) (by assumption) ?_
        refine g_iload_n dX6_isOpenWithin_23 rfl ?_
        refine g_iaload dX6_isOpenWithin_24 (by assumption) (by omega) (by omega) ?_
        refine g_iload_n dX6_isOpenWithin_25 rfl ?_
        refine g_icmp_gt 41 dX6_isOpenWithin_26 (by decide) (fun h26 => ?_) (fun h26 => ?_)
        · skip
          refine n_iinc (lN := [_, _, _, _]) dX6_isOpenWithin_41 rfl (by decide) (by omega) (by omega) rfl ?_
          refine g_goto 2 dX6_isOpenWithin_44 (by decide) ?_
          exact ih (k + 1) (by omega) (by omega) (fun i i0 i1 => if h : i = k then (by subst h; omega) else hb i i0 (by omega))
        · skip
          refine g_aload_n dX6_isOpenWithin_29 rfl ?_
          refine g_getR 1 dX6_isOpenWithin_30 flX6_15 rfl (by assumption) (by assumption) ?_
          refine g_iload_n dX6_isOpenWithin_33 rfl ?_
          refine g_iaload dX6_isOpenWithin_34 (by assumption) (by omega) (by omega) ?_
          refine g_iload_n dX6_isOpenWithin_35 rfl ?_
          refine g_icmp_lt 41 dX6_isOpenWithin_36 (by decide) (fun h36 => ?_) (fun h36 => ?_)
          · skip
            refine n_iinc (lN := [_, _, _, _]) dX6_isOpenWithin_41 rfl (by decide) (by omega) (by omega) rfl ?_
            refine g_goto 2 dX6_isOpenWithin_44 (by decide) ?_
            exact ih (k + 1) (by omega) (by omega) (fun i i0 i1 => if h : i = k then (by subst h; omega) else hb i i0 (by omega))
          · skip
            refine g_iconst dX6_isOpenWithin_39 (by decide) ?_
            refine g_zreturn dX6_isOpenWithin_40 rfl (by omega) ?_
            exact ⟨by rw [hz1 ⟨k, h0, by omega, by omega, by omega⟩], rfl, rfl, rfl⟩
theorem c_isOpenWithin (hV : isValve sh a) (fr to z : Int) (hn : gi a 2 ≤ 31) (hz1 : (∃ k : Int, 0 ≤ k ∧ k < gi a 2 ∧ gi (a + 1) k ≤ to ∧ fr ≤ gi (a + 2) k) → z = 1) (hz0 : ¬ (∃ k : Int, 0 ≤ k ∧ k < gi a 2 ∧ gi (a + 1) k ≤ to ∧ fr ≤ gi (a + 2) k) → z = 0) : Ct mdX6_isOpenWithin 0 0 [vR a, vI fr, vI to] gi gl sh (Rt (some (vI z)) gi gl sh) := by
  show Go mdX6_isOpenWithin 0 0 0 [some (vR a), some (vI fr), some (vI to), none] [] gi gl sh _
  refine g_iconst dX6_isOpenWithin_0 (by decide) ?_
  refine n_istore_n (lN := [_, _, _, _]) dX6_isOpenWithin_1 (by decide) rfl ?_
  exact l_isOpenWithin hV fr to z hn hz1 hz0 ((gi a 2).toNat + 1) 0 (by omega) (by omega) (fun i i0 i1 => by omega)
set_option maxRecDepth 20000 in
theorem l_ticksOpen (hV : isValve sh a) (hn : 0 ≤ gi a 2 ∧ gi a 2 ≤ 31) (hok : vl_ok gi a (gi a 2)) :
    ∀ (n : Nat) (k x : Int), 0 ≤ k → k ≤ gi a 2 → gi a 2 - k ≤ n → x = vl_sum (gi (a + 1)) (gi (a + 2)) k.toNat → Go mdX6_ticksOpen 0 0 4 [some (vR a), some (vI x), some (vI k)] [] gi gl sh (Rt (some (vI (vl_sum (gi (a + 1)) (gi (a + 2)) (gi a 2).toNat))) gi gl sh) := by
  obtain ⟨k0, r0, r1, k1, l1, k2, l2⟩ := id hV
  intro n
  induction n with
  | zero =>
    intro k x h0 h2 h1 hx
    refine g_iload_n dX6_ticksOpen_4 rfl ?_
    refine g_aload_n dX6_ticksOpen_5 rfl ?_
    refine g_getI 2 dX6_ticksOpen_6 flX6_18 rfl (by assumption) ?_
    refine g_icmp_ge 45 dX6_ticksOpen_9 (by decide) (fun h7 => ?_) (fun h7 => ?_)
    · skip
      refine g_iload_n dX6_ticksOpen_45 rfl ?_
      refine g_ireturn dX6_ticksOpen_46 rfl ?_
      exact ⟨by rw [hx, show k.toNat = (gi a 2).toNat by omega], rfl, rfl, rfl⟩
    · exfalso; omega
  | succ n ih =>
    intro k x h0 h2 h1 hx
    have hb := vl_sum_b (gi := gi) (a := a) k.toNat (fun i i0 i1 => hok i i0 (by omega))
    refine g_iload_n dX6_ticksOpen_4 rfl ?_
    refine g_aload_n dX6_ticksOpen_5 rfl ?_
    refine g_getI 2 dX6_ticksOpen_6 flX6_18 rfl (by assumption) ?_
    refine g_icmp_ge 45 dX6_ticksOpen_9 (by decide) (fun h7 => ?_) (fun h7 => ?_)
    · skip
      refine g_iload_n dX6_ticksOpen_45 rfl ?_
      refine g_ireturn dX6_ticksOpen_46 rfl ?_
      exact ⟨by rw [hx, show k.toNat = (gi a 2).toNat by omega], rfl, rfl, rfl⟩
    · skip
      refine g_iload_n dX6_ticksOpen_12 rfl ?_
      refine g_aload_n dX6_ticksOpen_13 rfl ?_
      refine g_getR 0 dX6_ticksOpen_14 flX6_9 rfl (by assumption) (by assumption) ?_
      refine g_alen _ dX6_ticksOpen_17 (by omega) (by assumption) (by decide) ?_
      refine g_icmp_ge 45 dX6_ticksOpen_18 (by decide) (fun h8 => ?_) (fun h8 => ?_)
      · exfalso; omega
      · skip
        refine g_iload_n dX6_ticksOpen_21 rfl ?_
        refine g_aload_n dX6_ticksOpen_22 rfl ?_
        refine g_getR 1 dX6_ticksOpen_23 flX6_15 rfl (by assumption) (by assumption) ?_
        refine g_iload_n dX6_ticksOpen_26 rfl ?_
        refine g_iaload dX6_ticksOpen_27 (by assumption) (by omega) (by omega) ?_
        refine g_aload_n dX6_ticksOpen_28 rfl ?_
        refine g_getR 0 dX6_ticksOpen_29 flX6_9 rfl (by assumption) (by assumption) ?_
        refine g_iload_n dX6_ticksOpen_32 rfl ?_
        refine g_iaload dX6_ticksOpen_33 (by assumption) (by omega) (by omega) ?_
        refine g_isub dX6_ticksOpen_34 (by (have q := hok k h0 (by omega)); omega) (by (have q := hok k h0 (by omega)); omega) ?_
        refine g_iconst dX6_ticksOpen_35 (by decide) ?_
        refine g_iadd dX6_ticksOpen_36 (by (have q := hok k h0 (by omega)); omega) (by (have q := hok k h0 (by omega)); omega) ?_
        refine g_iadd dX6_ticksOpen_37 (by (have q := hok k h0 (by omega)); omega) (by (have q := hok k h0 (by omega)); omega) ?_
        refine n_istore_n (lN := [_, _, _]) dX6_ticksOpen_38 (by decide) rfl ?_
        refine n_iinc (lN := [_, _, _]) dX6_ticksOpen_39 rfl (by decide) (by omega) (by omega) rfl ?_
        refine g_goto 4 dX6_ticksOpen_42 (by decide) ?_
        refine ih (k + 1) _ (by omega) (by omega) (by omega) ?_
        rw [show (k + 1).toNat = k.toNat + 1 by omega, vl_sum, hx, show ((k.toNat : Nat) : Int) = k by omega]
theorem c_ticksOpen (hV : isValve sh a) (hn : 0 ≤ gi a 2 ∧ gi a 2 ≤ 31) (hok : vl_ok gi a (gi a 2)) : Ct mdX6_ticksOpen 0 0 [vR a] gi gl sh (Rt (some (vI (vl_sum (gi (a + 1)) (gi (a + 2)) (gi a 2).toNat))) gi gl sh) := by
  show Go mdX6_ticksOpen 0 0 0 [some (vR a), none, none] [] gi gl sh _
  refine g_iconst dX6_ticksOpen_0 (by decide) ?_
  refine n_istore_n (lN := [_, _, _]) dX6_ticksOpen_1 (by decide) rfl ?_
  refine g_iconst dX6_ticksOpen_2 (by decide) ?_
  refine n_istore_n (lN := [_, _, _]) dX6_ticksOpen_3 (by decide) rfl ?_
  exact l_ticksOpen hV hn hok (gi a 2).toNat 0 0 (by omega) (by omega) (by omega) rfl
set_option maxRecDepth 20000 in
theorem l_want2 (hV : isValve sh a) (fr to r f : Int) (m : Nat) (hm : gi a 2 = (m : Int)) (hm2 : m ≤ 30) : Go mdX6_want 0 0 71 [some (vR a), some (vI fr), some (vI to), some (vI r), some (vI f)] [] gi gl sh (Rt none (vl_put gi a m f to) gl sh) := by
  obtain ⟨k0, r0, r1, k1, l1, k2, l2⟩ := id hV
  have e1 : a ≠ a + 1 := by omega
  have e2 : a ≠ a + 2 := by omega
  refine g_aload_n dX6_want_71 rfl ?_
  refine g_getI 2 dX6_want_72 flX6_18 rfl (by assumption) ?_
  refine g_if_lt 121 dX6_want_75 (by decide) (fun h75 => ?_) (fun h75 => ?_)
  · exfalso; omega
  · skip
    refine g_aload_n dX6_want_78 rfl ?_
    refine g_getI 2 dX6_want_79 flX6_18 rfl (by assumption) ?_
    refine g_aload_n dX6_want_82 rfl ?_
    refine g_getR 0 dX6_want_83 flX6_9 rfl (by assumption) (by assumption) ?_
    refine g_alen _ dX6_want_86 (by omega) (by assumption) (by decide) ?_
    refine g_icmp_ge 121 dX6_want_87 (by decide) (fun h87 => ?_) (fun h87 => ?_)
    · exfalso; omega
    · skip
      refine g_aload_n dX6_want_90 rfl ?_
      refine g_getR 0 dX6_want_91 flX6_9 rfl (by assumption) (by assumption) ?_
      refine g_aload_n dX6_want_94 rfl ?_
      refine g_getI 2 dX6_want_95 flX6_18 rfl (by assumption) ?_
      refine g_iload dX6_want_98 rfl ?_
      refine g_iastore dX6_want_100 (by assumption) (by omega) (by omega) ?_
      refine g_aload_n dX6_want_101 rfl ?_
      refine g_getR 1 dX6_want_102 flX6_15 rfl (by assumption) (by assumption) ?_
      refine g_aload_n dX6_want_105 rfl ?_
      refine g_getI 2 dX6_want_106 flX6_18 rfl (by assumption) ?_
      refine g_iload_n dX6_want_109 rfl ?_
      refine g_iastore dX6_want_110 (by assumption) (by simp only [g_up_row e1] <;> omega) (by simp only [g_up_row e1] <;> omega) ?_
      refine g_aload_n dX6_want_111 rfl ?_
      refine g_dup dX6_want_112 (fun _ h9 => by cases h9) ?_
      refine g_getI 2 dX6_want_113 flX6_18 rfl (by assumption) ?_
      refine g_iconst dX6_want_116 (by decide) ?_
      refine g_iadd dX6_want_117 (by simp only [g_up_row e1, g_up_row e2]; omega) (by simp only [g_up_row e1, g_up_row e2]; omega) ?_
      refine g_putI 2 dX6_want_118 flX6_18 rfl (by assumption) ?_
      refine g_return dX6_want_121 rfl ?_
      exact ⟨rfl, by simp only [g_up_row e1, g_up_row e2, vl_put, hm], rfl, rfl⟩
set_option maxRecDepth 20000 in
theorem l_want (hV : isValve sh a) (fr to r : Int) : ∀ (n : Nat) (gi : gF) (f : Int), gi a 2 = (n : Int) → n ≤ 30 → vl_ok gi a n → -1000 ≤ f ∧ f ≤ 1000 →
    Go mdX6_want 0 0 3 [some (vR a), some (vI fr), some (vI to), some (vI r), some (vI f)] [] gi gl sh (Rt none (vl_put gi a (vl_w (gi (a + 1)) (gi (a + 2)) r n f).1 (vl_w (gi (a + 1)) (gi (a + 2)) r n f).2 to) gl sh) := by
  obtain ⟨k0, r0, r1, k1, l1, k2, l2⟩ := id hV
  have e1 : a + 1 ≠ a := by omega
  have e2 : a + 2 ≠ a := by omega
  intro n
  induction n with
  | zero =>
    intro gi f hn hn2 hok hf
    refine g_aload_n dX6_want_3 rfl ?_
    refine g_getI 2 dX6_want_4 flX6_18 rfl (by assumption) ?_
    refine g_if_le 71 dX6_want_7 (by decide) (fun h7 => ?_) (fun h7 => ?_)
    · skip
      exact l_want2 hV fr to r f 0 hn (by omega)
    · exfalso; omega
  | succ n ih =>
    intro gi f hn hn2 hok hf
    obtain ⟨z, hz1, hz0, -⟩ := z_ex (vl_near (gi (a + 2) n) f r)
    refine g_aload_n dX6_want_3 rfl ?_
    refine g_getI 2 dX6_want_4 flX6_18 rfl (by assumption) ?_
    refine g_if_le 71 dX6_want_7 (by decide) (fun h7 => ?_) (fun h7 => ?_)
    · exfalso; omega
    · skip
      refine g_aload_n dX6_want_10 rfl ?_
      refine g_getI 2 dX6_want_11 flX6_18 rfl (by assumption) ?_
      refine g_aload_n dX6_want_14 rfl ?_
      refine g_getR 1 dX6_want_15 flX6_15 rfl (by assumption) (by assumption) ?_
      refine g_alen _ dX6_want_18 (by omega) (by assumption) (by decide) ?_
      refine g_icmp_gt 71 dX6_want_19 (by decide) (fun h8 => ?_) (fun h8 => ?_)
      · exfalso; omega
      · skip
        refine g_aload_n dX6_want_22 rfl ?_
        refine g_getR 1 dX6_want_23 flX6_15 rfl (by assumption) (by assumption) ?_
        refine g_aload_n dX6_want_26 rfl ?_
        refine g_getI 2 dX6_want_27 flX6_18 rfl (by assumption) ?_
        refine g_iconst dX6_want_30 (by decide) ?_
        refine g_isub dX6_want_31 (by omega) (by omega) ?_
        have hq := hok n (by omega) (by omega)
        refine g_iaload dX6_want_32 (by assumption) (by omega) (by omega) ?_
        rw [show gi a 2 - 1 = (n : Int) by omega]
        refine g_iload dX6_want_33 rfl ?_
        refine g_iload_n dX6_want_35 rfl ?_
        refine g_cSi [_, _, _] dX6_want_36 mlX6_22 msX6_isNear (by decide) rfl rfl (Nat.le_of_ble_eq_true rfl) rfl (Nat.le_of_ble_eq_true rfl) (c_isNear (gi (a + 2) n) f r z hz1 hz0 (by omega) (by omega)) ?_
        refine g_if_eq 71 dX6_want_39 (by decide) (fun h9 => ?_) (fun h9 => ?_)
        · skip
          have hno : ¬ vl_near (gi (a + 2) n) f r := fun q => by have := hz1 q; omega
          have e : vl_w (gi (a + 1)) (gi (a + 2)) r (n + 1) f = (n + 1, f) := by rw [vl_w]; exact if_neg hno
          rw [e]
          exact l_want2 hV fr to r f (n + 1) hn (by omega)
        · skip
          refine g_aload_n dX6_want_42 rfl ?_
          refine g_dup dX6_want_43 (fun _ h9 => by cases h9) ?_
          refine g_getI 2 dX6_want_44 flX6_18 rfl (by assumption) ?_
          refine g_iconst dX6_want_47 (by decide) ?_
          refine g_isub dX6_want_48 (by omega) (by omega) ?_
          refine g_putI 2 dX6_want_49 flX6_18 rfl (by assumption) ?_
          refine g_iload dX6_want_52 rfl ?_
          refine g_aload_n dX6_want_54 rfl ?_
          refine g_getR 0 dX6_want_55 flX6_9 rfl (by assumption) (by assumption) ?_
          refine g_aload_n dX6_want_58 rfl ?_
          refine g_getI 2 dX6_want_59 flX6_18 rfl (by assumption) ?_
          refine g_iaload dX6_want_62 (by assumption) (by simp only [g_up_at] <;> omega) (by simp only [g_up_at] <;> omega) ?_
          refine g_min dX6_want_63 mlX6_26 (Nat.le_of_ble_eq_true rfl) ?_
          refine n_istore (lN := [_, _, _, _, _]) dX6_want_66 (by decide) rfl ?_
          refine g_goto 3 dX6_want_68 (by decide) ?_
          have hyes : vl_near (gi (a + 2) n) f r := Classical.byContradiction (fun q => h9 (hz0 q))
          have e : vl_w (gi (a + 1)) (gi (a + 2)) r (n + 1) f = vl_w (gi (a + 1)) (gi (a + 2)) r n (min f (gi (a + 1) n)) := by rw [vl_w]; exact if_pos hyes
          rw [e]
          have en : gi a 2 - 1 = (n : Int) := by omega
          simp only [g_up_at, g_up_row e1, en]
          have k := ih (g_up gi a 2 n) (min f (gi (a + 1) n)) g_up_at (by omega) (by intro k k0 k1; rw [g_up_row e1, g_up_row e2]; exact hok k k0 (by omega)) (by omega)
          rw [g_up_row e1, g_up_row e2] at k
          have e4 : ∀ m x t : Int, vl_put (g_up gi a 2 (n : Int)) a m x t = vl_put gi a m x t := fun m x t => by
            unfold vl_put
            rw [g_up_comm (f := gi) (Or.inl e1.symm), g_up_comm (f := g_up gi (a + 1) m x) (Or.inl e2.symm), g_up_up]
          rw [e4] at k
          exact k
theorem c_want (hV : isValve sh a) (fr to r : Int) (n : Nat) (hn : gi a 2 = (n : Int)) (hn2 : n ≤ 30) (hok : vl_ok gi a n) (hf : -1000 ≤ fr ∧ fr ≤ 1000) : Ct mdX6_want 0 0 [vR a, vI fr, vI to, vI r] gi gl sh (Rt none (vl_put gi a (vl_w (gi (a + 1)) (gi (a + 2)) r n fr).1 (vl_w (gi (a + 1)) (gi (a + 2)) r n fr).2 to) gl sh) := by
  show Go mdX6_want 0 0 0 [some (vR a), some (vI fr), some (vI to), some (vI r), none] [] gi gl sh _
  refine g_iload_n dX6_want_0 rfl ?_
  refine n_istore (lN := [_, _, _, _, _]) dX6_want_1 (by decide) rfl ?_
  exact l_want hV fr to r n gi fr hn hn2 hok hf
end VALVE
