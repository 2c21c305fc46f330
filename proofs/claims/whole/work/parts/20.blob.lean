/-! Blob: a row of eight ints: first, last, beganAt, left, right, size, colours, dark -/
abbrev gRw : Type := Int → Int
def bl_mean (r : gRw) : Int := if 0 < r 5 then r 6 / r 5 else 0
def bl_meas (r : gRw) (k : Int) : Int := if k = 0 then bl_mean r else if k = 1 then r 7 else if k = 2 then r 5 else r 1 - r 0 + 1
def bl_worth (r : gRw) : Int := if r 7 = 0 then r 5 else -3 * r 7
def bl_lt (r q : gRw) : Prop := r 0 < q 0 ∨ r 0 = q 0 ∧ r 2 < q 2
def bl_cpy (r q : gRw) : gRw := fun k => if 0 ≤ k ∧ k < 8 then q k else r k
def bl_new (r : gRw) (t c : Int) : gRw := fun k => if k = 0 then t else if k = 1 then t else if k = 2 then c else if k = 3 then c else if k = 4 then c else if k = 6 then 0 else if k = 7 then 0 else r k
def bl_inc (r : gRw) (t c col dk : Int) : gRw := fun k => if k = 1 then max (r 1) t else if k = 3 then min (r 3) c else if k = 4 then max (r 4) c else if k = 5 then r 5 + 1 else if k = 6 then r 6 + col else if k = 7 then r 7 + dk else r k
def bl_add (r : gRw) (t c col dk : Int) : gRw := if r 5 = 0 then bl_inc (bl_new r t c) t c col dk else bl_inc r t c col dk
def bl_abs (r q : gRw) : gRw := fun k => if k = 0 then (if q 0 < r 0 ∨ q 0 = r 0 ∧ q 2 < r 2 then q 0 else r 0) else if k = 2 then (if q 0 < r 0 ∨ q 0 = r 0 ∧ q 2 < r 2 then q 2 else r 2) else if k = 1 then max (r 1) (q 1) else if k = 3 then min (r 3) (q 3) else if k = 4 then max (r 4) (q 4) else if k = 5 then r 5 + q 5 else if k = 6 then r 6 + q 6 else if k = 7 then r 7 + q 7 else r k
def bl_off (r : gRw) : gRw := fun k => if k = 5 then 0 else r k
/-- a row's numbers are small -/
def bl_ok (r : gRw) : Prop := ∀ k : Int, 0 ≤ k → k < 8 → 0 ≤ r k ∧ r k ≤ 100000
theorem g_row_at {α : Type} {f : Int → α} {a : Int} {v : α} : g_row f a v a = v := by simp [g_row]
theorem g_up_as_row {gi : gF} {a i v : Int} : g_up gi a i v = g_row gi a (fun k => if k = i then v else gi a k) := by
  funext b k
  simp only [g_up, g_row]
  by_cases hb : b = a
  · subst hb; by_cases hk : k = i <;> simp [hk]
  · simp [hb]
theorem g_row_row {α : Type} {f : Int → α} {a : Int} {v w : α} : g_row (g_row f a v) a w = g_row f a w := by
  funext b; simp only [g_row]; split <;> rfl
theorem g_row_self {α : Type} {f : Int → α} {a : Int} : g_row f a (f a) = f := by
  funext b; simp only [g_row]; split
  · rename_i h; rw [h]
  · rfl
theorem bl_lt_z (r q : gRw) : ∃ z : Int, (bl_lt r q → z = 1) ∧ (¬ bl_lt r q → z = 0) := by
  by_cases h : bl_lt r q
  · exact ⟨1, fun _ => rfl, fun h2 => absurd h h2⟩
  · exact ⟨0, fun h2 => absurd h2 h, fun _ => rfl⟩
section BLOB
variable {gi gl : gF} {sh : gSh} {a b : Int}
set_option maxRecDepth 20000 in
set_option maxHeartbeats 1000000 in
theorem c_endTick (hk : sh.2.1 a = 0) (h1 : 0 ≤ gi a 1 ∧ gi a 1 ≤ 100000) : Ct mdX0_endTick 0 0 [vR a] gi gl sh (Rt (some (vI (gi a 1 + 1))) gi gl sh) := by
  show Go mdX0_endTick 0 0 0 [some (vR a)] [] gi gl sh _
  refine g_aload_n dX0_endTick_0 rfl ?_
  refine g_getI 1 dX0_endTick_1 flX0_19 rfl (by assumption) ?_
  refine g_iconst dX0_endTick_4 (by decide) ?_
  refine g_iadd dX0_endTick_5 (by omega) (by omega) ?_
  refine g_ireturn dX0_endTick_6 rfl ?_
  exact ⟨rfl, rfl, rfl, rfl⟩

set_option maxRecDepth 20000 in
set_option maxHeartbeats 1000000 in
theorem c_mean (hk : sh.2.1 a = 0) (h1 : 0 ≤ gi a 6 ∧ gi a 6 ≤ 100000) : Ct mdX0_mean 0 0 [vR a] gi gl sh (Rt (some (vI (bl_mean (gi a)))) gi gl sh) := by
  show Go mdX0_mean 0 0 0 [some (vR a)] [] gi gl sh _
  refine g_aload_n dX0_mean_0 rfl ?_
  refine g_getI 5 dX0_mean_1 flX0_9 rfl (by assumption) ?_
  refine g_if_le 19 dX0_mean_4 (by decide) (fun h4 => ?_) (fun h4 => ?_)
  · skip
    refine g_iconst dX0_mean_19 (by decide) ?_
    refine g_ireturn dX0_mean_20 rfl ?_
    exact ⟨by first | (rw [bl_mean, if_pos (by omega)]; done) | (rw [bl_mean, if_neg (by omega)]; done), rfl, rfl, rfl⟩
  · skip
    refine g_aload_n dX0_mean_7 rfl ?_
    refine g_getI 6 dX0_mean_8 flX0_37 rfl (by assumption) ?_
    refine g_aload_n dX0_mean_11 rfl ?_
    refine g_getI 5 dX0_mean_12 flX0_9 rfl (by assumption) ?_
    refine g_idiv dX0_mean_15 (by omega) (by omega) ?_
    refine g_goto 20 dX0_mean_16 (by decide) ?_
    refine g_ireturn dX0_mean_20 rfl ?_
    exact ⟨by first | (rw [bl_mean, if_pos (by omega)]; done) | (rw [bl_mean, if_neg (by omega)]; done), rfl, rfl, rfl⟩

set_option maxRecDepth 20000 in
set_option maxHeartbeats 1000000 in
theorem c_measure (hk : sh.2.1 a = 0) (h1 : bl_ok (gi a)) (k : Int) : Ct mdX0_measure 0 0 [vR a, vI k] gi gl sh (Rt (some (vI (bl_meas (gi a) k))) gi gl sh) := by
  show Go mdX0_measure 0 0 0 [some (vR a), some (vI k)] [] gi gl sh _
  have q0 := h1 0 (by decide) (by decide)
  have q1 := h1 1 (by decide) (by decide)
  refine g_iload_n dX0_measure_0 rfl ?_
  rcases (show k < 0 ∨ 2 < k ∨ k = 0 ∨ k = 1 ∨ k = 2 by omega) with hsw | hsw | hsw | hsw | hsw
  · skip
    refine g_tableOut 43 dX0_measure_1 (by omega) (by decide) ?_
    refine g_aload_n dX0_measure_43 rfl ?_
    refine g_getI 1 dX0_measure_44 flX0_19 rfl (by assumption) ?_
    refine g_aload_n dX0_measure_47 rfl ?_
    refine g_getI 0 dX0_measure_48 flX0_43 rfl (by assumption) ?_
    refine g_isub dX0_measure_51 (by omega) (by omega) ?_
    refine g_iconst dX0_measure_52 (by decide) ?_
    refine g_iadd dX0_measure_53 (by omega) (by omega) ?_
    refine g_ireturn dX0_measure_54 rfl ?_
    exact ⟨by simp only [bl_meas]; first | (rw [if_pos (by omega)]; done) | (rw [if_neg (by omega), if_pos (by omega)]; done) | (rw [if_neg (by omega), if_neg (by omega), if_pos (by omega)]; done) | (rw [if_neg (by omega), if_neg (by omega), if_neg (by omega)]; done), rfl, rfl, rfl⟩
  · skip
    refine g_tableOut 43 dX0_measure_1 (by omega) (by decide) ?_
    refine g_aload_n dX0_measure_43 rfl ?_
    refine g_getI 1 dX0_measure_44 flX0_19 rfl (by assumption) ?_
    refine g_aload_n dX0_measure_47 rfl ?_
    refine g_getI 0 dX0_measure_48 flX0_43 rfl (by assumption) ?_
    refine g_isub dX0_measure_51 (by omega) (by omega) ?_
    refine g_iconst dX0_measure_52 (by decide) ?_
    refine g_iadd dX0_measure_53 (by omega) (by omega) ?_
    refine g_ireturn dX0_measure_54 rfl ?_
    exact ⟨by simp only [bl_meas]; first | (rw [if_pos (by omega)]; done) | (rw [if_neg (by omega), if_pos (by omega)]; done) | (rw [if_neg (by omega), if_neg (by omega), if_pos (by omega)]; done) | (rw [if_neg (by omega), if_neg (by omega), if_neg (by omega)]; done), rfl, rfl, rfl⟩
  · skip
    refine g_tableIn 28 dX0_measure_1 (by omega) (by omega) (by rw [hsw]; rfl) (by decide) ?_
    refine g_aload_n dX0_measure_28 rfl ?_
    refine g_cVi [] dX0_measure_29 mlX0_53 mvX0_mean (by decide) (by assumption) (by decide) rfl rfl (Nat.le_of_ble_eq_true rfl) rfl (Nat.le_of_ble_eq_true rfl) (c_mean hk (h1 6 (by decide) (by decide))) ?_
    refine g_ireturn dX0_measure_32 rfl ?_
    exact ⟨by simp only [bl_meas]; first | (rw [if_pos (by omega)]; done) | (rw [if_neg (by omega), if_pos (by omega)]; done) | (rw [if_neg (by omega), if_neg (by omega), if_pos (by omega)]; done) | (rw [if_neg (by omega), if_neg (by omega), if_neg (by omega)]; done), rfl, rfl, rfl⟩
  · skip
    refine g_tableIn 33 dX0_measure_1 (by omega) (by omega) (by rw [hsw]; rfl) (by decide) ?_
    refine g_aload_n dX0_measure_33 rfl ?_
    refine g_getI 7 dX0_measure_34 flX0_40 rfl (by assumption) ?_
    refine g_ireturn dX0_measure_37 rfl ?_
    exact ⟨by simp only [bl_meas]; first | (rw [if_pos (by omega)]; done) | (rw [if_neg (by omega), if_pos (by omega)]; done) | (rw [if_neg (by omega), if_neg (by omega), if_pos (by omega)]; done) | (rw [if_neg (by omega), if_neg (by omega), if_neg (by omega)]; done), rfl, rfl, rfl⟩
  · skip
    refine g_tableIn 38 dX0_measure_1 (by omega) (by omega) (by rw [hsw]; rfl) (by decide) ?_
    refine g_aload_n dX0_measure_38 rfl ?_
    refine g_getI 5 dX0_measure_39 flX0_9 rfl (by assumption) ?_
    refine g_ireturn dX0_measure_42 rfl ?_
    exact ⟨by simp only [bl_meas]; first | (rw [if_pos (by omega)]; done) | (rw [if_neg (by omega), if_pos (by omega)]; done) | (rw [if_neg (by omega), if_neg (by omega), if_pos (by omega)]; done) | (rw [if_neg (by omega), if_neg (by omega), if_neg (by omega)]; done), rfl, rfl, rfl⟩

set_option maxRecDepth 20000 in
set_option maxHeartbeats 1000000 in
theorem c_worth (hk : sh.2.1 a = 0) (h1 : bl_ok (gi a)) : Ct mdX0_worth 0 0 [vR a] gi gl sh (Rt (some (vI (bl_worth (gi a)))) gi gl sh) := by
  show Go mdX0_worth 0 0 0 [some (vR a)] [] gi gl sh _
  have q0 := h1 7 (by decide) (by decide)
  refine g_aload_n dX0_worth_0 rfl ?_
  refine g_getI 7 dX0_worth_1 flX0_40 rfl (by assumption) ?_
  refine g_if_ne 14 dX0_worth_4 (by decide) (fun h4 => ?_) (fun h4 => ?_)
  · skip
    refine g_bipush dX0_worth_14 (by decide) (by decide) ?_
    refine g_aload_n dX0_worth_16 rfl ?_
    refine g_getI 7 dX0_worth_17 flX0_40 rfl (by assumption) ?_
    refine g_imul dX0_worth_20 (by omega) (by omega) ?_
    refine g_ireturn dX0_worth_21 rfl ?_
    exact ⟨by simp [bl_worth, *], rfl, rfl, rfl⟩
  · skip
    refine g_aload_n dX0_worth_7 rfl ?_
    refine g_getI 5 dX0_worth_8 flX0_9 rfl (by assumption) ?_
    refine g_goto 21 dX0_worth_11 (by decide) ?_
    refine g_ireturn dX0_worth_21 rfl ?_
    exact ⟨by simp [bl_worth, *], rfl, rfl, rfl⟩

set_option maxRecDepth 20000 in
set_option maxHeartbeats 1000000 in
theorem c_beganBefore (hk : sh.2.1 a = 0) (hk2 : sh.2.1 b = 0) (z : Int) (h1 : bl_lt (gi a) (gi b) → z = 1) (h0 : ¬ bl_lt (gi a) (gi b) → z = 0) : Ct mdX0_beganBefore 0 0 [vR a, vR b] gi gl sh (Rt (some (vI z)) gi gl sh) := by
  show Go mdX0_beganBefore 0 0 0 [some (vR a), some (vR b)] [] gi gl sh _
  refine g_aload_n dX0_beganBefore_0 rfl ?_
  refine g_getI 0 dX0_beganBefore_1 flX0_43 rfl (by assumption) ?_
  refine g_aload_n dX0_beganBefore_4 rfl ?_
  refine g_getI 0 dX0_beganBefore_5 flX0_43 rfl (by assumption) ?_
  refine g_icmp_lt 33 dX0_beganBefore_8 (by decide) (fun h8 => ?_) (fun h8 => ?_)
  · skip
    refine g_iconst dX0_beganBefore_33 (by decide) ?_
    refine g_goto 38 dX0_beganBefore_34 (by decide) ?_
    refine g_zreturn dX0_beganBefore_38 rfl (by omega) ?_
    exact ⟨by first | (rw [h1 (by unfold bl_lt; omega)]; done) | (rw [h0 (by unfold bl_lt; omega)]; done), rfl, rfl, rfl⟩
  · skip
    refine g_aload_n dX0_beganBefore_11 rfl ?_
    refine g_getI 0 dX0_beganBefore_12 flX0_43 rfl (by assumption) ?_
    refine g_aload_n dX0_beganBefore_15 rfl ?_
    refine g_getI 0 dX0_beganBefore_16 flX0_43 rfl (by assumption) ?_
    refine g_icmp_ne 37 dX0_beganBefore_19 (by decide) (fun h19 => ?_) (fun h19 => ?_)
    · skip
      refine g_iconst dX0_beganBefore_37 (by decide) ?_
      refine g_zreturn dX0_beganBefore_38 rfl (by omega) ?_
      exact ⟨by first | (rw [h1 (by unfold bl_lt; omega)]; done) | (rw [h0 (by unfold bl_lt; omega)]; done), rfl, rfl, rfl⟩
    · skip
      refine g_aload_n dX0_beganBefore_22 rfl ?_
      refine g_getI 2 dX0_beganBefore_23 flX0_46 rfl (by assumption) ?_
      refine g_aload_n dX0_beganBefore_26 rfl ?_
      refine g_getI 2 dX0_beganBefore_27 flX0_46 rfl (by assumption) ?_
      refine g_icmp_ge 37 dX0_beganBefore_30 (by decide) (fun h30 => ?_) (fun h30 => ?_)
      · skip
        refine g_iconst dX0_beganBefore_37 (by decide) ?_
        refine g_zreturn dX0_beganBefore_38 rfl (by omega) ?_
        exact ⟨by first | (rw [h1 (by unfold bl_lt; omega)]; done) | (rw [h0 (by unfold bl_lt; omega)]; done), rfl, rfl, rfl⟩
      · skip
        refine g_iconst dX0_beganBefore_33 (by decide) ?_
        refine g_goto 38 dX0_beganBefore_34 (by decide) ?_
        refine g_zreturn dX0_beganBefore_38 rfl (by omega) ?_
        exact ⟨by first | (rw [h1 (by unfold bl_lt; omega)]; done) | (rw [h0 (by unfold bl_lt; omega)]; done), rfl, rfl, rfl⟩

set_option maxRecDepth 20000 in
set_option maxHeartbeats 1000000 in
theorem c_copyFrom (hk : sh.2.1 a = 0) (hk2 : sh.2.1 b = 0) (hab : b ≠ a) : Ct mdX0_copyFrom 0 0 [vR a, vR b] gi gl sh (Rt none (g_row gi a (bl_cpy (gi a) (gi b))) gl sh) := by
  show Go mdX0_copyFrom 0 0 0 [some (vR a), some (vR b)] [] gi gl sh _
  refine g_aload_n dX0_copyFrom_0 rfl ?_
  refine g_aload_n dX0_copyFrom_1 rfl ?_
  refine g_getI 0 dX0_copyFrom_2 flX0_43 rfl (by assumption) ?_
  refine g_putI 0 dX0_copyFrom_5 flX0_43 rfl (by assumption) ?_
  refine g_aload_n dX0_copyFrom_8 rfl ?_
  refine g_aload_n dX0_copyFrom_9 rfl ?_
  refine g_getI 1 dX0_copyFrom_10 flX0_19 rfl (by assumption) ?_
  refine g_putI 1 dX0_copyFrom_13 flX0_19 rfl (by assumption) ?_
  refine g_aload_n dX0_copyFrom_16 rfl ?_
  refine g_aload_n dX0_copyFrom_17 rfl ?_
  refine g_getI 2 dX0_copyFrom_18 flX0_46 rfl (by assumption) ?_
  refine g_putI 2 dX0_copyFrom_21 flX0_46 rfl (by assumption) ?_
  refine g_aload_n dX0_copyFrom_24 rfl ?_
  refine g_aload_n dX0_copyFrom_25 rfl ?_
  refine g_getI 3 dX0_copyFrom_26 flX0_28 rfl (by assumption) ?_
  refine g_putI 3 dX0_copyFrom_29 flX0_28 rfl (by assumption) ?_
  refine g_aload_n dX0_copyFrom_32 rfl ?_
  refine g_aload_n dX0_copyFrom_33 rfl ?_
  refine g_getI 4 dX0_copyFrom_34 flX0_34 rfl (by assumption) ?_
  refine g_putI 4 dX0_copyFrom_37 flX0_34 rfl (by assumption) ?_
  refine g_aload_n dX0_copyFrom_40 rfl ?_
  refine g_aload_n dX0_copyFrom_41 rfl ?_
  refine g_getI 5 dX0_copyFrom_42 flX0_9 rfl (by assumption) ?_
  refine g_putI 5 dX0_copyFrom_45 flX0_9 rfl (by assumption) ?_
  refine g_aload_n dX0_copyFrom_48 rfl ?_
  refine g_aload_n dX0_copyFrom_49 rfl ?_
  refine g_getI 6 dX0_copyFrom_50 flX0_37 rfl (by assumption) ?_
  refine g_putI 6 dX0_copyFrom_53 flX0_37 rfl (by assumption) ?_
  refine g_aload_n dX0_copyFrom_56 rfl ?_
  refine g_aload_n dX0_copyFrom_57 rfl ?_
  refine g_getI 7 dX0_copyFrom_58 flX0_40 rfl (by assumption) ?_
  refine g_putI 7 dX0_copyFrom_61 flX0_40 rfl (by assumption) ?_
  refine g_return dX0_copyFrom_64 rfl ?_
  refine ⟨rfl, ?_, rfl, rfl⟩
  simp only [g_up_as_row, g_row_row, g_row_at, g_row_ne hab]
  congr 1
  funext k
  simp only [bl_cpy]
  rcases (show k = 0 ∨ k = 1 ∨ k = 2 ∨ k = 3 ∨ k = 4 ∨ k = 5 ∨ k = 6 ∨ k = 7 ∨ k < 0 ∨ 8 ≤ k by omega) with h | h | h | h | h | h | h | h | h | h
  all_goals first | (subst h; simp; done) | (simp only [show ¬ (0 ≤ k ∧ k < 8) by omega, if_false, show ¬ k = 0 by omega, show ¬ k = 1 by omega, show ¬ k = 2 by omega, show ¬ k = 3 by omega, show ¬ k = 4 by omega, show ¬ k = 5 by omega, show ¬ k = 6 by omega, show ¬ k = 7 by omega]; done)

set_option maxRecDepth 20000 in
set_option maxHeartbeats 1000000 in
theorem c_beginAt (hk : sh.2.1 a = 0) (t c : Int) : Ct mdX0_beginAt 0 0 [vR a, vI t, vI c] gi gl sh (Rt none (g_row gi a (bl_new (gi a) t c)) gl sh) := by
  show Go mdX0_beginAt 0 0 0 [some (vR a), some (vI t), some (vI c)] [] gi gl sh _
  refine g_aload_n dX0_beginAt_0 rfl ?_
  refine g_iload_n dX0_beginAt_1 rfl ?_
  refine g_putI 0 dX0_beginAt_2 flX0_43 rfl (by assumption) ?_
  refine g_aload_n dX0_beginAt_5 rfl ?_
  refine g_iload_n dX0_beginAt_6 rfl ?_
  refine g_putI 1 dX0_beginAt_7 flX0_19 rfl (by assumption) ?_
  refine g_aload_n dX0_beginAt_10 rfl ?_
  refine g_iload_n dX0_beginAt_11 rfl ?_
  refine g_putI 2 dX0_beginAt_12 flX0_46 rfl (by assumption) ?_
  refine g_aload_n dX0_beginAt_15 rfl ?_
  refine g_iload_n dX0_beginAt_16 rfl ?_
  refine g_putI 3 dX0_beginAt_17 flX0_28 rfl (by assumption) ?_
  refine g_aload_n dX0_beginAt_20 rfl ?_
  refine g_iload_n dX0_beginAt_21 rfl ?_
  refine g_putI 4 dX0_beginAt_22 flX0_34 rfl (by assumption) ?_
  refine g_aload_n dX0_beginAt_25 rfl ?_
  refine g_iconst dX0_beginAt_26 (by decide) ?_
  refine g_putI 6 dX0_beginAt_27 flX0_37 rfl (by assumption) ?_
  refine g_aload_n dX0_beginAt_30 rfl ?_
  refine g_iconst dX0_beginAt_31 (by decide) ?_
  refine g_putI 7 dX0_beginAt_32 flX0_40 rfl (by assumption) ?_
  refine g_return dX0_beginAt_35 rfl ?_
  refine ⟨rfl, ?_, rfl, rfl⟩
  simp only [g_up_as_row, g_row_row, g_row_at]
  congr 1
  funext k
  simp only [bl_new]
  by_cases h0 : k = 0
  · subst h0; simp
  by_cases h1 : k = 1
  · subst h1; simp
  by_cases h2 : k = 2
  · subst h2; simp
  by_cases h3 : k = 3
  · subst h3; simp
  by_cases h4 : k = 4
  · subst h4; simp
  simp only [h0, h1, h2, h3, h4, if_false]
  by_cases h6 : k = 6
  · subst h6; simp
  simp only [h6, if_false]

set_option maxRecDepth 20000 in
set_option maxHeartbeats 1000000 in
theorem c_addCell (hk : sh.2.1 a = 0) (t c col dk : Int) (h9 : bl_ok (gi a)) (hc : 0 ≤ col ∧ col ≤ 9) (hdk : dk = 0 ∨ dk = 1) : Ct mdX0_addCell 0 0 [vR a, vI t, vI c, vI col, vI dk] gi gl sh (Rt none (g_row gi a (bl_add (gi a) t c col dk)) gl sh) := by
  show Go mdX0_addCell 0 0 0 [some (vR a), some (vI t), some (vI c), some (vI col), some (vI dk)] [] gi gl sh _
  have q5 := h9 5 (by decide) (by decide)
  have q6 := h9 6 (by decide) (by decide)
  have q7 := h9 7 (by decide) (by decide)
  refine g_aload_n dX0_addCell_0 rfl ?_
  refine g_getI 5 dX0_addCell_1 flX0_9 rfl (by assumption) ?_
  refine g_if_ne 13 dX0_addCell_4 (by decide) (fun h4 => ?_) (fun h4 => ?_)
  · skip
    refine g_aload_n dX0_addCell_13 rfl ?_
    refine g_aload_n dX0_addCell_14 rfl ?_
    refine g_getI 1 dX0_addCell_15 flX0_19 rfl (by assumption) ?_
    refine g_iload_n dX0_addCell_18 rfl ?_
    refine g_max dX0_addCell_19 mlX0_22 (Nat.le_of_ble_eq_true rfl) ?_
    refine g_putI 1 dX0_addCell_22 flX0_19 rfl (by assumption) ?_
    refine g_aload_n dX0_addCell_25 rfl ?_
    refine g_aload_n dX0_addCell_26 rfl ?_
    refine g_getI 3 dX0_addCell_27 flX0_28 rfl (by assumption) ?_
    refine g_iload_n dX0_addCell_30 rfl ?_
    refine g_min dX0_addCell_31 mlX0_31 (Nat.le_of_ble_eq_true rfl) ?_
    refine g_putI 3 dX0_addCell_34 flX0_28 rfl (by assumption) ?_
    refine g_aload_n dX0_addCell_37 rfl ?_
    refine g_aload_n dX0_addCell_38 rfl ?_
    refine g_getI 4 dX0_addCell_39 flX0_34 rfl (by assumption) ?_
    refine g_iload_n dX0_addCell_42 rfl ?_
    refine g_max dX0_addCell_43 mlX0_22 (Nat.le_of_ble_eq_true rfl) ?_
    refine g_putI 4 dX0_addCell_46 flX0_34 rfl (by assumption) ?_
    refine g_aload_n dX0_addCell_49 rfl ?_
    refine g_dup dX0_addCell_50 (fun _ h9 => by cases h9) ?_
    refine g_getI 5 dX0_addCell_51 flX0_9 rfl (by assumption) ?_
    refine g_iconst dX0_addCell_54 (by decide) ?_
    refine g_iadd dX0_addCell_55 (by simp [g_up, g_row, bl_new] <;> omega) (by simp [g_up, g_row, bl_new] <;> omega) ?_
    refine g_putI 5 dX0_addCell_56 flX0_9 rfl (by assumption) ?_
    refine g_aload_n dX0_addCell_59 rfl ?_
    refine g_dup dX0_addCell_60 (fun _ h9 => by cases h9) ?_
    refine g_getI 6 dX0_addCell_61 flX0_37 rfl (by assumption) ?_
    refine g_iload_n dX0_addCell_64 rfl ?_
    refine g_iadd dX0_addCell_65 (by simp [g_up, g_row, bl_new] <;> omega) (by simp [g_up, g_row, bl_new] <;> omega) ?_
    refine g_putI 6 dX0_addCell_66 flX0_37 rfl (by assumption) ?_
    refine g_aload_n dX0_addCell_69 rfl ?_
    refine g_dup dX0_addCell_70 (fun _ h9 => by cases h9) ?_
    refine g_getI 7 dX0_addCell_71 flX0_40 rfl (by assumption) ?_
    refine g_iload dX0_addCell_74 rfl ?_
    refine g_if_eq 83 dX0_addCell_76 (by decide) (fun h76 => ?_) (fun h76 => ?_)
    · skip
      refine g_iconst dX0_addCell_83 (by decide) ?_
      refine g_iadd dX0_addCell_84 (by simp [g_up, g_row, bl_new] <;> omega) (by simp [g_up, g_row, bl_new] <;> omega) ?_
      refine g_putI 7 dX0_addCell_85 flX0_40 rfl (by assumption) ?_
      refine g_return dX0_addCell_88 rfl ?_
      refine ⟨rfl, ?_, rfl, rfl⟩
      unfold bl_add
      first | rw [if_pos (by omega)] | rw [if_neg (by omega)]
      simp only [g_up_as_row, g_row_row, g_row_at]
      congr 1
      funext k
      simp only [bl_inc]
      by_cases h1 : k = 1
      · subst h1; simp
      by_cases h3 : k = 3
      · subst h3; simp
      by_cases h4 : k = 4
      · subst h4; simp
      by_cases h5 : k = 5
      · subst h5; simp
      by_cases h6 : k = 6
      · subst h6; simp
      by_cases h7 : k = 7
      · subst h7; simp [h76] <;> omega
      simp only [h1, h3, h4, h5, h6, h7, if_false]
    · skip
      refine g_iconst dX0_addCell_79 (by decide) ?_
      refine g_goto 84 dX0_addCell_80 (by decide) ?_
      refine g_iadd dX0_addCell_84 (by simp [g_up, g_row, bl_new] <;> omega) (by simp [g_up, g_row, bl_new] <;> omega) ?_
      refine g_putI 7 dX0_addCell_85 flX0_40 rfl (by assumption) ?_
      refine g_return dX0_addCell_88 rfl ?_
      refine ⟨rfl, ?_, rfl, rfl⟩
      unfold bl_add
      first | rw [if_pos (by omega)] | rw [if_neg (by omega)]
      simp only [g_up_as_row, g_row_row, g_row_at]
      congr 1
      funext k
      simp only [bl_inc]
      by_cases h1 : k = 1
      · subst h1; simp
      by_cases h3 : k = 3
      · subst h3; simp
      by_cases h4 : k = 4
      · subst h4; simp
      by_cases h5 : k = 5
      · subst h5; simp
      by_cases h6 : k = 6
      · subst h6; simp
      by_cases h7 : k = 7
      · subst h7; simp [h76] <;> omega
      simp only [h1, h3, h4, h5, h6, h7, if_false]
  · skip
    refine g_aload_n dX0_addCell_7 rfl ?_
    refine g_iload_n dX0_addCell_8 rfl ?_
    refine g_iload_n dX0_addCell_9 rfl ?_
    refine g_cVv [_, _] dX0_addCell_10 mlX0_15 mvX0_beginAt (by decide) (by assumption) (by decide) rfl rfl (Nat.le_of_ble_eq_true rfl) rfl (Nat.le_of_ble_eq_true rfl) (c_beginAt hk t c) ?_
    refine g_aload_n dX0_addCell_13 rfl ?_
    refine g_aload_n dX0_addCell_14 rfl ?_
    refine g_getI 1 dX0_addCell_15 flX0_19 rfl (by assumption) ?_
    refine g_iload_n dX0_addCell_18 rfl ?_
    refine g_max dX0_addCell_19 mlX0_22 (Nat.le_of_ble_eq_true rfl) ?_
    refine g_putI 1 dX0_addCell_22 flX0_19 rfl (by assumption) ?_
    refine g_aload_n dX0_addCell_25 rfl ?_
    refine g_aload_n dX0_addCell_26 rfl ?_
    refine g_getI 3 dX0_addCell_27 flX0_28 rfl (by assumption) ?_
    refine g_iload_n dX0_addCell_30 rfl ?_
    refine g_min dX0_addCell_31 mlX0_31 (Nat.le_of_ble_eq_true rfl) ?_
    refine g_putI 3 dX0_addCell_34 flX0_28 rfl (by assumption) ?_
    refine g_aload_n dX0_addCell_37 rfl ?_
    refine g_aload_n dX0_addCell_38 rfl ?_
    refine g_getI 4 dX0_addCell_39 flX0_34 rfl (by assumption) ?_
    refine g_iload_n dX0_addCell_42 rfl ?_
    refine g_max dX0_addCell_43 mlX0_22 (Nat.le_of_ble_eq_true rfl) ?_
    refine g_putI 4 dX0_addCell_46 flX0_34 rfl (by assumption) ?_
    refine g_aload_n dX0_addCell_49 rfl ?_
    refine g_dup dX0_addCell_50 (fun _ h9 => by cases h9) ?_
    refine g_getI 5 dX0_addCell_51 flX0_9 rfl (by assumption) ?_
    refine g_iconst dX0_addCell_54 (by decide) ?_
    refine g_iadd dX0_addCell_55 (by simp [g_up, g_row, bl_new] <;> omega) (by simp [g_up, g_row, bl_new] <;> omega) ?_
    refine g_putI 5 dX0_addCell_56 flX0_9 rfl (by assumption) ?_
    refine g_aload_n dX0_addCell_59 rfl ?_
    refine g_dup dX0_addCell_60 (fun _ h9 => by cases h9) ?_
    refine g_getI 6 dX0_addCell_61 flX0_37 rfl (by assumption) ?_
    refine g_iload_n dX0_addCell_64 rfl ?_
    refine g_iadd dX0_addCell_65 (by simp [g_up, g_row, bl_new] <;> omega) (by simp [g_up, g_row, bl_new] <;> omega) ?_
    refine g_putI 6 dX0_addCell_66 flX0_37 rfl (by assumption) ?_
    refine g_aload_n dX0_addCell_69 rfl ?_
    refine g_dup dX0_addCell_70 (fun _ h9 => by cases h9) ?_
    refine g_getI 7 dX0_addCell_71 flX0_40 rfl (by assumption) ?_
    refine g_iload dX0_addCell_74 rfl ?_
    refine g_if_eq 83 dX0_addCell_76 (by decide) (fun h76 => ?_) (fun h76 => ?_)
    · skip
      refine g_iconst dX0_addCell_83 (by decide) ?_
      refine g_iadd dX0_addCell_84 (by simp [g_up, g_row, bl_new] <;> omega) (by simp [g_up, g_row, bl_new] <;> omega) ?_
      refine g_putI 7 dX0_addCell_85 flX0_40 rfl (by assumption) ?_
      refine g_return dX0_addCell_88 rfl ?_
      refine ⟨rfl, ?_, rfl, rfl⟩
      unfold bl_add
      first | rw [if_pos (by omega)] | rw [if_neg (by omega)]
      simp only [g_up_as_row, g_row_row, g_row_at]
      congr 1
      funext k
      simp only [bl_inc]
      by_cases h1 : k = 1
      · subst h1; simp
      by_cases h3 : k = 3
      · subst h3; simp
      by_cases h4 : k = 4
      · subst h4; simp
      by_cases h5 : k = 5
      · subst h5; simp
      by_cases h6 : k = 6
      · subst h6; simp
      by_cases h7 : k = 7
      · subst h7; simp [h76] <;> omega
      simp only [h1, h3, h4, h5, h6, h7, if_false]
    · skip
      refine g_iconst dX0_addCell_79 (by decide) ?_
      refine g_goto 84 dX0_addCell_80 (by decide) ?_
      refine g_iadd dX0_addCell_84 (by simp [g_up, g_row, bl_new] <;> omega) (by simp [g_up, g_row, bl_new] <;> omega) ?_
      refine g_putI 7 dX0_addCell_85 flX0_40 rfl (by assumption) ?_
      refine g_return dX0_addCell_88 rfl ?_
      refine ⟨rfl, ?_, rfl, rfl⟩
      unfold bl_add
      first | rw [if_pos (by omega)] | rw [if_neg (by omega)]
      simp only [g_up_as_row, g_row_row, g_row_at]
      congr 1
      funext k
      simp only [bl_inc]
      by_cases h1 : k = 1
      · subst h1; simp
      by_cases h3 : k = 3
      · subst h3; simp
      by_cases h4 : k = 4
      · subst h4; simp
      by_cases h5 : k = 5
      · subst h5; simp
      by_cases h6 : k = 6
      · subst h6; simp
      by_cases h7 : k = 7
      · subst h7; simp [h76] <;> omega
      simp only [h1, h3, h4, h5, h6, h7, if_false]

set_option maxRecDepth 20000 in
set_option maxHeartbeats 1000000 in
theorem c_absorb (hk : sh.2.1 a = 0) (hk2 : sh.2.1 b = 0) (hab : b ≠ a) (ha : bl_ok (gi a)) (hb : bl_ok (gi b)) : Ct mdX0_absorb 0 0 [vR a, vR b] gi gl sh (Rt none (g_row (g_row gi a (bl_abs (gi a) (gi b))) b (bl_off (gi b))) gl sh) := by
  show Go mdX0_absorb 0 0 0 [some (vR a), some (vR b)] [] gi gl sh _
  obtain ⟨z, hz1, hz0⟩ := bl_lt_z (gi b) (gi a)
  have e2 : a ≠ b := fun q => hab q.symm
  have p5 := ha 5 (by decide) (by decide)
  have p6 := ha 6 (by decide) (by decide)
  have p7 := ha 7 (by decide) (by decide)
  have q5 := hb 5 (by decide) (by decide)
  have q6 := hb 6 (by decide) (by decide)
  have q7 := hb 7 (by decide) (by decide)
  refine g_aload_n dX0_absorb_0 rfl ?_
  refine g_aload_n dX0_absorb_1 rfl ?_
  refine g_cVi [_] dX0_absorb_2 mlX0_49 mvX0_beganBefore (by decide) (by assumption) (by decide) rfl rfl (Nat.le_of_ble_eq_true rfl) rfl (Nat.le_of_ble_eq_true rfl) (c_beganBefore hk2 hk z hz1 hz0) ?_
  refine g_if_eq 24 dX0_absorb_5 (by decide) (fun hz => ?_) (fun hz => ?_)
  · skip
    refine g_aload_n dX0_absorb_24 rfl ?_
    refine g_aload_n dX0_absorb_25 rfl ?_
    refine g_getI 1 dX0_absorb_26 flX0_19 rfl (by assumption) ?_
    refine g_aload_n dX0_absorb_29 rfl ?_
    refine g_getI 1 dX0_absorb_30 flX0_19 rfl (by assumption) ?_
    refine g_max dX0_absorb_33 mlX0_22 (Nat.le_of_ble_eq_true rfl) ?_
    refine g_putI 1 dX0_absorb_36 flX0_19 rfl (by assumption) ?_
    refine g_aload_n dX0_absorb_39 rfl ?_
    refine g_aload_n dX0_absorb_40 rfl ?_
    refine g_getI 3 dX0_absorb_41 flX0_28 rfl (by assumption) ?_
    refine g_aload_n dX0_absorb_44 rfl ?_
    refine g_getI 3 dX0_absorb_45 flX0_28 rfl (by assumption) ?_
    refine g_min dX0_absorb_48 mlX0_31 (Nat.le_of_ble_eq_true rfl) ?_
    refine g_putI 3 dX0_absorb_51 flX0_28 rfl (by assumption) ?_
    refine g_aload_n dX0_absorb_54 rfl ?_
    refine g_aload_n dX0_absorb_55 rfl ?_
    refine g_getI 4 dX0_absorb_56 flX0_34 rfl (by assumption) ?_
    refine g_aload_n dX0_absorb_59 rfl ?_
    refine g_getI 4 dX0_absorb_60 flX0_34 rfl (by assumption) ?_
    refine g_max dX0_absorb_63 mlX0_22 (Nat.le_of_ble_eq_true rfl) ?_
    refine g_putI 4 dX0_absorb_66 flX0_34 rfl (by assumption) ?_
    refine g_aload_n dX0_absorb_69 rfl ?_
    refine g_dup dX0_absorb_70 (fun _ h9 => by cases h9) ?_
    refine g_getI 5 dX0_absorb_71 flX0_9 rfl (by assumption) ?_
    refine g_aload_n dX0_absorb_74 rfl ?_
    refine g_getI 5 dX0_absorb_75 flX0_9 rfl (by assumption) ?_
    refine g_iadd dX0_absorb_78 (by simp [g_up, e2, hab] <;> omega) (by simp [g_up, e2, hab] <;> omega) ?_
    refine g_putI 5 dX0_absorb_79 flX0_9 rfl (by assumption) ?_
    refine g_aload_n dX0_absorb_82 rfl ?_
    refine g_dup dX0_absorb_83 (fun _ h9 => by cases h9) ?_
    refine g_getI 6 dX0_absorb_84 flX0_37 rfl (by assumption) ?_
    refine g_aload_n dX0_absorb_87 rfl ?_
    refine g_getI 6 dX0_absorb_88 flX0_37 rfl (by assumption) ?_
    refine g_iadd dX0_absorb_91 (by simp [g_up, e2, hab] <;> omega) (by simp [g_up, e2, hab] <;> omega) ?_
    refine g_putI 6 dX0_absorb_92 flX0_37 rfl (by assumption) ?_
    refine g_aload_n dX0_absorb_95 rfl ?_
    refine g_dup dX0_absorb_96 (fun _ h9 => by cases h9) ?_
    refine g_getI 7 dX0_absorb_97 flX0_40 rfl (by assumption) ?_
    refine g_aload_n dX0_absorb_100 rfl ?_
    refine g_getI 7 dX0_absorb_101 flX0_40 rfl (by assumption) ?_
    refine g_iadd dX0_absorb_104 (by simp [g_up, e2, hab] <;> omega) (by simp [g_up, e2, hab] <;> omega) ?_
    refine g_putI 7 dX0_absorb_105 flX0_40 rfl (by assumption) ?_
    refine g_aload_n dX0_absorb_108 rfl ?_
    refine g_iconst dX0_absorb_109 (by decide) ?_
    refine g_putI 5 dX0_absorb_110 flX0_9 rfl (by assumption) ?_
    refine g_return dX0_absorb_113 rfl ?_
    refine ⟨rfl, ?_, rfl, rfl⟩
    have e2 : a ≠ b := fun q => hab q.symm
    simp only [g_up_as_row, g_row_row, g_row_at, g_row_ne hab, g_row_ne e2]
    congr 1
    congr 1
    funext k
    simp only [bl_abs]
    by_cases h1 : k = 1
    · subst h1; simp
    by_cases h3 : k = 3
    · subst h3; simp
    by_cases h4 : k = 4
    · subst h4; simp
    by_cases h5 : k = 5
    · subst h5; simp
    by_cases h6 : k = 6
    · subst h6; simp
    by_cases h7 : k = 7
    · subst h7; simp
    by_cases h0 : k = 0
    · subst h0
      by_cases hlt : gi b 0 < gi a 0 ∨ gi b 0 = gi a 0 ∧ gi b 2 < gi a 2
      · have := hz1 hlt
        first | (exfalso; omega) | simp [hlt]
      · have := hz0 hlt
        first | (exfalso; omega) | simp [hlt]
    by_cases h2 : k = 2
    · subst h2
      by_cases hlt : gi b 0 < gi a 0 ∨ gi b 0 = gi a 0 ∧ gi b 2 < gi a 2
      · have := hz1 hlt
        first | (exfalso; omega) | simp [hlt]
      · have := hz0 hlt
        first | (exfalso; omega) | simp [hlt]
    simp only [h0, h1, h2, h3, h4, h5, h6, h7, if_false]
  · skip
    refine g_aload_n dX0_absorb_8 rfl ?_
    refine g_aload_n dX0_absorb_9 rfl ?_
    refine g_getI 0 dX0_absorb_10 flX0_43 rfl (by assumption) ?_
    refine g_putI 0 dX0_absorb_13 flX0_43 rfl (by assumption) ?_
    refine g_aload_n dX0_absorb_16 rfl ?_
    refine g_aload_n dX0_absorb_17 rfl ?_
    refine g_getI 2 dX0_absorb_18 flX0_46 rfl (by assumption) ?_
    refine g_putI 2 dX0_absorb_21 flX0_46 rfl (by assumption) ?_
    refine g_aload_n dX0_absorb_24 rfl ?_
    refine g_aload_n dX0_absorb_25 rfl ?_
    refine g_getI 1 dX0_absorb_26 flX0_19 rfl (by assumption) ?_
    refine g_aload_n dX0_absorb_29 rfl ?_
    refine g_getI 1 dX0_absorb_30 flX0_19 rfl (by assumption) ?_
    refine g_max dX0_absorb_33 mlX0_22 (Nat.le_of_ble_eq_true rfl) ?_
    refine g_putI 1 dX0_absorb_36 flX0_19 rfl (by assumption) ?_
    refine g_aload_n dX0_absorb_39 rfl ?_
    refine g_aload_n dX0_absorb_40 rfl ?_
    refine g_getI 3 dX0_absorb_41 flX0_28 rfl (by assumption) ?_
    refine g_aload_n dX0_absorb_44 rfl ?_
    refine g_getI 3 dX0_absorb_45 flX0_28 rfl (by assumption) ?_
    refine g_min dX0_absorb_48 mlX0_31 (Nat.le_of_ble_eq_true rfl) ?_
    refine g_putI 3 dX0_absorb_51 flX0_28 rfl (by assumption) ?_
    refine g_aload_n dX0_absorb_54 rfl ?_
    refine g_aload_n dX0_absorb_55 rfl ?_
    refine g_getI 4 dX0_absorb_56 flX0_34 rfl (by assumption) ?_
    refine g_aload_n dX0_absorb_59 rfl ?_
    refine g_getI 4 dX0_absorb_60 flX0_34 rfl (by assumption) ?_
    refine g_max dX0_absorb_63 mlX0_22 (Nat.le_of_ble_eq_true rfl) ?_
    refine g_putI 4 dX0_absorb_66 flX0_34 rfl (by assumption) ?_
    refine g_aload_n dX0_absorb_69 rfl ?_
    refine g_dup dX0_absorb_70 (fun _ h9 => by cases h9) ?_
    refine g_getI 5 dX0_absorb_71 flX0_9 rfl (by assumption) ?_
    refine g_aload_n dX0_absorb_74 rfl ?_
    refine g_getI 5 dX0_absorb_75 flX0_9 rfl (by assumption) ?_
    refine g_iadd dX0_absorb_78 (by simp [g_up, e2, hab] <;> omega) (by simp [g_up, e2, hab] <;> omega) ?_
    refine g_putI 5 dX0_absorb_79 flX0_9 rfl (by assumption) ?_
    refine g_aload_n dX0_absorb_82 rfl ?_
    refine g_dup dX0_absorb_83 (fun _ h9 => by cases h9) ?_
    refine g_getI 6 dX0_absorb_84 flX0_37 rfl (by assumption) ?_
    refine g_aload_n dX0_absorb_87 rfl ?_
    refine g_getI 6 dX0_absorb_88 flX0_37 rfl (by assumption) ?_
    refine g_iadd dX0_absorb_91 (by simp [g_up, e2, hab] <;> omega) (by simp [g_up, e2, hab] <;> omega) ?_
    refine g_putI 6 dX0_absorb_92 flX0_37 rfl (by assumption) ?_
    refine g_aload_n dX0_absorb_95 rfl ?_
    refine g_dup dX0_absorb_96 (fun _ h9 => by cases h9) ?_
    refine g_getI 7 dX0_absorb_97 flX0_40 rfl (by assumption) ?_
    refine g_aload_n dX0_absorb_100 rfl ?_
    refine g_getI 7 dX0_absorb_101 flX0_40 rfl (by assumption) ?_
    refine g_iadd dX0_absorb_104 (by simp [g_up, e2, hab] <;> omega) (by simp [g_up, e2, hab] <;> omega) ?_
    refine g_putI 7 dX0_absorb_105 flX0_40 rfl (by assumption) ?_
    refine g_aload_n dX0_absorb_108 rfl ?_
    refine g_iconst dX0_absorb_109 (by decide) ?_
    refine g_putI 5 dX0_absorb_110 flX0_9 rfl (by assumption) ?_
    refine g_return dX0_absorb_113 rfl ?_
    refine ⟨rfl, ?_, rfl, rfl⟩
    have e2 : a ≠ b := fun q => hab q.symm
    simp only [g_up_as_row, g_row_row, g_row_at, g_row_ne hab, g_row_ne e2]
    congr 1
    congr 1
    funext k
    simp only [bl_abs]
    by_cases h1 : k = 1
    · subst h1; simp
    by_cases h3 : k = 3
    · subst h3; simp
    by_cases h4 : k = 4
    · subst h4; simp
    by_cases h5 : k = 5
    · subst h5; simp
    by_cases h6 : k = 6
    · subst h6; simp
    by_cases h7 : k = 7
    · subst h7; simp
    by_cases h0 : k = 0
    · subst h0
      by_cases hlt : gi b 0 < gi a 0 ∨ gi b 0 = gi a 0 ∧ gi b 2 < gi a 2
      · have := hz1 hlt
        first | (exfalso; omega) | simp [hlt]
      · have := hz0 hlt
        first | (exfalso; omega) | simp [hlt]
    by_cases h2 : k = 2
    · subst h2
      by_cases hlt : gi b 0 < gi a 0 ∨ gi b 0 = gi a 0 ∧ gi b 2 < gi a 2
      · have := hz1 hlt
        first | (exfalso; omega) | simp [hlt]
      · have := hz0 hlt
        first | (exfalso; omega) | simp [hlt]
    simp only [h0, h1, h2, h3, h4, h5, h6, h7, if_false]

end BLOB
