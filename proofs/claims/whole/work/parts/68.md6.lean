/-! the model's cells, and all of them joined -/
theorem j_row_end {cl L : gRw} {t W : Int} (hW : 0 ≤ W) (hz : ∀ c : Int, W ≤ c → c < 16 → cl (16 * t + c) = 0) : ∀ n : Nat, W + n ≤ 16 → j_row cl L t (W.toNat + n) = j_row cl L t W.toNat := by
  intro n
  induction n with
  | zero => intro _; rfl
  | succ n ih =>
    intro h
    rw [show W.toNat + (n + 1) = W.toNat + n + 1 by omega, j_row, ih (by omega)]
    unfold j_cell
    rw [if_neg]
    rw [hz _ (by omega) (by omega)]
    decide
theorem dig_next {x W c : Int} (h0 : 0 ≤ c) (h1 : c < W) : x / 10 ^ (W - 1 - c).toNat / 10 = x / 10 ^ (W - 1 - (c - 1)).toNat := by
  rw [Int.ediv_ediv_of_nonneg (Int.le_of_lt (Int.pow_pos (by decide))), show (W - 1 - (c - 1)).toNat = (W - 1 - c).toNat + 1 by omega, Int.pow_succ]
section MD6
variable {gi gl : gF} {sh : gSh} {cl L ln : gRw} {W T : Int} {Q : gQ}
/-- cells laid up to K, each hanging at itself -/
def CLd (cl : gRw) (W K : Int) (g : gF) : Prop := ∀ q : Int, 0 ≤ q → q < K → q % 16 < W → g 199 q = cl q ∧ g 200 q = q

set_option maxRecDepth 20000 in
set_option maxHeartbeats 1000000 in
theorem l_lc2 (hM : isMd sh) (hW : gi 191 0 = W) (hW0 : 0 ≤ W ∧ W ≤ 16) (hT0 : 0 ≤ T ∧ T ≤ 60) (x t : Int) (ht : 0 ≤ t ∧ t < T) (hx : ln t = x) (hx0 : 0 ≤ x) (hn : ∀ (g : gF) (r : Int), (∀ b : Int, b ≠ 199 → b ≠ 200 → g b = gi b) → CLd (clo W ln) W (16 * (t + 1)) g → Go mdX9_laysCells 0 0 83 [some (vR 190), some (vI t), some (vL r), none, some (vI (-1))] [] g gl sh Q) :
  ∀ (n : Nat) (c : Int), c + 1 = n → c < W → ∀ g : gF, (∀ b : Int, b ≠ 199 → b ≠ 200 → g b = gi b) → CLd (clo W ln) W (16 * t) g → (∀ c' : Int, c < c' → c' < W → g 199 (16 * t + c') = clo W ln (16 * t + c') ∧ g 200 (16 * t + c') = 16 * t + c') → Go mdX9_laysCells 0 0 29 [some (vR 190), some (vI t), some (vL (x / 10 ^ (W - 1 - c).toNat)), none, some (vI c)] [] g gl sh Q := by
  intro n
  induction n with
  | zero =>
    intro c hc hcW g hg h1 h2
    have hc' : c = -1 := by omega
    subst hc'
    refine g_iload dX9_laysCells_29 rfl ?_
    refine g_if_lt 83 dX9_laysCells_31 (by decide) (fun h31 => ?_) (fun h31 => ?_)
    · skip
      refine hn g _ hg (fun q q0 q1 q2 => ?_)
      by_cases e : q < 16 * t
      · exact h1 q q0 e q2
      · rw [show q = 16 * t + q % 16 by omega]
        exact h2 (q % 16) (by omega) (by omega)
    · exfalso; omega
  | succ n ih =>
    intro c hc hcW g hg h1 h2
    have hp : 0 ≤ x / 10 ^ (W - 1 - c).toNat := Int.ediv_nonneg hx0 (Int.le_of_lt (Int.pow_pos (by decide)))
    generalize hr : x / 10 ^ (W - 1 - c).toNat = r at hp ⊢
    have hr2 := dig_next (x := x) (show 0 ≤ c by omega) hcW
    rw [hr] at hr2
    refine g_iload dX9_laysCells_29 rfl ?_
    refine g_if_lt 83 dX9_laysCells_31 (by decide) (fun h31 => ?_) (fun h31 => ?_)
    · exfalso; omega
    · skip
      refine g_aload_n dX9_laysCells_34 rfl ?_
      refine g_getR 13 dX9_laysCells_35 flX9_35 rfl hM.o hM.r13 ?_
      refine g_bipush dX9_laysCells_38 (by decide) (by decide) ?_
      refine g_iload_n dX9_laysCells_40 rfl ?_
      refine g_imul dX9_laysCells_41 (by omega) (by omega) ?_
      refine g_iload dX9_laysCells_42 rfl ?_
      refine g_iadd dX9_laysCells_44 (by omega) (by omega) ?_
      refine g_lload_n dX9_laysCells_45 rfl ?_
      refine g_ldc2 (n := 10) dX9_laysCells_46 cnX9_145 (by decide) ?_
      refine g_lrem dX9_laysCells_49 (by omega) (by omega) ?_
      refine g_l2i dX9_laysCells_50 (by omega) (by omega) ?_
      refine g_iastore dX9_laysCells_51 hM.k199 (by omega) (hM.b199 (by omega)) ?_
      refine g_aload_n dX9_laysCells_52 rfl ?_
      refine g_getR 14 dX9_laysCells_53 flX9_38 rfl hM.o hM.r14 ?_
      refine g_bipush dX9_laysCells_56 (by decide) (by decide) ?_
      refine g_iload_n dX9_laysCells_58 rfl ?_
      refine g_imul dX9_laysCells_59 (by omega) (by omega) ?_
      refine g_iload dX9_laysCells_60 rfl ?_
      refine g_iadd dX9_laysCells_62 (by omega) (by omega) ?_
      refine g_bipush dX9_laysCells_63 (by decide) (by decide) ?_
      refine g_iload_n dX9_laysCells_65 rfl ?_
      refine g_imul dX9_laysCells_66 (by omega) (by omega) ?_
      refine g_iload dX9_laysCells_67 rfl ?_
      refine g_iadd dX9_laysCells_69 (by omega) (by omega) ?_
      refine g_iastore dX9_laysCells_70 hM.k200 (by omega) (hM.b200 (by omega)) ?_
      refine g_lload_n dX9_laysCells_71 rfl ?_
      refine g_ldc2 (n := 10) dX9_laysCells_72 cnX9_145 (by decide) ?_
      refine g_ldiv dX9_laysCells_75 (by omega) (by omega) ?_
      refine n_lstore_n (lN := [_, _, _, _, _]) dX9_laysCells_76 (by decide) rfl ?_
      rw [hr2]
      refine n_iinc (lN := [_, _, _, _, some (vI (c - 1))]) dX9_laysCells_77 rfl (by decide) (by omega) (by omega) rfl ?_
      refine g_goto 29 dX9_laysCells_80 (by decide) ?_
      have ed : r % 10 = clo W ln (16 * t + c) := by
        rw [clo_row ht.1 (by omega), if_pos hcW, hx]
        unfold f_dig
        rw [hr]
      refine ih (c - 1) (by omega) (by omega) _ (fun b b1 b2 => ?_) (fun q q0 q1 q2 => ?_) (fun c2 a1 a2 => ?_)
      · rw [g_up_row b2, g_up_row b1]; exact hg b b1 b2
      · rw [g_up_row (by decide), g_up_r, g_up_r, g_up_row (by decide), r_up_ne (by omega), r_up_ne (by omega)]
        exact h1 q q0 q1 q2
      · rw [g_up_row (by decide), g_up_r, g_up_r, g_up_row (by decide)]
        by_cases e : c2 = c
        · subst e
          rw [r_up_at, r_up_at]
          exact ⟨ed, rfl⟩
        · rw [r_up_ne (by omega), r_up_ne (by omega)]
          exact h2 c2 (by omega) a2
set_option maxRecDepth 20000 in
set_option maxHeartbeats 1000000 in
theorem l_lc1 (hM : isMd sh) (hW : gi 191 0 = W) (hW0 : 0 ≤ W ∧ W ≤ 16) (hT : gl 193 0 = T) (hT0 : 0 ≤ T ∧ T ≤ 60) (hln : ∀ t : Int, 0 ≤ t → t < T → gl 193 (1 + t) = ln t ∧ 0 ≤ ln t) : ∀ (n : Nat) (t : Int), t + n = T → 0 ≤ t → ∀ g : gF, (∀ b : Int, b ≠ 199 → b ≠ 200 → g b = gi b) → CLd (clo W ln) W (16 * t) g → ∀ l2 l3 l4 : Option gV, Go mdX9_laysCells 0 0 2 [some (vR 190), some (vI t), l2, l3, l4] [] g gl sh (fun r g' gl' sh' => r = none ∧ gl' = gl ∧ sh' = sh ∧ (∀ b : Int, b ≠ 199 → b ≠ 200 → g' b = gi b) ∧ CLd (clo W ln) W (16 * T) g') := by
  intro n
  induction n with
  | zero =>
    intro t h1 h2 g hg hc l2 l3 l4
    have ht : t = T := by omega
    subst ht
    refine g_iload_n dX9_laysCells_2 rfl ?_
    refine g_aload_n dX9_laysCells_3 rfl ?_
    refine g_cVi [] dX9_laysCells_4 mlX9_154 mvX9_lines (by decide) hM.o (by decide) rfl rfl (Nat.le_of_ble_eq_true rfl) rfl (Nat.le_of_ble_eq_true rfl) (m_lines hM t hT hT0) ?_
    refine g_icmp_ge 89 dX9_laysCells_7 (by decide) (fun h7 => ?_) (fun h7 => ?_)
    · skip
      refine g_return dX9_laysCells_89 rfl ?_
      exact ⟨rfl, rfl, rfl, hg, hc⟩
    · exfalso; omega
  | succ n ih =>
    intro t h1 h2 g hg hc l2 l3 l4
    have eW : g 191 0 = W := by rw [hg 191 (by decide) (by decide)]; exact hW
    obtain ⟨e1, e2⟩ := hln t h2 (by omega)
    refine g_iload_n dX9_laysCells_2 rfl ?_
    refine g_aload_n dX9_laysCells_3 rfl ?_
    refine g_cVi [] dX9_laysCells_4 mlX9_154 mvX9_lines (by decide) hM.o (by decide) rfl rfl (Nat.le_of_ble_eq_true rfl) rfl (Nat.le_of_ble_eq_true rfl) (m_lines hM T hT hT0) ?_
    refine g_icmp_ge 89 dX9_laysCells_7 (by decide) (fun h7 => ?_) (fun h7 => ?_)
    · exfalso; omega
    · skip
      refine g_aload_n dX9_laysCells_10 rfl ?_
      refine g_getR 3 dX9_laysCells_11 flX9_16 rfl hM.o hM.r3 ?_
      refine g_iconst dX9_laysCells_14 (by decide) ?_
      refine g_iload_n dX9_laysCells_15 rfl ?_
      refine g_iadd dX9_laysCells_16 (by omega) (by omega) ?_
      refine g_laload dX9_laysCells_17 hM.k193 (by omega) (hM.b193 (by omega)) ?_
      rw [e1]
      refine n_lstore_n (lN := [_, _, _, _, _]) dX9_laysCells_18 (by decide) rfl ?_
      refine g_aload_n dX9_laysCells_19 rfl ?_
      refine g_getR 0 dX9_laysCells_20 flX9_7 rfl hM.o hM.r0 ?_
      refine g_iconst dX9_laysCells_23 (by decide) ?_
      refine g_iaload dX9_laysCells_24 hM.k191 (by omega) (hM.b191 (by omega)) ?_
      rw [eW]
      refine g_iconst dX9_laysCells_25 (by decide) ?_
      refine g_isub dX9_laysCells_26 (by omega) (by omega) ?_
      refine n_istore (lN := [_, _, _, _, _]) dX9_laysCells_27 (by decide) rfl ?_
      have e0 : ln t = ln t / 10 ^ (W - 1 - (W - 1)).toNat := by
        rw [show (W - 1 - (W - 1)).toNat = 0 by omega, Int.pow_zero, Int.ediv_one]
      have key := l_lc2 (Q := fun r g' gl' sh' => r = none ∧ gl' = gl ∧ sh' = sh ∧ (∀ b : Int, b ≠ 199 → b ≠ 200 → g' b = gi b) ∧ CLd (clo W ln) W (16 * T) g') (gl := gl) (T := T) hM hW hW0 hT0 (ln t) t (by omega) rfl e2 (fun g9 r hg9 hc9 => ?_) W.toNat (W - 1) (by omega) (by omega) g hg hc (fun c2 a1 a2 => by omega)
      · rw [← e0] at key
        exact key
      · refine n_iinc (lN := [_, some (vI (t + 1)), _, _, _]) dX9_laysCells_83 rfl (by decide) (by omega) (by omega) rfl ?_
        refine g_goto 2 dX9_laysCells_86 (by decide) ?_
        exact ih (t + 1) (by omega) (by omega) g9 hg9 hc9 _ _ _
set_option maxRecDepth 20000 in
set_option maxHeartbeats 1000000 in
theorem m_laysCells (hM : isMd sh) (hW : gi 191 0 = W) (hW0 : 0 ≤ W ∧ W ≤ 16) (hT : gl 193 0 = T) (hT0 : 0 ≤ T ∧ T ≤ 60) (hln : ∀ t : Int, 0 ≤ t → t < T → gl 193 (1 + t) = ln t ∧ 0 ≤ ln t) : Ct mdX9_laysCells 0 0 [vR 190] gi gl sh (fun r g' gl' sh' => r = none ∧ gl' = gl ∧ sh' = sh ∧ (∀ b : Int, b ≠ 199 → b ≠ 200 → g' b = gi b) ∧ CLd (clo W ln) W (16 * T) g') := by
  show Go mdX9_laysCells 0 0 0 [some (vR 190), none, none, none, none] [] gi gl sh _
  refine g_iconst dX9_laysCells_0 (by decide) ?_
  refine n_istore_n (lN := [_, _, _, _, _]) dX9_laysCells_1 (by decide) rfl ?_
  exact l_lc1 hM hW hW0 hT hT0 hln T.toNat 0 (by omega) (by omega) gi (fun _ _ _ => rfl) (fun q q0 q1 => by omega) none none none

set_option maxRecDepth 20000 in
theorem l_lb1c (hM : isMd sh) (hW : gi 191 0 = W) (hW0 : 0 ≤ W ∧ W ≤ 16) (hT0 : 0 ≤ T ∧ T ≤ 60) (hcl : ∀ q : Int, 0 ≤ q → q < 16 * T → q % 16 < W → gi 199 q = cl q) (hz : ∀ q : Int, 0 ≤ q → q < 16 * T → W ≤ q % 16 → cl q = 0) (hnn : ∀ q, 0 ≤ cl q ∧ cl q ≤ 9) (t : Int) (ht : 0 ≤ t ∧ t < T) (hn : ∀ g : gF, (∀ b : Int, b ≠ 200 → g b = gi b) → LB cl (j_row cl L t W.toNat) (g 200) (16 * T) → Go mdX9_laysBlobs 0 0 43 [some (vR 190), some (vI t), some (vI W)] [] g gl sh Q) :
  ∀ (n : Nat) (c : Int), c + n = W → 0 ≤ c → ∀ g : gF, (∀ b : Int, b ≠ 200 → g b = gi b) → LB cl (j_row cl L t c.toNat) (g 200) (16 * T) → Go mdX9_laysBlobs 0 0 21 [some (vR 190), some (vI t), some (vI c)] [] g gl sh Q := by
  intro n
  induction n with
  | zero =>
    intro c h1 h2 g hg hL
    have hc : c = W := by omega
    subst hc
    have eW : g 191 0 = c := by rw [hg 191 (by decide)]; exact hW
    refine g_iload_n dX9_laysBlobs_21 rfl ?_
    refine g_aload_n dX9_laysBlobs_22 rfl ?_
    refine g_getR 0 dX9_laysBlobs_23 flX9_7 rfl hM.o hM.r0 ?_
    refine g_iconst dX9_laysBlobs_26 (by decide) ?_
    refine g_iaload dX9_laysBlobs_27 hM.k191 (by omega) (hM.b191 (by omega)) ?_
    refine g_icmp_ge 43 dX9_laysBlobs_28 (by decide) (fun h28 => ?_) (fun h28 => ?_)
    · skip
      exact hn g hg hL
    · exfalso; omega
  | succ n ih =>
    intro c h1 h2 g hg hL
    have eW : g 191 0 = W := by rw [hg 191 (by decide)]; exact hW
    refine g_iload_n dX9_laysBlobs_21 rfl ?_
    refine g_aload_n dX9_laysBlobs_22 rfl ?_
    refine g_getR 0 dX9_laysBlobs_23 flX9_7 rfl hM.o hM.r0 ?_
    refine g_iconst dX9_laysBlobs_26 (by decide) ?_
    refine g_iaload dX9_laysBlobs_27 hM.k191 (by omega) (hM.b191 (by omega)) ?_
    refine g_icmp_ge 43 dX9_laysBlobs_28 (by decide) (fun h28 => ?_) (fun h28 => ?_)
    · exfalso; omega
    · skip
      refine g_aload_n dX9_laysBlobs_31 rfl ?_
      refine g_iload_n dX9_laysBlobs_32 rfl ?_
      refine g_iload_n dX9_laysBlobs_33 rfl ?_
      refine g_callV_v [_, _] dX9_laysBlobs_34 mlX9_196 mvX9_joinsAround (by decide) hM.o (by decide) rfl rfl (Nat.le_of_ble_eq_true rfl) rfl (Nat.le_of_ble_eq_true rfl) (m_joinsAround (cl := cl) (L := j_row cl L t c.toNat) (T := T) hM eW hW0 ht hT0.2 ⟨h2, by omega⟩ (fun q q0 q1 q2 => by rw [hg 199 (by decide)]; exact hcl q q0 q1 q2) hz hnn hL) (fun _ _ _ _ q => q.1) (fun g1 l1 s1 q w1 w2 => ?_)
      obtain ⟨-, q2, q3, q4, q5⟩ := q
      subst q2 q3
      refine n_iinc (lN := [_, _, some (vI (c + 1))]) dX9_laysBlobs_37 rfl (by decide) (by omega) (by omega) rfl ?_
      refine g_goto 21 dX9_laysBlobs_40 (by decide) ?_
      refine ih (c + 1) (by omega) (by omega) g1 (fun b hb => by rw [q4 b hb]; exact hg b hb) ?_
      rw [show (c + 1).toNat = c.toNat + 1 by omega, j_row, show ((c.toNat : Nat) : Int) = c by omega]
      exact q5
set_option maxRecDepth 20000 in
theorem l_lb1t (hM : isMd sh) (hW : gi 191 0 = W) (hW0 : 0 ≤ W ∧ W ≤ 16) (hT0 : 0 ≤ T ∧ T ≤ 60) (hcl : ∀ q : Int, 0 ≤ q → q < 16 * T → q % 16 < W → gi 199 q = cl q) (hz : ∀ q : Int, 0 ≤ q → q < 16 * T → W ≤ q % 16 → cl q = 0) (hnn : ∀ q, 0 ≤ cl q ∧ cl q ≤ 9) (hTl : gl 193 0 = T) (hn : ∀ (g : gF) (l2 : Option gV), (∀ b : Int, b ≠ 200 → g b = gi b) → LB cl (j_all cl T.toNat) (g 200) (16 * T) → Go mdX9_laysBlobs 0 0 49 [some (vR 190), some (vI T), l2] [] g gl sh Q) :
  ∀ (n : Nat) (t : Int), t + n = T → 0 ≤ t → ∀ g : gF, (∀ b : Int, b ≠ 200 → g b = gi b) → LB cl (j_all cl t.toNat) (g 200) (16 * T) → ∀ l2 : Option gV, Go mdX9_laysBlobs 0 0 11 [some (vR 190), some (vI t), l2] [] g gl sh Q := by
  intro n
  induction n with
  | zero =>
    intro t h1 h2 g hg hL l2
    have ht : t = T := by omega
    subst ht
    refine g_iload_n dX9_laysBlobs_11 rfl ?_
    refine g_aload_n dX9_laysBlobs_12 rfl ?_
    refine g_cVi [] dX9_laysBlobs_13 mlX9_154 mvX9_lines (by decide) hM.o (by decide) rfl rfl (Nat.le_of_ble_eq_true rfl) rfl (Nat.le_of_ble_eq_true rfl) (m_lines hM t hTl hT0) ?_
    refine g_icmp_ge 49 dX9_laysBlobs_16 (by decide) (fun h16 => ?_) (fun h16 => ?_)
    · skip
      exact hn g l2 hg hL
    · exfalso; omega
  | succ n ih =>
    intro t h1 h2 g hg hL l2
    refine g_iload_n dX9_laysBlobs_11 rfl ?_
    refine g_aload_n dX9_laysBlobs_12 rfl ?_
    refine g_cVi [] dX9_laysBlobs_13 mlX9_154 mvX9_lines (by decide) hM.o (by decide) rfl rfl (Nat.le_of_ble_eq_true rfl) rfl (Nat.le_of_ble_eq_true rfl) (m_lines hM T hTl hT0) ?_
    refine g_icmp_ge 49 dX9_laysBlobs_16 (by decide) (fun h16 => ?_) (fun h16 => ?_)
    · exfalso; omega
    · skip
      refine g_iconst dX9_laysBlobs_19 (by decide) ?_
      refine n_istore_n (lN := [_, _, _]) dX9_laysBlobs_20 (by decide) rfl ?_
      refine l_lb1c (cl := cl) (L := j_all cl t.toNat) hM hW hW0 hT0 hcl hz hnn t (by omega) (fun g9 hg9 hL9 => ?_) W.toNat 0 (by omega) (by omega) g hg hL
      refine n_iinc (lN := [_, some (vI (t + 1)), _]) dX9_laysBlobs_43 rfl (by decide) (by omega) (by omega) rfl ?_
      refine g_goto 11 dX9_laysBlobs_46 (by decide) ?_
      refine ih (t + 1) (by omega) (by omega) g9 hg9 ?_ _
      have e := j_row_end (cl := cl) (L := j_all cl t.toNat) (t := t) hW0.1 (fun c c0 c1 => hz (16 * t + c) (by omega) (by omega) (by omega)) (16 - W).toNat (by omega)
      rw [show W.toNat + (16 - W).toNat = 16 by omega] at e
      rw [show (t + 1).toNat = t.toNat + 1 by omega, j_all, show ((t.toNat : Nat) : Int) = t by omega, e]
      exact hL9
end MD6
