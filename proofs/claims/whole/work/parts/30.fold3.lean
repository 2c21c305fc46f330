/-! Fold: a line -/
def f_dig (W ln c : Int) : Int := ln / 10 ^ (W - 1 - c).toNat % 10
def f_dk (D col : Int) : Int := if D ≤ col then 1 else 0
def f_row (S0 : fS) (t W D ln : Int) : Nat → fS
  | 0 => S0
  | c + 1 => if 0 < f_dig W ln c then f_cell (f_row S0 t W D ln c) t c (f_dig W ln c) (f_dk D (f_dig W ln c)) else f_row S0 t W D ln c
def f_sok (S : fS) (t c col dk : Int) : Prop := (0 ≤ f_slot S c ∧ f_slot S c < 16) ∧ okS S ∧ okS (f_c1 S t c col dk) ∧ okS (f_c2 S t c col dk) ∧ okS (f_c3 S t c col dk)
def sh_sw (sh : gSh) (oa : Int) : gSh := (g_up (g_up sh.1 27 2 (some (61 - oa))) 27 3 (some oa), sh.2)
theorem isFold.swap {sh : gSh} {oa : Int} (h : isFold sh oa) : isFold (sh_sw sh oa) (61 - oa) := by
  obtain ⟨k0, r0, r1, r2, r3, ho, k1, l1, k2, l2, k3, k4, hE, hL⟩ := h
  refine ⟨k0, ?_, ?_, ?_, ?_, by omega, k1, l1, k2, l2, k3, k4, fun i h0 h1 => ⟨?_, (hE i h0 h1).2⟩, fun i h0 h1 => ⟨?_, (hL i h0 h1).2⟩⟩
  · simp only [sh_sw, g_up]; simp; exact r0
  · simp only [sh_sw, g_up]; simp; exact r1
  · simp [sh_sw, g_up]
  · simp only [sh_sw, g_up]; simp; omega
  · simp only [sh_sw, g_up]; simp; exact (hE i h0 h1).1
  · simp only [sh_sw, g_up]; simp; exact (hL i h0 h1).1
theorem fmem_swap {gi : gF} {oa : Int} {lv : Int → gRw} {x y : gRw} (ho : oa = 30 ∨ oa = 31) : fmem gi oa (lv, x, y) = fmem gi (61 - oa) (lv, y, x) := by
  funext b
  unfold fmem
  by_cases h1 : 63 ≤ b ∧ b < 79
  · rw [if_pos h1, if_pos h1]
  · rw [if_neg h1, if_neg h1]
    by_cases h2 : b = oa
    · rw [if_pos h2, if_neg (by omega), if_pos (by omega)]
    · rw [if_neg h2]
      by_cases h3 : b = 61 - oa
      · rw [if_pos h3, if_pos h3]
      · rw [if_neg h3, if_neg h3, if_neg (by omega)]
theorem fm_p {gi : gF} {oa : Int} {S : fS} {er : Int → gRw} {ec b : Int} (h : 79 ≤ b ∨ b < 27) (ho : oa = 30 ∨ oa = 31) : fmem (emem gi er ec) oa S b = gi b := by
  rw [fmem_o (by omega) (by omega) (by omega) ho]; unfold emem; rw [if_neg (by omega), if_neg (by omega)]
theorem p10_step {W c : Int} (h0 : 0 ≤ c) (h1 : c < W) : (10 : Int) ^ (W - c).toNat / 10 = 10 ^ (W - 1 - c).toNat := by
  rw [show (W - c).toNat = (W - 1 - c).toNat + 1 by omega, Int.pow_succ]
  exact Int.mul_ediv_cancel _ (by decide)
theorem f_dk_b (D col : Int) : f_dk D col = 0 ∨ f_dk D col = 1 := by
  unfold f_dk
  split
  · exact Or.inr rfl
  · exact Or.inl rfl
section FOLD3
variable {gi gl : gF} {sh : gSh} {oa a : Int}

set_option maxRecDepth 20000 in
set_option maxHeartbeats 1000000 in
theorem l_fAddLine {Q : gQ} (hF : isFold sh oa) (hk : sh.2.1 a = 3) (ha : 100 ≤ a) (er : Int → gRw) (ec t ln : Int) (S0 : fS) (ht : 0 ≤ t ∧ t ≤ 100) (hW : 0 ≤ gi a 3 ∧ gi a 3 ≤ 16) (hln : 0 ≤ ln)
    (hst : ∀ c : Int, 0 ≤ c → c < gi a 3 → 0 < f_dig (gi a 3) ln c → f_sok (f_row S0 t (gi a 3) (gi a 8) ln c.toNat) t c (f_dig (gi a 3) ln c) (f_dk (gi a 8) (f_dig (gi a 3) ln c)))
    (hQ : ∀ l8 : Option gV, (∀ y, l8 ≠ some (vL y)) → Go mdX1_addLine 0 0 91 [some (vR 27), some (vR a), some (vL ln), none, some (vI t), some (vL 1), none, some (vI (gi a 3)), l8] [] (fmem (emem gi er ec) oa (f_row S0 t (gi a 3) (gi a 8) ln (gi a 3).toNat)) gl sh Q) :
    ∀ (n : Nat) (c : Int), 0 ≤ c → c + n = gi a 3 → ∀ l8 : Option gV, (∀ y, l8 ≠ some (vL y)) → Go mdX1_addLine 0 0 17 [some (vR 27), some (vR a), some (vL ln), none, some (vI t), some (vL (10 ^ (gi a 3 - c).toNat)), none, some (vI c), l8] [] (fmem (emem gi er ec) oa (f_row S0 t (gi a 3) (gi a 8) ln (c).toNat)) gl sh Q := by
  obtain ⟨k0, r0, r1, r2, r3, ho, k1, l1, k2, l2, -, -, hE, hL⟩ := id hF
  intro n
  induction n with
  | zero =>
    intro c h0 h1 l8 h8
    have fp : (fmem (emem gi er ec) oa (f_row S0 t (gi a 3) (gi a 8) ln (c).toNat)) a = gi a := fm_p (by omega) ho
    refine g_iload dX1_addLine_17 rfl ?_
    refine g_aload_n dX1_addLine_19 rfl ?_
    refine g_getIN 3 dX1_addLine_20 fnX1_47 rfl (by assumption) ?_
    rw [fp]
    refine g_icmp_ge 91 dX1_addLine_23 (by decide) (fun h23 => ?_) (fun h23 => ?_)
    · skip
      obtain rfl : c = gi a 3 := by omega
      rw [show (10 : Int) ^ (gi a 3 - gi a 3).toNat = 1 by rw [Int.sub_self]; rfl]
      exact hQ l8 h8
    · exfalso; omega
  | succ n ih =>
    intro c h0 h1 l8 h8
    have fp : (fmem (emem gi er ec) oa (f_row S0 t (gi a 3) (gi a 8) ln (c).toNat)) a = gi a := fm_p (by omega) ho
    have hb := p10_b (gi a 3 - c).toNat (by omega)
    have hb1 := p10_b (gi a 3 - 1 - c).toNat (by omega)
    have hd0 : 0 ≤ f_dig (gi a 3) ln c := Int.emod_nonneg _ (by decide)
    have hd1 : f_dig (gi a 3) ln c < 10 := Int.emod_lt_of_pos _ (by decide)
    have hq0 : 0 ≤ ln / 10 ^ (gi a 3 - 1 - c).toNat := Int.ediv_nonneg hln (by omega)
    refine g_iload dX1_addLine_17 rfl ?_
    refine g_aload_n dX1_addLine_19 rfl ?_
    refine g_getIN 3 dX1_addLine_20 fnX1_47 rfl (by assumption) ?_
    rw [fp]
    refine g_icmp_ge 91 dX1_addLine_23 (by decide) (fun h23 => ?_) (fun h23 => ?_)
    · exfalso; omega
    · skip
      refine g_lload dX1_addLine_26 rfl ?_
      refine g_ldc2 (n := 10) dX1_addLine_28 cnX1_50 (by decide) ?_
      refine g_ldiv dX1_addLine_31 (by omega) (by omega) ?_
      rw [p10_step h0 (by omega)]
      refine n_lstore (lN := [_, _, _, _, _, _, _, _, _]) dX1_addLine_32 (by decide) rfl ?_
      refine g_lload dX1_addLine_34 rfl ?_
      refine g_lconst 0 dX1_addLine_36 (by decide) (by decide) ?_
      refine g_lcmp dX1_addLine_37 ?_
      refine g_if_le 53 dX1_addLine_38 (by decide) (fun h38 => ?_) (fun h38 => ?_)
      · exfalso; unfold g_cmp at h38; rw [if_pos (by omega)] at h38; omega
      · skip
        refine g_lload_n dX1_addLine_41 rfl ?_
        refine g_lload dX1_addLine_42 rfl ?_
        refine g_ldiv dX1_addLine_44 (by omega) (by omega) ?_
        refine g_ldc2 (n := 10) dX1_addLine_45 cnX1_50 (by decide) ?_
        refine g_lrem dX1_addLine_48 (by omega) (by omega) ?_
        rw [show ln / 10 ^ (gi a 3 - 1 - c).toNat % 10 = f_dig (gi a 3) ln c from rfl]
        refine g_l2i dX1_addLine_49 (by omega) (by omega) ?_
        refine g_goto 54 dX1_addLine_50 (by decide) ?_
        refine n_istore (lN := [_, _, _, _, _, _, _, _, _]) dX1_addLine_54 (by decide) rfl ?_
        refine g_iload dX1_addLine_56 rfl ?_
        refine g_if_le 85 dX1_addLine_58 (by decide) (fun q1 => ?_) (fun q1 => ?_)
        · skip
          refine n_iinc (lN := [_, _, _, _, _, _, _, _, _]) dX1_addLine_85 rfl (by decide) (by omega) (by omega) rfl ?_
          refine g_goto 17 dX1_addLine_88 (by decide) ?_
          have e : f_row S0 t (gi a 3) (gi a 8) ln (c + 1).toNat = f_row S0 t (gi a 3) (gi a 8) ln c.toNat := by
            rw [show (c + 1).toNat = c.toNat + 1 by omega, f_row, show ((c.toNat : Nat) : Int) = c by omega, if_neg (by omega)]
          have k := ih (c + 1) (by omega) (by omega) (some (vI (f_dig (gi a 3) ln c))) (fun y hy => by cases hy)
          rw [e, show gi a 3 - (c + 1) = gi a 3 - 1 - c by omega] at k
          exact k
        · skip
          have hsk := hst c h0 (by omega) (by omega)
          have hdk := f_dk_b (gi a 8) (f_dig (gi a 3) ln c)
          refine g_aload_n dX1_addLine_61 rfl ?_
          refine g_iload dX1_addLine_62 rfl ?_
          refine g_iload dX1_addLine_64 rfl ?_
          refine g_iload dX1_addLine_66 rfl ?_
          refine g_iload dX1_addLine_68 rfl ?_
          refine g_aload_n dX1_addLine_70 rfl ?_
          refine g_getIN 8 dX1_addLine_71 fnX1_52 rfl (by assumption) ?_
          rw [fp]
          refine g_icmp_lt 81 dX1_addLine_74 (by decide) (fun q2 => ?_) (fun q2 => ?_)
          · skip
            refine g_iconst dX1_addLine_81 (by decide) ?_
            have e1 : f_dk (gi a 8) (f_dig (gi a 3) ln c) = 0 := by rw [f_dk, if_neg (by omega)]
            rw [e1] at hsk hdk
            refine g_cVv [_, _, _, _] dX1_addLine_82 mlX1_55 mvX1_addCell (by decide) (by assumption) (by decide) rfl rfl (Nat.le_of_ble_eq_true rfl) rfl (Nat.le_of_ble_eq_true rfl) (c_fAddCell hF _ t c _ _ (by omega) ht (by omega) hdk hsk.1 hsk.2.1 hsk.2.2.1 hsk.2.2.2.1 hsk.2.2.2.2) ?_
            refine n_iinc (lN := [_, _, _, _, _, _, _, _, _]) dX1_addLine_85 rfl (by decide) (by omega) (by omega) rfl ?_
            refine g_goto 17 dX1_addLine_88 (by decide) ?_
            have e : f_row S0 t (gi a 3) (gi a 8) ln (c + 1).toNat = f_cell (f_row S0 t (gi a 3) (gi a 8) ln c.toNat) t c (f_dig (gi a 3) ln c) (f_dk (gi a 8) (f_dig (gi a 3) ln c)) := by
              rw [show (c + 1).toNat = c.toNat + 1 by omega, f_row, show ((c.toNat : Nat) : Int) = c by omega, if_pos (by omega)]
            have k := ih (c + 1) (by omega) (by omega) (some (vI (f_dig (gi a 3) ln c))) (fun y hy => by cases hy)
            rw [e, e1, show gi a 3 - (c + 1) = gi a 3 - 1 - c by omega] at k
            exact k
          · skip
            refine g_iconst dX1_addLine_77 (by decide) ?_
            refine g_goto 82 dX1_addLine_78 (by decide) ?_
            have e1 : f_dk (gi a 8) (f_dig (gi a 3) ln c) = 1 := by rw [f_dk, if_pos (by omega)]
            rw [e1] at hsk hdk
            refine g_cVv [_, _, _, _] dX1_addLine_82 mlX1_55 mvX1_addCell (by decide) (by assumption) (by decide) rfl rfl (Nat.le_of_ble_eq_true rfl) rfl (Nat.le_of_ble_eq_true rfl) (c_fAddCell hF _ t c _ _ (by omega) ht (by omega) hdk hsk.1 hsk.2.1 hsk.2.2.1 hsk.2.2.2.1 hsk.2.2.2.2) ?_
            refine n_iinc (lN := [_, _, _, _, _, _, _, _, _]) dX1_addLine_85 rfl (by decide) (by omega) (by omega) rfl ?_
            refine g_goto 17 dX1_addLine_88 (by decide) ?_
            have e : f_row S0 t (gi a 3) (gi a 8) ln (c + 1).toNat = f_cell (f_row S0 t (gi a 3) (gi a 8) ln c.toNat) t c (f_dig (gi a 3) ln c) (f_dk (gi a 8) (f_dig (gi a 3) ln c)) := by
              rw [show (c + 1).toNat = c.toNat + 1 by omega, f_row, show ((c.toNat : Nat) : Int) = c by omega, if_pos (by omega)]
            have k := ih (c + 1) (by omega) (by omega) (some (vI (f_dig (gi a 3) ln c))) (fun y hy => by cases hy)
            rw [e, e1, show gi a 3 - (c + 1) = gi a 3 - 1 - c by omega] at k
            exact k
set_option maxRecDepth 20000 in
set_option maxHeartbeats 1000000 in
theorem c_fAddLine (hF : isFold sh oa) (hk : sh.2.1 a = 3) (ha : 100 ≤ a) (er : Int → gRw) (ec t ln : Int) (S : fS) (ht : 0 ≤ t ∧ t ≤ 100) (hW : 0 ≤ gi a 3 ∧ gi a 3 ≤ 16) (hln : 0 ≤ ln) (hec : 0 ≤ ec ∧ ec ≤ 31)
    (hst : ∀ c : Int, 0 ≤ c → c < gi a 3 → 0 < f_dig (gi a 3) ln c → f_sok (f_row (S.1, S.2.1, f_fill S.2.2 (-1)) t (gi a 3) (gi a 8) ln c.toNat) t c (f_dig (gi a 3) ln c) (f_dk (gi a 8) (f_dig (gi a 3) ln c)))
    (hrm : f_room t 16 (f_row (S.1, S.2.1, f_fill S.2.2 (-1)) t (gi a 3) (gi a 8) ln (gi a 3).toNat).1 ec) : Ct mdX1_addLine 0 0 [vR 27, vR a, vL ln, vI t] (fmem (emem gi er ec) oa S) gl sh (Rt (some (vI ((f_end t 16 (f_row (S.1, S.2.1, f_fill S.2.2 (-1)) t (gi a 3) (gi a 8) ln (gi a 3).toNat).1 er ec).2.2 - ec))) (fmem (emem gi (f_end t 16 (f_row (S.1, S.2.1, f_fill S.2.2 (-1)) t (gi a 3) (gi a 8) ln (gi a 3).toNat).1 er ec).2.1 (f_end t 16 (f_row (S.1, S.2.1, f_fill S.2.2 (-1)) t (gi a 3) (gi a 8) ln (gi a 3).toNat).1 er ec).2.2) (61 - oa) ((f_end t 16 (f_row (S.1, S.2.1, f_fill S.2.2 (-1)) t (gi a 3) (gi a 8) ln (gi a 3).toNat).1 er ec).1, (f_row (S.1, S.2.1, f_fill S.2.2 (-1)) t (gi a 3) (gi a 8) ln (gi a 3).toNat).2.2, (f_row (S.1, S.2.1, f_fill S.2.2 (-1)) t (gi a 3) (gi a 8) ln (gi a 3).toNat).2.1)) gl (sh_sw sh oa)) := by
  show Go mdX1_addLine 0 0 0 [some (vR 27), some (vR a), some (vL ln), none, some (vI t), none, none, none, none] [] (fmem (emem gi er ec) oa S) gl sh _
  obtain ⟨k0, r0, r1, r2, r3, ho, k1, l1, k2, l2, -, -, hE, hL⟩ := id hF
  obtain ⟨o1, o2, o3, o4⟩ := hF.own
  refine g_aload_n dX1_addLine_0 rfl ?_
  refine g_getR 3 dX1_addLine_1 flX1_24 rfl (by assumption) (by assumption) ?_
  refine g_iconst dX1_addLine_4 (by decide) ?_
  refine g_cSv [_, _] dX1_addLine_5 mlX1_35 msJ7_fill_53178 (by decide) rfl rfl (Nat.le_of_ble_eq_true rfl) rfl (Nat.le_of_ble_eq_true rfl) (c_fill o3 o4 (-1)) ?_
  rw [fmem_n ho, fmem_rn ho]
  refine g_aload_n dX1_addLine_8 rfl ?_
  refine g_cVl [] dX1_addLine_9 mlX1_41 mvX3_lineBound (by decide) (by assumption) (by decide) rfl rfl (Nat.le_of_ble_eq_true rfl) rfl (Nat.le_of_ble_eq_true rfl) (c_lineBound hk (by rw [fm_p (by omega) ho]; exact hW)) ?_
  rw [fm_p (by omega) ho]
  refine n_lstore (lN := [_, _, _, _, _, _, _, _, _]) dX1_addLine_12 (by decide) rfl ?_
  refine g_iconst dX1_addLine_14 (by decide) ?_
  refine n_istore (lN := [_, _, _, _, _, _, _, _, _]) dX1_addLine_15 (by decide) rfl ?_
  have hS := l_fAddLine (Q := Rt (some (vI ((f_end t 16 (f_row (S.1, S.2.1, f_fill S.2.2 (-1)) t (gi a 3) (gi a 8) ln (gi a 3).toNat).1 er ec).2.2 - ec))) (fmem (emem gi (f_end t 16 (f_row (S.1, S.2.1, f_fill S.2.2 (-1)) t (gi a 3) (gi a 8) ln (gi a 3).toNat).1 er ec).2.1 (f_end t 16 (f_row (S.1, S.2.1, f_fill S.2.2 (-1)) t (gi a 3) (gi a 8) ln (gi a 3).toNat).1 er ec).2.2) (61 - oa) ((f_end t 16 (f_row (S.1, S.2.1, f_fill S.2.2 (-1)) t (gi a 3) (gi a 8) ln (gi a 3).toNat).1 er ec).1, (f_row (S.1, S.2.1, f_fill S.2.2 (-1)) t (gi a 3) (gi a 8) ln (gi a 3).toNat).2.2, (f_row (S.1, S.2.1, f_fill S.2.2 (-1)) t (gi a 3) (gi a 8) ln (gi a 3).toNat).2.1)) gl (sh_sw sh oa)) (gl := gl) hF hk ha er ec t ln (S.1, S.2.1, f_fill S.2.2 (-1)) ht hW hln hst ?_ (gi a 3).toNat 0 (by omega) (by omega) none (fun y hy => by cases hy)
  · rw [show (gi a 3 - 0) = gi a 3 by omega] at hS
    exact hS
  intro l8 h8
  generalize (f_row (S.1, S.2.1, f_fill S.2.2 (-1)) t (gi a 3) (gi a 8) ln (gi a 3).toNat) = S1 at hrm ⊢
  refine g_aload_n dX1_addLine_91 rfl ?_
  refine g_getR 2 dX1_addLine_92 flX1_20 rfl (by assumption) (by assumption) ?_
  refine n_astore (lN := [_, _, _, _, _, _, _, _, _]) dX1_addLine_95 (by decide) rfl ?_
  refine g_aload_n dX1_addLine_97 rfl ?_
  refine g_aload_n dX1_addLine_98 rfl ?_
  refine g_getR 3 dX1_addLine_99 flX1_24 rfl (by assumption) (by assumption) ?_
  refine g_putR 2 dX1_addLine_102 flX1_20 rfl (by assumption) ?_
  refine g_aload_n dX1_addLine_105 rfl ?_
  refine g_aload dX1_addLine_106 rfl ?_
  refine g_putR 3 dX1_addLine_108 flX1_24 rfl (by assumption) ?_
  rw [show S1 = (S1.1, S1.2.1, S1.2.2) from rfl, fmem_swap ho]
  show Go mdX1_addLine 0 0 111 _ _ _ _ (sh_sw sh oa) _
  refine g_aload_n dX1_addLine_111 rfl ?_
  refine g_iload dX1_addLine_112 rfl ?_
  refine g_cVi [_] dX1_addLine_114 mlX1_59 mvX1_endAllWithout (by decide) (by assumption) (by decide) rfl rfl (Nat.le_of_ble_eq_true rfl) rfl (Nat.le_of_ble_eq_true rfl) (c_endAll hF.swap t (S1.2.2, S1.2.1) S1.1 er ec hec hrm) ?_
  refine g_ireturn dX1_addLine_117 rfl ?_
  exact ⟨rfl, rfl, rfl, rfl⟩
end FOLD3
