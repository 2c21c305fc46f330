/-! SpeckValves: numbers, cleared, undone -/
theorem pl_ok.up {pl kn nm : gRw} {k v : Int} (h : pl_ok pl kn nm) (hv : 1 ≤ v ∧ v ≤ 99) : pl_ok pl kn (r_up nm k v) := by
  obtain ⟨t1, t2, t3, t4, t5, t6, t7, t8, t9⟩ := h
  refine ⟨t1, t2, t3, t4, t5, t6, t7, t8, fun i v0 v1 => ⟨(t9 i v0 v1).1, ?_⟩⟩
  by_cases hik : i = k
  · rw [hik, r_up_at]; exact hv
  · rw [r_up_ne hik]; exact (t9 i v0 v1).2
section COMP5
variable {gi gl : gF} {sh : gSh} {la oa : Int}
set_option maxRecDepth 20000 in
set_option maxHeartbeats 1000000 in
theorem c_isRule (hs : isSV sh la oa) (h4 : gi la 2 ≤ 4) (k z : Int) (hz : Zq (0 ≤ k ∧ k < gi la 2) z) : Ct mdX8_isRule 0 0 [vR 0, vI k] gi gl sh (Rt (some (vI z)) gi gl sh) := by
  show Go mdX8_isRule 0 0 0 [some (vR 0), some (vI k)] [] gi gl sh _
  obtain ⟨⟨k0, r0, r1, r2, r3, r4, r5, r6, r7, r8, hla⟩, hTx, hSt, hHi, hFo, hV1, hV2, ⟨k183, l183⟩, hP1, hP2⟩ := id hs
  refine g_iload_n dX8_isRule_0 rfl ?_
  refine g_if_lt 24 dX8_isRule_1 (by decide) (fun h1 => ?_) (fun h1 => ?_)
  · skip
    refine g_iconst dX8_isRule_24 (by decide) ?_
    refine g_zreturn dX8_isRule_25 rfl (by omega) ?_
    exact ⟨by rw [hz.2 (by omega)], rfl, rfl, rfl⟩
  · skip
    refine g_iload_n dX8_isRule_4 rfl ?_
    refine g_aload_n dX8_isRule_5 rfl ?_
    refine g_getR 7 dX8_isRule_6 flX8_54 rfl (by assumption) (by assumption) ?_
    refine g_getIN 2 dX8_isRule_9 fnX8_80 rfl (by exact hs.pl.1.1) ?_
    refine g_icmp_ge 24 dX8_isRule_12 (by decide) (fun h12 => ?_) (fun h12 => ?_)
    · skip
      refine g_iconst dX8_isRule_24 (by decide) ?_
      refine g_zreturn dX8_isRule_25 rfl (by omega) ?_
      exact ⟨by rw [hz.2 (by omega)], rfl, rfl, rfl⟩
    · skip
      refine g_iload_n dX8_isRule_15 rfl ?_
      refine g_iconst dX8_isRule_16 (by decide) ?_
      refine g_icmp_ge 24 dX8_isRule_17 (by decide) (fun h17 => ?_) (fun h17 => ?_)
      · exfalso; omega
      · skip
        refine g_iconst dX8_isRule_20 (by decide) ?_
        refine g_goto 25 dX8_isRule_21 (by decide) ?_
        refine g_zreturn dX8_isRule_25 rfl (by omega) ?_
        exact ⟨by rw [hz.1 (by omega)], rfl, rfl, rfl⟩

set_option maxRecDepth 20000 in
set_option maxHeartbeats 1000000 in
theorem c_rule8 (hc : CI gi gl sh la oa) (k v : Int) : Ct mdX8_rule 0 0 [vR 0, vI k, vI v] gi gl sh (fun r gi' gl' sh' => SM gi gl sh gi' gl' sh' la ∧ ((¬ (0 ≤ k ∧ k < gi la 2) ∨ v < 1 ∨ 99 < v) ∧ r = some (vI (-1)) ∧ gi' = gi ∧ gl' = gl ∧ sh' = sh ∨ (0 ≤ k ∧ k < gi la 2) ∧ (1 ≤ v ∧ v ≤ 99) ∧ gi 6 k = v ∧ r = some (vI (-2)) ∧ gi' = gi ∧ gl' = gl ∧ sh' = sh ∨ (0 ≤ k ∧ k < gi la 2) ∧ (1 ≤ v ∧ v ≤ 99) ∧ gi 6 k ≠ v ∧ r = some (vI (gi 6 k)) ∧ gi' 4 2 = gi 4 2 ∧ gl' 5 = gl 5 ∧ gi' 6 = r_up (gi 6) k v ∧ gi' 27 4 = gi 27 4 ∧ KP gi gl gi' gl')) := by
  show Go mdX8_rule 0 0 0 [some (vR 0), some (vI k), some (vI v), none] [] gi gl sh _
  obtain ⟨⟨k0, r0, r1, r2, r3, r4, r5, r6, r7, r8, hla⟩, hTx, hSt, hHi, hFo, hV1, hV2, ⟨k183, l183⟩, hP1, hP2⟩ := id hc.1.1
  obtain ⟨ks0, sr0, sr1, ks1, ls1, ks2, ls2⟩ := id hSt
  obtain ⟨⟨hs, hct, hcs, hch, hcf⟩, hvd⟩ := id hc
  have hT := hcs.2.1
  have hpk := hcs.1
  have hW := hpk.1
  have hrc := hpk.2.2.2.2.2.2.2.1
  have hh := hch.1
  have hn := hch.2.1
  have hec := hcf.2.2.2
  have ho := hFo.2.2.2.2.2.1
  have sr6 : sh.1 4 1 = some 6 := sr1
  have ks6 : sh.2.1 6 = 11 := ks2
  have ls6 : (sh.2.2.1 6 : Int) = 4 := ls2
  have hz := zb_q (0 ≤ k ∧ k < gi la 2)
  generalize zb (0 ≤ k ∧ k < gi la 2) = z9 at hz
  refine g_aload_n dX8_rule_0 rfl ?_
  refine g_iload_n dX8_rule_1 rfl ?_
  refine g_cVi [_] dX8_rule_2 mlX8_110 mvX8_isRule (by decide) (by assumption) (by decide) rfl rfl (Nat.le_of_ble_eq_true rfl) rfl (Nat.le_of_ble_eq_true rfl) (c_isRule hs hrc.2 k z9 hz) ?_
  refine g_if_eq 19 dX8_rule_5 (by decide) (fun h5 => ?_) (fun h5 => ?_)
  · skip
    refine g_iconst dX8_rule_19 (by decide) ?_
    refine g_ireturn dX8_rule_20 rfl ?_
    exact ⟨SM.rf hc, Or.inl ⟨Or.inl (hz.no (by omega)), rfl, rfl, rfl, rfl⟩⟩
  · skip
    have hk : 0 ≤ k ∧ k < gi la 2 := hz.yes (by omega)
    refine g_iload_n dX8_rule_8 rfl ?_
    refine g_iconst dX8_rule_9 (by decide) ?_
    refine g_icmp_lt 19 dX8_rule_10 (by decide) (fun h10 => ?_) (fun h10 => ?_)
    · skip
      refine g_iconst dX8_rule_19 (by decide) ?_
      refine g_ireturn dX8_rule_20 rfl ?_
      exact ⟨SM.rf hc, Or.inl ⟨Or.inr (Or.inl (by omega)), rfl, rfl, rfl, rfl⟩⟩
    · skip
      refine g_iload_n dX8_rule_13 rfl ?_
      refine g_bipush dX8_rule_14 (by decide) (by decide) ?_
      refine g_icmp_le 21 dX8_rule_16 (by decide) (fun h16 => ?_) (fun h16 => ?_)
      · skip
        refine g_aload_n dX8_rule_21 rfl ?_
        refine g_getR 1 dX8_rule_22 flX8_19 rfl (by assumption) (by assumption) ?_
        refine g_getRN 1 dX8_rule_25 fnX8_114 rfl (by assumption) (by assumption) ?_
        refine g_iload_n dX8_rule_28 rfl ?_
        refine g_iaload dX8_rule_29 (by assumption) (by omega) (by omega) ?_
        refine n_istore_n (lN := [_, _, _, _]) dX8_rule_30 (by decide) rfl ?_
        refine g_iload_n dX8_rule_31 rfl ?_
        refine g_iload_n dX8_rule_32 rfl ?_
        refine g_icmp_ne 39 dX8_rule_33 (by decide) (fun h33 => ?_) (fun h33 => ?_)
        · skip
          refine g_aload_n dX8_rule_39 rfl ?_
          refine g_getR 2 dX8_rule_40 flX8_26 rfl (by assumption) (by assumption) ?_
          refine g_aload_n dX8_rule_43 rfl ?_
          refine g_getR 1 dX8_rule_44 flX8_19 rfl (by assumption) (by assumption) ?_
          refine g_cVv [_] dX8_rule_47 mlX8_96 mvX2_keep (by decide) (by exact hHi.1) (by decide) rfl rfl (Nat.le_of_ble_eq_true rfl) rfl (Nat.le_of_ble_eq_true rfl) (c_keep hHi hSt hn hh) ?_
          generalize hG : hs_keep gi = G
          generalize hGL : hs_keepL gi gl = GL
          have eG : ∀ b : Int, b < 7 ∨ 27 ≤ b → G b = gi b := fun b hb => by rw [← hG]; exact hs_keep_o hn (by omega) (by omega) (by omega)
          have eGL : ∀ b : Int, b < 9 ∨ 27 ≤ b → GL b = gl b := fun b hb => by rw [← hGL]; exact hs_keepL_o (by omega)
          have e42 : G 4 2 = gi 4 2 := by rw [eG 4 (by omega)]
          refine g_aload_n dX8_rule_50 rfl ?_
          refine g_getR 1 dX8_rule_51 flX8_19 rfl (by assumption) (by assumption) ?_
          refine g_getRN 1 dX8_rule_54 fnX8_114 rfl (by assumption) (by assumption) ?_
          refine g_iload_n dX8_rule_57 rfl ?_
          refine g_iload_n dX8_rule_58 rfl ?_
          refine g_iastore dX8_rule_59 (by assumption) (by omega) (by omega) ?_
          show Go _ _ _ _ _ _ (g_up G 6 k v) _ _ _
          generalize hG2 : g_up G 6 k v = G2
          have e2 : ∀ b : Int, b ≠ 6 → G2 b = G b := fun b hb => by rw [← hG2]; funext i; unfold g_up; rw [if_neg (fun w => hb w.1)]
          have e26 : G2 6 = r_up (gi 6) k v := by rw [← hG2, g_up_r, eG 6 (by omega)]
          have hpk2 : pl_ok (gi la) (gi (la + 1)) (r_up (gi 6) k v) := hpk.up (by omega)
          have eg2 : ∀ b : Int, b < 7 ∨ 27 ≤ b → b ≠ 6 → G2 b = gi b := fun b hb h6 => by rw [e2 b h6]; exact eG b hb
          have hf3 : CF0 G2 GL la oa := by unfold CF0; rw [eg2 la (by omega) (by omega), eg2 4 (by omega) (by omega), eGL 5 (by omega)]; exact FS.fr hcf ho (fun b b0 b1 => eg2 b (by omega) (by omega))
          refine g_aload_n dX8_rule_60 rfl ?_
          refine g_callV_v [] dX8_rule_61 mlX8_107 mvX8_judge (by decide) (by assumption) (by decide) rfl rfl (Nat.le_of_ble_eq_true rfl) rfl (Nat.le_of_ble_eq_true rfl) (c_judge hs (by rw [eg2 la (by omega) (by omega), eg2 (la + 1) (by omega) (by omega), e26]; exact hpk2) (by rw [eg2 4 (by omega) (by omega)]; exact hT) hf3) (fun _ _ _ _ q => q.1) (fun g2 l2 s2 p w3 w4 => ?_)
          obtain ⟨-, p2, p3, p4, p5⟩ := p
          subst p2 p3
          refine g_iload_n dX8_rule_64 rfl ?_
          refine g_ireturn dX8_rule_65 rfl ?_
          have n2 : ∀ b : Int, b < 79 ∨ 131 ≤ b → b ≠ 6 → g2 b = G b := fun b hb h4 => by rw [p4 b (by omega)]; exact e2 b h4
          have c27 : g2 27 = gi 27 := by rw [n2 27 (by omega) (by omega)]; exact eG 27 (by omega)
          have c4 : g2 4 = gi 4 := by rw [n2 4 (by omega) (by omega)]; exact eG 4 (by omega)
          have c6 : g2 6 = r_up (gi 6) k v := by rw [p4 6 (by omega)]; exact e26
          have cla : g2 la = gi la := by rw [n2 la (by omega) (by omega)]; exact eG la (by omega)
          have clb : g2 (la + 1) = gi (la + 1) := by rw [n2 (la + 1) (by omega) (by omega)]; exact eG _ (by omega)
          have c1 : g2 1 = gi 1 := by rw [n2 1 (by omega) (by omega)]; exact eG 1 (by omega)
          have c2 : g2 2 = gi 2 := by rw [n2 2 (by omega) (by omega)]; exact eG 2 (by omega)
          have kp : KP gi gl g2 l2 := KP.mk hn (fun b b0 b1 => by rw [hG]; exact n2 b (by omega) (by omega)) (fun b b0 b1 => by rw [hGL])
          have eL5 : l2 5 = gl 5 := eGL 5 (by omega)
          have hcs2 : CS0 g2 l2 la := by
            unfold CS0
            rw [cla, clb, c4, c6, eL5]
            exact ⟨hpk2, hcs.2⟩
          have hCI : CI g2 l2 s2 la oa := by
            refine ⟨⟨hs, ?_, hcs2, CH0.keep hcs hch kp cla clb, hf3.fr ho (fun b b0 b1 => p4 b (by omega)) (by rw [p4 4 (by omega)]) (by rw [p4 la (by omega)])⟩, ?_⟩
            · unfold CT0; rw [c1, c2]; exact hct
            · rw [p4 la (by omega), p4 (la + 1) (by omega), p4 6 (by omega), p4 27 (by omega)]
              exact p5.er (fun i i0 i1 => p4 (32 + i) (by omega)) hf3.2.2.2.2
          exact ⟨⟨⟨c1, c2, cla, clb⟩, fun b hb => ⟨by rw [n2 b (by omega) (by omega)]; exact eG b (by omega), eGL b (by omega), rfl⟩, rfl, oa, hCI⟩, Or.inr (Or.inr ⟨by omega, by omega, by omega, rfl, by rw [c4], eL5, c6, by rw [c27], kp⟩)⟩
        · skip
          refine g_bipush dX8_rule_36 (by decide) (by decide) ?_
          refine g_ireturn dX8_rule_38 rfl ?_
          exact ⟨SM.rf hc, Or.inr (Or.inl ⟨hk, by omega, by omega, rfl, rfl, rfl, rfl⟩)⟩
      · skip
        refine g_iconst dX8_rule_19 (by decide) ?_
        refine g_ireturn dX8_rule_20 rfl ?_
        exact ⟨SM.rf hc, Or.inl ⟨Or.inr (Or.inr (by omega)), rfl, rfl, rfl, rfl⟩⟩

set_option maxRecDepth 20000 in
set_option maxHeartbeats 1000000 in
theorem c_clear (hc : CI gi gl sh la oa) : Ct mdX8_clear 0 0 [vR 0] gi gl sh (fun r gi' gl' sh' => SM gi gl sh gi' gl' sh' la ∧ (gi 4 2 = 0 ∧ r = some (vI (-2)) ∧ gi' = gi ∧ gl' = gl ∧ sh' = sh ∨ gi 4 2 ≠ 0 ∧ r = some (vI (gi 4 2)) ∧ gi' 4 2 = 0 ∧ gl' 5 = gl 5 ∧ gi' 6 = gi 6 ∧ KP gi gl gi' gl')) := by
  show Go mdX8_clear 0 0 0 [some (vR 0), none] [] gi gl sh _
  obtain ⟨⟨k0, r0, r1, r2, r3, r4, r5, r6, r7, r8, hla⟩, hTx, hSt, hHi, hFo, hV1, hV2, ⟨k183, l183⟩, hP1, hP2⟩ := id hc.1.1
  obtain ⟨ks0, sr0, sr1, ks1, ls1, ks2, ls2⟩ := id hSt
  obtain ⟨⟨hs, hct, hcs, hch, hcf⟩, hvd⟩ := id hc
  have hT := hcs.2.1
  have hpk := hcs.1
  have hW := hpk.1
  have hrc := hpk.2.2.2.2.2.2.2.1
  have hh := hch.1
  have hn := hch.2.1
  have hec := hcf.2.2.2
  have ho := hFo.2.2.2.2.2.1
  refine g_aload_n dX8_clear_0 rfl ?_
  refine g_getR 1 dX8_clear_1 flX8_19 rfl (by assumption) (by assumption) ?_
  refine g_getIN 2 dX8_clear_4 fnX8_90 rfl (by assumption) ?_
  refine g_if_ne 13 dX8_clear_7 (by decide) (fun h7 => ?_) (fun h7 => ?_)
  · skip
    refine g_aload_n dX8_clear_13 rfl ?_
    refine g_getR 1 dX8_clear_14 flX8_19 rfl (by assumption) (by assumption) ?_
    refine g_getIN 2 dX8_clear_17 fnX8_90 rfl (by assumption) ?_
    refine n_istore_n (lN := [_, _]) dX8_clear_20 (by decide) rfl ?_
    refine g_aload_n dX8_clear_21 rfl ?_
    refine g_getR 2 dX8_clear_22 flX8_26 rfl (by assumption) (by assumption) ?_
    refine g_aload_n dX8_clear_25 rfl ?_
    refine g_getR 1 dX8_clear_26 flX8_19 rfl (by assumption) (by assumption) ?_
    refine g_cVv [_] dX8_clear_29 mlX8_96 mvX2_keep (by decide) (by exact hHi.1) (by decide) rfl rfl (Nat.le_of_ble_eq_true rfl) rfl (Nat.le_of_ble_eq_true rfl) (c_keep hHi hSt hn hh) ?_
    generalize hG : hs_keep gi = G
    generalize hGL : hs_keepL gi gl = GL
    have eG : ∀ b : Int, b < 7 ∨ 27 ≤ b → G b = gi b := fun b hb => by rw [← hG]; exact hs_keep_o hn (by omega) (by omega) (by omega)
    have eGL : ∀ b : Int, b < 9 ∨ 27 ≤ b → GL b = gl b := fun b hb => by rw [← hGL]; exact hs_keepL_o (by omega)
    have e42 : G 4 2 = gi 4 2 := by rw [eG 4 (by omega)]
    refine g_aload_n dX8_clear_32 rfl ?_
    refine g_callV_v [] dX8_clear_33 mlX8_117 mvX8_dropLines (by decide) (by assumption) (by decide) rfl rfl (Nat.le_of_ble_eq_true rfl) rfl (Nat.le_of_ble_eq_true rfl) (c_dropLines hs (by rw [eG la (by omega), eG (la + 1) (by omega), eG 6 (by omega)]; exact hpk) (FS.fr hcf ho (fun b b0 b1 => eG b (by omega))).okS) (fun _ _ _ _ q => q.1) (fun g2 l2 s2 p w3 w4 => ?_)
    obtain ⟨-, p2, p3, p4, p5, p6, p7⟩ := p
    subst p2 p3
    refine g_iload_n dX8_clear_36 rfl ?_
    refine g_ireturn dX8_clear_37 rfl ?_
    have n2 : ∀ b : Int, b < 27 ∨ 131 ≤ b → b ≠ 4 → g2 b = G b := fun b hb h4 => p4 b hb h4
    have c6 : g2 6 = gi 6 := by rw [n2 6 (by omega) (by omega)]; exact eG 6 (by omega)
    have cla : g2 la = gi la := by rw [n2 la (by omega) (by omega)]; exact eG la (by omega)
    have clb : g2 (la + 1) = gi (la + 1) := by rw [n2 (la + 1) (by omega) (by omega)]; exact eG _ (by omega)
    have c1 : g2 1 = gi 1 := by rw [n2 1 (by omega) (by omega)]; exact eG 1 (by omega)
    have c2 : g2 2 = gi 2 := by rw [n2 2 (by omega) (by omega)]; exact eG 2 (by omega)
    have kp : KP gi gl g2 l2 := KP.mk hn (fun b b0 b1 => by rw [hG]; exact n2 b (by omega) (by omega)) (fun b b0 b1 => by rw [hGL])
    have eL5 : l2 5 = gl 5 := eGL 5 (by omega)
    have hcs2 : CS0 g2 l2 la := by
      unfold CS0
      rw [cla, clb, p5, c6, eL5]
      exact ⟨hpk, by omega, fun t t0 t1 => by omega, fun t t0 t1 => by omega⟩
    have hCI : CI g2 l2 s2 la oa := by
      refine ⟨⟨hs, ?_, hcs2, CH0.keep hcs hch kp cla clb, p6⟩, p7⟩
      unfold CT0; rw [c1, c2]; exact hct
    exact ⟨⟨⟨c1, c2, cla, clb⟩, fun b hb => ⟨by rw [n2 b (by omega) (by omega)]; exact eG b (by omega), eGL b (by omega), rfl⟩, rfl, oa, hCI⟩, Or.inr ⟨by omega, rfl, p5, eL5, c6, kp⟩⟩
  · skip
    refine g_bipush dX8_clear_10 (by decide) (by decide) ?_
    refine g_ireturn dX8_clear_12 rfl ?_
    exact ⟨SM.rf hc, Or.inl ⟨by omega, rfl, rfl, rfl, rfl⟩⟩

end COMP5
