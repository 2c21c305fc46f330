/-! SpeckValves: undone -/
/-- the stand that was kept last is back -/
def BK (gi gl gi' gl' : gF) : Prop := gi' 7 1 = gi 7 1 - 1 ∧ (0 ≤ gi' 7 2 ∧ gi' 7 2 < 6) ∧ stEq (gi' 4 2, gl' 5, gi' 6) (pst gi gl 1) ∧ ∀ u : Int, 1 ≤ u → u ≤ 5 → stEq (pst gi' gl' u) (pst gi gl (u + 1))
theorem hs_back_o {gi : gF} {l b : Int} (h7 : b ≠ 7) (h4 : b ≠ 4) (h6 : b ≠ 6) : hs_back gi l b = gi b := by
  funext k; unfold hs_back g_up g_cp; rw [if_neg (fun w => h7 w.1), if_neg (fun w => h7 w.1), if_neg (fun w => h4 w.1), if_neg (fun w => h6 w.1)]
theorem hs_backL_o {gl : gF} {l b : Int} (h : b ≠ 5) : hs_backL gl l b = gl b := by
  funext k; unfold hs_backL g_cp; rw [if_neg (fun w => h w.1)]
theorem BK.mk {gi gl gi' gl' : gF} {l : Int} (hl : l = hs_last (gi 7 2)) (hn : 0 ≤ gi 7 2 ∧ gi 7 2 < 6) (e : ∀ b : Int, b < 27 → gi' b = hs_back gi l b) (el : ∀ b : Int, b < 27 → gl' b = hs_backL gl l b) : BK gi gl gi' gl' := by
  have hb : 0 ≤ l ∧ l < 6 := by rw [hl]; unfold hs_last; split <;> omega
  have e72 : gi' 7 2 = l := by
    rw [e 7 (by omega)]; unfold hs_back g_up g_cp; rw [if_neg (fun w => by omega), if_pos ⟨rfl, rfl⟩]
  have e71 : gi' 7 1 = gi 7 1 - 1 := by
    rw [e 7 (by omega)]; unfold hs_back g_up g_cp; rw [if_pos ⟨rfl, rfl⟩]
  have p1 : hsp (gi 7 2) 1 = 9 + 3 * l := by rw [hl]; unfold hsp hs_last; split <;> omega
  refine ⟨e71, by omega, ?_, fun u u0 u1 => ?_⟩
  · unfold pst
    rw [p1, e 4 (by omega), e 6 (by omega), el 5 (by omega)]
    refine ⟨?_, fun t t0 t1 => ?_, fun k k0 k1 => ?_⟩
    · dsimp only; unfold hs_back g_up g_cp; rw [if_neg (fun w => by omega), if_neg (fun w => by omega), if_pos ⟨rfl, rfl⟩]
    · dsimp only; unfold hs_backL g_cp; rw [if_pos ⟨rfl, by omega⟩]; congr 1; omega
    · dsimp only; unfold hs_back g_up g_cp; rw [if_neg (fun w => by omega), if_neg (fun w => by omega), if_neg (fun w => by omega), if_pos ⟨rfl, by omega⟩]; congr 1; omega
  · have p2 : hsp (gi' 7 2) u = hsp (gi 7 2) (u + 1) := by rw [e72, hl]; unfold hsp hs_last; split <;> omega
    unfold pst
    rw [p2]
    unfold hsp
    rw [e _ (by omega), e (9 + 3 * ((gi 7 2 - (u + 1)) % 6) + 2) (by omega), el _ (by omega), hs_back_o (by omega) (by omega) (by omega), hs_back_o (by omega) (by omega) (by omega), hs_backL_o (by omega)]
    exact stEq.rf _
section COMP6
variable {gi gl : gF} {sh : gSh} {la oa : Int}
set_option maxRecDepth 20000 in
set_option maxHeartbeats 1000000 in
theorem c_undo (hc : CI gi gl sh la oa) : Ct mdX8_undo 0 0 [vR 0] gi gl sh (fun r gi' gl' sh' => SM gi gl sh gi' gl' sh' la ∧ (gi 7 1 = 0 ∧ r = some (vI (-2)) ∧ gi' = gi ∧ gl' = gl ∧ sh' = sh ∨ gi 7 1 ≠ 0 ∧ r = some (vI (gi 7 1 - 1)) ∧ BK gi gl gi' gl')) := by
  show Go mdX8_undo 0 0 0 [some (vR 0)] [] gi gl sh _
  obtain ⟨⟨k0, r0, r1, r2, r3, r4, r5, r6, r7, r8, hla⟩, hTx, hSt, hHi, hFo, hV1, hV2, ⟨k183, l183⟩, hP1, hP2⟩ := id hc.1.1
  obtain ⟨ks0, sr0, sr1, ks1, ls1, ks2, ls2⟩ := id hSt
  obtain ⟨⟨hs, hct, hcs, hch, hcf⟩, hvd⟩ := id hc
  have hT := hcs.2.1
  have hpk := hcs.1
  have hW := hpk.1
  have hrc := hpk.2.2.2.2.2.2.2.1
  have hh := hch.1
  have hn := hch.2.1
  have hec := hcf.2.2.2
  have ho := hFo.2.2.2.2.2.1
  refine g_aload_n dX8_undo_0 rfl ?_
  refine g_getR 2 dX8_undo_1 flX8_26 rfl (by assumption) (by assumption) ?_
  refine g_getIN 1 dX8_undo_4 fnX8_120 rfl (by exact hHi.1) ?_
  refine g_if_ne 13 dX8_undo_7 (by decide) (fun h7 => ?_) (fun h7 => ?_)
  · skip
    refine g_aload_n dX8_undo_13 rfl ?_
    refine g_getR 2 dX8_undo_14 flX8_26 rfl (by assumption) (by assumption) ?_
    refine g_aload_n dX8_undo_17 rfl ?_
    refine g_getR 1 dX8_undo_18 flX8_19 rfl (by assumption) (by assumption) ?_
    refine g_cVv [_] dX8_undo_21 mlX8_123 mvX2_giveBack (by decide) (by exact hHi.1) (by decide) rfl rfl (Nat.le_of_ble_eq_true rfl) rfl (Nat.le_of_ble_eq_true rfl) (c_giveBack hHi hSt hn (by omega) (hs_last (gi 7 2)) rfl) ?_
    generalize hG : hs_back gi (hs_last (gi 7 2)) = G
    generalize hGL : hs_backL gl (hs_last (gi 7 2)) = GL
    have eG : ∀ b : Int, b ≠ 7 → b ≠ 4 → b ≠ 6 → G b = gi b := fun b h7 h4 h6 => by rw [← hG]; exact hs_back_o h7 h4 h6
    have eGL : ∀ b : Int, b ≠ 5 → GL b = gl b := fun b hb => by rw [← hGL]; exact hs_backL_o hb
    have bk : BK gi gl G GL := BK.mk rfl hn (fun b b1 => by rw [hG]) (fun b b1 => by rw [hGL])
    have hso : stOk (G la) (G (la + 1)) (G 4 2) (GL 5) (G 6) := by rw [eG la (by omega) (by omega) (by omega), eG (la + 1) (by omega) (by omega) (by omega)]; exact (hch.2.2 1 (by omega) (by omega)).eq bk.2.2.1
    refine g_aload_n dX8_undo_24 rfl ?_
    refine g_callV_v [] dX8_undo_25 mlX8_126 mvX8_foldAll (by decide) (by assumption) (by decide) rfl rfl (Nat.le_of_ble_eq_true rfl) rfl (Nat.le_of_ble_eq_true rfl) (c_foldAll hs hso (FS.fr hcf ho (fun b b0 b1 => eG b (by omega) (by omega) (by omega))).okS) (fun _ _ _ _ q => q.1) (fun g2 l2 s2 p w3 w4 => ?_)
    obtain ⟨-, p2, p3, p4, p5, p6⟩ := p
    subst p2
    have kh : s2.2.1 7 = 2 := by rw [p3]; exact hHi.1
    have k02 : s2.2.1 0 = 8 := by rw [p3]; exact k0
    have r22 : s2.1 0 2 = some 7 := by rw [p4 0 (by omega)]; exact r2
    refine g_aload_n dX8_undo_28 rfl ?_
    refine g_getR 2 dX8_undo_29 flX8_26 rfl (by assumption) (by assumption) ?_
    refine g_getIN 1 dX8_undo_32 fnX8_120 rfl (by assumption) ?_
    refine g_ireturn dX8_undo_35 rfl ?_
    have n2 : ∀ b : Int, b < 27 ∨ 131 ≤ b → g2 b = G b := p5
    have c71 : g2 7 1 = gi 7 1 - 1 := by rw [n2 7 (by omega)]; exact bk.1
    have cla : g2 la = gi la := by rw [n2 la (by omega)]; exact eG la (by omega) (by omega) (by omega)
    have clb : g2 (la + 1) = gi (la + 1) := by rw [n2 (la + 1) (by omega)]; exact eG _ (by omega) (by omega) (by omega)
    have c1 : g2 1 = gi 1 := by rw [n2 1 (by omega)]; exact eG 1 (by omega) (by omega) (by omega)
    have c2 : g2 2 = gi 2 := by rw [n2 2 (by omega)]; exact eG 2 (by omega) (by omega) (by omega)
    have bk2 : BK gi gl g2 l2 := BK.mk rfl hn (fun b b1 => by rw [hG]; exact n2 b (by omega)) (fun b b1 => by rw [hGL])
    obtain ⟨oa2, hs2, hcf2, hvd2⟩ := p6
    have hCI : CI g2 l2 s2 la oa2 := by
      refine ⟨⟨hs2, ?_, ?_, ⟨by omega, bk2.2.1, fun u u0 u1 => ?_⟩, hcf2⟩, hvd2⟩
      · unfold CT0; rw [c1, c2]; exact hct
      · unfold CS0; rw [cla, clb]; exact (hch.2.2 1 (by omega) (by omega)).eq bk2.2.2.1
      · rw [cla, clb]; exact (hch.2.2 (u + 1) (by omega) (by omega)).eq (bk2.2.2.2 u u0 (by omega))
    exact ⟨⟨⟨c1, c2, cla, clb⟩, fun b hb => ⟨by rw [n2 b (by omega)]; exact eG b (by omega) (by omega) (by omega), eGL b (by omega), p4 b (by omega)⟩, p3, oa2, hCI⟩, Or.inr ⟨by omega, by rw [c71], bk2⟩⟩
  · skip
    refine g_bipush dX8_undo_10 (by decide) (by decide) ?_
    refine g_ireturn dX8_undo_12 rfl ?_
    exact ⟨SM.rf hc, Or.inl ⟨by omega, rfl, rfl, rfl, rfl⟩⟩

end COMP6
