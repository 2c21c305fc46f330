/-! SpeckValves: what is told -/
theorem CI.keep {gi gi' gl : gF} {sh : gSh} {la oa : Int} (h : CI gi gl sh la oa) (e : ∀ b : Int, 4 ≤ b ∧ b ≤ 130 ∨ b = la ∨ b = la + 1 → gi' b = gi b) (ht : CT0 gi') : CI gi' gl sh la oa := by
  obtain ⟨⟨hs, h1, h2, h3, h4⟩, h5⟩ := h
  have ho := hs.2.2.2.2.1.2.2.2.2.2.1
  have ea := e la (by omega)
  have eb := e (la + 1) (by omega)
  have e4 := e 4 (by omega)
  have e6 := e 6 (by omega)
  have e7 := e 7 (by omega)
  refine ⟨⟨hs, ht, ?_, ?_, ?_⟩, ?_⟩
  · unfold CS0; rw [ea, eb, e4, e6]; exact h2
  · unfold CH0; rw [ea, eb, e7]
    refine ⟨h3.1, h3.2.1, fun u u0 u1 => ?_⟩
    have := h3.2.2 u u0 u1
    unfold hsp at this ⊢
    rw [e _ (by omega), e (9 + 3 * ((gi 7 2 - u) % 6) + 2) (by omega)]
    exact this
  · exact h4.fr ho (fun b b0 b1 => e b (by omega)) (by rw [e4]) ea
  · rw [ea, eb, e6, e 27 (by omega)]
    have h6 := h5.er (er' := fvE gi') (fun i i0 i1 => e (32 + i) (by omega)) h4.2.2.2.2
    unfold VD at h6 ⊢
    refine ⟨fun b b0 b1 => ?_, fun j j0 j1 => ?_⟩
    · rw [e (79 + 1) (by omega), e (79 + 2) (by omega)]; exact h6.1 b b0 b1
    · rw [e (79 + 4 + 3 * j) (by omega), e (79 + 4 + 3 * j + 1) (by omega), e (79 + 4 + 3 * j + 2) (by omega)]; exact h6.2 j j0 j1
section COMP3
variable {gi gl : gF} {sh : gSh} {la oa : Int}
set_option maxRecDepth 20000 in
set_option maxHeartbeats 1000000 in
theorem c_write (hc : CI gi gl sh la oa) (x : Int) : Ct mdX8_write 0 0 [vR 0, vI x] gi gl sh (fun r gi' gl' sh' => gl' = gl ∧ sh' = sh ∧ CI gi' gl sh la oa ∧ (∀ b : Int, b ≠ 1 → b ≠ 2 → gi' b = gi b) ∧ ((x < 32 ∨ 126 < x) ∧ r = some (vI (-1)) ∧ gi' = gi ∨ (32 ≤ x ∧ x ≤ 126) ∧ 200 ≤ gi 1 2 ∧ r = some (vI (-3)) ∧ gi' = gi ∨ (32 ≤ x ∧ x ≤ 126) ∧ gi 1 2 < 200 ∧ r = some (vI (gi 1 2 + 1)) ∧ gi' 1 2 = gi 1 2 + 1 ∧ gi' 2 = r_up (gi 2) (gi 1 2) x)) := by
  show Go mdX8_write 0 0 0 [some (vR 0), some (vI x)] [] gi gl sh _
  obtain ⟨⟨k0, r0, r1, r2, r3, r4, r5, r6, r7, r8, hla⟩, hTx, hSt, hHi, hFo, hV1, hV2, ⟨k183, l183⟩, hP1, hP2⟩ := id hc.1.1
  obtain ⟨kt0, tr0, tr1, kt1, lt1, kt2, lt2⟩ := id hTx
  have hct := hc.1.2.1
  have hct1 := hct.1
  refine g_iload_n dX8_write_0 rfl ?_
  refine g_bipush dX8_write_1 (by decide) (by decide) ?_
  refine g_icmp_lt 12 dX8_write_3 (by decide) (fun h3 => ?_) (fun h3 => ?_)
  · skip
    refine g_iconst dX8_write_12 (by decide) ?_
    refine g_ireturn dX8_write_13 rfl ?_
    exact ⟨rfl, rfl, hc, fun _ _ _ => rfl, Or.inl ⟨by omega, rfl, rfl⟩⟩
  · skip
    refine g_iload_n dX8_write_6 rfl ?_
    refine g_bipush dX8_write_7 (by decide) (by decide) ?_
    refine g_icmp_le 14 dX8_write_9 (by decide) (fun h9 => ?_) (fun h9 => ?_)
    · skip
      refine g_aload_n dX8_write_14 rfl ?_
      refine g_getR 0 dX8_write_15 flX8_12 rfl (by assumption) (by assumption) ?_
      refine g_getIN 2 dX8_write_18 fnX8_68 rfl (by assumption) ?_
      refine g_sipush dX8_write_21 (by decide) (by decide) ?_
      refine g_icmp_lt 30 dX8_write_24 (by decide) (fun h24 => ?_) (fun h24 => ?_)
      · skip
        refine g_aload_n dX8_write_30 rfl ?_
        refine g_getR 0 dX8_write_31 flX8_12 rfl (by assumption) (by assumption) ?_
        refine g_iload_n dX8_write_34 rfl ?_
        refine g_i2c dX8_write_35 (by omega) (by omega) ?_
        refine g_cVv [_] dX8_write_36 mlX8_72 mvX5_append (by decide) (by assumption) (by decide) rfl rfl (Nat.le_of_ble_eq_true rfl) rfl (Nat.le_of_ble_eq_true rfl) (c_append hTx x (by omega) (by omega)) ?_
        refine g_aload_n dX8_write_39 rfl ?_
        refine g_getR 0 dX8_write_40 flX8_12 rfl (by assumption) (by assumption) ?_
        refine g_getIN 2 dX8_write_43 fnX8_68 rfl (by assumption) ?_
        refine g_ireturn dX8_write_46 rfl ?_
        have eb : ∀ b : Int, b ≠ 1 → b ≠ 2 → g_up (g_up gi 2 (gi 1 2) x) 1 2 (gi 1 2 + 1) b = gi b := fun b h1 h2 => by funext k; unfold g_up; rw [if_neg (fun w => h1 w.1), if_neg (fun w => h2 w.1)]
        have e1 : g_up (g_up gi 2 (gi 1 2) x) 1 2 (gi 1 2 + 1) 1 2 = gi 1 2 + 1 := by unfold g_up; rw [if_pos ⟨rfl, rfl⟩]
        have e2 : g_up (g_up gi 2 (gi 1 2) x) 1 2 (gi 1 2 + 1) 2 = r_up (gi 2) (gi 1 2) x := by
          funext k; unfold g_up r_up; rw [if_neg (fun w => by omega)]
          by_cases hk : k = gi 1 2
          · rw [if_pos ⟨rfl, hk⟩, if_pos hk]
          · rw [if_neg (fun w => hk w.2), if_neg hk]
        refine ⟨rfl, rfl, hc.keep (fun b hb => eb b (by omega) (by omega)) ⟨by rw [e1]; omega, ?_⟩, eb, Or.inr (Or.inr ⟨by omega, by omega, ?_, e1, e2⟩)⟩
        · rw [e1, e2]
          intro i i0 i1
          by_cases hi : i = gi 1 2
          · rw [hi, r_up_at]; omega
          · rw [r_up_ne hi]; exact hct.2 i i0 (by omega)
        · rw [e1]
      · skip
        refine g_bipush dX8_write_27 (by decide) (by decide) ?_
        refine g_ireturn dX8_write_29 rfl ?_
        exact ⟨rfl, rfl, hc, fun _ _ _ => rfl, Or.inr (Or.inl ⟨by omega, by omega, rfl, rfl⟩)⟩
    · skip
      refine g_iconst dX8_write_12 (by decide) ?_
      refine g_ireturn dX8_write_13 rfl ?_
      exact ⟨rfl, rfl, hc, fun _ _ _ => rfl, Or.inl ⟨by omega, rfl, rfl⟩⟩

set_option maxRecDepth 20000 in
set_option maxHeartbeats 1000000 in
theorem c_wipe (hc : CI gi gl sh la oa) : Ct mdX8_wipe 0 0 [vR 0] gi gl sh (fun r gi' gl' sh' => gl' = gl ∧ sh' = sh ∧ CI gi' gl sh la oa ∧ (∀ b : Int, b ≠ 1 → gi' b = gi b) ∧ r = some (vI (gi 1 2)) ∧ gi' 1 2 = 0) := by
  show Go mdX8_wipe 0 0 0 [some (vR 0), none] [] gi gl sh _
  obtain ⟨⟨k0, r0, r1, r2, r3, r4, r5, r6, r7, r8, hla⟩, hTx, hSt, hHi, hFo, hV1, hV2, ⟨k183, l183⟩, hP1, hP2⟩ := id hc.1.1
  obtain ⟨kt0, tr0, tr1, kt1, lt1, kt2, lt2⟩ := id hTx
  have hct := hc.1.2.1
  have hct1 := hct.1
  refine g_aload_n dX8_wipe_0 rfl ?_
  refine g_getR 0 dX8_wipe_1 flX8_12 rfl (by assumption) (by assumption) ?_
  refine g_getIN 2 dX8_wipe_4 fnX8_68 rfl (by assumption) ?_
  refine n_istore_n (lN := [_, _]) dX8_wipe_7 (by decide) rfl ?_
  refine g_aload_n dX8_wipe_8 rfl ?_
  refine g_getR 0 dX8_wipe_9 flX8_12 rfl (by assumption) (by assumption) ?_
  refine g_iconst dX8_wipe_12 (by decide) ?_
  refine g_putIN 2 dX8_wipe_13 fnX8_68 rfl (by assumption) ?_
  refine g_iload_n dX8_wipe_16 rfl ?_
  refine g_ireturn dX8_wipe_17 rfl ?_
  have eb : ∀ b : Int, b ≠ 1 → g_up gi 1 2 0 b = gi b := fun b h1 => by funext k; unfold g_up; rw [if_neg (fun w => h1 w.1)]
  have e1 : g_up gi 1 2 0 1 2 = 0 := by unfold g_up; rw [if_pos ⟨rfl, rfl⟩]
  exact ⟨rfl, rfl, hc.keep (fun b hb => eb b (by omega)) ⟨by rw [e1]; omega, fun i i0 i1 => by rw [e1] at i1; omega⟩, eb, rfl, e1⟩

set_option maxRecDepth 20000 in
set_option maxHeartbeats 1000000 in
theorem c_fault (hc : CI gi gl sh la oa) : Ct mdX8_fault 0 0 [vR 0] gi gl sh (fun r gi' gl' sh' => gl' = gl ∧ sh' = sh ∧ CI gi' gl sh la oa ∧ (∀ b : Int, b ≠ 1 → b ≠ 3 → b ≠ 371 - la → b ≠ 371 - la + 1 → b ≠ 371 - la + 2 → gi' b = gi b) ∧ gi' 1 2 = gi 1 2 ∧ r = some (vI (t_parse (gi 2) (gi 1 2) 200 0 (t_pl0 (gi (371 - la))) (gi (371 - la + 1)) (gi (371 - la + 2))).1)) := by
  show Go mdX8_fault 0 0 0 [some (vR 0)] [] gi gl sh _
  obtain ⟨⟨k0, r0, r1, r2, r3, r4, r5, r6, r7, r8, hla⟩, hTx, hSt, hHi, hFo, hV1, hV2, ⟨k183, l183⟩, hP1, hP2⟩ := id hc.1.1
  obtain ⟨kt0, tr0, tr1, kt1, lt1, kt2, lt2⟩ := id hTx
  have hct := hc.1.2.1
  have hct1 := hct.1
  refine g_aload_n dX8_fault_0 rfl ?_
  refine g_getR 0 dX8_fault_1 flX8_12 rfl (by assumption) (by assumption) ?_
  refine g_aload_n dX8_fault_4 rfl ?_
  refine g_getR 8 dX8_fault_5 flX8_58 rfl (by assumption) (by assumption) ?_
  refine g_callV_i [_] dX8_fault_8 mlX8_76 mvX5_readInto (by decide) (by exact hTx.1) (by decide) rfl rfl (Nat.le_of_ble_eq_true rfl) rfl (Nat.le_of_ble_eq_true rfl) (c_readInto hTx hc.1.1.pl.2 (by omega) (gi 2) (gi 1 2) rfl rfl (by omega) hct.2) (fun _ _ _ _ q => ⟨_, q.2.2.2.2.1⟩) (fun x1 g1 l1 s1 q w1 w2 => ?_)
  obtain ⟨q1, q2, q3, q4, q5, q6, q7, q8⟩ := q
  subst q1 q2
  cases q5
  have hc1 : CI g1 l1 s1 la oa := hc.keep (fun b hb => q3 b (by omega) (by omega) (by omega) (by omega) (by omega)) ⟨by rw [q4]; exact hct.1, by rw [q4, q3 2 (by omega) (by omega) (by omega) (by omega) (by omega)]; exact hct.2⟩
  refine g_ireturn dX8_fault_11 rfl ?_
  exact ⟨rfl, rfl, hc1, q3, q4, rfl⟩

set_option maxRecDepth 20000 in
set_option maxHeartbeats 1000000 in
theorem c_lay (hc : CI gi gl sh la oa) : Ct mdX8_lay 0 0 [vR 0] gi gl sh (fun r gi' gl' sh' => gl' = gl ∧ (∀ b : Int, 190 ≤ b → gi' b = gi b) ∧ gi' 1 2 = gi 1 2 ∧ gi' 2 = gi 2 ∧ (((t_parse (gi 2) (gi 1 2) 200 0 (t_pl0 (gi (371 - la))) (gi (371 - la + 1)) (gi (371 - la + 2))).1 ≠ -4 ∨ (t_parse (gi 2) (gi 1 2) 200 0 (t_pl0 (gi (371 - la))) (gi (371 - la + 1)) (gi (371 - la + 2))).2.1 2 = 0) ∧ r = some (vI (-2)) ∧ sh' = sh ∧ CI gi' gl sh la oa ∧ (∀ b : Int, b ≠ 1 → b ≠ 3 → b ≠ 371 - la → b ≠ 371 - la + 1 → b ≠ 371 - la + 2 → gi' b = gi b) ∨ ((t_parse (gi 2) (gi 1 2) 200 0 (t_pl0 (gi (371 - la))) (gi (371 - la + 1)) (gi (371 - la + 2))).1 = -4 ∧ (t_parse (gi 2) (gi 1 2) 200 0 (t_pl0 (gi (371 - la))) (gi (371 - la + 1)) (gi (371 - la + 2))).2.1 2 ≠ 0) ∧ r = some (vI ((t_parse (gi 2) (gi 1 2) 200 0 (t_pl0 (gi (371 - la))) (gi (371 - la + 1)) (gi (371 - la + 2))).2.1 3)) ∧ sh' = sh_lay sh la ∧ CI gi' gl sh' (371 - la) oa ∧ gi' (371 - la) = (t_parse (gi 2) (gi 1 2) 200 0 (t_pl0 (gi (371 - la))) (gi (371 - la + 1)) (gi (371 - la + 2))).2.1 ∧ gi' (371 - la + 1) = (t_parse (gi 2) (gi 1 2) 200 0 (t_pl0 (gi (371 - la))) (gi (371 - la + 1)) (gi (371 - la + 2))).2.2.1 ∧ (∀ k : Int, 0 ≤ k → k < 4 → gi' 6 k = (t_parse (gi 2) (gi 1 2) 200 0 (t_pl0 (gi (371 - la))) (gi (371 - la + 1)) (gi (371 - la + 2))).2.2.2 k) ∧ gi' 4 2 = 0 ∧ gi' 7 1 = 0)) := by
  show Go mdX8_lay 0 0 0 [some (vR 0)] [] gi gl sh _
  obtain ⟨⟨k0, r0, r1, r2, r3, r4, r5, r6, r7, r8, hla⟩, hTx, hSt, hHi, hFo, hV1, hV2, ⟨k183, l183⟩, hP1, hP2⟩ := id hc.1.1
  obtain ⟨kt0, tr0, tr1, kt1, lt1, kt2, lt2⟩ := id hTx
  have hct := hc.1.2.1
  have hct1 := hct.1
  refine g_aload_n dX8_lay_0 rfl ?_
  refine g_getR 0 dX8_lay_1 flX8_12 rfl (by assumption) (by assumption) ?_
  refine g_aload_n dX8_lay_4 rfl ?_
  refine g_getR 8 dX8_lay_5 flX8_58 rfl (by assumption) (by assumption) ?_
  refine g_callV_i [_] dX8_lay_8 mlX8_76 mvX5_readInto (by decide) (by exact hTx.1) (by decide) rfl rfl (Nat.le_of_ble_eq_true rfl) rfl (Nat.le_of_ble_eq_true rfl) (c_readInto hTx hc.1.1.pl.2 (by omega) (gi 2) (gi 1 2) rfl rfl (by omega) hct.2) (fun _ _ _ _ q => ⟨_, q.2.2.2.2.1⟩) (fun x1 g1 l1 s1 q w1 w2 => ?_)
  obtain ⟨q1, q2, q3, q4, q5, q6, q7, q8⟩ := q
  subst q1 q2
  cases q5
  have hc1 : CI g1 l1 s1 la oa := hc.keep (fun b hb => q3 b (by omega) (by omega) (by omega) (by omega) (by omega)) ⟨by rw [q4]; exact hct.1, by rw [q4, q3 2 (by omega) (by omega) (by omega) (by omega) (by omega)]; exact hct.2⟩
  refine g_bipush dX8_lay_11 (by decide) (by decide) ?_
  refine g_icmp_ne 26 dX8_lay_13 (by decide) (fun h13 => ?_) (fun h13 => ?_)
  · skip
    refine g_bipush dX8_lay_26 (by decide) (by decide) ?_
    refine g_ireturn dX8_lay_28 rfl ?_
    exact ⟨rfl, fun b hb => q3 b (by omega) (by omega) (by omega) (by omega) (by omega), q4, q3 2 (by omega) (by omega) (by omega) (by omega) (by omega), Or.inl ⟨Or.inl (by omega), rfl, rfl, hc1, q3⟩⟩
  · skip
    refine g_aload_n dX8_lay_16 rfl ?_
    refine g_getR 8 dX8_lay_17 flX8_58 rfl (by assumption) (by assumption) ?_
    refine g_getIN 2 dX8_lay_20 fnX8_80 rfl (by exact hc.1.1.pl.2.1) ?_
    refine g_if_ne 29 dX8_lay_23 (by decide) (fun h23 => ?_) (fun h23 => ?_)
    · skip
      refine g_aload_n dX8_lay_29 rfl ?_
      have hpo : pl_ok (g1 (371 - la)) (g1 (371 - la + 1)) (g1 (371 - la + 2)) := by rw [q6, q7, q8]; exact t_parse_ok _ _ _ _ _ (t_pl0_ok _ _ _)
      refine g_callV_v [] dX8_lay_30 mlX8_65 mvX8_layDraft (by decide) (by assumption) (by decide) rfl rfl (Nat.le_of_ble_eq_true rfl) rfl (Nat.le_of_ble_eq_true rfl) (c_layDraft hc1.1.1 hpo hc1.1.2.2.2.2.okS) (fun _ _ _ _ q => q.1) (fun g2 l2 s2 p w3 w4 => ?_)
      obtain ⟨-, p2, p3, p4, p5, p6, p7, p8, p9, p10⟩ := p
      subst p2 p3
      obtain ⟨m0, -, -, -, -, -, -, -, m7, -, -⟩ := id hc1.1.1.lay.1
      refine g_aload_n dX8_lay_33 rfl ?_
      refine g_getR 7 dX8_lay_34 flX8_54 rfl (by assumption) (by assumption) ?_
      refine g_getIN 3 dX8_lay_37 fnX8_83 rfl (by exact hc1.1.1.lay.pl.1.1) ?_
      refine g_ireturn dX8_lay_40 rfl ?_
      have n6 : ∀ b : Int, b < 27 ∨ 131 ≤ b → b ≠ 1 → b ≠ 3 → b ≠ 4 → b ≠ 6 → b ≠ 7 → b ≠ 371 - la → b ≠ 371 - la + 1 → b ≠ 371 - la + 2 → g2 b = gi b := fun b u0 u1 u3 u4 u6 u7 u8 u9 u10 => by rw [p4 b u0 u4 u6 u7]; exact q3 b u1 u3 u8 u9 u10
      have ed := p4 (371 - la) (by omega) (by omega) (by omega) (by omega)
      have ed1 := p4 (371 - la + 1) (by omega) (by omega) (by omega) (by omega)
      have e12 : g2 1 2 = gi 1 2 := by rw [p4 1 (by omega) (by omega) (by omega) (by omega)]; exact q4
      have e2 : g2 2 = gi 2 := n6 2 (by omega) (by omega) (by omega) (by omega) (by omega) (by omega) (by omega) (by omega) (by omega)
      have hcc : CI g2 l2 (sh_lay s1 la) (371 - la) oa := by
        refine ⟨⟨hc.1.1.lay, ⟨by rw [e12]; exact hct.1, by rw [e12, e2]; exact hct.2⟩, ⟨?_, by rw [p6]; omega, fun t t0 t1 => by rw [p6] at t1; omega, fun t t0 t1 => by rw [p6] at t1; omega⟩, ⟨by rw [p7]; omega, ?_, fun u u0 u1 => by rw [p7] at u1; omega⟩, p9⟩, p10⟩
        · rw [ed, ed1]
          obtain ⟨t1, t2, t3, t4, t5, t6, t7, t8, t9⟩ := hpo
          exact ⟨t1, t2, t3, t4, t5, t6, t7, t8, fun k v0 v1 => by rw [p5 k v0 (by omega)]; exact t9 k v0 v1⟩
        · rw [p8, q3 7 (by omega) (by omega) (by omega) (by omega) (by omega)]; exact hc.1.2.2.2.1.2.1
      refine ⟨rfl, fun b hb => n6 b (by omega) (by omega) (by omega) (by omega) (by omega) (by omega) (by omega) (by omega) (by omega), e12, e2, Or.inr ⟨⟨by omega, by rw [← q6]; omega⟩, by rw [ed, q6], rfl, hcc, by rw [ed, q6], by rw [ed1, q7], fun k v0 v1 => by rw [p5 k v0 v1, q8], p6, p7⟩⟩
    · skip
      refine g_bipush dX8_lay_26 (by decide) (by decide) ?_
      refine g_ireturn dX8_lay_28 rfl ?_
      exact ⟨rfl, fun b hb => q3 b (by omega) (by omega) (by omega) (by omega) (by omega), q4, q3 2 (by omega) (by omega) (by omega) (by omega) (by omega), Or.inl ⟨Or.inr (by rw [← q6]; omega), rfl, rfl, hc1, q3⟩⟩

end COMP3
