/-! SpeckValves: what is seen -/
def stEq (s s' : Int × gRw × gRw) : Prop := s.1 = s'.1 ∧ (∀ t : Int, 0 ≤ t → t < 60 → s.2.1 t = s'.2.1 t) ∧ ∀ k : Int, 0 ≤ k → k < 4 → s.2.2 k = s'.2.2 k
theorem stEq.rf (s : Int × gRw × gRw) : stEq s s := ⟨rfl, fun _ _ _ => rfl, fun _ _ _ => rfl⟩
def pst (gi gl : gF) (u : Int) : Int × gRw × gRw := (gi (hsp (gi 7 2) u) 2, gl (hsp (gi 7 2) u + 1), gi (hsp (gi 7 2) u + 2))
/-- one stand more is kept -/
def KP (gi gl gi' gl' : gF) : Prop := gi' 7 1 = min (gi 7 1 + 1) 6 ∧ (0 ≤ gi' 7 2 ∧ gi' 7 2 < 6) ∧ stEq (pst gi' gl' 1) (gi 4 2, gl 5, gi 6) ∧ ∀ u : Int, 1 ≤ u → u ≤ 5 → stEq (pst gi' gl' (u + 1)) (pst gi gl u)
theorem hs_keep_o {gi : gF} {b : Int} (hn : 0 ≤ gi 7 2 ∧ gi 7 2 < 6) (h7 : b ≠ 7) (h : b ≠ 9 + 3 * gi 7 2) (h2 : b ≠ 9 + 3 * gi 7 2 + 2) : hs_keep gi b = gi b := by
  funext k; unfold hs_keep g_up g_cp; rw [if_neg (fun w => h7 w.1), if_neg (fun w => h7 w.1), if_neg (fun w => h w.1), if_neg (fun w => h2 w.1)]
theorem hs_keepL_o {gi gl : gF} {b : Int} (h : b ≠ 9 + 3 * gi 7 2 + 1) : hs_keepL gi gl b = gl b := by
  funext k; unfold hs_keepL g_cp; rw [if_neg (fun w => h w.1)]
theorem KP.mk {gi gl gi' gl' : gF} (hn : 0 ≤ gi 7 2 ∧ gi 7 2 < 6) (e : ∀ b : Int, 7 ≤ b → b < 27 → gi' b = hs_keep gi b) (el : ∀ b : Int, 7 ≤ b → b < 27 → gl' b = hs_keepL gi gl b) : KP gi gl gi' gl' := by
  have e72 : gi' 7 2 = hs_next (gi 7 2) := by
    rw [e 7 (by omega) (by omega)]; unfold hs_keep g_up g_cp; rw [if_neg (fun w => by omega), if_pos ⟨rfl, rfl⟩]
  have e71 : gi' 7 1 = min (gi 7 1 + 1) 6 := by
    rw [e 7 (by omega) (by omega)]; unfold hs_keep g_up g_cp; rw [if_pos ⟨rfl, rfl⟩]
  have hb : 0 ≤ hs_next (gi 7 2) ∧ hs_next (gi 7 2) < 6 := by unfold hs_next; split <;> omega
  have p1 : hsp (gi' 7 2) 1 = 9 + 3 * gi 7 2 := by rw [e72]; unfold hsp hs_next; split <;> omega
  refine ⟨e71, by omega, ?_, fun u u0 u1 => ?_⟩
  · unfold pst
    rw [p1, e _ (by omega) (by omega), e (9 + 3 * gi 7 2 + 2) (by omega) (by omega), el _ (by omega) (by omega)]
    refine ⟨?_, fun t t0 t1 => ?_, fun k k0 k1 => ?_⟩
    · dsimp only; unfold hs_keep g_up g_cp; rw [if_neg (fun w => by omega), if_neg (fun w => by omega), if_pos ⟨rfl, rfl⟩]
    · dsimp only; unfold hs_keepL g_cp; rw [if_pos ⟨rfl, by omega⟩]; congr 1; omega
    · dsimp only; unfold hs_keep g_up g_cp; rw [if_neg (fun w => by omega), if_neg (fun w => by omega), if_neg (fun w => by omega), if_pos ⟨rfl, by omega⟩]; congr 1; omega
  · have p2 : hsp (gi' 7 2) (u + 1) = hsp (gi 7 2) u := by rw [e72]; unfold hsp hs_next; split <;> omega
    have p3 : (gi 7 2 - u) % 6 ≠ gi 7 2 := by omega
    unfold pst
    rw [p2]
    unfold hsp
    rw [e _ (by omega) (by omega), e (9 + 3 * ((gi 7 2 - u) % 6) + 2) (by omega) (by omega), el _ (by omega) (by omega), hs_keep_o hn (by omega) (by omega) (by omega), hs_keep_o hn (by omega) (by omega) (by omega), hs_keepL_o (by omega)]
    exact stEq.rf _
theorem stOk.eq {pl kn : gRw} {T T' : Int} {ln ln' nm nm' : gRw} (h : stOk pl kn T ln nm) (e : stEq (T', ln', nm') (T, ln, nm)) : stOk pl kn T' ln' nm' := by
  obtain ⟨h1, h2, h3, h4⟩ := h
  obtain ⟨e1, e2, e3⟩ := e
  obtain rfl : T' = T := e1
  obtain ⟨t1, t2, t3, t4, t5, t6, t7, t8, t9⟩ := h1
  have e2' : ∀ t : Int, 0 ≤ t → t < 60 → ln' t = ln t := e2
  have e3' : ∀ k : Int, 0 ≤ k → k < 4 → nm' k = nm k := e3
  refine ⟨⟨t1, t2, t3, t4, t5, t6, t7, t8, fun k v0 v1 => by rw [e3' k v0 (by omega)]; exact t9 k v0 v1⟩, h2, fun t t0 t1 => by rw [e2' t t0 (by omega)]; exact h3 t t0 t1, h4.cl (fun q q0 => clo_up (fun t t0 t1 => (e2' t t0 (by omega)).symm) q0)⟩
theorem CH0.keep {gi gl gi' gl' : gF} {la : Int} (hS : CS0 gi gl la) (hH : CH0 gi gl la) (kp : KP gi gl gi' gl') (ela : gi' la = gi la) (elb : gi' (la + 1) = gi (la + 1)) : CH0 gi' gl' la := by
  obtain ⟨k1, k2, k3, k4⟩ := kp
  have h1 := hH.1
  refine ⟨by omega, k2, fun u u0 u1 => ?_⟩
  rw [ela, elb]
  by_cases hu : u = 1
  · subst hu; exact hS.eq k3
  · have h2 := k4 (u - 1) (by omega) (by omega)
    rw [show u - 1 + 1 = u by omega] at h2
    exact (hH.2.2 (u - 1) (by omega) (by omega)).eq h2
theorem FS.fr {cl : gRw} {D T : Int} {gi gi' : gF} {oa : Int} (h : FS cl D T (fvS gi oa) (fvE gi) (gi 27 4)) (ho : oa = 30 ∨ oa = 31) (e : ∀ b : Int, 27 ≤ b → b < 79 → gi' b = gi b) : FS cl D T (fvS gi' oa) (fvE gi') (gi' 27 4) := by
  rw [e 27 (by omega) (by omega)]
  obtain ⟨u1, u2, u3, u4⟩ := h
  refine ⟨?_, u2, u3.er (fun i i0 i1 => e (32 + i) (by omega) (by omega)), u4⟩
  have v1 : (fvS gi' oa).2.1 = (fvS gi oa).2.1 := e oa (by omega) (by omega)
  have v2 : (fvS gi' oa).2.2 = (fvS gi oa).2.2 := e (61 - oa) (by omega) (by omega)
  rw [v1, v2]
  exact u1.lv (fun s s0 s1 => e (63 + s) (by omega) (by omega))
/-- text and plan, and all that is not the component's, stay -/
def SM (gi gl : gF) (sh : gSh) (gi' gl' : gF) (sh' : gSh) (la : Int) : Prop := (gi' 1 = gi 1 ∧ gi' 2 = gi 2 ∧ gi' la = gi la ∧ gi' (la + 1) = gi (la + 1)) ∧ (∀ b : Int, 190 ≤ b → gi' b = gi b ∧ gl' b = gl b ∧ sh'.1 b = sh.1 b) ∧ sh'.2 = sh.2 ∧ ∃ oa' : Int, CI gi' gl' sh' la oa'
theorem SM.rf {gi gl : gF} {sh : gSh} {la oa : Int} (h : CI gi gl sh la oa) : SM gi gl sh gi gl sh la := ⟨⟨rfl, rfl, rfl, rfl⟩, fun _ _ => ⟨rfl, rfl, rfl⟩, rfl, oa, h⟩
theorem g_cmp_i (a b : Int) : (g_cmp a b < 0 ∧ a < b) ∨ (0 ≤ g_cmp a b ∧ b ≤ a) := by
  unfold g_cmp
  split
  · omega
  · split <;> omega
section COMP4
variable {gi gl : gF} {sh : gSh} {la oa : Int}
set_option maxRecDepth 20000 in
set_option maxHeartbeats 1000000 in
theorem c_see (hc : CI gi gl sh la oa) (ln : Int) : Ct mdX8_see 0 0 [vR 0, vL ln] gi gl sh (fun r gi' gl' sh' => SM gi gl sh gi' gl' sh' la ∧ ((ln < 0 ∨ 10 ^ (gi la 3).toNat ≤ ln) ∧ r = some (vI (-1)) ∧ gi' = gi ∧ gl' = gl ∧ sh' = sh ∨ (0 ≤ ln ∧ ln < 10 ^ (gi la 3).toNat) ∧ (60 ≤ gi 4 2 ∨ 24 ≤ gi 27 4) ∧ r = some (vI (-3)) ∧ gi' = gi ∧ gl' = gl ∧ sh' = sh ∨ (0 ≤ ln ∧ ln < 10 ^ (gi la 3).toNat) ∧ (gi 4 2 < 60 ∧ gi 27 4 < 24) ∧ r = some (vI (gi' 27 4 - gi 27 4)) ∧ gi' 4 2 = gi 4 2 + 1 ∧ gl' 5 = r_up (gl 5) (gi 4 2) ln ∧ gi' 6 = gi 6 ∧ KP gi gl gi' gl')) := by
  show Go mdX8_see 0 0 0 [some (vR 0), some (vL ln), none, none, none] [] gi gl sh _
  obtain ⟨⟨k0, r0, r1, r2, r3, r4, r5, r6, r7, r8, hla⟩, hTx, hSt, hHi, hFo, hV1, hV2, ⟨k183, l183⟩, hP1, hP2⟩ := id hc.1.1
  obtain ⟨ks0, sr0, sr1, ks1, ls1, ks2, ls2⟩ := id hSt
  obtain ⟨⟨hs, hct, hcs, hch, hcf⟩, hvd⟩ := id hc
  have hT := hcs.2.1
  have hpk := hcs.1
  have hW := hpk.1
  have hrc := hpk.2.2.2.2.2.2.2.1
  have hh := hch.1
  have hn := hch.2.1
  have hec := hcf.2.2.2
  have ho := hFo.2.2.2.2.2.1
  have p10 := p10_b (gi la 3).toNat (by omega)
  have gc0 := g_cmp_i ln 0
  have gc1 := g_cmp_i ln (10 ^ (gi la 3).toNat)
  refine g_lload_n dX8_see_0 rfl ?_
  refine g_lconst 0 dX8_see_1 (by decide) (by decide) ?_
  refine g_lcmp dX8_see_2 ?_
  refine g_if_lt 18 dX8_see_3 (by decide) (fun h3 => ?_) (fun h3 => ?_)
  · skip
    refine g_iconst dX8_see_18 (by decide) ?_
    refine g_ireturn dX8_see_19 rfl ?_
    exact ⟨SM.rf hc, Or.inl ⟨Or.inl (by omega), rfl, rfl, rfl, rfl⟩⟩
  · skip
    refine g_lload_n dX8_see_6 rfl ?_
    refine g_aload_n dX8_see_7 rfl ?_
    refine g_getR 7 dX8_see_8 flX8_54 rfl (by assumption) (by assumption) ?_
    refine g_cVl [] dX8_see_11 mlX8_86 mvX3_lineBound (by decide) (by exact hs.pl.1.1) (by decide) rfl rfl (Nat.le_of_ble_eq_true rfl) rfl (Nat.le_of_ble_eq_true rfl) (c_lineBound hs.pl.1.1 (by omega)) ?_
    refine g_lcmp dX8_see_14 ?_
    refine g_if_lt 20 dX8_see_15 (by decide) (fun h15 => ?_) (fun h15 => ?_)
    · skip
      refine g_aload_n dX8_see_20 rfl ?_
      refine g_getR 1 dX8_see_21 flX8_19 rfl (by assumption) (by assumption) ?_
      refine g_getIN 2 dX8_see_24 fnX8_90 rfl (by assumption) ?_
      refine g_bipush dX8_see_27 (by decide) (by decide) ?_
      refine g_icmp_ge 44 dX8_see_29 (by decide) (fun h29 => ?_) (fun h29 => ?_)
      · skip
        refine g_bipush dX8_see_44 (by decide) (by decide) ?_
        refine g_ireturn dX8_see_46 rfl ?_
        exact ⟨SM.rf hc, Or.inr (Or.inl ⟨by omega, Or.inl (by omega), rfl, rfl, rfl, rfl⟩)⟩
      · skip
        refine g_aload_n dX8_see_32 rfl ?_
        refine g_getR 3 dX8_see_33 flX8_33 rfl (by assumption) (by assumption) ?_
        refine g_getIN 4 dX8_see_36 fnX8_93 rfl (by exact hFo.1) ?_
        refine g_bipush dX8_see_39 (by decide) (by decide) ?_
        refine g_icmp_lt 47 dX8_see_41 (by decide) (fun h41 => ?_) (fun h41 => ?_)
        · skip
          refine g_aload_n dX8_see_47 rfl ?_
          refine g_getR 2 dX8_see_48 flX8_26 rfl (by assumption) (by assumption) ?_
          refine g_aload_n dX8_see_51 rfl ?_
          refine g_getR 1 dX8_see_52 flX8_19 rfl (by assumption) (by assumption) ?_
          refine g_cVv [_] dX8_see_55 mlX8_96 mvX2_keep (by decide) (by exact hHi.1) (by decide) rfl rfl (Nat.le_of_ble_eq_true rfl) rfl (Nat.le_of_ble_eq_true rfl) (c_keep hHi hSt hn hh) ?_
          generalize hG : hs_keep gi = G
          generalize hGL : hs_keepL gi gl = GL
          have eG : ∀ b : Int, b < 7 ∨ 27 ≤ b → G b = gi b := fun b hb => by rw [← hG]; exact hs_keep_o hn (by omega) (by omega) (by omega)
          have eGL : ∀ b : Int, b < 9 ∨ 27 ≤ b → GL b = gl b := fun b hb => by rw [← hGL]; exact hs_keepL_o (by omega)
          have e42 : G 4 2 = gi 4 2 := by rw [eG 4 (by omega)]
          refine g_aload_n dX8_see_58 rfl ?_
          refine g_getR 1 dX8_see_59 flX8_19 rfl (by assumption) (by assumption) ?_
          refine g_getIN 2 dX8_see_62 fnX8_90 rfl (by assumption) ?_
          refine n_istore_n (lN := [_, _, _, _, _]) dX8_see_65 (by decide) rfl ?_
          refine g_aload_n dX8_see_66 rfl ?_
          refine g_getR 1 dX8_see_67 flX8_19 rfl (by assumption) (by assumption) ?_
          refine g_lload_n dX8_see_70 rfl ?_
          refine g_cVv [_] dX8_see_71 mlX8_100 mvX4_addLine (by decide) (by assumption) (by decide) rfl rfl (Nat.le_of_ble_eq_true rfl) rfl (Nat.le_of_ble_eq_true rfl) (c_sAddLine hSt ln (by omega)) ?_
          show Go _ _ _ _ _ _ (g_up G 4 2 (G 4 2 + 1)) (g_up GL 5 (G 4 2) ln) _ _
          generalize hG2 : g_up G 4 2 (G 4 2 + 1) = G2
          generalize hGL2 : g_up GL 5 (G 4 2) ln = GL2
          rw [e42]
          have e2 : ∀ b : Int, b ≠ 4 → G2 b = G b := fun b hb => by rw [← hG2]; funext k; unfold g_up; rw [if_neg (fun w => hb w.1)]
          have e24 : G2 4 2 = gi 4 2 + 1 := by rw [← hG2]; unfold g_up; rw [if_pos ⟨rfl, rfl⟩, e42]
          have eLo : ∀ b : Int, b ≠ 5 → GL2 b = GL b := fun b hb => by rw [← hGL2]; funext k; unfold g_up; rw [if_neg (fun w => hb w.1)]
          have eL5 : GL2 5 = r_up (gl 5) (gi 4 2) ln := by rw [← hGL2, g_up_r, eGL 5 (by omega), e42]
          have ela2 : G2 la = gi la := by rw [e2 la (by omega)]; exact eG la (by omega)
          have e27 : G2 27 4 = gi 27 4 := by rw [e2 27 (by omega), eG 27 (by omega)]
          have hcl : ∀ q : Int, q < 16 * gi 4 2 → clo (gi la 3) (gl 5) q = clo (gi la 3) (r_up (gl 5) (gi 4 2) ln) q := fun q q0 => clo_up (fun t t0 t1 => by rw [r_up_ne (by omega)]) q0
          have hf2 : FS (clo (gi la 3) (GL2 5)) (gi la 8) (gi 4 2) (fvS G2 oa) (fvE G2) (G2 27 4) := by rw [eL5]; exact (hcf.cl hT.1 hcl).fr ho (fun b b0 b1 => by rw [e2 b (by omega)]; exact eG b (by omega))
          refine g_aload_n dX8_see_74 rfl ?_
          refine g_getR 3 dX8_see_75 flX8_33 rfl (by assumption) (by assumption) ?_
          refine g_aload_n dX8_see_78 rfl ?_
          refine g_getR 7 dX8_see_79 flX8_54 rfl (by assumption) (by assumption) ?_
          refine g_lload_n dX8_see_82 rfl ?_
          refine g_iload_n dX8_see_83 rfl ?_
          refine g_callV_i [_, _, _] dX8_see_84 mlX8_104 mvX1_addLine (by decide) (by exact hFo.1) (by decide) rfl rfl (Nat.le_of_ble_eq_true rfl) rfl (Nat.le_of_ble_eq_true rfl) (c_addLineQ (cl := clo (gi la 3) (GL2 5)) (T := gi 4 2) hFo hs.pl.1.1 (by omega) (clo_b _ _) (by omega) (by rw [ela2]; omega) (by omega) (fun c c0 c1 => by rw [ela2] at c1 ⊢; rw [clo_row hT.1 (by omega), if_pos c1, eL5, r_up_at]) (fun c c0 c1 => by rw [ela2] at c0; rw [clo_row hT.1 (by omega), if_neg (by omega)]) (by rw [ela2]; exact hf2) (by rw [e27]; omega)) (fun _ _ _ _ q => ⟨_, q.1⟩) (fun x1 g1 l1 s1 q w1 w2 => ?_)
          obtain ⟨q1, q2, q3, q4, q5⟩ := q
          subst q2 q3
          cases q1
          rw [ela2] at q5
          have hf3 : CF0 g1 l1 la (61 - oa) := by unfold CF0; rw [q4 la (by omega), ela2, q4 4 (by omega), e24]; exact q5
          refine n_istore (lN := [_, _, _, _, _]) dX8_see_87 (by decide) rfl ?_
          refine g_aload_n dX8_see_89 rfl ?_
          refine g_callV_v [] dX8_see_90 mlX8_107 mvX8_judge (by decide) (by assumption) (by decide) rfl rfl (Nat.le_of_ble_eq_true rfl) rfl (Nat.le_of_ble_eq_true rfl) (c_judge hs.fsw (by rw [q4 la (by omega), q4 (la + 1) (by omega), q4 6 (by omega), ela2, e2 (la + 1) (by omega), e2 6 (by omega), eG (la + 1) (by omega), eG 6 (by omega)]; exact hpk) (by rw [q4 4 (by omega), e24]; omega) hf3) (fun _ _ _ _ q => q.1) (fun g2 l2 s2 p w3 w4 => ?_)
          obtain ⟨-, p2, p3, p4, p5⟩ := p
          subst p2 p3
          refine g_iload dX8_see_93 rfl ?_
          refine g_ireturn dX8_see_95 rfl ?_
          have n2 : ∀ b : Int, b < 27 ∨ 131 ≤ b → b ≠ 4 → g2 b = G b := fun b hb h4 => by rw [p4 b (by omega), q4 b (by omega)]; exact e2 b h4
          have c27 : g2 27 = g1 27 := p4 27 (by omega)
          have c4 : g2 4 2 = gi 4 2 + 1 := by rw [p4 4 (by omega), q4 4 (by omega)]; exact e24
          have c6 : g2 6 = gi 6 := by rw [n2 6 (by omega) (by omega)]; exact eG 6 (by omega)
          have cla : g2 la = gi la := by rw [n2 la (by omega) (by omega)]; exact eG la (by omega)
          have clb : g2 (la + 1) = gi (la + 1) := by rw [n2 (la + 1) (by omega) (by omega)]; exact eG _ (by omega)
          have c1 : g2 1 = gi 1 := by rw [n2 1 (by omega) (by omega)]; exact eG 1 (by omega)
          have c2 : g2 2 = gi 2 := by rw [n2 2 (by omega) (by omega)]; exact eG 2 (by omega)
          have kp : KP gi gl g2 l2 := KP.mk hn (fun b b0 b1 => by rw [hG]; exact n2 b (by omega) (by omega)) (fun b b0 b1 => by rw [hGL]; exact eLo b (by omega))
          have hcs2 : CS0 g2 l2 la := by
            unfold CS0
            rw [cla, clb, c4, c6, eL5]
            refine ⟨hpk, by omega, fun t t0 t1 => ?_, ?_⟩
            · by_cases htt : t = gi 4 2
              · rw [htt, r_up_at]; omega
              · rw [r_up_ne htt]; exact hcs.2.2.1 t t0 (by omega)
            · rw [eL5] at hf2
              exact (hcs.2.2.2.cl (fun q q0 => hcl q q0)).next hT hf2 (by rw [e27]; omega)
          have hcf2 : CF0 g2 l2 la (61 - oa) := hf3.fr (by omega) (fun b b0 b1 => p4 b (by omega)) (by rw [p4 4 (by omega)]) (by rw [p4 la (by omega)])
          have hCI : CI g2 l2 (sh_sw sh oa) la (61 - oa) := by
            refine ⟨⟨hs.fsw, ?_, hcs2, CH0.keep hcs hch kp cla clb, hcf2⟩, ?_⟩
            · unfold CT0; rw [c1, c2]; exact hct
            · rw [p4 la (by omega), p4 (la + 1) (by omega), p4 6 (by omega), c27]
              exact p5.er (fun i i0 i1 => p4 (32 + i) (by omega)) hf3.2.2.2.2
          refine ⟨⟨⟨c1, c2, cla, clb⟩, fun b hb => ⟨by rw [n2 b (by omega) (by omega)]; exact eG b (by omega), by rw [eLo b (by omega)]; exact eGL b (by omega), ?_⟩, rfl, 61 - oa, hCI⟩, Or.inr (Or.inr ⟨by omega, by omega, by rw [c27, e27], c4, eL5, c6, kp⟩)⟩
          funext k; unfold sh_sw g_up; dsimp only; rw [if_neg (fun w => by omega), if_neg (fun w => by omega)]
        · skip
          refine g_bipush dX8_see_44 (by decide) (by decide) ?_
          refine g_ireturn dX8_see_46 rfl ?_
          exact ⟨SM.rf hc, Or.inr (Or.inl ⟨by omega, Or.inr (by omega), rfl, rfl, rfl, rfl⟩)⟩
    · skip
      refine g_iconst dX8_see_18 (by decide) ?_
      refine g_ireturn dX8_see_19 rfl ?_
      exact ⟨SM.rf hc, Or.inl ⟨Or.inr (by omega), rfl, rfl, rfl, rfl⟩⟩

end COMP4
