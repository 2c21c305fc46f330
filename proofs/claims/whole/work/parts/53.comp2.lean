/-! SpeckValves: all folded anew; a draft laid -/
theorem isSV.fsw {sh : gSh} {la oa : Int} (h : isSV sh la oa) : isSV (sh_sw sh oa) la (61 - oa) := by
  obtain ⟨h0, hT, hS, hH, hF, hV, hW, hN, hP, hQ⟩ := h
  have e : ∀ b : Int, b ≠ 27 → (sh_sw sh oa).1 b = sh.1 b := fun b hb => by
    funext k; unfold sh_sw g_up; dsimp only; rw [if_neg (fun w => hb w.1), if_neg (fun w => hb w.1)]
  have hv : ∀ v : Int, 30 ≤ v → isVerd sh v → isVerd (sh_sw sh oa) v := fun v hv h => by
    unfold isVerd isValve at h ⊢
    rw [e v (by omega), e (v + 3) (by omega)]
    refine ⟨h.1, h.2.1, h.2.2.1, h.2.2.2.1, h.2.2.2.2.1, h.2.2.2.2.2.1, h.2.2.2.2.2.2.1, h.2.2.2.2.2.2.2.1, h.2.2.2.2.2.2.2.2.1, h.2.2.2.2.2.2.2.2.2.1, fun j j0 j1 => ?_⟩
    rw [e (v + 4 + 3 * j) (by omega)]
    exact h.2.2.2.2.2.2.2.2.2.2 j j0 j1
  have hp : ∀ a : Int, 30 ≤ a → isPlan sh a → isPlan (sh_sw sh oa) a := fun a ha h => by
    unfold isPlan at h ⊢; rw [e a (by omega)]; exact h
  have hst : ∀ a : Int, a < 27 → isStand sh a → isStand (sh_sw sh oa) a := fun a ha h => by
    unfold isStand at h ⊢; rw [e a (by omega)]; exact h
  refine ⟨?_, ?_, hst 4 (by omega) hS, ?_, hF.swap, hv 79 (by omega) hV, hv 131 (by omega) hW, hN, hp 184 (by omega) hP, hp 187 (by omega) hQ⟩
  · rw [e 0 (by omega)]; exact h0
  · unfold isText at hT ⊢; rw [e 1 (by omega)]; exact hT
  · unfold isHist at hH ⊢; rw [e 7 (by omega), e 8 (by omega)]
    exact ⟨hH.1, hH.2.1, hH.2.2.1, hH.2.2.2.1, fun i i0 i1 => ⟨(hH.2.2.2.2 i i0 i1).1, hst _ (by omega) (hH.2.2.2.2 i i0 i1).2⟩⟩
def sh_lay (sh : gSh) (la : Int) : gSh := (g_up (g_up sh.1 0 7 (some (371 - la))) 0 8 (some la), sh.2)
theorem isSV.lay {sh : gSh} {la oa : Int} (h : isSV sh la oa) : isSV (sh_lay sh la) (371 - la) oa := by
  obtain ⟨h0, hT, hS, hH, hF, hV, hW, hN, hP, hQ⟩ := h
  have e : ∀ b : Int, b ≠ 0 → (sh_lay sh la).1 b = sh.1 b := fun b hb => by
    funext k; unfold sh_lay g_up; dsimp only; rw [if_neg (fun w => hb w.1), if_neg (fun w => hb w.1)]
  have e0 : ∀ k : Int, k < 7 → (sh_lay sh la).1 0 k = sh.1 0 k := fun k hk => by
    unfold sh_lay g_up; dsimp only; rw [if_neg (fun w => by omega), if_neg (fun w => by omega)]
  have e7 : (sh_lay sh la).1 0 7 = some (371 - la) := by
    unfold sh_lay g_up; dsimp only; rw [if_neg (fun w => by omega), if_pos ⟨rfl, rfl⟩]
  have e8 : (sh_lay sh la).1 0 8 = some la := by
    unfold sh_lay g_up; dsimp only; rw [if_pos ⟨rfl, rfl⟩]
  have hv : ∀ v : Int, 30 ≤ v → isVerd sh v → isVerd (sh_lay sh la) v := fun v hv h => by
    unfold isVerd isValve at h ⊢
    rw [e v (by omega), e (v + 3) (by omega)]
    refine ⟨h.1, h.2.1, h.2.2.1, h.2.2.2.1, h.2.2.2.2.1, h.2.2.2.2.2.1, h.2.2.2.2.2.2.1, h.2.2.2.2.2.2.2.1, h.2.2.2.2.2.2.2.2.1, h.2.2.2.2.2.2.2.2.2.1, fun j j0 j1 => ?_⟩
    rw [e (v + 4 + 3 * j) (by omega)]
    exact h.2.2.2.2.2.2.2.2.2.2 j j0 j1
  have hp : ∀ a : Int, 30 ≤ a → isPlan sh a → isPlan (sh_lay sh la) a := fun a ha h => by
    unfold isPlan at h ⊢; rw [e a (by omega)]; exact h
  have hst : ∀ a : Int, 1 ≤ a → isStand sh a → isStand (sh_lay sh la) a := fun a ha h => by
    unfold isStand at h ⊢; rw [e a (by omega)]; exact h
  obtain ⟨q0, q1, q2, q3, q4, q5, q6, q7, q8, q9, hla⟩ := h0
  refine ⟨⟨q0, (e0 0 (by omega)).trans q1, (e0 1 (by omega)).trans q2, (e0 2 (by omega)).trans q3, (e0 3 (by omega)).trans q4, (e0 4 (by omega)).trans q5, (e0 5 (by omega)).trans q6, (e0 6 (by omega)).trans q7, e7, ?_, by omega⟩, ?_, hst 4 (by omega) hS, ?_, ?_, hv 79 (by omega) hV, hv 131 (by omega) hW, hN, hp 184 (by omega) hP, hp 187 (by omega) hQ⟩
  · rw [e8, show 371 - (371 - la) = la by omega]
  · unfold isText at hT ⊢; rw [e 1 (by omega)]; exact hT
  · unfold isHist at hH ⊢; rw [e 7 (by omega), e 8 (by omega)]
    exact ⟨hH.1, hH.2.1, hH.2.2.1, hH.2.2.2.1, fun i i0 i1 => ⟨(hH.2.2.2.2 i i0 i1).1, hst _ (by omega) (hH.2.2.2.2 i i0 i1).2⟩⟩
  · unfold isFold at hF ⊢; rw [e 27 (by omega), e 28 (by omega), e 29 (by omega)]; exact hF
theorem CF0.fr {gi gi' gl : gF} {la oa : Int} (h : CF0 gi gl la oa) (ho : oa = 30 ∨ oa = 31) (e : ∀ b : Int, 27 ≤ b → b < 79 → gi' b = gi b) (e4 : gi' 4 2 = gi 4 2) (ela : gi' la = gi la) : CF0 gi' gl la oa := by
  unfold CF0 at h ⊢
  rw [ela, e4, e 27 (by omega) (by omega)]
  obtain ⟨u1, u2, u3, u4⟩ := h
  refine ⟨?_, u2, u3.er (fun i i0 i1 => e (32 + i) (by omega) (by omega)), u4⟩
  have v1 : (fvS gi' oa).2.1 = (fvS gi oa).2.1 := e oa (by omega) (by omega)
  have v2 : (fvS gi' oa).2.2 = (fvS gi oa).2.2 := e (61 - oa) (by omega) (by omega)
  rw [v1, v2]
  exact u1.lv (fun s s0 s1 => e (63 + s) (by omega) (by omega))
section COMP2
variable {gi gl : gF} {sh : gSh} {la oa : Int}
set_option maxRecDepth 20000 in
set_option maxHeartbeats 1000000 in
theorem l_foldAll (hso : stOk (gi la) (gi (la + 1)) (gi 4 2) (gl 5) (gi 6)) : ∀ (n : Nat) (t : Int), 0 ≤ t → t + n = gi 4 2 → ∀ (g : gF) (sh1 : gSh) (oa1 : Int), isSV sh1 la oa1 → sh1.2 = sh.2 → (∀ b : Int, b ≠ 27 → sh1.1 b = sh.1 b) → (∀ b : Int, b < 27 ∨ 79 ≤ b → g b = gi b) → FS (clo (gi la 3) (gl 5)) (gi la 8) t (fvS g oa1) (fvE g) (g 27 4) →
    Go mdX8_foldAll 0 0 9 [some (vR 0), some (vI t)] [] g gl sh1 (fun r gi' gl' sh' => r = none ∧ gl' = gl ∧ sh'.2 = sh.2 ∧ (∀ b : Int, b ≠ 27 → sh'.1 b = sh.1 b) ∧ (∀ b : Int, b < 27 ∨ 131 ≤ b → gi' b = gi b) ∧ ∃ oa' : Int, isSV sh' la oa' ∧ CF0 gi' gl la oa' ∧ VD gi' 79 (fvE gi') (gi' la) (gi' (la + 1)) (gi' 6) (gi' 27 4)) := by
  intro n
  have hT := hso.2.1
  induction n with
  | zero =>
    intro t h0 h1 g sh1 oa1 hs hs2 hs1 hg hf
    obtain ⟨⟨k0, r0, r1, r2, r3, r4, r5, r6, r7, r8, hla⟩, hTx, hSt, hHi, hFo, hV1, hV2, ⟨k183, l183⟩, hP1, hP2⟩ := id hs
    obtain ⟨ks0, sr0, sr1, ks1, ls1, ks2, ls2⟩ := id hSt
    have hg4 : g 4 2 = gi 4 2 := by rw [hg 4 (by omega)]
    have ht : t = g 4 2 := by omega
    refine g_iload_n dX8_foldAll_9 rfl ?_
    refine g_aload_n dX8_foldAll_10 rfl ?_
    refine g_getR 1 dX8_foldAll_11 flX8_19 rfl (by assumption) (by assumption) ?_
    refine g_getIN 2 dX8_foldAll_14 fnX8_90 rfl (by assumption) ?_
    refine g_icmp_ge 54 dX8_foldAll_17 (by decide) (fun h17 => ?_) (fun h17 => ?_)
    · skip
      refine g_aload_n dX8_foldAll_54 rfl ?_
      have hf1 : CF0 g gl la oa1 := by unfold CF0; rw [hg la (by omega), ← ht]; exact hf
      refine g_callV_v [] dX8_foldAll_55 mlX8_107 mvX8_judge (by decide) (by assumption) (by decide) rfl rfl (Nat.le_of_ble_eq_true rfl) rfl (Nat.le_of_ble_eq_true rfl) (c_judge hs (by rw [hg la (by omega), hg (la + 1) (by omega), hg 6 (by omega)]; exact hso.1) (by rw [hg 4 (by omega)]; exact hso.2.1) hf1) (fun _ _ _ _ q => q.1) (fun g2 l2 s2 p w3 w4 => ?_)
      obtain ⟨-, p2, p3, p4, p5⟩ := p
      subst p2 p3
      refine g_return dX8_foldAll_58 rfl ?_
      have ho := hFo.2.2.2.2.2.1
      refine ⟨rfl, rfl, hs2, hs1, fun b hb => by rw [p4 b (by omega)]; exact hg b (by omega), oa1, hs, hf1.fr ho (fun b b0 b1 => p4 b (by omega)) (by rw [p4 4 (by omega)]) (p4 la (by omega)), ?_⟩
      rw [p4 la (by omega), p4 (la + 1) (by omega), p4 6 (by omega), p4 27 (by omega)]
      exact p5.er (fun i i0 i1 => p4 (32 + i) (by omega)) hf1.2.2.2.2
    · exfalso; omega
  | succ n ih =>
    intro t h0 h1 g sh1 oa1 hs hs2 hs1 hg hf
    obtain ⟨⟨k0, r0, r1, r2, r3, r4, r5, r6, r7, r8, hla⟩, hTx, hSt, hHi, hFo, hV1, hV2, ⟨k183, l183⟩, hP1, hP2⟩ := id hs
    obtain ⟨ks0, sr0, sr1, ks1, ls1, ks2, ls2⟩ := id hSt
    have hg4 : g 4 2 = gi 4 2 := by rw [hg 4 (by omega)]
    refine g_iload_n dX8_foldAll_9 rfl ?_
    refine g_aload_n dX8_foldAll_10 rfl ?_
    refine g_getR 1 dX8_foldAll_11 flX8_19 rfl (by assumption) (by assumption) ?_
    refine g_getIN 2 dX8_foldAll_14 fnX8_90 rfl (by assumption) ?_
    refine g_icmp_ge 54 dX8_foldAll_17 (by decide) (fun h17 => ?_) (fun h17 => ?_)
    · exfalso; omega
    · skip
      refine g_iload_n dX8_foldAll_20 rfl ?_
      refine g_bipush dX8_foldAll_21 (by decide) (by decide) ?_
      refine g_icmp_ge 54 dX8_foldAll_23 (by decide) (fun h23 => ?_) (fun h23 => ?_)
      · exfalso; omega
      · skip
        refine g_aload_n dX8_foldAll_26 rfl ?_
        refine g_getR 3 dX8_foldAll_27 flX8_33 rfl (by assumption) (by assumption) ?_
        refine g_aload_n dX8_foldAll_30 rfl ?_
        refine g_getR 7 dX8_foldAll_31 flX8_54 rfl (by assumption) (by assumption) ?_
        refine g_aload_n dX8_foldAll_34 rfl ?_
        refine g_getR 1 dX8_foldAll_35 flX8_19 rfl (by assumption) (by assumption) ?_
        refine g_getRN 0 dX8_foldAll_38 fnX8_243 rfl (by assumption) (by assumption) ?_
        refine g_iload_n dX8_foldAll_41 rfl ?_
        refine g_laload dX8_foldAll_42 (by assumption) (by omega) (by omega) ?_
        refine g_iload_n dX8_foldAll_43 rfl ?_
        refine g_callV_i [_, _, _] dX8_foldAll_44 mlX8_104 mvX1_addLine (by decide) (by exact hFo.1) (by decide) rfl rfl (Nat.le_of_ble_eq_true rfl) rfl (Nat.le_of_ble_eq_true rfl) (c_addLineQ (cl := clo (gi la 3) (gl 5)) (T := t) hFo hs.pl.1.1 (by omega) (clo_b _ _) (by omega) (by rw [hg la (by omega)]; have := hso.1.1; omega) (hso.2.2.1 t h0 (by omega)).1 (fun c c0 c1 => by rw [hg la (by omega)] at c1 ⊢; have := hso.1.1; rw [clo_row h0 (by omega), if_pos c1]) (fun c c0 c1 => by rw [hg la (by omega)] at c0; rw [clo_row h0 (by have := hso.1.1; omega), if_neg (by omega)]) (by rw [hg la (by omega)]; exact hf) (hso.2.2.2 t h0 (by omega) _ _ hf.2.2.1 hf.2.2.2.1)) (fun _ _ _ _ q => ⟨_, q.1⟩) (fun x1 g1 l1 s1 q w1 w2 => ?_)
        obtain ⟨-, q2, q3, q4, q5⟩ := q
        subst q2 q3
        rw [hg la (by omega)] at q5
        refine g_pop dX8_foldAll_47 (fun _ h9 => by cases h9) ?_
        refine n_iinc (lN := [_, _]) dX8_foldAll_48 rfl (by decide) (by omega) (by omega) rfl ?_
        refine g_goto 9 dX8_foldAll_51 (by decide) ?_
        exact ih (t + 1) (by omega) (by omega) g1 (sh_sw sh1 oa1) (61 - oa1) hs.fsw hs2 (fun b hb => by rw [← hs1 b hb]; funext k; unfold sh_sw g_up; dsimp only; rw [if_neg (fun w => hb w.1), if_neg (fun w => hb w.1)]) (fun b hb => by rw [q4 b hb]; exact hg b hb) q5

set_option maxRecDepth 20000 in
set_option maxHeartbeats 1000000 in
theorem c_foldAll (hs : isSV sh la oa) (hso : stOk (gi la) (gi (la + 1)) (gi 4 2) (gl 5) (gi 6)) (hok : okS (fvS gi oa)) : Ct mdX8_foldAll 0 0 [vR 0] gi gl sh (fun r gi' gl' sh' => r = none ∧ gl' = gl ∧ sh'.2 = sh.2 ∧ (∀ b : Int, b ≠ 27 → sh'.1 b = sh.1 b) ∧ (∀ b : Int, b < 27 ∨ 131 ≤ b → gi' b = gi b) ∧ ∃ oa' : Int, isSV sh' la oa' ∧ CF0 gi' gl la oa' ∧ VD gi' 79 (fvE gi') (gi' la) (gi' (la + 1)) (gi' 6) (gi' 27 4)) := by
  show Go mdX8_foldAll 0 0 0 [some (vR 0), none] [] gi gl sh _
  obtain ⟨⟨k0, r0, r1, r2, r3, r4, r5, r6, r7, r8, hla⟩, hTx, hSt, hHi, hFo, hV1, hV2, ⟨k183, l183⟩, hP1, hP2⟩ := id hs
  have hT := hso.2.1
  refine g_aload_n dX8_foldAll_0 rfl ?_
  refine g_getR 3 dX8_foldAll_1 flX8_33 rfl (by assumption) (by assumption) ?_
  refine g_callV_v [] dX8_foldAll_4 mlX8_237 mvX1_empty (by decide) (by exact hFo.1) (by decide) rfl rfl (Nat.le_of_ble_eq_true rfl) rfl (Nat.le_of_ble_eq_true rfl) (c_emptyQ hFo hok) (fun _ _ _ _ q => q.1) (fun g1 l1 s1 q w1 w2 => ?_)
  obtain ⟨-, q2, q3, q4, q5⟩ := q
  subst q2 q3
  refine g_iconst dX8_foldAll_7 (by decide) ?_
  refine n_istore_n (lN := [_, _]) dX8_foldAll_8 (by decide) rfl ?_
  exact l_foldAll hso (gi 4 2).toNat 0 (by omega) (by omega) g1 s1 oa hs rfl (fun _ _ => rfl) q4 (q5 _ _)

set_option maxRecDepth 20000 in
set_option maxHeartbeats 1000000 in
theorem c_layDraft (hs : isSV sh la oa) (hpo : pl_ok (gi (371 - la)) (gi (371 - la + 1)) (gi (371 - la + 2))) (hok : okS (fvS gi oa)) : Ct mdX8_layDraft 0 0 [vR 0] gi gl sh (fun r gi' gl' sh' => r = none ∧ gl' = gl ∧ sh' = sh_lay sh la ∧ (∀ b : Int, b < 27 ∨ 131 ≤ b → b ≠ 4 → b ≠ 6 → b ≠ 7 → gi' b = gi b) ∧ (∀ k : Int, 0 ≤ k → k < 4 → gi' 6 k = gi (371 - la + 2) k) ∧ gi' 4 2 = 0 ∧ gi' 7 1 = 0 ∧ gi' 7 2 = gi 7 2 ∧ CF0 gi' gl (371 - la) oa ∧ VD gi' 79 (fvE gi') (gi' (371 - la)) (gi' (371 - la + 1)) (gi' 6) (gi' 27 4)) := by
  show Go mdX8_layDraft 0 0 0 [some (vR 0), none] [] gi gl sh _
  obtain ⟨⟨k0, r0, r1, r2, r3, r4, r5, r6, r7, r8, hla⟩, hTx, hSt, hHi, hFo, hV1, hV2, ⟨k183, l183⟩, hP1, hP2⟩ := id hs
  refine g_aload_n dX8_layDraft_0 rfl ?_
  refine g_getR 7 dX8_layDraft_1 flX8_54 rfl (by assumption) (by assumption) ?_
  refine n_astore_n (lN := [_, _]) dX8_layDraft_4 (by decide) rfl ?_
  refine g_aload_n dX8_layDraft_5 rfl ?_
  refine g_aload_n dX8_layDraft_6 rfl ?_
  refine g_getR 8 dX8_layDraft_7 flX8_58 rfl (by assumption) (by assumption) ?_
  refine g_putR 7 dX8_layDraft_10 flX8_54 rfl (by assumption) ?_
  refine g_aload_n dX8_layDraft_13 rfl ?_
  refine g_aload_n dX8_layDraft_14 rfl ?_
  refine g_putR 8 dX8_layDraft_15 flX8_58 rfl (by assumption) ?_
  have hs9 : isSV (sh_lay sh la) (371 - la) oa := hs.lay
  show Go _ _ _ _ _ _ _ _ (sh_lay sh la) _
  obtain ⟨⟨k0, r0, r1, r2, r3, r4, r5, r6, r7, r8, hla9⟩, hTx, hSt, hHi, hFo, hV1, hV2, ⟨k183, l183⟩, hP1, hP2⟩ := id hs9
  obtain ⟨ks0, sr0, sr1, ks1, ls1, ks2, ls2⟩ := id hSt
  obtain ⟨kp0, pr0, pr1, kp1, lp1, kp2, lp2⟩ := id hs9.pl.1
  refine g_aload_n dX8_layDraft_18 rfl ?_
  refine g_getR 7 dX8_layDraft_19 flX8_54 rfl (by assumption) (by assumption) ?_
  refine g_getRN 1 dX8_layDraft_22 fnX8_233 rfl (by assumption) (by assumption) ?_
  refine g_iconst dX8_layDraft_25 (by decide) ?_
  refine g_aload_n dX8_layDraft_26 rfl ?_
  refine g_getR 1 dX8_layDraft_27 flX8_19 rfl (by assumption) (by assumption) ?_
  refine g_getRN 1 dX8_layDraft_30 fnX8_114 rfl (by assumption) (by assumption) ?_
  refine g_iconst dX8_layDraft_33 (by decide) ?_
  refine g_iconst dX8_layDraft_34 (by decide) ?_
  refine g_copyI dX8_layDraft_35 mlX8_206 (Nat.le_of_ble_eq_true rfl) (by assumption) (by assumption) (by omega) (by omega) (by omega) (by omega) (by omega) ?_
  refine g_aload_n dX8_layDraft_38 rfl ?_
  refine g_getR 2 dX8_layDraft_39 flX8_26 rfl (by assumption) (by assumption) ?_
  refine g_cVv [] dX8_layDraft_42 mlX8_234 mvX2_forget (by decide) (by exact hHi.1) (by decide) rfl rfl (Nat.le_of_ble_eq_true rfl) rfl (Nat.le_of_ble_eq_true rfl) (c_forget hHi.1) ?_
  refine g_aload_n dX8_layDraft_45 rfl ?_
  show Go _ _ _ _ _ _ (g_up (g_cp gi (371 - la + 2) 6 0 0 4) 7 1 0) _ _ _
  generalize hG : g_up (g_cp gi (371 - la + 2) 6 0 0 4) 7 1 0 = G
  have ecp : ∀ b : Int, b ≠ 6 → g_cp gi (371 - la + 2) 6 0 0 4 b = gi b := fun b hb => by funext k; unfold g_cp; rw [if_neg (fun w => hb w.1)]
  have eG : ∀ b : Int, b ≠ 6 → b ≠ 7 → G b = gi b := fun b h6 h7 => by rw [← hG, ← ecp b h6]; funext k; unfold g_up; rw [if_neg (fun w => h7 w.1)]
  have ela : G (371 - la) = gi (371 - la) := eG _ (by omega) (by omega)
  have elb : G (371 - la + 1) = gi (371 - la + 1) := eG _ (by omega) (by omega)
  have e6 : ∀ k : Int, 0 ≤ k → k < 4 → G 6 k = gi (371 - la + 2) k := fun k h0 h1 => by rw [← hG]; unfold g_up g_cp; rw [if_neg (fun w => by omega), if_pos ⟨rfl, by omega⟩]; congr 1; omega
  have e71 : G 7 1 = 0 := by rw [← hG]; unfold g_up; rw [if_pos ⟨rfl, rfl⟩]
  have e72 : G 7 2 = gi 7 2 := by rw [← hG, ← ecp 7 (by omega)]; unfold g_up; rw [if_neg (fun w => by omega)]
  have ho := hFo.2.2.2.2.2.1
  have hok1 : okS (fvS G oa) := fun s s0 s1 => by have e1 : (fvS G oa).1 s = (fvS gi oa).1 s := eG (63 + s) (by omega) (by omega); rw [e1]; exact hok s s0 s1
  refine g_callV_v [] dX8_layDraft_46 mlX8_117 mvX8_dropLines (by decide) (by assumption) (by decide) rfl rfl (Nat.le_of_ble_eq_true rfl) rfl (Nat.le_of_ble_eq_true rfl) (c_dropLines hs9 (by rw [ela, elb]; exact ⟨hpo.1, hpo.2.1, hpo.2.2.1, hpo.2.2.2.1, hpo.2.2.2.2.1, hpo.2.2.2.2.2.1, hpo.2.2.2.2.2.2.1, hpo.2.2.2.2.2.2.2.1, fun k h0 h1 => by rw [e6 k h0 (by have := hpo.2.2.2.2.2.2.2.1; omega)]; exact hpo.2.2.2.2.2.2.2.2 k h0 h1⟩) hok1) (fun _ _ _ _ q => q.1) (fun g2 l2 s2 p w3 w4 => ?_)
  obtain ⟨-, p2, p3, p4, p5, p6, p7⟩ := p
  subst p2 p3
  refine g_return dX8_layDraft_49 rfl ?_
  refine ⟨rfl, rfl, rfl, fun b hb h4 h6 h7 => by rw [p4 b hb h4]; exact eG b h6 h7, fun k h0 h1 => ?_, p5, ?_, ?_, p6, p7⟩
  · rw [p4 6 (by omega) (by omega)]; exact e6 k h0 h1
  · rw [p4 7 (by omega) (by omega)]; exact e71
  · rw [p4 7 (by omega) (by omega)]; exact e72

end COMP2
