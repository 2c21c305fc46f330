/-! SpeckValves: what holds between calls -/
def isSV (sh : gSh) (la oa : Int) : Prop := (sh.2.1 0 = 8 ∧ sh.1 0 0 = some 1 ∧ sh.1 0 1 = some 4 ∧ sh.1 0 2 = some 7 ∧ sh.1 0 3 = some 27 ∧ sh.1 0 4 = some 79 ∧ sh.1 0 5 = some 131 ∧ sh.1 0 6 = some 183 ∧ sh.1 0 7 = some la ∧ sh.1 0 8 = some (371 - la) ∧ (la = 184 ∨ la = 187)) ∧ isText sh ∧ isStand sh 4 ∧ isHist sh ∧ isFold sh oa ∧ isVerd sh 79 ∧ isVerd sh 131 ∧ (sh.2.1 183 = 11 ∧ (sh.2.2.1 183 : Int) = 4) ∧ isPlan sh 184 ∧ isPlan sh 187
theorem isSV.pl {sh : gSh} {la oa : Int} (h : isSV sh la oa) : isPlan sh la ∧ isPlan sh (371 - la) := by
  obtain ⟨⟨-, -, -, -, -, -, -, -, -, -, hla⟩, -, -, -, -, -, -, -, h1, h2⟩ := h
  rcases hla with rfl | rfl
  · exact ⟨h1, h2⟩
  · exact ⟨h2, h1⟩
/-- lines and numbers that a plan allows -/
def stOk (pl kn : gRw) (T : Int) (ln nm : gRw) : Prop := pl_ok pl kn nm ∧ (0 ≤ T ∧ T ≤ 60) ∧ (∀ t : Int, 0 ≤ t → t < T → 0 ≤ ln t ∧ ln t < 10 ^ (pl 3).toNat) ∧ okE (clo (pl 3) ln) (pl 8) T
def hsp (n u : Int) : Int := 9 + 3 * ((n - u) % 6)
def CT0 (gi : gF) : Prop := (0 ≤ gi 1 2 ∧ gi 1 2 ≤ 200) ∧ t_tx (gi 2) (gi 1 2)
def CH0 (gi gl : gF) (la : Int) : Prop := (0 ≤ gi 7 1 ∧ gi 7 1 ≤ 6) ∧ (0 ≤ gi 7 2 ∧ gi 7 2 < 6) ∧ ∀ u : Int, 1 ≤ u → u ≤ gi 7 1 → stOk (gi la) (gi (la + 1)) (gi (hsp (gi 7 2) u) 2) (gl (hsp (gi 7 2) u + 1)) (gi (hsp (gi 7 2) u + 2))
def CF0 (gi gl : gF) (la oa : Int) : Prop := FS (clo (gi la 3) (gl 5)) (gi la 8) (gi 4 2) (fvS gi oa) (fvE gi) (gi 27 4)
def CS0 (gi gl : gF) (la : Int) : Prop := stOk (gi la) (gi (la + 1)) (gi 4 2) (gl 5) (gi 6)
def CI0 (gi gl : gF) (sh : gSh) (la oa : Int) : Prop := isSV sh la oa ∧ CT0 gi ∧ CS0 gi gl la ∧ CH0 gi gl la ∧ CF0 gi gl la oa
def CI (gi gl : gF) (sh : gSh) (la oa : Int) : Prop := CI0 gi gl sh la oa ∧ VD gi 79 (fvE gi) (gi la) (gi (la + 1)) (gi 6) (gi 27 4)
theorem pl_ok.p {pl kn nm : gRw} (h : pl_ok pl kn nm) : v_pok pl := by
  obtain ⟨h3, h4, h5, h6, h7, h8, h9, h2, -⟩ := h
  have hle : pl 4 ≤ 16 := by
    refine Classical.byContradiction (fun hn => ?_)
    have := Int.emod_eq_of_lt (a := pl 3) (b := pl 4) (by omega) (by omega)
    omega
  refine ⟨⟨h4.1, by omega, ?_⟩, by omega, by omega, by omega, h2⟩
  unfold v_cpv
  have h41 := h4.1
  have h42 := h4.2
  generalize pl 3 = x at h3 h42
  generalize pl 4 = y at hle h41 h42
  rcases (show y = 1 ∨ y = 2 ∨ y = 3 ∨ y = 4 ∨ y = 5 ∨ y = 6 ∨ y = 7 ∨ y = 8 ∨ y = 9 ∨ y = 10 ∨ y = 11 ∨ y = 12 ∨ y = 13 ∨ y = 14 ∨ y = 15 ∨ y = 16 by omega) with rfl | rfl | rfl | rfl | rfl | rfl | rfl | rfl | rfl | rfl | rfl | rfl | rfl | rfl | rfl | rfl <;> omega
theorem FS.bok {cl : gRw} {D T : Int} {S : fS} {er : Int → gRw} {ec : Int} (h : FS cl D T S er ec) (hcl : ∀ q, 0 ≤ cl q ∧ cl q ≤ 9) (hT : 0 ≤ T ∧ T ≤ 60) (pl : gRw) : ∀ b : Int, 0 ≤ b → b < ec → v_bok pl (er b) := fun b b0 b1 => by
  obtain ⟨h1, h2, h3⟩ := h.2.2.1.1 b b0 b1
  have := h1.ok hcl (by omega) (by have := h2.1; omega) ⟨rlab (er b), by have := h2.1; omega, mm_t.mpr h2.2⟩
  exact ⟨this.1, by omega, by omega⟩
theorem FS.okS {cl : gRw} {D T : Int} {S : fS} {er : Int → gRw} {ec : Int} (h : FS cl D T S er ec) : okS S := h.1.2.2.2.2.2.2
/-- it does not look at verdicts and drafts -/
theorem CI0.fr {gi gi' gl : gF} {sh : gSh} {la oa : Int} (h : CI0 gi gl sh la oa) (e : ∀ b : Int, b ≤ 79 ∨ 184 ≤ b → b ≠ 3 → gi' b = gi b) : CI0 gi' gl sh la oa := by
  obtain ⟨hs, h1, h2, h3, h4⟩ := h
  have hla := hs.1.2.2.2.2.2.2.2.2.2.2
  have ho := hs.2.2.2.2.1.2.2.2.2.2.1
  have ea := e la (by omega) (by omega)
  have eb := e (la + 1) (by omega) (by omega)
  have e1 := e 1 (by omega) (by omega)
  have e2 := e 2 (by omega) (by omega)
  have e4 := e 4 (by omega) (by omega)
  have e6 := e 6 (by omega) (by omega)
  have e7 := e 7 (by omega) (by omega)
  refine ⟨hs, ?_, ?_, ?_, ?_⟩
  · unfold CT0; rw [e1, e2]; exact h1
  · unfold CS0; rw [ea, eb, e4, e6]; exact h2
  · unfold CH0; rw [ea, eb, e7]
    refine ⟨h3.1, h3.2.1, fun u u0 u1 => ?_⟩
    have := h3.2.2 u u0 u1
    unfold hsp at this ⊢
    rw [e _ (by omega) (by omega), e (9 + 3 * ((gi 7 2 - u) % 6) + 2) (by omega) (by omega)]
    exact this
  · unfold CF0
    rw [ea, e4, e 27 (by omega) (by omega)]
    obtain ⟨g1, g2, g3, g4⟩ := h4
    refine ⟨?_, g2, g3.er (fun i i0 i1 => e (32 + i) (by omega) (by omega)), g4⟩
    have q1 : (fvS gi' oa).2.1 = (fvS gi oa).2.1 := e oa (by omega) (by omega)
    have q2 : (fvS gi' oa).2.2 = (fvS gi oa).2.2 := e (61 - oa) (by omega) (by omega)
    rw [q1, q2]
    exact g1.lv (fun s s0 s1 => e (63 + s) (by omega) (by omega))
theorem v_all_er {er er' : Int → gRw} {pl kn nu bb0 : gRw} {V0 : vV} : ∀ n : Nat, (∀ b : Int, 0 ≤ b → b < n → er b = er' b) → v_all er pl kn nu bb0 V0 n = v_all er' pl kn nu bb0 V0 n := by
  intro n
  induction n with
  | zero => intro _; rfl
  | succ n ih => intro h; simp only [v_all]; rw [ih (fun b b0 b1 => h b b0 (by omega)), h n (by omega) (by omega)]
theorem VD.er {gi : gF} {v : Int} {er er' : Int → gRw} {pl kn nu : gRw} {ec : Int} (h : VD gi v er pl kn nu ec) (e : ∀ i : Int, 0 ≤ i → i < 31 → er' i = er i) (hec : ec ≤ 31) : VD gi v er' pl kn nu ec := by
  have ej : jv er' pl kn nu ec.toNat = jv er pl kn nu ec.toNat := v_all_er _ (fun b b0 b1 => e b b0 (by omega))
  unfold VD jb at *
  rw [ej]
  exact ⟨fun b b0 b1 => by rw [e b b0 (by omega)]; exact h.1 b b0 b1, h.2⟩
section COMP1
variable {gi gl : gF} {sh : gSh} {la oa : Int}
set_option maxRecDepth 20000 in
set_option maxHeartbeats 1000000 in
theorem c_judge (hs : isSV sh la oa) (hpo : pl_ok (gi la) (gi (la + 1)) (gi 6)) (hT : 0 ≤ gi 4 2 ∧ gi 4 2 ≤ 60) (hf : CF0 gi gl la oa) : Ct mdX8_judge 0 0 [vR 0] gi gl sh (fun r gi' gl' sh' => r = none ∧ gl' = gl ∧ sh' = sh ∧ (∀ b : Int, b ≤ 79 ∨ 131 ≤ b → gi' b = gi b) ∧ VD gi' 79 (fvE gi) (gi la) (gi (la + 1)) (gi 6) (gi 27 4)) := by
  show Go mdX8_judge 0 0 0 [some (vR 0)] [] gi gl sh _
  obtain ⟨⟨k0, r0, r1, r2, r3, r4, r5, r6, r7, r8, hla⟩, hTx, hSt, hHi, hFo, hV1, hV2, ⟨k183, l183⟩, hP1, hP2⟩ := id hs
  obtain ⟨ks0, sr0, sr1, ks1, ls1, ks2, ls2⟩ := id hSt
  refine g_aload_n dX8_judge_0 rfl ?_
  refine g_getR 4 dX8_judge_1 flX8_40 rfl (by assumption) (by assumption) ?_
  refine g_aload_n dX8_judge_4 rfl ?_
  refine g_getR 7 dX8_judge_5 flX8_54 rfl (by assumption) (by assumption) ?_
  refine g_aload_n dX8_judge_8 rfl ?_
  refine g_getR 1 dX8_judge_9 flX8_19 rfl (by assumption) (by assumption) ?_
  refine g_getRN 1 dX8_judge_12 fnX8_114 rfl (by assumption) (by assumption) ?_
  refine g_aload_n dX8_judge_15 rfl ?_
  refine g_getR 3 dX8_judge_16 flX8_33 rfl (by assumption) (by assumption) ?_
  refine g_callV_v [_, _, _] dX8_judge_19 mlX8_247 mvX7_judgeAll (by decide) (by exact hV1.1) (by decide) rfl rfl (Nat.le_of_ble_eq_true rfl) rfl (Nat.le_of_ble_eq_true rfl) (c_judgeQ (gl := gl) hV1 hFo hs.pl.1 (by omega) (by omega) 6 ks2 ls2 (by omega) (by omega) (gi 27 4) rfl hf.2.2.2 hpo.p (hf.bok (clo_b _ _) hT _)) (fun _ _ _ _ q => q.1) (fun g1 l1 s1 q w1 w2 => ?_)
  obtain ⟨-, q2, q3, q4, q5⟩ := q
  refine g_return dX8_judge_22 rfl ?_
  exact ⟨rfl, q2, q3, fun b hb => q4 b (by omega), q5⟩

set_option maxRecDepth 20000 in
set_option maxHeartbeats 1000000 in
theorem c_dropLines (hs : isSV sh la oa) (hpo : pl_ok (gi la) (gi (la + 1)) (gi 6)) (hok : okS (fvS gi oa)) : Ct mdX8_dropLines 0 0 [vR 0] gi gl sh (fun r gi' gl' sh' => r = none ∧ gl' = gl ∧ sh' = sh ∧ (∀ b : Int, b < 27 ∨ 131 ≤ b → b ≠ 4 → gi' b = gi b) ∧ gi' 4 2 = 0 ∧ CF0 gi' gl la oa ∧ VD gi' 79 (fvE gi') (gi' la) (gi' (la + 1)) (gi' 6) (gi' 27 4)) := by
  show Go mdX8_dropLines 0 0 0 [some (vR 0)] [] gi gl sh _
  obtain ⟨⟨k0, r0, r1, r2, r3, r4, r5, r6, r7, r8, hla⟩, hTx, hSt, hHi, hFo, hV1, hV2, ⟨k183, l183⟩, hP1, hP2⟩ := id hs
  obtain ⟨ks0, sr0, sr1, ks1, ls1, ks2, ls2⟩ := id hSt
  refine g_aload_n dX8_dropLines_0 rfl ?_
  refine g_getR 1 dX8_dropLines_1 flX8_19 rfl (by assumption) (by assumption) ?_
  refine g_iconst dX8_dropLines_4 (by decide) ?_
  refine g_putIN 2 dX8_dropLines_5 fnX8_90 rfl (by assumption) ?_
  refine g_aload_n dX8_dropLines_8 rfl ?_
  refine g_getR 3 dX8_dropLines_9 flX8_33 rfl (by assumption) (by assumption) ?_
  have hok1 : okS (fvS (g_up gi 4 2 0) oa) := fun s s0 s1 => by
      have e1 : (fvS (g_up gi 4 2 0) oa).1 s = (fvS gi oa).1 s := by unfold fvS; dsimp only; funext k; unfold g_up; rw [if_neg (by omega)]
      rw [e1]; exact hok s s0 s1
  refine g_callV_v [] dX8_dropLines_12 mlX8_237 mvX1_empty (by decide) (by exact hFo.1) (by decide) rfl rfl (Nat.le_of_ble_eq_true rfl) rfl (Nat.le_of_ble_eq_true rfl) (c_emptyQ hFo (gi := g_up gi 4 2 0) hok1) (fun _ _ _ _ q => q.1) (fun g1 l1 s1 q w1 w2 => ?_)
  obtain ⟨-, q2, q3, q4, q5⟩ := q
  subst q2 q3
  have ela : g1 la = gi la := by rw [q4 la (by omega)]; funext k; unfold g_up; rw [if_neg (by omega)]
  have elb : g1 (la + 1) = gi (la + 1) := by rw [q4 _ (by omega)]; funext k; unfold g_up; rw [if_neg (by omega)]
  have e6 : g1 6 = gi 6 := by rw [q4 _ (by omega)]; funext k; unfold g_up; rw [if_neg (by omega)]
  have e4 : g1 4 2 = 0 := by rw [q4 _ (by omega)]; unfold g_up; rw [if_pos ⟨rfl, rfl⟩]
  have hf1 : CF0 g1 l1 la oa := by unfold CF0; rw [e4]; exact q5 _ _
  refine g_aload_n dX8_dropLines_15 rfl ?_
  refine g_getR 4 dX8_dropLines_16 flX8_40 rfl (by assumption) (by assumption) ?_
  refine g_callV_v [] dX8_dropLines_19 mlX8_240 mvX7_closeAll (by decide) (by exact hV1.1) (by decide) rfl rfl (Nat.le_of_ble_eq_true rfl) rfl (Nat.le_of_ble_eq_true rfl) (c_closeQ (gi := g1) (gl := l1) hV1) (fun _ _ _ _ q => q.1) (fun g2 l2 s2 p w3 w4 => ?_)
  obtain ⟨-, p2, p3, p4, p5⟩ := p
  subst p2 p3
  have ho := hFo.2.2.2.2.2.1
  have e9 : ∀ b : Int, b < 79 → g2 b = g1 b := fun b hb => p4 b (by omega)
  have h0 : g1 27 4 = 0 := by
      have h := q5 (fun _ => 0) 0
      have h4 := h.2.2.2
      refine Classical.byContradiction (fun hn => ?_)
      have h2 := (h.2.2.1.1 0 (by omega) (by omega)).2.1.1
      omega
  refine g_return dX8_dropLines_22 rfl ?_
  refine ⟨rfl, rfl, rfl, fun b hb hb4 => ?_, ?_, ?_, ?_⟩
  · rw [p4 b (by omega), q4 b (by omega)]; funext k; unfold g_up; rw [if_neg (by omega)]
  · rw [e9 4 (by omega)]; exact e4
  · unfold CF0 at hf1 ⊢
    rw [p4 la (by omega), e9 4 (by omega), e9 27 (by omega)]
    obtain ⟨u1, u2, u3, u4⟩ := hf1
    refine ⟨?_, u2, u3.er (fun i i0 i1 => e9 (32 + i) (by omega)), u4⟩
    have v1 : (fvS g2 oa).2.1 = (fvS g1 oa).2.1 := e9 oa (by omega)
    have v2 : (fvS g2 oa).2.2 = (fvS g1 oa).2.2 := e9 (61 - oa) (by omega)
    rw [v1, v2]
    exact u1.lv (fun s s0 s1 => e9 (63 + s) (by omega))
  · rw [e9 27 (by omega), h0]
    exact p5 _ _ _ _

end COMP1
