/-! the model's blobs: all laid -/
section MD9
variable {gi gl : gF} {sh : gSh} {D T W ec : Int} {ln : gRw} {S : fS} {er : Int → gRw}
theorem clo_z {q : Int} (h0 : 0 ≤ q) (h : W ≤ q % 16) : clo W ln q = 0 := by unfold clo; rw [if_neg (by omega)]
/-- blobs laid: those that ended as the fold has them, the others counted -/
def LQ (gi gl : gF) (sh : gSh) (S : fS) (er : Int → gRw) (ec : Int) : gQ := fun r g' gl' sh' => r = none ∧ gl' = gl ∧ sh' = sh ∧ FL gi g' ∧ ME g' er ec ∧ g' 190 15 - g' 190 16 = f_cnt S.1 16 ∧ g' 190 17 = f_sum S.1 16 ∧ (0 ≤ g' 190 15 ∧ g' 190 15 ≤ 48)

set_option maxRecDepth 20000 in
set_option maxHeartbeats 1000000 in
theorem l_lb103 (hM : isMd sh) (hT : gl 193 0 = T) (hT0 : 0 ≤ T ∧ T ≤ 60) (hFS : FS (clo W ln) D T S er ec) (g0 g : gF) (nb : Int) (l2 : Option gV) (hL : Lab (clo W ln) (j_all (clo W ln) T.toNat) (16 * T)) (hf0 : FL g0 g) (hS : BS (clo W ln) D (j_all (clo W ln) T.toNat) (16 * T) g nb) (h15 : g 190 15 = nb) : Go mdX9_laysBlobs 0 0 103 [some (vR 190), some (vI T), l2] [] g gl sh (LQ g0 gl sh S er ec) := by
  have hnn := clo_b W ln
  have hrow : ∀ b : Int, 0 ≤ b → b < nb → ((16 * g 202 b + g 204 b = g 201 b ∧ 0 ≤ g 204 b ∧ g 204 b < 16) ∧ 0 ≤ g 201 b ∧ g 201 b < 960) ∧ 0 ≤ g 207 b ∧ g 207 b ≤ 1000 := fun b b0 b1 => by
    obtain ⟨hr, hs⟩ := hS.2.1 b b0 b1
    have h1 := hs.1
    rw [mrow_0, mrow_2] at h1
    have hok := hs.ok hnn (by omega) (by have := hr.1.2; omega) ⟨g 201 b, by have := hr.1; omega, mm_t.mpr ⟨hr.2.1, hr.2.2⟩⟩
    have h5 := hok.2.2.2.2.2
    rw [mrow_5] at h5
    have := hr.1
    exact ⟨⟨⟨h1.1, h1.2.2.1, h1.2.2.2⟩, by omega⟩, by omega⟩
  have n8 : nb ≤ 48 := by
    have := hFS.few hT0 nb.toNat (g 201) (fun i i0 i1 => (hS.2.1 i i0 (by omega)).1) (fun i j i0 ij j1 => hS.2.2.1 i j i0 ij (by omega))
    omega
  have n0 := hS.1
  refine g_aload_n dX9_laysBlobs_103 rfl ?_
  refine g_callV_v [] dX9_laysBlobs_104 mlX9_202 mvX9_numbersEnded (by decide) hM.o (by decide) rfl rfl (Nat.le_of_ble_eq_true rfl) rfl (Nat.le_of_ble_eq_true rfl) (m_numbersEnded (T := T) (nb := nb) hM hT hT0 (fun b b0 b1 => (hrow b b0 b1).1) ⟨n0, n8⟩ h15 hS.2.2.1 (fun b b0 b1 => (hrow b b0 b1).2)) (fun _ _ _ _ q => q.1) (fun g1 l1 s1 q w1 w2 => ?_)
  obtain ⟨-, q2, q3, q4, q5, q6⟩ := q
  subst q2 q3
  refine g_return dX9_laysBlobs_107 rfl ?_
  have hes := NS.es hS hT0 q5 q4
  obtain ⟨u1, u2⟩ := hFS.2.2.1.uniq hes hT0 hFS.2.2.2.1 q5.1.1
  have hlv := hS.live hL hT0.1
  have hcm := hFS.1.live hT0.1
  have e15 : g1 190 15 = nb := by rw [q4.2 15 (by decide) (by decide)]; exact h15
  have hec := hFS.2.2.2
  refine ⟨rfl, rfl, rfl, ⟨fun b hb => ?_, fun k hk => ?_⟩, ⟨u1.symm, hec, fun i i0 i1 => ⟨?_, u2 i i0 i1⟩, fun i j i0 i1 j0 j1 e => ?_⟩, ?_, ?_, by omega⟩
  · rw [q4.1 b (by omega) (by omega)]; exact hf0.1 b hb
  · rw [q4.2 k (by omega) (by omega)]; exact hf0.2 k hk
  · have := (q5.2.1 i i0 (by omega)).1; omega
  · rcases (show i = j ∨ i < j ∨ j < i by omega) with w | w | w
    · exact w
    · have := q5.2.2.1 i j i0 w (by omega); rw [e] at this; omega
    · have := q5.2.2.1 j i j0 w (by omega); rw [e] at this; omega
  · have h5 := q5.2.2.2.2
    rw [hlv.1] at h5
    have hc1 : f_cnt S.1 16 = _ := hcm.1
    rw [hc1, e15]
    omega
  · rw [q6, hlv.2]
    exact hcm.2.symm
set_option maxRecDepth 20000 in
set_option maxHeartbeats 2000000 in
theorem m_laysBlobs (hM : isMd sh) (hW : gi 191 0 = W) (hW0 : 0 ≤ W ∧ W ≤ 16) (hT : gl 193 0 = T) (hT0 : 0 ≤ T ∧ T ≤ 60) (hln : ∀ t : Int, 0 ≤ t → t < T → gl 193 (1 + t) = ln t ∧ 0 ≤ ln t) (hD : gi 191 5 = D) (hFS : FS (clo W ln) D T S er ec) : Ct mdX9_laysBlobs 0 0 [vR 190] gi gl sh (LQ gi gl sh S er ec) := by
  show Go mdX9_laysBlobs 0 0 0 [some (vR 190), none, none] [] gi gl sh _
  refine g_aload_n dX9_laysBlobs_0 rfl ?_
  refine g_callV_v [] dX9_laysBlobs_1 mlX9_193 mvX9_laysCells (by decide) hM.o (by decide) rfl rfl (Nat.le_of_ble_eq_true rfl) rfl (Nat.le_of_ble_eq_true rfl) (m_laysCells (ln := ln) hM hW hW0 hT hT0 hln) (fun _ _ _ _ q => q.1) (fun g1 l1 s1 q w1 w2 => ?_)
  obtain ⟨-, q2, q3, q4, q5⟩ := q
  subst q2 q3
  refine g_aload_n dX9_laysBlobs_4 rfl ?_
  refine g_iconst dX9_laysBlobs_5 (by decide) ?_
  refine g_putI 15 dX9_laysBlobs_6 flX9_176 rfl hM.o ?_
  refine g_iconst dX9_laysBlobs_9 (by decide) ?_
  refine n_istore_n (lN := [_, _, _]) dX9_laysBlobs_10 (by decide) rfl ?_
  have f2 : ∀ b : Int, b ≠ 190 → g_up g1 190 15 0 b = g1 b := fun b hb => g_up_row hb
  have f15 : g_up g1 190 15 0 190 15 = 0 := g_up_at
  have f16 : ∀ k : Int, k ≠ 15 → g_up g1 190 15 0 190 k = gi 190 k := fun k hk => by rw [g_up_ne hk, q4 190 (by decide) (by decide)]
  generalize g_up g1 190 15 0 = g2 at f2 f15 f16 ⊢
  have eW : g2 191 0 = W := by rw [f2 191 (by decide), q4 191 (by decide) (by decide)]; exact hW
  have eD : g2 191 5 = D := by rw [f2 191 (by decide), q4 191 (by decide) (by decide)]; exact hD
  have ecl : ∀ q : Int, 0 ≤ q → q < 16 * T → q % 16 < W → g2 199 q = clo W ln q := fun q q0 q1 q2 => by rw [f2 199 (by decide)]; exact (q5 q q0 q1 q2).1
  have ez : ∀ q : Int, 0 ≤ q → q < 16 * T → W ≤ q % 16 → clo W ln q = 0 := fun q q0 _ q2 => clo_z q0 q2
  have hnn := clo_b W ln
  refine l_lb1t (gi := g2) (cl := clo W ln) (W := W) (T := T) hM eW hW0 hT0 ecl ez hnn hT (fun g3 l3 h3 hL3 => ?_) T.toNat 0 (by omega) (Int.le_refl _) g2 (fun _ _ => rfl) (LB.init (fun q hq => ?_)) none
  · refine g_iconst dX9_laysBlobs_49 (by decide) ?_
    refine n_istore_n (lN := [_, _, _]) dX9_laysBlobs_50 (by decide) rfl ?_
    refine l_lb2t (gi := g3) (cl := clo W ln) (L := j_all (clo W ln) T.toNat) (D := D) (W := W) (T := T) hM (by rw [h3 191 (by decide)]; exact eW) hW0 hT0 (fun q q0 q1 q2 => by rw [h3 199 (by decide)]; exact ecl q q0 q1 q2) ez hnn (by rw [h3 191 (by decide)]; exact eD) hL3 (fun n f hf hs => hFS.few hT0 n f hf hs) hT (fun g4 nb l4 hF4 hS4 h154 => ?_) T.toNat 0 (by omega) (Int.le_refl _) g3 0 FC.rf BS.start (by rw [h3 190 (by decide)]; exact f15) l3
    refine l_lb103 hM hT hT0 hFS gi g4 nb l4 hL3.1 ⟨fun b hb => ?_, fun k hk => ?_⟩ hS4 h154
    · rw [hF4.1 b (by omega), h3 b (by omega), f2 b (by omega), q4 b (by omega) (by omega)]
    · rw [hF4.2 k (by omega), h3 190 (by decide)]; exact f16 k (by omega)
  · rw [f2 200 (by decide)]
    have hv := hq.2.2
    have hw : q % 16 < W := Classical.byContradiction (fun w => by rw [ez q hq.1 hq.2.1 (by omega)] at hv; omega)
    exact (q5 q hq.1 hq.2.1 hw).2

end MD9
