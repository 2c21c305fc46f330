section COMP11
variable {gi gl : gF} {sh : gSh} {la oa : Int}
set_option maxRecDepth 20000 in
set_option maxHeartbeats 1000000 in
theorem c_best (hc : CI gi gl sh la oa) (k w : Int) : Ct mdX8_best 0 0 [vR 0, vI k, vI w] gi gl sh (fun r gi' gl' sh' => r = some (vI (be_ans gi la k w)) ∧ gl' = gl ∧ sh' = sh ∧ CI gi' gl sh la oa ∧ ∀ b : Int, b < 131 ∨ 184 ≤ b → gi' b = gi b) := by
  show Go mdX8_best 0 0 0 [some (vR 0), some (vI k), some (vI w), none, none, none, none] [] gi gl sh _
  obtain ⟨⟨k0, r0, r1, r2, r3, r4, r5, r6, r7, r8, hla⟩, hTx, hSt, hHi, hFo, hV1, hV2, ⟨k183, l183⟩, hP1, hP2⟩ := id hc.1.1
  obtain ⟨ks0, sr0, sr1, ks1, ls1, ks2, ls2⟩ := id hSt
  obtain ⟨⟨hs, hct, hcs, hch, hcf⟩, hvd⟩ := id hc
  have hT := hcs.2.1
  have hpk := hcs.1
  have hW := hpk.1
  have hrc := hpk.2.2.2.2.2.2.2.1
  have hh := hch.1
  have hn := hch.2.1
  have hec := hcf.2.2.2
  have ho := hFo.2.2.2.2.2.1
  obtain ⟨v0, vr0, vr1, vr2, vkb, vlb, vkw, vlw, vkv, vlv, hJ⟩ := id hV1
  obtain ⟨kt0, tr0, tr1, kt1, lt1, kt2, lt2⟩ := id hTx
  obtain ⟨f0, fr0, fr1, -, -, -, f1, fl1, f2, fl2, -, -, hE, hL⟩ := id hFo
  obtain ⟨kp0, pr0, pr1, kp1, lp1, kp2, lp2⟩ := id hs.pl.1
  have hv4 := hpk.v4
  have hv1 := hpk.2.1.1
  have hbo : ∀ b : Int, 0 ≤ b → b < gi 27 4 → bl_ok (gi (32 + b)) := fun b b0 b1 => (hcf.bok (clo_b _ _) hT (gi la) b b0 b1).1
  have sr6 : sh.1 4 1 = some 6 := sr1
  have ks6 : sh.2.1 6 = 11 := ks2
  have ls6 : (sh.2.2.1 6 : Int) = 4 := ls2
  have hz := zb_q (0 ≤ k ∧ k < gi la 2)
  generalize zb (0 ≤ k ∧ k < gi la 2) = z9 at hz
  refine g_aload_n dX8_best_0 rfl ?_
  refine g_iload_n dX8_best_1 rfl ?_
  refine g_cVi [_] dX8_best_2 mlX8_110 mvX8_isRule (by decide) (by assumption) (by decide) rfl rfl (Nat.le_of_ble_eq_true rfl) rfl (Nat.le_of_ble_eq_true rfl) (c_isRule hs hrc.2 k z9 hz) ?_
  refine g_if_eq 17 dX8_best_5 (by decide) (fun h5 => ?_) (fun h5 => ?_)
  · skip
    have hnk : ¬ (0 ≤ k ∧ k < gi la 2) := hz.no (by omega)
    refine g_iconst dX8_best_17 (by decide) ?_
    refine g_ireturn dX8_best_18 rfl ?_
    refine ⟨?_, rfl, rfl, hc, fun _ _ => rfl⟩
    unfold be_ans
    rw [if_pos (by omega)]
  · skip
    have hk : 0 ≤ k ∧ k < gi la 2 := hz.yes (by omega)
    refine g_iload_n dX8_best_8 rfl ?_
    refine g_if_lt 17 dX8_best_9 (by decide) (fun h9 => ?_) (fun h9 => ?_)
    · skip
      refine g_iconst dX8_best_17 (by decide) ?_
      refine g_ireturn dX8_best_18 rfl ?_
      refine ⟨?_, rfl, rfl, hc, fun _ _ => rfl⟩
      unfold be_ans
      rw [if_pos (by omega)]
    · skip
      refine g_iload_n dX8_best_12 rfl ?_
      refine g_iconst dX8_best_13 (by decide) ?_
      refine g_icmp_le 19 dX8_best_14 (by decide) (fun h14 => ?_) (fun h14 => ?_)
      · skip
        refine g_aload_n dX8_best_19 rfl ?_
        refine g_getR 1 dX8_best_20 flX8_19 rfl (by assumption) (by assumption) ?_
        refine g_getRN 1 dX8_best_23 fnX8_114 rfl (by assumption) (by assumption) ?_
        refine g_iconst dX8_best_26 (by decide) ?_
        refine g_aload_n dX8_best_27 rfl ?_
        refine g_getR 6 dX8_best_28 flX8_47 rfl (by assumption) (by assumption) ?_
        refine g_iconst dX8_best_31 (by decide) ?_
        refine g_iconst dX8_best_32 (by decide) ?_
        refine g_copyI dX8_best_33 mlX8_206 (Nat.le_of_ble_eq_true rfl) (by assumption) (by assumption) (by omega) (by omega) (by omega) (by omega) (by omega) ?_
        show Go _ _ _ _ _ _ (g_cp gi 6 183 0 0 4) _ _ _
        generalize hG : g_cp gi 6 183 0 0 4 = G
        have eG : ∀ b : Int, b ≠ 183 → G b = gi b := fun b hb => by rw [← hG]; exact g_cp_row hb
        have e183 : ∀ i : Int, 0 ≤ i → i < 4 → G 183 i = gi 6 i := fun i i0 i1 => by rw [← hG]; unfold g_cp; rw [if_pos ⟨rfl, by omega⟩]; congr 1; omega
        refine g_iconst dX8_best_36 (by decide) ?_
        refine n_istore_n (lN := [_, _, _, _, _, _, _]) dX8_best_37 (by decide) rfl ?_
        refine g_aload_n dX8_best_38 rfl ?_
        refine g_iload_n dX8_best_39 rfl ?_
        refine g_iconst dX8_best_40 (by decide) ?_
        refine g_callV_i [_, _] dX8_best_41 mlX8_212 mvX8_worthByNumber (by decide) (by assumption) (by decide) rfl rfl (Nat.le_of_ble_eq_true rfl) rfl (Nat.le_of_ble_eq_true rfl) (c_wbn hs (by rw [eG la (by omega)]; exact hpk.p) (by rw [eG 4 (by omega)]; exact hT) (hcf.fr ho (fun b b0 b1 => eG b (by omega)) (by rw [eG 4 (by omega)]) (eG la (by omega))) k 1 (by omega)) (fun _ _ _ _ q => ⟨_, q.1⟩) (fun x2 g2 l2 s2 p w3 w4 => ?_)
        obtain ⟨p1, p2, p3, p4, p5⟩ := p
        subst p2 p3
        have hx2 : x2 = wv (fvE gi) (gi la) (gi (la + 1)) (r_up (gi 6) k 1) (gi 27 4).toNat := by injection p1 with p1; injection p1 with p1; rw [p1, eG la (by omega), eG (la + 1) (by omega), eG 27 (by omega), wv_er (er := fvE G) (es := fvE gi) _ (fun b b0 b1 => eG (32 + b) (by omega))]; exact wv_nu _ hrc.1 (fun i i0 i1 => by unfold r_up; split; rfl; rename_i hi; exact e183 i i0 (by omega))
        refine n_istore (lN := [_, _, _, _, _, _, _]) dX8_best_44 (by decide) rfl ?_
        refine g_iconst dX8_best_46 (by decide) ?_
        refine n_istore (lN := [_, _, _, _, _, _, _]) dX8_best_47 (by decide) rfl ?_
        exact l_best hc k w hk (by omega) _ rfl 98 2 (by omega) 0 (by omega) g2 (fun b hb => by rw [p4 b hb]; exact eG b (by omega)) (fun i i0 i1 i2 => by rw [p5, r_up_ne i2]; exact e183 i i0 i1) none (fun y e => by cases e) 1 x2 rfl hx2
      · skip
        refine g_iconst dX8_best_17 (by decide) ?_
        refine g_ireturn dX8_best_18 rfl ?_
        refine ⟨?_, rfl, rfl, hc, fun _ _ => rfl⟩
        unfold be_ans
        rw [if_pos (by omega)]

end COMP11
