/-! SpeckValves: a blob asked -/
noncomputable def bo_ans (gi : gF) (la b w : Int) : Int := if ¬ (0 ≤ b ∧ b < gi 27 4) then -1 else if w = 0 then gi (32 + b) 0 else if w = 1 then gi (32 + b) 1 else if w = 2 then gi (32 + b) 3 else if w = 3 then gi (32 + b) 4 else if w = 4 then gi (32 + b) 5 else if w = 5 then bl_mean (gi (32 + b)) else if w = 6 then gi (32 + b) 7 else if w = 7 then gi (79 + 1) b else if w = 8 then zb (gi (79 + 1) b ≠ -4 ∧ gi (32 + b) 0 + gi la 5 - gi la 6 < gi (32 + b) 1 + 1) else if w = 9 then gi (79 + 2) b else -1
section COMP8
variable {gi gl : gF} {sh : gSh} {la oa : Int}
set_option maxRecDepth 20000 in
set_option maxHeartbeats 1000000 in
theorem c_asFlag (x : Int) (hx : x = 0 ∨ x = 1) : Ct mdX8_asFlag 0 0 [vI x] gi gl sh (Rt (some (vI x)) gi gl sh) := by
  show Go mdX8_asFlag 0 0 0 [some (vI x)] [] gi gl sh _
  refine g_iload_n dX8_asFlag_0 rfl ?_
  refine g_if_eq 8 dX8_asFlag_1 (by decide) (fun h1 => ?_) (fun h1 => ?_)
  · skip
    refine g_iconst dX8_asFlag_8 (by decide) ?_
    refine g_ireturn dX8_asFlag_9 rfl ?_
    exact ⟨by rw [show x = 0 by omega], rfl, rfl, rfl⟩
  · skip
    refine g_iconst dX8_asFlag_4 (by decide) ?_
    refine g_goto 9 dX8_asFlag_5 (by decide) ?_
    refine g_ireturn dX8_asFlag_9 rfl ?_
    exact ⟨by rw [show x = 1 by omega], rfl, rfl, rfl⟩

set_option maxRecDepth 20000 in
set_option maxHeartbeats 1000000 in
theorem c_blob (hc : CI gi gl sh la oa) (b w : Int) : Ct mdX8_blob 0 0 [vR 0, vI b, vI w] gi gl sh (Rt (some (vI (bo_ans gi la b w))) gi gl sh) := by
  show Go mdX8_blob 0 0 0 [some (vR 0), some (vI b), some (vI w), none] [] gi gl sh _
  obtain ⟨⟨k0, r0, r1, r2, r3, r4, r5, r6, r7, r8, hla⟩, hTx, hSt, hHi, hFo, hV1, hV2, ⟨k183, l183⟩, hP1, hP2⟩ := id hc.1.1
  obtain ⟨ks0, sr0, sr1, ks1, ls1, ks2, ls2⟩ := id hSt
  obtain ⟨⟨hs, hct, hcs, hch, hcf⟩, hvd⟩ := id hc
  have hT := hcs.2.1
  have hpk := hcs.1
  have hW := hpk.1
  have hrc := hpk.2.2.2.2.2.2.2.1
  have hh := hch.1
  have hn := hch.2.1
  have hec := hcf.2.2.2
  have ho := hFo.2.2.2.2.2.1
  obtain ⟨v0, vr0, vr1, vr2, vkb, vlb, vkw, vlw, vkv, vlv, hJ⟩ := id hV1
  obtain ⟨kt0, tr0, tr1, kt1, lt1, kt2, lt2⟩ := id hTx
  obtain ⟨f0, fr0, fr1, -, -, -, f1, fl1, f2, fl2, -, -, hE, hL⟩ := id hFo
  obtain ⟨kp0, pr0, pr1, kp1, lp1, kp2, lp2⟩ := id hs.pl.1
  have hv4 := hpk.v4
  have hv1 := hpk.2.1.1
  have hbo : ∀ b : Int, 0 ≤ b → b < gi 27 4 → bl_ok (gi (32 + b)) := fun b b0 b1 => (hcf.bok (clo_b _ _) hT (gi la) b b0 b1).1
  have hp5 : (0 ≤ gi la 5 ∧ gi la 5 ≤ 20) ∧ (0 ≤ gi la 6 ∧ gi la 6 ≤ 5) := ⟨hpk.2.2.1, hpk.2.2.2.1⟩
  refine g_iload_n dX8_blob_0 rfl ?_
  refine g_if_lt 27 dX8_blob_1 (by decide) (fun h1 => ?_) (fun h1 => ?_)
  · skip
    refine g_iconst dX8_blob_27 (by decide) ?_
    refine g_ireturn dX8_blob_28 rfl ?_
    refine ⟨?_, rfl, rfl, rfl⟩
    unfold bo_ans
    rw [if_pos (by omega)]
  · skip
    refine g_iload_n dX8_blob_4 rfl ?_
    refine g_aload_n dX8_blob_5 rfl ?_
    refine g_getR 3 dX8_blob_6 flX8_33 rfl (by assumption) (by assumption) ?_
    refine g_getIN 4 dX8_blob_9 fnX8_93 rfl (by assumption) ?_
    refine g_icmp_ge 27 dX8_blob_12 (by decide) (fun h12 => ?_) (fun h12 => ?_)
    · skip
      refine g_iconst dX8_blob_27 (by decide) ?_
      refine g_ireturn dX8_blob_28 rfl ?_
      refine ⟨?_, rfl, rfl, rfl⟩
      unfold bo_ans
      rw [if_pos (by omega)]
    · skip
      refine g_iload_n dX8_blob_15 rfl ?_
      refine g_aload_n dX8_blob_16 rfl ?_
      refine g_getR 3 dX8_blob_17 flX8_33 rfl (by assumption) (by assumption) ?_
      refine g_getRN 0 dX8_blob_20 fnX8_129 rfl (by assumption) (by assumption) ?_
      refine g_alen _ dX8_blob_23 (by omega) (by assumption) (by decide) ?_
      refine g_icmp_lt 29 dX8_blob_24 (by decide) (fun h24 => ?_) (fun h24 => ?_)
      · skip
        have hb31 : b < 31 := by omega
        obtain ⟨hbr, hbk⟩ := hE b (by omega) hb31
        have hbb := hbo b (by omega) (by omega)
        refine g_aload_n dX8_blob_29 rfl ?_
        refine g_getR 3 dX8_blob_30 flX8_33 rfl (by assumption) (by assumption) ?_
        refine g_getRN 0 dX8_blob_33 fnX8_129 rfl (by assumption) (by assumption) ?_
        refine g_iload_n dX8_blob_36 rfl ?_
        refine g_aaload dX8_blob_37 (by assumption) (by decide) (by decide) (by omega) (by omega) (by assumption) ?_
        refine n_astore_n (lN := [_, _, _, _]) dX8_blob_38 (by decide) rfl ?_
        refine g_iload_n dX8_blob_39 rfl ?_
        rcases (show w < 0 ∨ 9 < w ∨ w = 0 ∨ w = 1 ∨ w = 2 ∨ w = 3 ∨ w = 4 ∨ w = 5 ∨ w = 6 ∨ w = 7 ∨ w = 8 ∨ w = 9 by omega) with hsw | hsw | hsw | hsw | hsw | hsw | hsw | hsw | hsw | hsw | hsw | hsw
        · skip
          refine g_tableOut 185 dX8_blob_40 (by omega) (by decide) ?_
          refine g_iconst dX8_blob_185 (by decide) ?_
          refine g_ireturn dX8_blob_186 rfl ?_
          refine ⟨?_, rfl, rfl, rfl⟩
          unfold bo_ans
          rw [if_neg (by omega), if_neg (by omega), if_neg (by omega), if_neg (by omega), if_neg (by omega), if_neg (by omega), if_neg (by omega), if_neg (by omega), if_neg (by omega), if_neg (by omega), if_neg (by omega)]
        · skip
          refine g_tableOut 185 dX8_blob_40 (by omega) (by decide) ?_
          refine g_iconst dX8_blob_185 (by decide) ?_
          refine g_ireturn dX8_blob_186 rfl ?_
          refine ⟨?_, rfl, rfl, rfl⟩
          unfold bo_ans
          rw [if_neg (by omega), if_neg (by omega), if_neg (by omega), if_neg (by omega), if_neg (by omega), if_neg (by omega), if_neg (by omega), if_neg (by omega), if_neg (by omega), if_neg (by omega), if_neg (by omega)]
        · skip
          refine g_tableIn 96 dX8_blob_40 (by omega) (by omega) (by rw [hsw]; rfl) (by decide) ?_
          refine g_aload_n dX8_blob_96 rfl ?_
          refine g_getIN 0 dX8_blob_97 fnX8_133 rfl (by assumption) ?_
          refine g_ireturn dX8_blob_100 rfl ?_
          refine ⟨?_, rfl, rfl, rfl⟩
          unfold bo_ans
          rw [if_neg (by omega), if_pos (by omega)]
        · skip
          refine g_tableIn 101 dX8_blob_40 (by omega) (by omega) (by rw [hsw]; rfl) (by decide) ?_
          refine g_aload_n dX8_blob_101 rfl ?_
          refine g_getIN 1 dX8_blob_102 fnX8_138 rfl (by assumption) ?_
          refine g_ireturn dX8_blob_105 rfl ?_
          refine ⟨?_, rfl, rfl, rfl⟩
          unfold bo_ans
          rw [if_neg (by omega), if_neg (by omega), if_pos (by omega)]
        · skip
          refine g_tableIn 106 dX8_blob_40 (by omega) (by omega) (by rw [hsw]; rfl) (by decide) ?_
          refine g_aload_n dX8_blob_106 rfl ?_
          refine g_getIN 3 dX8_blob_107 fnX8_141 rfl (by assumption) ?_
          refine g_ireturn dX8_blob_110 rfl ?_
          refine ⟨?_, rfl, rfl, rfl⟩
          unfold bo_ans
          rw [if_neg (by omega), if_neg (by omega), if_neg (by omega), if_pos (by omega)]
        · skip
          refine g_tableIn 111 dX8_blob_40 (by omega) (by omega) (by rw [hsw]; rfl) (by decide) ?_
          refine g_aload_n dX8_blob_111 rfl ?_
          refine g_getIN 4 dX8_blob_112 fnX8_144 rfl (by assumption) ?_
          refine g_ireturn dX8_blob_115 rfl ?_
          refine ⟨?_, rfl, rfl, rfl⟩
          unfold bo_ans
          rw [if_neg (by omega), if_neg (by omega), if_neg (by omega), if_neg (by omega), if_pos (by omega)]
        · skip
          refine g_tableIn 116 dX8_blob_40 (by omega) (by omega) (by rw [hsw]; rfl) (by decide) ?_
          refine g_aload_n dX8_blob_116 rfl ?_
          refine g_getIN 5 dX8_blob_117 fnX8_147 rfl (by assumption) ?_
          refine g_ireturn dX8_blob_120 rfl ?_
          refine ⟨?_, rfl, rfl, rfl⟩
          unfold bo_ans
          rw [if_neg (by omega), if_neg (by omega), if_neg (by omega), if_neg (by omega), if_neg (by omega), if_pos (by omega)]
        · skip
          refine g_tableIn 121 dX8_blob_40 (by omega) (by omega) (by rw [hsw]; rfl) (by decide) ?_
          refine g_aload_n dX8_blob_121 rfl ?_
          refine g_cVi [] dX8_blob_122 mlX8_150 mvX0_mean (by decide) (by assumption) (by decide) rfl rfl (Nat.le_of_ble_eq_true rfl) rfl (Nat.le_of_ble_eq_true rfl) (c_mean hbk (hbb 6 (by decide) (by decide))) ?_
          refine g_ireturn dX8_blob_125 rfl ?_
          refine ⟨?_, rfl, rfl, rfl⟩
          unfold bo_ans
          rw [if_neg (by omega), if_neg (by omega), if_neg (by omega), if_neg (by omega), if_neg (by omega), if_neg (by omega), if_pos (by omega)]
        · skip
          refine g_tableIn 126 dX8_blob_40 (by omega) (by omega) (by rw [hsw]; rfl) (by decide) ?_
          refine g_aload_n dX8_blob_126 rfl ?_
          refine g_getIN 7 dX8_blob_127 fnX8_154 rfl (by assumption) ?_
          refine g_ireturn dX8_blob_130 rfl ?_
          refine ⟨?_, rfl, rfl, rfl⟩
          unfold bo_ans
          rw [if_neg (by omega), if_neg (by omega), if_neg (by omega), if_neg (by omega), if_neg (by omega), if_neg (by omega), if_neg (by omega), if_pos (by omega)]
        · skip
          refine g_tableIn 131 dX8_blob_40 (by omega) (by omega) (by rw [hsw]; rfl) (by decide) ?_
          refine g_aload_n dX8_blob_131 rfl ?_
          refine g_getR 4 dX8_blob_132 flX8_40 rfl (by assumption) (by assumption) ?_
          refine g_getRN 0 dX8_blob_135 fnX8_157 rfl (by assumption) (by assumption) ?_
          refine g_iload_n dX8_blob_138 rfl ?_
          refine g_iaload dX8_blob_139 (by assumption) (by omega) (by omega) ?_
          refine g_ireturn dX8_blob_140 rfl ?_
          refine ⟨?_, rfl, rfl, rfl⟩
          unfold bo_ans
          rw [if_neg (by omega), if_neg (by omega), if_neg (by omega), if_neg (by omega), if_neg (by omega), if_neg (by omega), if_neg (by omega), if_neg (by omega), if_pos (by omega)]
        · skip
          refine g_tableIn 141 dX8_blob_40 (by omega) (by omega) (by rw [hsw]; rfl) (by decide) ?_
          refine g_aload_n dX8_blob_141 rfl ?_
          refine g_getR 4 dX8_blob_142 flX8_40 rfl (by assumption) (by assumption) ?_
          refine g_iload_n dX8_blob_145 rfl ?_
          refine g_cVi [_] dX8_blob_146 mlX8_160 mvX7_isBad (by decide) (by exact hV1.1) (by decide) rfl rfl (Nat.le_of_ble_eq_true rfl) rfl (Nat.le_of_ble_eq_true rfl) (c_isBad hV1 b (zb (gi (79 + 1) b ≠ -4)) (by omega) (zb_q _)) ?_
          refine g_if_eq 167 dX8_blob_149 (by decide) (fun h149 => ?_) (fun h149 => ?_)
          · skip
            refine g_iconst dX8_blob_167 (by decide) ?_
            refine g_cSi [_] dX8_blob_168 mlX8_167 msX8_asFlag (by decide) rfl rfl (Nat.le_of_ble_eq_true rfl) rfl (Nat.le_of_ble_eq_true rfl) (c_asFlag 0 (by omega)) ?_
            refine g_ireturn dX8_blob_171 rfl ?_
            refine ⟨?_, rfl, rfl, rfl⟩
            unfold bo_ans
            rw [if_neg (by omega), if_neg (by omega), if_neg (by omega), if_neg (by omega), if_neg (by omega), if_neg (by omega), if_neg (by omega), if_neg (by omega), if_neg (by omega), if_pos (by omega)]
            rw [(zb_q _).2 (fun q => (zb_q (gi (79 + 1) b ≠ -4)).no (by assumption) q.1)]
          · skip
            refine g_aload_n dX8_blob_152 rfl ?_
            refine g_getR 7 dX8_blob_153 flX8_54 rfl (by assumption) (by assumption) ?_
            refine g_aload_n dX8_blob_156 rfl ?_
            refine g_cVi [_] dX8_blob_157 mlX8_163 mvX3_isLate (by decide) (by exact kp0) (by decide) rfl rfl (Nat.le_of_ble_eq_true rfl) rfl (Nat.le_of_ble_eq_true rfl) (c_isLate kp0 hbk (hbb 1 (by decide) (by decide)) (hbb 0 (by decide) (by decide)) ⟨hp5.1.1, by omega⟩ ⟨hp5.2.1, by omega⟩ (zb (gi (32 + b) 0 + gi la 5 - gi la 6 < gi (32 + b) 1 + 1)) (zb_q _).1 (zb_q _).2) ?_
            refine g_if_eq 167 dX8_blob_160 (by decide) (fun h160 => ?_) (fun h160 => ?_)
            · skip
              refine g_iconst dX8_blob_167 (by decide) ?_
              refine g_cSi [_] dX8_blob_168 mlX8_167 msX8_asFlag (by decide) rfl rfl (Nat.le_of_ble_eq_true rfl) rfl (Nat.le_of_ble_eq_true rfl) (c_asFlag 0 (by omega)) ?_
              refine g_ireturn dX8_blob_171 rfl ?_
              refine ⟨?_, rfl, rfl, rfl⟩
              unfold bo_ans
              rw [if_neg (by omega), if_neg (by omega), if_neg (by omega), if_neg (by omega), if_neg (by omega), if_neg (by omega), if_neg (by omega), if_neg (by omega), if_neg (by omega), if_pos (by omega)]
              rw [(zb_q _).2 (fun q => (zb_q (gi (32 + b) 0 + gi la 5 - gi la 6 < gi (32 + b) 1 + 1)).no (by assumption) q.2)]
            · skip
              refine g_iconst dX8_blob_163 (by decide) ?_
              refine g_goto 168 dX8_blob_164 (by decide) ?_
              refine g_cSi [_] dX8_blob_168 mlX8_167 msX8_asFlag (by decide) rfl rfl (Nat.le_of_ble_eq_true rfl) rfl (Nat.le_of_ble_eq_true rfl) (c_asFlag 1 (by omega)) ?_
              refine g_ireturn dX8_blob_171 rfl ?_
              refine ⟨?_, rfl, rfl, rfl⟩
              unfold bo_ans
              rw [if_neg (by omega), if_neg (by omega), if_neg (by omega), if_neg (by omega), if_neg (by omega), if_neg (by omega), if_neg (by omega), if_neg (by omega), if_neg (by omega), if_pos (by omega)]
              rw [(zb_q _).1 ⟨(zb_q (gi (79 + 1) b ≠ -4)).yes (by assumption), (zb_q (gi (32 + b) 0 + gi la 5 - gi la 6 < gi (32 + b) 1 + 1)).yes (by assumption)⟩]
        · skip
          refine g_tableIn 172 dX8_blob_40 (by omega) (by omega) (by rw [hsw]; rfl) (by decide) ?_
          refine g_aload_n dX8_blob_172 rfl ?_
          refine g_getR 4 dX8_blob_173 flX8_40 rfl (by assumption) (by assumption) ?_
          refine g_getRN 1 dX8_blob_176 fnX8_171 rfl (by assumption) (by assumption) ?_
          refine g_iload_n dX8_blob_179 rfl ?_
          refine g_baload dX8_blob_180 (by assumption) (by omega) (by omega) ?_
          refine g_cSi [_] dX8_blob_181 mlX8_167 msX8_asFlag (by decide) rfl rfl (Nat.le_of_ble_eq_true rfl) rfl (Nat.le_of_ble_eq_true rfl) (c_asFlag (gi (79 + 2) b) (hc.bw b (by omega) (by omega))) ?_
          refine g_ireturn dX8_blob_184 rfl ?_
          refine ⟨?_, rfl, rfl, rfl⟩
          unfold bo_ans
          rw [if_neg (by omega), if_neg (by omega), if_neg (by omega), if_neg (by omega), if_neg (by omega), if_neg (by omega), if_neg (by omega), if_neg (by omega), if_neg (by omega), if_neg (by omega), if_pos (by omega)]
      · exfalso; omega

end COMP8
