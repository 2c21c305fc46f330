/-! the model asked -/
theorem zb_nn {P : Prop} (h : ¬ zb P ≠ 0) : ¬ P := (zb_q P).no (Classical.byContradiction h)
section MD13
variable {gi gl : gF} {sh : gSh} {pl kn nu nm ln r bb bw : gRw} {er : Int → gRw} {ec T b : Int} {S : fS}
/-- an answer, and nothing but what asking may change -/
def AK (x : Int) (gi gl : gF) (sh : gSh) : gQ := fun r g' gl' sh' => r = some (vI x) ∧ gl' = gl ∧ sh' = sh ∧ FA gi g'

set_option maxRecDepth 20000 in
set_option maxHeartbeats 1000000 in
theorem m_isRuleThere (hM : isMd sh) (k R z : Int) (hR : gi 190 1 = R) (hR0 : 0 ≤ R ∧ R ≤ 4) (hz : Zq (0 ≤ k ∧ k < R) z) : Ct mdX9_isRuleThere 0 0 [vR 190, vI k] gi gl sh (Rt (some (vI z)) gi gl sh) := by
  show Go mdX9_isRuleThere 0 0 0 [some (vR 190), some (vI k)] [] gi gl sh _
  have hzb := hz.b
  refine g_iload_n dX9_isRuleThere_0 rfl ?_
  refine g_i2l dX9_isRuleThere_1 ?_
  refine g_lconst 0 dX9_isRuleThere_2 (by decide) (by decide) ?_
  refine g_aload_n dX9_isRuleThere_3 rfl ?_
  refine g_getI 1 dX9_isRuleThere_4 flX9_88 rfl hM.o ?_
  refine g_iconst dX9_isRuleThere_7 (by decide) ?_
  refine g_isub dX9_isRuleThere_8 (by omega) (by omega) ?_
  refine g_i2l dX9_isRuleThere_9 ?_
  refine g_cSi [_, _, _] dX9_isRuleThere_10 mlX9_106 msX9_within (by decide) rfl rfl (Nat.le_of_ble_eq_true rfl) rfl (Nat.le_of_ble_eq_true rfl) (m_within _ _ _ z ⟨fun w => hz.1 (by omega), fun w => hz.2 (fun v => w (by omega))⟩) ?_
  refine g_zreturn dX9_isRuleThere_13 rfl (by omega) ?_
  exact ⟨rfl, rfl, rfl, rfl⟩

set_option maxRecDepth 20000 in
set_option maxHeartbeats 1000000 in
theorem m_isValve (hM : isMd sh) (k R z : Int) (hR : gi 191 1 = R) (hR0 : 0 ≤ R ∧ R ≤ 16) (hz : Zq (0 ≤ k ∧ k < R) z) : Ct mdX9_isValve 0 0 [vR 190, vI k] gi gl sh (Rt (some (vI z)) gi gl sh) := by
  show Go mdX9_isValve 0 0 0 [some (vR 190), some (vI k)] [] gi gl sh _
  have hzb := hz.b
  refine g_iload_n dX9_isValve_0 rfl ?_
  refine g_i2l dX9_isValve_1 ?_
  refine g_lconst 0 dX9_isValve_2 (by decide) (by decide) ?_
  refine g_aload_n dX9_isValve_3 rfl ?_
  refine g_getR 0 dX9_isValve_4 flX9_7 rfl hM.o hM.r0 ?_
  refine g_iconst dX9_isValve_7 (by decide) ?_
  refine g_iaload dX9_isValve_8 hM.k191 (by omega) (hM.b191 (by omega)) ?_
  refine g_iconst dX9_isValve_9 (by decide) ?_
  refine g_isub dX9_isValve_10 (by omega) (by omega) ?_
  refine g_i2l dX9_isValve_11 ?_
  refine g_cSi [_, _, _] dX9_isValve_12 mlX9_106 msX9_within (by decide) rfl rfl (Nat.le_of_ble_eq_true rfl) rfl (Nat.le_of_ble_eq_true rfl) (m_within _ _ _ z ⟨fun w => hz.1 (by omega), fun w => hz.2 (fun v => w (by omega))⟩) ?_
  refine g_zreturn dX9_isValve_15 rfl (by omega) ?_
  exact ⟨rfl, rfl, rfl, rfl⟩

set_option maxRecDepth 20000 in
set_option maxHeartbeats 1000000 in
theorem m_isLate (hM : isMd sh) (hr : rwB gi b r) (hP : MP gi pl kn) (hpo : v_pok pl) (z : Int) (hz : Zq (gi 212 b ≠ -4 ∧ r 0 + pl 5 - pl 6 < r 1 + 1) z) : Ct mdX9_isLate 0 0 [vR 190, vI b] gi gl sh (Rt (some (vI z)) gi gl sh) := by
  show Go mdX9_isLate 0 0 0 [some (vR 190), some (vI b)] [] gi gl sh _
  obtain ⟨e0, e1, e3, e4, e5, e6, e7⟩ := hr.e
  have hb := hr.1
  refine g_aload_n dX9_isLate_0 rfl ?_
  refine g_getR 29 dX9_isLate_1 flX9_74 rfl hM.o hM.r29 ?_
  refine g_iload_n dX9_isLate_4 rfl ?_
  refine g_iaload dX9_isLate_5 hM.k212 (by omega) (hM.b212 (by omega)) ?_
  refine g_bipush dX9_isLate_6 (by decide) (by decide) ?_
  refine g_icmp_eq 29 dX9_isLate_8 (by decide) (fun h8 => ?_) (fun h8 => ?_)
  · skip
    refine g_iconst dX9_isLate_29 (by decide) ?_
    refine g_zreturn dX9_isLate_30 rfl (by decide) ?_
    exact ⟨by first | (rw [hz.1 (by omega)]; done) | (rw [hz.2 (by omega)]; done), rfl, rfl, rfl⟩
  · skip
    refine g_aload_n dX9_isLate_11 rfl ?_
    refine g_iload_n dX9_isLate_12 rfl ?_
    refine g_cVi [_] dX9_isLate_13 mlX9_208 mvX9_wanted (by decide) hM.o (by decide) rfl rfl (Nat.le_of_ble_eq_true rfl) rfl (Nat.le_of_ble_eq_true rfl) (m_wanted hM hr hP hpo) ?_
    refine g_aload_n dX9_isLate_16 rfl ?_
    refine g_getR 20 dX9_isLate_17 flX9_47 rfl hM.o hM.r20 ?_
    refine g_iload_n dX9_isLate_20 rfl ?_
    refine g_iaload dX9_isLate_21 hM.k203 (by omega) (hM.b203 (by omega)) ?_
    rw [e1]
    refine g_icmp_gt 29 dX9_isLate_22 (by decide) (fun h22 => ?_) (fun h22 => ?_)
    · skip
      refine g_iconst dX9_isLate_29 (by decide) ?_
      refine g_zreturn dX9_isLate_30 rfl (by decide) ?_
      exact ⟨by first | (rw [hz.1 (by omega)]; done) | (rw [hz.2 (by omega)]; done), rfl, rfl, rfl⟩
    · skip
      refine g_iconst dX9_isLate_25 (by decide) ?_
      refine g_goto 30 dX9_isLate_26 (by decide) ?_
      refine g_zreturn dX9_isLate_30 rfl (by decide) ?_
      exact ⟨by first | (rw [hz.1 (by omega)]; done) | (rw [hz.2 (by omega)]; done), rfl, rfl, rfl⟩

noncomputable def tb_ans (bv wv : Int) (pl r : gRw) (w : Int) : Int := if w = 0 then r 0 else if w = 1 then r 1 else if w = 2 then r 3 else if w = 3 then r 4 else if w = 4 then r 5 else if w = 5 then bl_mean r else if w = 6 then r 7 else if w = 7 then bv else if w = 8 then zb (bv ≠ -4 ∧ r 0 + pl 5 - pl 6 < r 1 + 1) else wv
set_option maxRecDepth 20000 in
set_option maxHeartbeats 1000000 in
theorem m_tellBlob (hM : isMd sh) (hr : rwB gi b r) (hP : MP gi pl kn) (hpo : v_pok pl) (w : Int) (hw : 0 ≤ w ∧ w ≤ 9) (h01 : gi 214 b = 0 ∨ gi 214 b = 1) : Ct mdX9_tellBlob 0 0 [vR 190, vI b, vI w] gi gl sh (Rt (some (vI (tb_ans (gi 212 b) (gi 214 b) pl r w))) gi gl sh) := by
  show Go mdX9_tellBlob 0 0 0 [some (vR 190), some (vI b), some (vI w)] [] gi gl sh _
  obtain ⟨e0, e1, e3, e4, e5, e6, e7⟩ := hr.e
  have hb := hr.1
  have k6 := hr.2.2.1 6 (by decide) (by decide)
  have k5 := hr.2.2.2.2.2.2.2.1
  refine g_iload_n dX9_tellBlob_0 rfl ?_
  rcases (show w < 0 ∨ 8 < w ∨ w = 0 ∨ w = 1 ∨ w = 2 ∨ w = 3 ∨ w = 4 ∨ w = 5 ∨ w = 6 ∨ w = 7 ∨ w = 8 by omega) with hsw | hsw | hsw | hsw | hsw | hsw | hsw | hsw | hsw | hsw | hsw
  · skip
    refine g_tableOut 129 dX9_tellBlob_1 (by omega) (by decide) ?_
    refine g_aload_n dX9_tellBlob_129 rfl ?_
    refine g_getR 31 dX9_tellBlob_130 flX9_81 rfl hM.o hM.r31 ?_
    refine g_iload_n dX9_tellBlob_133 rfl ?_
    refine g_baload dX9_tellBlob_134 hM.k214 (by omega) (hM.b214 (by omega)) ?_
    refine g_if_eq 142 dX9_tellBlob_135 (by decide) (fun h135 => ?_) (fun h135 => ?_)
    · skip
      refine g_iconst dX9_tellBlob_142 (by decide) ?_
      refine g_ireturn dX9_tellBlob_143 rfl ?_
      refine ⟨?_, rfl, rfl, rfl⟩
      unfold tb_ans
      rw [if_neg (by omega), if_neg (by omega), if_neg (by omega), if_neg (by omega), if_neg (by omega), if_neg (by omega), if_neg (by omega), if_neg (by omega), if_neg (by omega)]
      congr 2
      omega
    · skip
      refine g_iconst dX9_tellBlob_138 (by decide) ?_
      refine g_goto 143 dX9_tellBlob_139 (by decide) ?_
      refine g_ireturn dX9_tellBlob_143 rfl ?_
      refine ⟨?_, rfl, rfl, rfl⟩
      unfold tb_ans
      rw [if_neg (by omega), if_neg (by omega), if_neg (by omega), if_neg (by omega), if_neg (by omega), if_neg (by omega), if_neg (by omega), if_neg (by omega), if_neg (by omega)]
      congr 2
      omega
  · skip
    refine g_tableOut 129 dX9_tellBlob_1 (by omega) (by decide) ?_
    refine g_aload_n dX9_tellBlob_129 rfl ?_
    refine g_getR 31 dX9_tellBlob_130 flX9_81 rfl hM.o hM.r31 ?_
    refine g_iload_n dX9_tellBlob_133 rfl ?_
    refine g_baload dX9_tellBlob_134 hM.k214 (by omega) (hM.b214 (by omega)) ?_
    refine g_if_eq 142 dX9_tellBlob_135 (by decide) (fun h135 => ?_) (fun h135 => ?_)
    · skip
      refine g_iconst dX9_tellBlob_142 (by decide) ?_
      refine g_ireturn dX9_tellBlob_143 rfl ?_
      refine ⟨?_, rfl, rfl, rfl⟩
      unfold tb_ans
      rw [if_neg (by omega), if_neg (by omega), if_neg (by omega), if_neg (by omega), if_neg (by omega), if_neg (by omega), if_neg (by omega), if_neg (by omega), if_neg (by omega)]
      congr 2
      omega
    · skip
      refine g_iconst dX9_tellBlob_138 (by decide) ?_
      refine g_goto 143 dX9_tellBlob_139 (by decide) ?_
      refine g_ireturn dX9_tellBlob_143 rfl ?_
      refine ⟨?_, rfl, rfl, rfl⟩
      unfold tb_ans
      rw [if_neg (by omega), if_neg (by omega), if_neg (by omega), if_neg (by omega), if_neg (by omega), if_neg (by omega), if_neg (by omega), if_neg (by omega), if_neg (by omega)]
      congr 2
      omega
  · skip
    refine g_tableIn 52 dX9_tellBlob_1 (by omega) (by omega) (by rw [hsw]; rfl) (by decide) ?_
    refine g_aload_n dX9_tellBlob_52 rfl ?_
    refine g_getR 19 dX9_tellBlob_53 flX9_44 rfl hM.o hM.r19 ?_
    refine g_iload_n dX9_tellBlob_56 rfl ?_
    refine g_iaload dX9_tellBlob_57 hM.k202 (by omega) (hM.b202 (by omega)) ?_
    refine g_ireturn dX9_tellBlob_58 rfl ?_
    refine ⟨?_, rfl, rfl, rfl⟩
    subst hsw
    unfold tb_ans
    rw [if_pos rfl, e0]
  · skip
    refine g_tableIn 59 dX9_tellBlob_1 (by omega) (by omega) (by rw [hsw]; rfl) (by decide) ?_
    refine g_aload_n dX9_tellBlob_59 rfl ?_
    refine g_getR 20 dX9_tellBlob_60 flX9_47 rfl hM.o hM.r20 ?_
    refine g_iload_n dX9_tellBlob_63 rfl ?_
    refine g_iaload dX9_tellBlob_64 hM.k203 (by omega) (hM.b203 (by omega)) ?_
    refine g_ireturn dX9_tellBlob_65 rfl ?_
    refine ⟨?_, rfl, rfl, rfl⟩
    subst hsw
    unfold tb_ans
    rw [if_neg (by decide), if_pos rfl, e1]
  · skip
    refine g_tableIn 66 dX9_tellBlob_1 (by omega) (by omega) (by rw [hsw]; rfl) (by decide) ?_
    refine g_aload_n dX9_tellBlob_66 rfl ?_
    refine g_getR 22 dX9_tellBlob_67 flX9_53 rfl hM.o hM.r22 ?_
    refine g_iload_n dX9_tellBlob_70 rfl ?_
    refine g_iaload dX9_tellBlob_71 hM.k205 (by omega) (hM.b205 (by omega)) ?_
    refine g_ireturn dX9_tellBlob_72 rfl ?_
    refine ⟨?_, rfl, rfl, rfl⟩
    subst hsw
    unfold tb_ans
    rw [if_neg (by decide), if_neg (by decide), if_pos rfl, e3]
  · skip
    refine g_tableIn 73 dX9_tellBlob_1 (by omega) (by omega) (by rw [hsw]; rfl) (by decide) ?_
    refine g_aload_n dX9_tellBlob_73 rfl ?_
    refine g_getR 23 dX9_tellBlob_74 flX9_56 rfl hM.o hM.r23 ?_
    refine g_iload_n dX9_tellBlob_77 rfl ?_
    refine g_iaload dX9_tellBlob_78 hM.k206 (by omega) (hM.b206 (by omega)) ?_
    refine g_ireturn dX9_tellBlob_79 rfl ?_
    refine ⟨?_, rfl, rfl, rfl⟩
    subst hsw
    unfold tb_ans
    rw [if_neg (by decide), if_neg (by decide), if_neg (by decide), if_pos rfl, e4]
  · skip
    refine g_tableIn 80 dX9_tellBlob_1 (by omega) (by omega) (by rw [hsw]; rfl) (by decide) ?_
    refine g_aload_n dX9_tellBlob_80 rfl ?_
    refine g_getR 24 dX9_tellBlob_81 flX9_59 rfl hM.o hM.r24 ?_
    refine g_iload_n dX9_tellBlob_84 rfl ?_
    refine g_iaload dX9_tellBlob_85 hM.k207 (by omega) (hM.b207 (by omega)) ?_
    refine g_ireturn dX9_tellBlob_86 rfl ?_
    refine ⟨?_, rfl, rfl, rfl⟩
    subst hsw
    unfold tb_ans
    rw [if_neg (by decide), if_neg (by decide), if_neg (by decide), if_neg (by decide), if_pos rfl, e5]
  · skip
    refine g_tableIn 87 dX9_tellBlob_1 (by omega) (by omega) (by rw [hsw]; rfl) (by decide) ?_
    refine g_aload_n dX9_tellBlob_87 rfl ?_
    refine g_getR 25 dX9_tellBlob_88 flX9_62 rfl hM.o hM.r25 ?_
    refine g_iload_n dX9_tellBlob_91 rfl ?_
    refine g_iaload dX9_tellBlob_92 hM.k208 (by omega) (hM.b208 (by omega)) ?_
    refine g_aload_n dX9_tellBlob_93 rfl ?_
    refine g_getR 24 dX9_tellBlob_94 flX9_59 rfl hM.o hM.r24 ?_
    refine g_iload_n dX9_tellBlob_97 rfl ?_
    refine g_iaload dX9_tellBlob_98 hM.k207 (by omega) (hM.b207 (by omega)) ?_
    refine g_idiv dX9_tellBlob_99 (by omega) (by omega) ?_
    refine g_ireturn dX9_tellBlob_100 rfl ?_
    refine ⟨?_, rfl, rfl, rfl⟩
    subst hsw
    unfold tb_ans
    rw [if_neg (by decide), if_neg (by decide), if_neg (by decide), if_neg (by decide), if_neg (by decide), if_pos rfl, e5, e6]
    unfold bl_mean
    rw [if_pos (by omega)]
  · skip
    refine g_tableIn 101 dX9_tellBlob_1 (by omega) (by omega) (by rw [hsw]; rfl) (by decide) ?_
    refine g_aload_n dX9_tellBlob_101 rfl ?_
    refine g_getR 26 dX9_tellBlob_102 flX9_65 rfl hM.o hM.r26 ?_
    refine g_iload_n dX9_tellBlob_105 rfl ?_
    refine g_iaload dX9_tellBlob_106 hM.k209 (by omega) (hM.b209 (by omega)) ?_
    refine g_ireturn dX9_tellBlob_107 rfl ?_
    refine ⟨?_, rfl, rfl, rfl⟩
    subst hsw
    unfold tb_ans
    rw [if_neg (by decide), if_neg (by decide), if_neg (by decide), if_neg (by decide), if_neg (by decide), if_neg (by decide), if_pos rfl, e7]
  · skip
    refine g_tableIn 108 dX9_tellBlob_1 (by omega) (by omega) (by rw [hsw]; rfl) (by decide) ?_
    refine g_aload_n dX9_tellBlob_108 rfl ?_
    refine g_getR 29 dX9_tellBlob_109 flX9_74 rfl hM.o hM.r29 ?_
    refine g_iload_n dX9_tellBlob_112 rfl ?_
    refine g_iaload dX9_tellBlob_113 hM.k212 (by omega) (hM.b212 (by omega)) ?_
    refine g_ireturn dX9_tellBlob_114 rfl ?_
    refine ⟨?_, rfl, rfl, rfl⟩
    subst hsw
    unfold tb_ans
    rw [if_neg (by decide), if_neg (by decide), if_neg (by decide), if_neg (by decide), if_neg (by decide), if_neg (by decide), if_neg (by decide), if_pos rfl]
  · skip
    refine g_tableIn 115 dX9_tellBlob_1 (by omega) (by omega) (by rw [hsw]; rfl) (by decide) ?_
    refine g_aload_n dX9_tellBlob_115 rfl ?_
    refine g_iload_n dX9_tellBlob_116 rfl ?_
    refine g_cVi [_] dX9_tellBlob_117 mlX9_230 mvX9_isLate (by decide) hM.o (by decide) rfl rfl (Nat.le_of_ble_eq_true rfl) rfl (Nat.le_of_ble_eq_true rfl) (m_isLate hM hr hP hpo (zb (gi 212 b ≠ -4 ∧ r 0 + pl 5 - pl 6 < r 1 + 1)) (zb_q _)) ?_
    refine g_if_eq 127 dX9_tellBlob_120 (by decide) (fun h120 => ?_) (fun h120 => ?_)
    · skip
      refine g_iconst dX9_tellBlob_127 (by decide) ?_
      refine g_ireturn dX9_tellBlob_128 rfl ?_
      refine ⟨?_, rfl, rfl, rfl⟩
      subst hsw
      unfold tb_ans
      rw [if_neg (by decide), if_neg (by decide), if_neg (by decide), if_neg (by decide), if_neg (by decide), if_neg (by decide), if_neg (by decide), if_neg (by decide), if_pos rfl]
      rw [h120]
    · skip
      refine g_iconst dX9_tellBlob_123 (by decide) ?_
      refine g_goto 128 dX9_tellBlob_124 (by decide) ?_
      refine g_ireturn dX9_tellBlob_128 rfl ?_
      refine ⟨?_, rfl, rfl, rfl⟩
      subst hsw
      unfold tb_ans
      rw [if_neg (by decide), if_neg (by decide), if_neg (by decide), if_neg (by decide), if_neg (by decide), if_neg (by decide), if_neg (by decide), if_neg (by decide), if_pos rfl]
      rw [(zb_q _).1 ((zb_q _).yes h120)]

noncomputable def pb_ans (er : Int → gRw) (pl kn nm : gRw) (ec b w : Int) : Int := if (0 ≤ b ∧ b < ec) ∧ 0 ≤ w ∧ w ≤ 9 then tb_ans (v_rule pl kn nm (er b)) (jb er pl kn nm ec.toNat b) pl (er b) w else -1
set_option maxRecDepth 20000 in
set_option maxHeartbeats 1000000 in
theorem m_blob (hM : isMd sh) (hN : MN gi gl pl kn T ln nm) (hFS : FS (clo (pl 3) ln) (pl 8) T S er ec) (w : Int) : Ct mdX9_blob 0 0 [vR 190, vI b, vI w] gi gl sh (AK (pb_ans er pl kn nm ec b w) gi gl sh) := by
  show Go mdX9_blob 0 0 0 [some (vR 190), some (vI b), some (vI w)] [] gi gl sh _
  refine g_aload_n dX9_blob_0 rfl ?_
  refine g_callV_v [] dX9_blob_1 mlX9_233 mvX9_judgesNow (by decide) hM.o (by decide) rfl rfl (Nat.le_of_ble_eq_true rfl) rfl (Nat.le_of_ble_eq_true rfl) (m_judgesNow hM hN hFS) (fun _ _ _ _ q => q.1) (fun g1 l1 s1 q w1 w2 => ?_)
  obtain ⟨-, q2, q3, f1, H, J⟩ := q
  subst q2 q3
  refine g_iload_n dX9_blob_4 rfl ?_
  refine g_i2l dX9_blob_5 ?_
  refine g_lconst 0 dX9_blob_6 (by decide) (by decide) ?_
  refine g_aload_n dX9_blob_7 rfl ?_
  refine g_getI 16 dX9_blob_8 flX9_157 rfl hM.o ?_
  have e16 : g1 190 16 = ec := H.1.1
  have hec := H.1.2.1
  refine g_iconst dX9_blob_11 (by decide) ?_
  refine g_isub dX9_blob_12 (by omega) (by omega) ?_
  refine g_i2l dX9_blob_13 ?_
  refine g_cSi [_, _, _] dX9_blob_14 mlX9_106 msX9_within (by decide) rfl rfl (Nat.le_of_ble_eq_true rfl) rfl (Nat.le_of_ble_eq_true rfl) (m_within _ _ _ _ (zb_q _)) ?_
  refine g_if_eq 46 dX9_blob_17 (by decide) (fun h17 => ?_) (fun h17 => ?_)
  · skip
    have c1 := (zb_q _).no h17
    refine g_iconst dX9_blob_46 (by decide) ?_
    refine g_ireturn dX9_blob_47 rfl ?_
    refine ⟨?_, rfl, rfl, f1⟩
    unfold pb_ans
    rw [if_neg (fun v => c1 (by omega))]
  · skip
    have c1 := (zb_q _).yes h17
    refine g_iload_n dX9_blob_20 rfl ?_
    refine g_i2l dX9_blob_21 ?_
    refine g_lconst 0 dX9_blob_22 (by decide) (by decide) ?_
    refine g_ldc2 (n := 9) dX9_blob_23 cnX9_236 (by decide) ?_
    refine g_cSi [_, _, _] dX9_blob_26 mlX9_106 msX9_within (by decide) rfl rfl (Nat.le_of_ble_eq_true rfl) rfl (Nat.le_of_ble_eq_true rfl) (m_within _ _ _ _ (zb_q _)) ?_
    refine g_if_eq 46 dX9_blob_29 (by decide) (fun h29 => ?_) (fun h29 => ?_)
    · skip
      have c2 := (zb_q _).no h29
      refine g_iconst dX9_blob_46 (by decide) ?_
      refine g_ireturn dX9_blob_47 rfl ?_
      refine ⟨?_, rfl, rfl, f1⟩
      unfold pb_ans
      rw [if_neg (fun v => c2 (by omega))]
    · skip
      have c2 := (zb_q _).yes h29
      have rw1 := H.2.1 b (by omega) (by omega)
      have jd := J.1 b (by omega) (by omega)
      refine g_aload_n dX9_blob_32 rfl ?_
      refine g_aload_n dX9_blob_33 rfl ?_
      refine g_getR 27 dX9_blob_34 flX9_68 rfl hM.o hM.r27 ?_
      refine g_iload_n dX9_blob_37 rfl ?_
      refine g_iaload dX9_blob_38 hM.k210 (by omega) (hM.b210 (by omega)) ?_
      refine g_iload_n dX9_blob_39 rfl ?_
      refine g_cVi [_, _] dX9_blob_40 mlX9_238 mvX9_tellBlob (by decide) hM.o (by decide) rfl rfl (Nat.le_of_ble_eq_true rfl) rfl (Nat.le_of_ble_eq_true rfl) (m_tellBlob hM rw1 H.2.2.1 H.2.2.2.1 w (by omega) (by rw [jd.2]; exact jb_b _ _)) ?_
      refine g_goto 47 dX9_blob_43 (by decide) ?_
      refine g_ireturn dX9_blob_47 rfl ?_
      refine ⟨?_, rfl, rfl, f1⟩
      unfold pb_ans
      rw [if_pos (by omega), jd.1, jd.2]

def po_ans (S : fS) (w : Int) : Int := if w = 0 then f_cnt S.1 16 else if w = 1 then f_sum S.1 16 else -1
set_option maxRecDepth 20000 in
set_option maxHeartbeats 1000000 in
theorem m_open (hM : isMd sh) (hN : MN gi gl pl kn T ln nm) (hFS : FS (clo (pl 3) ln) (pl 8) T S er ec) (w : Int) : Ct mdX9_open 0 0 [vR 190, vI w] gi gl sh (AK (po_ans S w) gi gl sh) := by
  show Go mdX9_open 0 0 0 [some (vR 190), some (vI w)] [] gi gl sh _
  refine g_iload_n dX9_open_0 rfl ?_
  refine g_i2l dX9_open_1 ?_
  refine g_lconst 0 dX9_open_2 (by decide) (by decide) ?_
  refine g_lconst 1 dX9_open_3 (by decide) (by decide) ?_
  refine g_cSi [_, _, _] dX9_open_4 mlX9_106 msX9_within (by decide) rfl rfl (Nat.le_of_ble_eq_true rfl) rfl (Nat.le_of_ble_eq_true rfl) (m_within _ _ _ _ (zb_q _)) ?_
  refine g_if_ne 12 dX9_open_7 (by decide) (fun h7 => ?_) (fun h7 => ?_)
  · skip
    have c1 := (zb_q _).yes h7
    refine g_aload_n dX9_open_12 rfl ?_
    refine g_callV_v [] dX9_open_13 mlX9_151 mvX9_laysBlobs (by decide) hM.o (by decide) rfl rfl (Nat.le_of_ble_eq_true rfl) rfl (Nat.le_of_ble_eq_true rfl) (m_laysB hM hN hFS) (fun _ _ _ _ q => q.1) (fun g1 l1 s1 q w1 w2 => ?_)
    obtain ⟨-, q2, q3, f1, E, x1, x2, x3⟩ := q
    subst q2 q3
    have hec := E.2.1
    have e16 := E.1
    refine g_iload_n dX9_open_16 rfl ?_
    refine g_if_ne 32 dX9_open_17 (by decide) (fun h17 => ?_) (fun h17 => ?_)
    · skip
      refine g_aload_n dX9_open_32 rfl ?_
      refine g_getI 17 dX9_open_33 flX9_186 rfl hM.o ?_
      refine g_ireturn dX9_open_36 rfl ?_
      refine ⟨?_, rfl, rfl, f1.fa⟩
      unfold po_ans
      rw [if_neg (by omega), if_pos (by omega), x2]
    · skip
      refine g_aload_n dX9_open_20 rfl ?_
      refine g_getI 15 dX9_open_21 flX9_176 rfl hM.o ?_
      refine g_aload_n dX9_open_24 rfl ?_
      refine g_getI 16 dX9_open_25 flX9_157 rfl hM.o ?_
      refine g_isub dX9_open_28 (by omega) (by omega) ?_
      refine g_goto 36 dX9_open_29 (by decide) ?_
      refine g_ireturn dX9_open_36 rfl ?_
      refine ⟨?_, rfl, rfl, f1.fa⟩
      unfold po_ans
      rw [if_pos (by omega), x1]
  · skip
    have c1 := zb_nn h7
    refine g_iconst dX9_open_10 (by decide) ?_
    refine g_ireturn dX9_open_11 rfl ?_
    refine ⟨?_, rfl, rfl, FA.rf⟩
    unfold po_ans
    rw [if_neg (fun v => c1 (by omega)), if_neg (fun v => c1 (by omega))]

set_option maxRecDepth 20000 in
set_option maxHeartbeats 1000000 in
theorem m_endedNow (hM : isMd sh) (hN : MN gi gl pl kn T ln nm) (hFS : FS (clo (pl 3) ln) (pl 8) T S er ec) : Ct mdX9_endedNow 0 0 [vR 190] gi gl sh (AK ec gi gl sh) := by
  show Go mdX9_endedNow 0 0 0 [some (vR 190)] [] gi gl sh _
  refine g_aload_n dX9_endedNow_0 rfl ?_
  refine g_callV_v [] dX9_endedNow_1 mlX9_151 mvX9_laysBlobs (by decide) hM.o (by decide) rfl rfl (Nat.le_of_ble_eq_true rfl) rfl (Nat.le_of_ble_eq_true rfl) (m_laysB hM hN hFS) (fun _ _ _ _ q => q.1) (fun g1 l1 s1 q w1 w2 => ?_)
  obtain ⟨-, q2, q3, f1, E, x1, x2, x3⟩ := q
  subst q2 q3
  refine g_aload_n dX9_endedNow_4 rfl ?_
  refine g_getI 16 dX9_endedNow_5 flX9_157 rfl hM.o ?_
  refine g_ireturn dX9_endedNow_8 rfl ?_
  exact ⟨by rw [E.1], rfl, rfl, f1.fa⟩

set_option maxRecDepth 20000 in
set_option maxHeartbeats 1000000 in
theorem l_gd (hM : isMd sh) (H : JH gi er pl kn nu ec) (hbb : ∀ i : Int, 0 ≤ i → i < ec → gi 212 (gi 210 i) = bb i) (hbw : ∀ i : Int, 0 ≤ i → i < ec → gi 214 (gi 210 i) = bw i ∧ (bw i = 0 ∨ bw i = 1)) : ∀ (n : Nat) (k x : Int), k + n = ec → 0 ≤ k → x = v_wsum bw er k.toNat → ∀ l3 l4 : Option gV, (∀ y, l3 ≠ some (vL y)) → Go mdX9_gained 0 0 4 [some (vR 190), some (vI x), some (vI k), l3, l4] [] gi gl sh (Rt (some (vI (v_wsum bw er ec.toNat))) gi gl sh) := by
  have hE := H.1
  have e16 := hE.1
  have hec := hE.2.1
  intro n
  induction n with
  | zero =>
    intro k x h1 h2 hx l3 l4 h3
    have hk : k = ec := by omega
    subst hk
    refine g_iload_n dX9_gained_4 rfl ?_
    refine g_aload_n dX9_gained_5 rfl ?_
    refine g_getI 16 dX9_gained_6 flX9_157 rfl hM.o ?_
    refine g_icmp_ge 72 dX9_gained_9 (by decide) (fun h9 => ?_) (fun h9 => ?_)
    · skip
      refine g_iload_n dX9_gained_72 rfl ?_
      refine g_ireturn dX9_gained_73 rfl ?_
      exact ⟨by rw [hx], rfl, rfl, rfl⟩
    · exfalso; omega
  | succ n ih =>
    intro k x h1 h2 hx l3 l4 h3
    have hr := H.2.1 k h2 (by omega)
    obtain ⟨e0, e1, e3, e4, e5, e6, e7⟩ := hr.e
    have hb := hr.1
    have k5 := hr.2.2.1 5 (by decide) (by decide)
    have k7 := hr.2.2.1 7 (by decide) (by decide)
    obtain ⟨w1, w2⟩ := hbw k h2 (by omega)
    have xb := v_wsum_b (bw := bw) (er := er) k.toNat (fun b b0 b1 => (H.2.1 b b0 (by omega)).2.2.1)
    have nx : ∀ x' : Int, x' = v_wsum bw er k.toNat + (if bw k = 0 then bl_worth (er k) else 0) → ∀ l3 l4 : Option gV, (∀ y, l3 ≠ some (vL y)) → Go mdX9_gained 0 0 66 [some (vR 190), some (vI x'), some (vI k), l3, l4] [] gi gl sh (Rt (some (vI (v_wsum bw er ec.toNat))) gi gl sh) := fun x' hx' l3 l4 h3 => by
      refine n_iinc (lN := [_, _, some (vI (k + 1)), _, _]) dX9_gained_66 rfl (by decide) (by omega) (by omega) rfl ?_
      refine g_goto 4 dX9_gained_69 (by decide) ?_
      refine ih (k + 1) x' (by omega) (by omega) ?_ _ _ h3
      rw [show (k + 1).toNat = k.toNat + 1 by omega, v_wsum, show ((k.toNat : Nat) : Int) = k by omega]
      exact hx'
    refine g_iload_n dX9_gained_4 rfl ?_
    refine g_aload_n dX9_gained_5 rfl ?_
    refine g_getI 16 dX9_gained_6 flX9_157 rfl hM.o ?_
    refine g_icmp_ge 72 dX9_gained_9 (by decide) (fun h9 => ?_) (fun h9 => ?_)
    · exfalso; omega
    · skip
      refine g_aload_n dX9_gained_12 rfl ?_
      refine g_getR 27 dX9_gained_13 flX9_68 rfl hM.o hM.r27 ?_
      refine g_iload_n dX9_gained_16 rfl ?_
      refine g_iaload dX9_gained_17 hM.k210 (by omega) (hM.b210 (by omega)) ?_
      refine n_istore_n (lN := [_, _, _, _, _]) dX9_gained_18 (by decide) rfl ?_
      refine g_aload_n dX9_gained_19 rfl ?_
      refine g_getR 26 dX9_gained_20 flX9_65 rfl hM.o hM.r26 ?_
      refine g_iload_n dX9_gained_23 rfl ?_
      refine g_iaload dX9_gained_24 hM.k209 (by omega) (hM.b209 (by omega)) ?_
      rw [e7]
      refine g_if_le 40 dX9_gained_25 (by decide) (fun h25 => ?_) (fun h25 => ?_)
      · skip
        refine g_aload_n dX9_gained_40 rfl ?_
        refine g_getR 24 dX9_gained_41 flX9_59 rfl hM.o hM.r24 ?_
        refine g_iload_n dX9_gained_44 rfl ?_
        refine g_iaload dX9_gained_45 hM.k207 (by omega) (hM.b207 (by omega)) ?_
        rw [e5]
        refine n_istore (lN := [_, _, _, _, _]) dX9_gained_46 (by decide) rfl ?_
        refine g_iload_n dX9_gained_48 rfl ?_
        refine g_aload_n dX9_gained_49 rfl ?_
        refine g_getR 31 dX9_gained_50 flX9_81 rfl hM.o hM.r31 ?_
        refine g_iload_n dX9_gained_53 rfl ?_
        refine g_baload dX9_gained_54 hM.k214 (by omega) (hM.b214 (by omega)) ?_
        rw [w1]
        refine g_if_eq 62 dX9_gained_55 (by decide) (fun h55 => ?_) (fun h55 => ?_)
        · skip
          refine g_iload dX9_gained_62 rfl ?_
          refine g_iadd dX9_gained_64 (by omega) (by omega) ?_
          refine n_istore_n (lN := [_, _, _, _, _]) dX9_gained_65 (by decide) rfl ?_
          refine nx _ ?_ _ _ (fun y h9 => by cases h9)
          rw [if_pos h55]; unfold bl_worth; rw [if_pos (by omega)]; omega
        · skip
          refine g_iconst dX9_gained_58 (by decide) ?_
          refine g_goto 64 dX9_gained_59 (by decide) ?_
          refine g_iadd dX9_gained_64 (by omega) (by omega) ?_
          refine n_istore_n (lN := [_, _, _, _, _]) dX9_gained_65 (by decide) rfl ?_
          refine nx _ ?_ _ _ (fun y h9 => by cases h9)
          rw [if_neg h55]; omega
      · skip
        refine g_bipush dX9_gained_28 (by decide) (by decide) ?_
        refine g_aload_n dX9_gained_30 rfl ?_
        refine g_getR 26 dX9_gained_31 flX9_65 rfl hM.o hM.r26 ?_
        refine g_iload_n dX9_gained_34 rfl ?_
        refine g_iaload dX9_gained_35 hM.k209 (by omega) (hM.b209 (by omega)) ?_
        rw [e7]
        refine g_imul dX9_gained_36 (by omega) (by omega) ?_
        refine g_goto 46 dX9_gained_37 (by decide) ?_
        refine n_istore (lN := [_, _, _, _, _]) dX9_gained_46 (by decide) rfl ?_
        refine g_iload_n dX9_gained_48 rfl ?_
        refine g_aload_n dX9_gained_49 rfl ?_
        refine g_getR 31 dX9_gained_50 flX9_81 rfl hM.o hM.r31 ?_
        refine g_iload_n dX9_gained_53 rfl ?_
        refine g_baload dX9_gained_54 hM.k214 (by omega) (hM.b214 (by omega)) ?_
        rw [w1]
        refine g_if_eq 62 dX9_gained_55 (by decide) (fun h55 => ?_) (fun h55 => ?_)
        · skip
          refine g_iload dX9_gained_62 rfl ?_
          refine g_iadd dX9_gained_64 (by omega) (by omega) ?_
          refine n_istore_n (lN := [_, _, _, _, _]) dX9_gained_65 (by decide) rfl ?_
          refine nx _ ?_ _ _ (fun y h9 => by cases h9)
          rw [if_pos h55]; unfold bl_worth; rw [if_neg (by omega)]; omega
        · skip
          refine g_iconst dX9_gained_58 (by decide) ?_
          refine g_goto 64 dX9_gained_59 (by decide) ?_
          refine g_iadd dX9_gained_64 (by omega) (by omega) ?_
          refine n_istore_n (lN := [_, _, _, _, _]) dX9_gained_65 (by decide) rfl ?_
          refine nx _ ?_ _ _ (fun y h9 => by cases h9)
          rw [if_neg h55]; omega
theorem m_gained (hM : isMd sh) (H : JH gi er pl kn nu ec) (hbb : ∀ i : Int, 0 ≤ i → i < ec → gi 212 (gi 210 i) = bb i) (hbw : ∀ i : Int, 0 ≤ i → i < ec → gi 214 (gi 210 i) = bw i ∧ (bw i = 0 ∨ bw i = 1)) : Ct mdX9_gained 0 0 [vR 190] gi gl sh (Rt (some (vI (v_wsum bw er ec.toNat))) gi gl sh) := by
  show Go mdX9_gained 0 0 0 [some (vR 190), none, none, none, none] [] gi gl sh _
  refine g_iconst dX9_gained_0 (by decide) ?_
  refine n_istore_n (lN := [_, _, _, _, _]) dX9_gained_1 (by decide) rfl ?_
  refine g_iconst dX9_gained_2 (by decide) ?_
  refine n_istore_n (lN := [_, _, _, _, _]) dX9_gained_3 (by decide) rfl ?_
  exact l_gd hM H hbb hbw ec.toNat 0 0 (by have := H.1.2.1; omega) (Int.le_refl _) rfl none none (fun y h9 => by cases h9)
theorem JD.w14 {g : gF} (J : JD g er pl kn nu ec) : ∀ i : Int, 0 ≤ i → i < ec → g 214 (g 210 i) = jb er pl kn nu ec.toNat i ∧ (jb er pl kn nu ec.toNat i = 0 ∨ jb er pl kn nu ec.toNat i = 1) := fun i i0 i1 => ⟨(J.1 i i0 i1).2, jb_b _ _⟩
theorem m_gainedJ (hM : isMd sh) (H : JH gi er pl kn nu ec) (J : JD gi er pl kn nu ec) : Ct mdX9_gained 0 0 [vR 190] gi gl sh (Rt (some (vI (wv er pl kn nu ec.toNat))) gi gl sh) :=
  m_gained (bb := fun i => v_rule pl kn nu (er i)) (bw := jb er pl kn nu ec.toNat) hM H (fun i i0 i1 => (J.1 i i0 i1).1) J.w14
theorem wv_b (H : JH gi er pl kn nu ec) (nu' : gRw) : -9300000 ≤ wv er pl kn nu' ec.toNat ∧ wv er pl kn nu' ec.toNat ≤ 3100000 := by
  have := v_wsum_b (bw := jb er pl kn nu' ec.toNat) (er := er) ec.toNat (fun b b0 b1 => (H.2.1 b b0 (by omega)).2.2.1)
  have := H.1.2.1
  unfold wv
  omega

set_option maxRecDepth 20000 in
set_option maxHeartbeats 1000000 in
theorem m_gain (hM : isMd sh) (hN : MN gi gl pl kn T ln nm) (hFS : FS (clo (pl 3) ln) (pl 8) T S er ec) : Ct mdX9_gain 0 0 [vR 190] gi gl sh (AK (wv er pl kn nm ec.toNat + 10000) gi gl sh) := by
  show Go mdX9_gain 0 0 0 [some (vR 190)] [] gi gl sh _
  refine g_aload_n dX9_gain_0 rfl ?_
  refine g_callV_v [] dX9_gain_1 mlX9_233 mvX9_judgesNow (by decide) hM.o (by decide) rfl rfl (Nat.le_of_ble_eq_true rfl) rfl (Nat.le_of_ble_eq_true rfl) (m_judgesNow hM hN hFS) (fun _ _ _ _ q => q.1) (fun g1 l1 s1 q w1 w2 => ?_)
  obtain ⟨-, q2, q3, f1, H, J⟩ := q
  subst q2 q3
  have wb := wv_b H nm
  refine g_aload_n dX9_gain_4 rfl ?_
  refine g_cVi [] dX9_gain_5 mlX9_244 mvX9_gained (by decide) hM.o (by decide) rfl rfl (Nat.le_of_ble_eq_true rfl) rfl (Nat.le_of_ble_eq_true rfl) (m_gainedJ hM H J) ?_
  refine g_sipush dX9_gain_8 (by decide) (by decide) ?_
  refine g_iadd dX9_gain_11 (by omega) (by omega) ?_
  refine g_ireturn dX9_gain_12 rfl ?_
  exact ⟨rfl, rfl, rfl, f1⟩

set_option maxRecDepth 20000 in
set_option maxHeartbeats 1000000 in
theorem l_jb (hM : isMd sh) (H : JH gi er pl kn nu ec) (hbb : ∀ i : Int, 0 ≤ i → i < ec → gi 212 (gi 210 i) = bb i) (hbw : ∀ i : Int, 0 ≤ i → i < ec → gi 214 (gi 210 i) = bw i ∧ (bw i = 0 ∨ bw i = 1)) (g0 : gF) (f0 : FA g0 gi) (rl : Int) : ∀ (n : Nat) (k x : Int), k + n = ec → 0 ≤ k → x = v_ksum bb rl k.toNat → Go mdX9_judgedBy 0 0 8 [some (vR 190), some (vI rl), some (vI x), some (vI k)] [] gi gl sh (AK (v_ksum bb rl ec.toNat) g0 gl sh) := by
  have hE := H.1
  have e16 := hE.1
  have hec := hE.2.1
  intro n
  induction n with
  | zero =>
    intro k x h1 h2 hx
    have hk : k = ec := by omega
    subst hk
    refine g_iload_n dX9_judgedBy_8 rfl ?_
    refine g_aload_n dX9_judgedBy_9 rfl ?_
    refine g_getI 16 dX9_judgedBy_10 flX9_157 rfl hM.o ?_
    refine g_icmp_ge 45 dX9_judgedBy_13 (by decide) (fun h13 => ?_) (fun h13 => ?_)
    · skip
      refine g_iload_n dX9_judgedBy_45 rfl ?_
      refine g_ireturn dX9_judgedBy_46 rfl ?_
      exact ⟨by rw [hx], rfl, rfl, f0⟩
    · exfalso; omega
  | succ n ih =>
    intro k x h1 h2 hx
    have hb := (H.2.1 k h2 (by omega)).1
    have w1 := hbb k h2 (by omega)
    have xb := v_ksum_b bb rl k.toNat
    refine g_iload_n dX9_judgedBy_8 rfl ?_
    refine g_aload_n dX9_judgedBy_9 rfl ?_
    refine g_getI 16 dX9_judgedBy_10 flX9_157 rfl hM.o ?_
    refine g_icmp_ge 45 dX9_judgedBy_13 (by decide) (fun h13 => ?_) (fun h13 => ?_)
    · exfalso; omega
    · skip
      refine g_iload_n dX9_judgedBy_16 rfl ?_
      refine g_aload_n dX9_judgedBy_17 rfl ?_
      refine g_getR 29 dX9_judgedBy_18 flX9_74 rfl hM.o hM.r29 ?_
      refine g_aload_n dX9_judgedBy_21 rfl ?_
      refine g_getR 27 dX9_judgedBy_22 flX9_68 rfl hM.o hM.r27 ?_
      refine g_iload_n dX9_judgedBy_25 rfl ?_
      refine g_iaload dX9_judgedBy_26 hM.k210 (by omega) (hM.b210 (by omega)) ?_
      refine g_iaload dX9_judgedBy_27 hM.k212 (by omega) (hM.b212 (by omega)) ?_
      refine g_iload_n dX9_judgedBy_28 rfl ?_
      rw [w1]
      refine g_icmp_ne 36 dX9_judgedBy_29 (by decide) (fun h29 => ?_) (fun h29 => ?_)
      · skip
        refine g_iconst dX9_judgedBy_36 (by decide) ?_
        refine g_iadd dX9_judgedBy_37 (by omega) (by omega) ?_
        refine n_istore_n (lN := [_, _, _, _]) dX9_judgedBy_38 (by decide) rfl ?_
        refine n_iinc (lN := [_, _, _, some (vI (k + 1))]) dX9_judgedBy_39 rfl (by decide) (by omega) (by omega) rfl ?_
        refine g_goto 8 dX9_judgedBy_42 (by decide) ?_
        refine ih (k + 1) _ (by omega) (by omega) ?_
        rw [show (k + 1).toNat = k.toNat + 1 by omega, v_ksum, show ((k.toNat : Nat) : Int) = k by omega, if_neg h29, hx]
      · skip
        refine g_iconst dX9_judgedBy_32 (by decide) ?_
        refine g_goto 37 dX9_judgedBy_33 (by decide) ?_
        refine g_iadd dX9_judgedBy_37 (by omega) (by omega) ?_
        refine n_istore_n (lN := [_, _, _, _]) dX9_judgedBy_38 (by decide) rfl ?_
        refine n_iinc (lN := [_, _, _, some (vI (k + 1))]) dX9_judgedBy_39 rfl (by decide) (by omega) (by omega) rfl ?_
        refine g_goto 8 dX9_judgedBy_42 (by decide) ?_
        refine ih (k + 1) _ (by omega) (by omega) ?_
        rw [show (k + 1).toNat = k.toNat + 1 by omega, v_ksum, show ((k.toNat : Nat) : Int) = k by omega, if_pos (by omega), hx]
set_option maxRecDepth 20000 in
set_option maxHeartbeats 1000000 in
theorem m_judgedBy (hM : isMd sh) (hN : MN gi gl pl kn T ln nm) (hFS : FS (clo (pl 3) ln) (pl 8) T S er ec) (rl : Int) : Ct mdX9_judgedBy 0 0 [vR 190, vI rl] gi gl sh (AK (v_ksum (fun i => v_rule pl kn nm (er i)) rl ec.toNat) gi gl sh) := by
  show Go mdX9_judgedBy 0 0 0 [some (vR 190), some (vI rl), none, none] [] gi gl sh _
  refine g_aload_n dX9_judgedBy_0 rfl ?_
  refine g_callV_v [] dX9_judgedBy_1 mlX9_233 mvX9_judgesNow (by decide) hM.o (by decide) rfl rfl (Nat.le_of_ble_eq_true rfl) rfl (Nat.le_of_ble_eq_true rfl) (m_judgesNow hM hN hFS) (fun _ _ _ _ q => q.1) (fun g1 l1 s1 q w1 w2 => ?_)
  obtain ⟨-, q2, q3, f1, H, J⟩ := q
  subst q2 q3
  refine g_iconst dX9_judgedBy_4 (by decide) ?_
  refine n_istore_n (lN := [_, _, _, _]) dX9_judgedBy_5 (by decide) rfl ?_
  refine g_iconst dX9_judgedBy_6 (by decide) ?_
  refine n_istore_n (lN := [_, _, _, _]) dX9_judgedBy_7 (by decide) rfl ?_
  exact l_jb (bw := jb er pl kn nm ec.toNat) hM H (fun i i0 i1 => (J.1 i i0 i1).1) J.w14 gi f1 rl ec.toNat 0 0 (by have := H.1.2.1; omega) (Int.le_refl _) rfl

set_option maxRecDepth 20000 in
set_option maxHeartbeats 2000000 in
theorem l_hm (hM : isMd sh) (H : JH gi er pl kn nu ec) (hbb : ∀ i : Int, 0 ≤ i → i < ec → gi 212 (gi 210 i) = bb i) (hbw : ∀ i : Int, 0 ≤ i → i < ec → gi 214 (gi 210 i) = bw i ∧ (bw i = 0 ∨ bw i = 1)) (g0 : gF) (f0 : FA g0 gi) (w : Int) (hw : 5 ≤ w ∧ w ≤ 9) : ∀ (n : Nat) (k x : Int), k + n = ec → 0 ≤ k → x = v_csum pl bb bw er w k.toNat → ∀ l4 l5 l6 : Option gV, (∀ y, l4 ≠ some (vL y)) → (∀ y, l5 ≠ some (vL y)) → Go mdX9_howMany 0 0 8 [some (vR 190), some (vI w), some (vI x), some (vI k), l4, l5, l6] [] gi gl sh (AK (v_csum pl bb bw er w ec.toNat) g0 gl sh) := by
  have hE := H.1
  have e16 := hE.1
  have hec := hE.2.1
  intro n
  induction n with
  | zero =>
    intro k x h1 h2 hx l4 l5 l6 h4 h5
    have hk : k = ec := by omega
    subst hk
    refine g_iload_n dX9_howMany_8 rfl ?_
    refine g_aload_n dX9_howMany_9 rfl ?_
    refine g_getI 16 dX9_howMany_10 flX9_157 rfl hM.o ?_
    refine g_icmp_ge 154 dX9_howMany_13 (by decide) (fun h13 => ?_) (fun h13 => ?_)
    · skip
      refine g_iload_n dX9_howMany_154 rfl ?_
      refine g_ireturn dX9_howMany_155 rfl ?_
      exact ⟨by rw [hx], rfl, rfl, f0⟩
    · exfalso; omega
  | succ n ih =>
    intro k x h1 h2 hx l4 l5 l6 h4 h5
    have hr := H.2.1 k h2 (by omega)
    have hb := hr.1
    have u1 := hbb k h2 (by omega)
    obtain ⟨u2, u3⟩ := hbw k h2 (by omega)
    have xb := v_csum_b pl bb bw er w k.toNat
    have nx : ∀ z : Int, Zq (v_is pl bb bw er k w) z → ∀ bd : Int, ∀ l6 : Option gV, Go mdX9_howMany 0 0 133 [some (vR 190), some (vI w), some (vI x), some (vI k), some (vI (gi 210 k)), some (vI bd), l6] [vI z] gi gl sh (AK (v_csum pl bb bw er w ec.toNat) g0 gl sh) := fun z hz bd l6 => by
      have hzb := hz.b
      have zz : zb (v_is pl bb bw er k w) = z := by
        by_cases c : v_is pl bb bw er k w
        · rw [hz.1 c, (zb_q _).1 c]
        · rw [hz.2 c, (zb_q _).2 c]
      refine n_istore (lN := [_, _, _, _, _, _, _]) dX9_howMany_133 (by decide) rfl ?_
      refine g_iload_n dX9_howMany_135 rfl ?_
      refine g_iload dX9_howMany_136 rfl ?_
      refine g_if_eq 145 dX9_howMany_138 (by decide) (fun h138 => ?_) (fun h138 => ?_)
      · skip
        refine g_iconst dX9_howMany_145 (by decide) ?_
        refine g_iadd dX9_howMany_146 (by omega) (by omega) ?_
        refine n_istore_n (lN := [_, _, _, _, _, _, _]) dX9_howMany_147 (by decide) rfl ?_
        refine n_iinc (lN := [_, _, _, some (vI (k + 1)), _, _, _]) dX9_howMany_148 rfl (by decide) (by omega) (by omega) rfl ?_
        refine g_goto 8 dX9_howMany_151 (by decide) ?_
        refine ih (k + 1) _ (by omega) (by omega) ?_ _ _ _ (fun y h9 => by cases h9) (fun y h9 => by cases h9)
        rw [show (k + 1).toNat = k.toNat + 1 by omega, v_csum, show ((k.toNat : Nat) : Int) = k by omega, zz, hx]
        omega
      · skip
        refine g_iconst dX9_howMany_141 (by decide) ?_
        refine g_goto 146 dX9_howMany_142 (by decide) ?_
        refine g_iadd dX9_howMany_146 (by omega) (by omega) ?_
        refine n_istore_n (lN := [_, _, _, _, _, _, _]) dX9_howMany_147 (by decide) rfl ?_
        refine n_iinc (lN := [_, _, _, some (vI (k + 1)), _, _, _]) dX9_howMany_148 rfl (by decide) (by omega) (by omega) rfl ?_
        refine g_goto 8 dX9_howMany_151 (by decide) ?_
        refine ih (k + 1) _ (by omega) (by omega) ?_ _ _ _ (fun y h9 => by cases h9) (fun y h9 => by cases h9)
        rw [show (k + 1).toNat = k.toNat + 1 by omega, v_csum, show ((k.toNat : Nat) : Int) = k by omega, zz, hx]
        omega
    refine g_iload_n dX9_howMany_8 rfl ?_
    refine g_aload_n dX9_howMany_9 rfl ?_
    refine g_getI 16 dX9_howMany_10 flX9_157 rfl hM.o ?_
    refine g_icmp_ge 154 dX9_howMany_13 (by decide) (fun h13 => ?_) (fun h13 => ?_)
    · exfalso; omega
    · skip
      refine g_aload_n dX9_howMany_16 rfl ?_
      refine g_getR 27 dX9_howMany_17 flX9_68 rfl hM.o hM.r27 ?_
      refine g_iload_n dX9_howMany_20 rfl ?_
      refine g_iaload dX9_howMany_21 hM.k210 (by omega) (hM.b210 (by omega)) ?_
      refine n_istore (lN := [_, _, _, _, _, _, _]) dX9_howMany_22 (by decide) rfl ?_
      refine g_aload_n dX9_howMany_24 rfl ?_
      refine g_getR 29 dX9_howMany_25 flX9_74 rfl hM.o hM.r29 ?_
      refine g_iload dX9_howMany_28 rfl ?_
      refine g_iaload dX9_howMany_30 hM.k212 (by omega) (hM.b212 (by omega)) ?_
      refine g_bipush dX9_howMany_31 (by decide) (by decide) ?_
      rw [u1]
      refine g_icmp_eq 40 dX9_howMany_33 (by decide) (fun h33 => ?_) (fun h33 => ?_)
      · skip
        refine g_iconst dX9_howMany_40 (by decide) ?_
        refine n_istore (lN := [_, _, _, _, _, _, _]) dX9_howMany_41 (by decide) rfl ?_
        refine g_iload_n dX9_howMany_43 rfl ?_
        refine g_iconst dX9_howMany_44 (by decide) ?_
        refine g_icmp_ne 53 dX9_howMany_45 (by decide) (fun h45 => ?_) (fun h45 => ?_)
        · skip
          refine g_iload_n dX9_howMany_53 rfl ?_
          refine g_bipush dX9_howMany_54 (by decide) (by decide) ?_
          refine g_icmp_ne 68 dX9_howMany_56 (by decide) (fun h56 => ?_) (fun h56 => ?_)
          · skip
            refine g_iload_n dX9_howMany_68 rfl ?_
            refine g_bipush dX9_howMany_69 (by decide) (by decide) ?_
            refine g_icmp_ne 84 dX9_howMany_71 (by decide) (fun h71 => ?_) (fun h71 => ?_)
            · skip
              refine g_iload_n dX9_howMany_84 rfl ?_
              refine g_bipush dX9_howMany_85 (by decide) (by decide) ?_
              refine g_icmp_ne 113 dX9_howMany_87 (by decide) (fun h87 => ?_) (fun h87 => ?_)
              · skip
                refine g_iload dX9_howMany_113 rfl ?_
                refine g_if_ne 132 dX9_howMany_115 (by decide) (fun h115 => ?_) (fun h115 => ?_)
                · exact absurd h115 (by decide)
                · skip
                  refine g_aload_n dX9_howMany_118 rfl ?_
                  refine g_getR 31 dX9_howMany_119 flX9_81 rfl hM.o hM.r31 ?_
                  refine g_iload dX9_howMany_122 rfl ?_
                  refine g_baload dX9_howMany_124 hM.k214 (by omega) (hM.b214 (by omega)) ?_
                  rw [u2]
                  refine g_if_eq 132 dX9_howMany_125 (by decide) (fun h125 => ?_) (fun h125 => ?_)
                  · skip
                    refine g_iconst dX9_howMany_132 (by decide) ?_
                    first
                    | exact nx _ ⟨fun v => by unfold v_is at v; omega, fun v => by unfold v_is at v; omega⟩ _ _
                    | (rw [u2]; exact nx _ ⟨fun v => by unfold v_is at v; omega, fun v => by unfold v_is at v; omega⟩ _ _)
                    | exact nx _ ⟨fun v => (zb_q _).1 (by unfold v_is at v; omega), fun v => (zb_q _).2 (fun q => v (by unfold v_is; omega))⟩ _ _
                  · skip
                    refine g_iconst dX9_howMany_128 (by decide) ?_
                    refine g_goto 133 dX9_howMany_129 (by decide) ?_
                    first
                    | exact nx _ ⟨fun v => by unfold v_is at v; omega, fun v => by unfold v_is at v; omega⟩ _ _
                    | (rw [u2]; exact nx _ ⟨fun v => by unfold v_is at v; omega, fun v => by unfold v_is at v; omega⟩ _ _)
                    | exact nx _ ⟨fun v => (zb_q _).1 (by unfold v_is at v; omega), fun v => (zb_q _).2 (fun q => v (by unfold v_is; omega))⟩ _ _
              · skip
                refine g_iload dX9_howMany_90 rfl ?_
                refine g_if_eq 109 dX9_howMany_92 (by decide) (fun h92 => ?_) (fun h92 => ?_)
                · skip
                  refine g_iconst dX9_howMany_109 (by decide) ?_
                  refine g_goto 133 dX9_howMany_110 (by decide) ?_
                  first
                  | exact nx _ ⟨fun v => by unfold v_is at v; omega, fun v => by unfold v_is at v; omega⟩ _ _
                  | (rw [u2]; exact nx _ ⟨fun v => by unfold v_is at v; omega, fun v => by unfold v_is at v; omega⟩ _ _)
                  | exact nx _ ⟨fun v => (zb_q _).1 (by unfold v_is at v; omega), fun v => (zb_q _).2 (fun q => v (by unfold v_is; omega))⟩ _ _
                · exact absurd h92 (by decide)
            · skip
              refine g_aload_n dX9_howMany_74 rfl ?_
              refine g_getR 31 dX9_howMany_75 flX9_81 rfl hM.o hM.r31 ?_
              refine g_iload dX9_howMany_78 rfl ?_
              refine g_baload dX9_howMany_80 hM.k214 (by omega) (hM.b214 (by omega)) ?_
              refine g_goto 133 dX9_howMany_81 (by decide) ?_
              first
              | exact nx _ ⟨fun v => by unfold v_is at v; omega, fun v => by unfold v_is at v; omega⟩ _ _
              | (rw [u2]; exact nx _ ⟨fun v => by unfold v_is at v; omega, fun v => by unfold v_is at v; omega⟩ _ _)
              | exact nx _ ⟨fun v => (zb_q _).1 (by unfold v_is at v; omega), fun v => (zb_q _).2 (fun q => v (by unfold v_is; omega))⟩ _ _
          · skip
            refine g_aload_n dX9_howMany_59 rfl ?_
            refine g_iload dX9_howMany_60 rfl ?_
            refine g_cVi [_] dX9_howMany_62 mlX9_230 mvX9_isLate (by decide) hM.o (by decide) rfl rfl (Nat.le_of_ble_eq_true rfl) rfl (Nat.le_of_ble_eq_true rfl) (m_isLate hM hr H.2.2.1 H.2.2.2.1 (zb (bb k ≠ -4 ∧ er k 0 + pl 5 - pl 6 < er k 1 + 1)) (by rw [u1]; exact zb_q _)) ?_
            refine g_goto 133 dX9_howMany_65 (by decide) ?_
            first
            | exact nx _ ⟨fun v => by unfold v_is at v; omega, fun v => by unfold v_is at v; omega⟩ _ _
            | (rw [u2]; exact nx _ ⟨fun v => by unfold v_is at v; omega, fun v => by unfold v_is at v; omega⟩ _ _)
            | exact nx _ ⟨fun v => (zb_q _).1 (by unfold v_is at v; omega), fun v => (zb_q _).2 (fun q => v (by unfold v_is; omega))⟩ _ _
        · skip
          refine g_iload dX9_howMany_48 rfl ?_
          refine g_goto 133 dX9_howMany_50 (by decide) ?_
          first
          | exact nx _ ⟨fun v => by unfold v_is at v; omega, fun v => by unfold v_is at v; omega⟩ _ _
          | (rw [u2]; exact nx _ ⟨fun v => by unfold v_is at v; omega, fun v => by unfold v_is at v; omega⟩ _ _)
          | exact nx _ ⟨fun v => (zb_q _).1 (by unfold v_is at v; omega), fun v => (zb_q _).2 (fun q => v (by unfold v_is; omega))⟩ _ _
      · skip
        refine g_iconst dX9_howMany_36 (by decide) ?_
        refine g_goto 41 dX9_howMany_37 (by decide) ?_
        refine n_istore (lN := [_, _, _, _, _, _, _]) dX9_howMany_41 (by decide) rfl ?_
        refine g_iload_n dX9_howMany_43 rfl ?_
        refine g_iconst dX9_howMany_44 (by decide) ?_
        refine g_icmp_ne 53 dX9_howMany_45 (by decide) (fun h45 => ?_) (fun h45 => ?_)
        · skip
          refine g_iload_n dX9_howMany_53 rfl ?_
          refine g_bipush dX9_howMany_54 (by decide) (by decide) ?_
          refine g_icmp_ne 68 dX9_howMany_56 (by decide) (fun h56 => ?_) (fun h56 => ?_)
          · skip
            refine g_iload_n dX9_howMany_68 rfl ?_
            refine g_bipush dX9_howMany_69 (by decide) (by decide) ?_
            refine g_icmp_ne 84 dX9_howMany_71 (by decide) (fun h71 => ?_) (fun h71 => ?_)
            · skip
              refine g_iload_n dX9_howMany_84 rfl ?_
              refine g_bipush dX9_howMany_85 (by decide) (by decide) ?_
              refine g_icmp_ne 113 dX9_howMany_87 (by decide) (fun h87 => ?_) (fun h87 => ?_)
              · skip
                refine g_iload dX9_howMany_113 rfl ?_
                refine g_if_ne 132 dX9_howMany_115 (by decide) (fun h115 => ?_) (fun h115 => ?_)
                · skip
                  refine g_iconst dX9_howMany_132 (by decide) ?_
                  first
                  | exact nx _ ⟨fun v => by unfold v_is at v; omega, fun v => by unfold v_is at v; omega⟩ _ _
                  | (rw [u2]; exact nx _ ⟨fun v => by unfold v_is at v; omega, fun v => by unfold v_is at v; omega⟩ _ _)
                  | exact nx _ ⟨fun v => (zb_q _).1 (by unfold v_is at v; omega), fun v => (zb_q _).2 (fun q => v (by unfold v_is; omega))⟩ _ _
                · exact absurd h115 (by decide)
              · skip
                refine g_iload dX9_howMany_90 rfl ?_
                refine g_if_eq 109 dX9_howMany_92 (by decide) (fun h92 => ?_) (fun h92 => ?_)
                · exact absurd h92 (by decide)
                · skip
                  refine g_aload_n dX9_howMany_95 rfl ?_
                  refine g_getR 31 dX9_howMany_96 flX9_81 rfl hM.o hM.r31 ?_
                  refine g_iload dX9_howMany_99 rfl ?_
                  refine g_baload dX9_howMany_101 hM.k214 (by omega) (hM.b214 (by omega)) ?_
                  rw [u2]
                  refine g_if_ne 109 dX9_howMany_102 (by decide) (fun h102 => ?_) (fun h102 => ?_)
                  · skip
                    refine g_iconst dX9_howMany_109 (by decide) ?_
                    refine g_goto 133 dX9_howMany_110 (by decide) ?_
                    first
                    | exact nx _ ⟨fun v => by unfold v_is at v; omega, fun v => by unfold v_is at v; omega⟩ _ _
                    | (rw [u2]; exact nx _ ⟨fun v => by unfold v_is at v; omega, fun v => by unfold v_is at v; omega⟩ _ _)
                    | exact nx _ ⟨fun v => (zb_q _).1 (by unfold v_is at v; omega), fun v => (zb_q _).2 (fun q => v (by unfold v_is; omega))⟩ _ _
                  · skip
                    refine g_iconst dX9_howMany_105 (by decide) ?_
                    refine g_goto 133 dX9_howMany_106 (by decide) ?_
                    first
                    | exact nx _ ⟨fun v => by unfold v_is at v; omega, fun v => by unfold v_is at v; omega⟩ _ _
                    | (rw [u2]; exact nx _ ⟨fun v => by unfold v_is at v; omega, fun v => by unfold v_is at v; omega⟩ _ _)
                    | exact nx _ ⟨fun v => (zb_q _).1 (by unfold v_is at v; omega), fun v => (zb_q _).2 (fun q => v (by unfold v_is; omega))⟩ _ _
            · skip
              refine g_aload_n dX9_howMany_74 rfl ?_
              refine g_getR 31 dX9_howMany_75 flX9_81 rfl hM.o hM.r31 ?_
              refine g_iload dX9_howMany_78 rfl ?_
              refine g_baload dX9_howMany_80 hM.k214 (by omega) (hM.b214 (by omega)) ?_
              refine g_goto 133 dX9_howMany_81 (by decide) ?_
              first
              | exact nx _ ⟨fun v => by unfold v_is at v; omega, fun v => by unfold v_is at v; omega⟩ _ _
              | (rw [u2]; exact nx _ ⟨fun v => by unfold v_is at v; omega, fun v => by unfold v_is at v; omega⟩ _ _)
              | exact nx _ ⟨fun v => (zb_q _).1 (by unfold v_is at v; omega), fun v => (zb_q _).2 (fun q => v (by unfold v_is; omega))⟩ _ _
          · skip
            refine g_aload_n dX9_howMany_59 rfl ?_
            refine g_iload dX9_howMany_60 rfl ?_
            refine g_cVi [_] dX9_howMany_62 mlX9_230 mvX9_isLate (by decide) hM.o (by decide) rfl rfl (Nat.le_of_ble_eq_true rfl) rfl (Nat.le_of_ble_eq_true rfl) (m_isLate hM hr H.2.2.1 H.2.2.2.1 (zb (bb k ≠ -4 ∧ er k 0 + pl 5 - pl 6 < er k 1 + 1)) (by rw [u1]; exact zb_q _)) ?_
            refine g_goto 133 dX9_howMany_65 (by decide) ?_
            first
            | exact nx _ ⟨fun v => by unfold v_is at v; omega, fun v => by unfold v_is at v; omega⟩ _ _
            | (rw [u2]; exact nx _ ⟨fun v => by unfold v_is at v; omega, fun v => by unfold v_is at v; omega⟩ _ _)
            | exact nx _ ⟨fun v => (zb_q _).1 (by unfold v_is at v; omega), fun v => (zb_q _).2 (fun q => v (by unfold v_is; omega))⟩ _ _
        · skip
          refine g_iload dX9_howMany_48 rfl ?_
          refine g_goto 133 dX9_howMany_50 (by decide) ?_
          first
          | exact nx _ ⟨fun v => by unfold v_is at v; omega, fun v => by unfold v_is at v; omega⟩ _ _
          | (rw [u2]; exact nx _ ⟨fun v => by unfold v_is at v; omega, fun v => by unfold v_is at v; omega⟩ _ _)
          | exact nx _ ⟨fun v => (zb_q _).1 (by unfold v_is at v; omega), fun v => (zb_q _).2 (fun q => v (by unfold v_is; omega))⟩ _ _
set_option maxRecDepth 20000 in
set_option maxHeartbeats 1000000 in
theorem m_howMany (hM : isMd sh) (hN : MN gi gl pl kn T ln nm) (hFS : FS (clo (pl 3) ln) (pl 8) T S er ec) (w : Int) (hw : 5 ≤ w ∧ w ≤ 9) : Ct mdX9_howMany 0 0 [vR 190, vI w] gi gl sh (AK (v_csum pl (fun i => v_rule pl kn nm (er i)) (jb er pl kn nm ec.toNat) er w ec.toNat) gi gl sh) := by
  show Go mdX9_howMany 0 0 0 [some (vR 190), some (vI w), none, none, none, none, none] [] gi gl sh _
  refine g_aload_n dX9_howMany_0 rfl ?_
  refine g_callV_v [] dX9_howMany_1 mlX9_233 mvX9_judgesNow (by decide) hM.o (by decide) rfl rfl (Nat.le_of_ble_eq_true rfl) rfl (Nat.le_of_ble_eq_true rfl) (m_judgesNow hM hN hFS) (fun _ _ _ _ q => q.1) (fun g1 l1 s1 q w1 w2 => ?_)
  obtain ⟨-, q2, q3, f1, H, J⟩ := q
  subst q2 q3
  refine g_iconst dX9_howMany_4 (by decide) ?_
  refine n_istore_n (lN := [_, _, _, _, _, _, _]) dX9_howMany_5 (by decide) rfl ?_
  refine g_iconst dX9_howMany_6 (by decide) ?_
  refine n_istore_n (lN := [_, _, _, _, _, _, _]) dX9_howMany_7 (by decide) rfl ?_
  exact l_hm hM H (fun i i0 i1 => (J.1 i i0 i1).1) J.w14 gi f1 w hw ec.toNat 0 0 (by have := H.1.2.1; omega) (Int.le_refl _) rfl none none none (fun y h9 => by cases h9) (fun y h9 => by cases h9)

noncomputable def pc_ans (er : Int → gRw) (pl kn nm : gRw) (ec T h n w : Int) : Int := if w = 0 then pl 3 else if w = 1 then pl 4 else if w = 2 then pl 2 else if w = 3 then T else if w = 4 then ec else if 5 ≤ w ∧ w ≤ 9 then v_csum pl (fun i => v_rule pl kn nm (er i)) (jb er pl kn nm ec.toNat) er w ec.toNat else if w = 10 then h else if w = 11 then n else -1
set_option maxRecDepth 20000 in
set_option maxHeartbeats 1000000 in
theorem m_count (hM : isMd sh) (hN : MN gi gl pl kn T ln nm) (hFS : FS (clo (pl 3) ln) (pl 8) T S er ec) (h n w : Int) (hh : gi 190 5 = h) (hn : gi 190 7 = n) : Ct mdX9_count 0 0 [vR 190, vI w] gi gl sh (AK (pc_ans er pl kn nm ec T h n w) gi gl sh) := by
  show Go mdX9_count 0 0 0 [some (vR 190), some (vI w)] [] gi gl sh _
  obtain ⟨p0, p1, p2, p3, p4, p5, p6⟩ := hN.1.p
  have pr := hN.1.1
  refine g_iload_n dX9_count_0 rfl ?_
  refine g_i2l dX9_count_1 ?_
  refine g_ldc2 (n := 5) dX9_count_2 cnX9_92 (by decide) ?_
  refine g_ldc2 (n := 9) dX9_count_5 cnX9_236 (by decide) ?_
  refine g_cSi [_, _, _] dX9_count_8 mlX9_106 msX9_within (by decide) rfl rfl (Nat.le_of_ble_eq_true rfl) rfl (Nat.le_of_ble_eq_true rfl) (m_within _ _ _ _ (zb_q _)) ?_
  refine g_if_eq 20 dX9_count_11 (by decide) (fun h11 => ?_) (fun h11 => ?_)
  · skip
    have c1 := (zb_q _).no h11
    refine g_iload_n dX9_count_20 rfl ?_
    rcases (show w < 0 ∨ 11 < w ∨ w = 0 ∨ w = 1 ∨ w = 2 ∨ w = 3 ∨ w = 4 ∨ w = 5 ∨ w = 6 ∨ w = 7 ∨ w = 8 ∨ w = 9 ∨ w = 10 ∨ w = 11 by omega) with hsw | hsw | hsw | hsw | hsw | hsw | hsw | hsw | hsw | hsw | hsw | hsw | hsw | hsw
    · skip
      refine g_tableOut 123 dX9_count_21 (by omega) (by decide) ?_
      refine g_iconst dX9_count_123 (by decide) ?_
      refine g_ireturn dX9_count_124 rfl ?_
      refine ⟨?_, rfl, rfl, FA.rf⟩
      unfold pc_ans
      rw [if_neg (by omega), if_neg (by omega), if_neg (by omega), if_neg (by omega), if_neg (by omega), if_neg (by omega), if_neg (by omega), if_neg (by omega)]
    · skip
      refine g_tableOut 123 dX9_count_21 (by omega) (by decide) ?_
      refine g_iconst dX9_count_123 (by decide) ?_
      refine g_ireturn dX9_count_124 rfl ?_
      refine ⟨?_, rfl, rfl, FA.rf⟩
      unfold pc_ans
      rw [if_neg (by omega), if_neg (by omega), if_neg (by omega), if_neg (by omega), if_neg (by omega), if_neg (by omega), if_neg (by omega), if_neg (by omega)]
    · skip
      refine g_tableIn 84 dX9_count_21 (by omega) (by omega) (by rw [hsw]; rfl) (by decide) ?_
      refine g_aload_n dX9_count_84 rfl ?_
      refine g_getR 0 dX9_count_85 flX9_7 rfl hM.o hM.r0 ?_
      refine g_iconst dX9_count_88 (by decide) ?_
      refine g_iaload dX9_count_89 hM.k191 (by omega) (hM.b191 (by omega)) ?_
      refine g_ireturn dX9_count_90 rfl ?_
      refine ⟨?_, rfl, rfl, FA.rf⟩
      unfold pc_ans
      rw [if_pos hsw, p0]
    · skip
      refine g_tableIn 91 dX9_count_21 (by omega) (by omega) (by rw [hsw]; rfl) (by decide) ?_
      refine g_aload_n dX9_count_91 rfl ?_
      refine g_getR 0 dX9_count_92 flX9_7 rfl hM.o hM.r0 ?_
      refine g_iconst dX9_count_95 (by decide) ?_
      refine g_iaload dX9_count_96 hM.k191 (by omega) (hM.b191 (by omega)) ?_
      refine g_ireturn dX9_count_97 rfl ?_
      refine ⟨?_, rfl, rfl, FA.rf⟩
      unfold pc_ans
      rw [if_neg (by omega), if_pos hsw, p1]
    · skip
      refine g_tableIn 98 dX9_count_21 (by omega) (by omega) (by rw [hsw]; rfl) (by decide) ?_
      refine g_aload_n dX9_count_98 rfl ?_
      refine g_getI 1 dX9_count_99 flX9_88 rfl hM.o ?_
      refine g_ireturn dX9_count_102 rfl ?_
      refine ⟨?_, rfl, rfl, FA.rf⟩
      unfold pc_ans
      rw [if_neg (by omega), if_neg (by omega), if_pos hsw, pr]
    · skip
      refine g_tableIn 103 dX9_count_21 (by omega) (by omega) (by rw [hsw]; rfl) (by decide) ?_
      refine g_aload_n dX9_count_103 rfl ?_
      refine g_cVi [] dX9_count_104 mlX9_154 mvX9_lines (by decide) hM.o (by decide) rfl rfl (Nat.le_of_ble_eq_true rfl) rfl (Nat.le_of_ble_eq_true rfl) (m_lines hM T hN.2.2.1 hN.2.2.2.1) ?_
      refine g_ireturn dX9_count_107 rfl ?_
      refine ⟨?_, rfl, rfl, FA.rf⟩
      unfold pc_ans
      rw [if_neg (by omega), if_neg (by omega), if_neg (by omega), if_pos hsw]
    · skip
      refine g_tableIn 108 dX9_count_21 (by omega) (by omega) (by rw [hsw]; rfl) (by decide) ?_
      refine g_aload_n dX9_count_108 rfl ?_
      refine g_callV_i [] dX9_count_109 mlX9_250 mvX9_endedNow (by decide) hM.o (by decide) rfl rfl (Nat.le_of_ble_eq_true rfl) rfl (Nat.le_of_ble_eq_true rfl) (m_endedNow hM hN hFS) (fun _ _ _ _ q => ⟨_, q.1⟩) (fun x g1 l1 s1 q w1 w2 => ?_)
      obtain ⟨q1, q2, q3, f1⟩ := q
      subst q2 q3
      refine g_ireturn dX9_count_112 rfl ?_
      refine ⟨?_, rfl, rfl, f1⟩
      unfold pc_ans
      rw [if_neg (by omega), if_neg (by omega), if_neg (by omega), if_neg (by omega), if_pos (by omega), q1]
    · skip
      refine g_tableIn 123 dX9_count_21 (by omega) (by omega) (by rw [hsw]; rfl) (by decide) ?_
      refine g_iconst dX9_count_123 (by decide) ?_
      refine g_ireturn dX9_count_124 rfl ?_
      refine ⟨?_, rfl, rfl, FA.rf⟩
      unfold pc_ans
      rw [if_neg (by omega), if_neg (by omega), if_neg (by omega), if_neg (by omega), if_neg (by omega), if_neg (by omega), if_neg (by omega), if_neg (by omega)]
    · skip
      refine g_tableIn 123 dX9_count_21 (by omega) (by omega) (by rw [hsw]; rfl) (by decide) ?_
      refine g_iconst dX9_count_123 (by decide) ?_
      refine g_ireturn dX9_count_124 rfl ?_
      refine ⟨?_, rfl, rfl, FA.rf⟩
      unfold pc_ans
      rw [if_neg (by omega), if_neg (by omega), if_neg (by omega), if_neg (by omega), if_neg (by omega), if_neg (by omega), if_neg (by omega), if_neg (by omega)]
    · skip
      refine g_tableIn 123 dX9_count_21 (by omega) (by omega) (by rw [hsw]; rfl) (by decide) ?_
      refine g_iconst dX9_count_123 (by decide) ?_
      refine g_ireturn dX9_count_124 rfl ?_
      refine ⟨?_, rfl, rfl, FA.rf⟩
      unfold pc_ans
      rw [if_neg (by omega), if_neg (by omega), if_neg (by omega), if_neg (by omega), if_neg (by omega), if_neg (by omega), if_neg (by omega), if_neg (by omega)]
    · skip
      refine g_tableIn 123 dX9_count_21 (by omega) (by omega) (by rw [hsw]; rfl) (by decide) ?_
      refine g_iconst dX9_count_123 (by decide) ?_
      refine g_ireturn dX9_count_124 rfl ?_
      refine ⟨?_, rfl, rfl, FA.rf⟩
      unfold pc_ans
      rw [if_neg (by omega), if_neg (by omega), if_neg (by omega), if_neg (by omega), if_neg (by omega), if_neg (by omega), if_neg (by omega), if_neg (by omega)]
    · skip
      refine g_tableIn 123 dX9_count_21 (by omega) (by omega) (by rw [hsw]; rfl) (by decide) ?_
      refine g_iconst dX9_count_123 (by decide) ?_
      refine g_ireturn dX9_count_124 rfl ?_
      refine ⟨?_, rfl, rfl, FA.rf⟩
      unfold pc_ans
      rw [if_neg (by omega), if_neg (by omega), if_neg (by omega), if_neg (by omega), if_neg (by omega), if_neg (by omega), if_neg (by omega), if_neg (by omega)]
    · skip
      refine g_tableIn 113 dX9_count_21 (by omega) (by omega) (by rw [hsw]; rfl) (by decide) ?_
      refine g_aload_n dX9_count_113 rfl ?_
      refine g_getI 5 dX9_count_114 flX9_142 rfl hM.o ?_
      refine g_ireturn dX9_count_117 rfl ?_
      refine ⟨?_, rfl, rfl, FA.rf⟩
      unfold pc_ans
      rw [if_neg (by omega), if_neg (by omega), if_neg (by omega), if_neg (by omega), if_neg (by omega), if_neg (by omega), if_pos hsw, hh]
    · skip
      refine g_tableIn 118 dX9_count_21 (by omega) (by omega) (by rw [hsw]; rfl) (by decide) ?_
      refine g_aload_n dX9_count_118 rfl ?_
      refine g_getI 7 dX9_count_119 flX9_99 rfl hM.o ?_
      refine g_ireturn dX9_count_122 rfl ?_
      refine ⟨?_, rfl, rfl, FA.rf⟩
      unfold pc_ans
      rw [if_neg (by omega), if_neg (by omega), if_neg (by omega), if_neg (by omega), if_neg (by omega), if_neg (by omega), if_neg (by omega), if_pos hsw, hn]
  · skip
    have c1 := (zb_q _).yes h11
    refine g_aload_n dX9_count_14 rfl ?_
    refine g_iload_n dX9_count_15 rfl ?_
    refine g_callV_i [_] dX9_count_16 mlX9_247 mvX9_howMany (by decide) hM.o (by decide) rfl rfl (Nat.le_of_ble_eq_true rfl) rfl (Nat.le_of_ble_eq_true rfl) (m_howMany hM hN hFS w c1) (fun _ _ _ _ q => ⟨_, q.1⟩) (fun x g1 l1 s1 q w1 w2 => ?_)
    obtain ⟨q1, q2, q3, f1⟩ := q
    subst q2 q3
    refine g_ireturn dX9_count_19 rfl ?_
    refine ⟨?_, rfl, rfl, f1⟩
    unfold pc_ans
    rw [if_neg (by omega), if_neg (by omega), if_neg (by omega), if_neg (by omega), if_neg (by omega), if_pos (by omega), q1]

noncomputable def pt_ans (er : Int → gRw) (pl kn nm : gRw) (ec k w : Int) : Int := if ¬ (0 ≤ k ∧ k < pl 2) then -1 else if w = 0 then kn k else if w = 1 then nm k else if w = 2 then v_ksum (fun i => v_rule pl kn nm (er i)) k ec.toNat else -1
set_option maxRecDepth 20000 in
set_option maxHeartbeats 1000000 in
theorem m_told (hM : isMd sh) (hN : MN gi gl pl kn T ln nm) (hFS : FS (clo (pl 3) ln) (pl 8) T S er ec) (k w : Int) : Ct mdX9_told 0 0 [vR 190, vI k, vI w] gi gl sh (AK (pt_ans er pl kn nm ec k w) gi gl sh) := by
  show Go mdX9_told 0 0 0 [some (vR 190), some (vI k), some (vI w)] [] gi gl sh _
  have pr := hN.1.1
  have h4 := hN.2.1.2.2.2.2.2.2.2.1
  refine g_aload_n dX9_told_0 rfl ?_
  refine g_iload_n dX9_told_1 rfl ?_
  refine g_cVi [_] dX9_told_2 mlX9_163 mvX9_isRuleThere (by decide) hM.o (by decide) rfl rfl (Nat.le_of_ble_eq_true rfl) rfl (Nat.le_of_ble_eq_true rfl) (m_isRuleThere hM k (pl 2) _ pr h4 (zb_q _)) ?_
  refine g_if_eq 20 dX9_told_5 (by decide) (fun h5 => ?_) (fun h5 => ?_)
  · skip
    have c1 := (zb_q _).no h5
    refine g_iconst dX9_told_20 (by decide) ?_
    refine g_ireturn dX9_told_21 rfl ?_
    refine ⟨?_, rfl, rfl, FA.rf⟩
    unfold pt_ans
    rw [if_pos c1]
  · skip
    have c1 := (zb_q _).yes h5
    have ek := hN.1.2.2 k c1.1 c1.2
    have en := hN.2.2.2.2.2 k c1.1 c1.2
    have en2 := (hN.2.1.2.2.2.2.2.2.2.2 k c1.1 c1.2).2
    refine g_iload_n dX9_told_8 rfl ?_
    refine g_i2l dX9_told_9 ?_
    refine g_lconst 0 dX9_told_10 (by decide) (by decide) ?_
    refine g_ldc2 (n := 2) dX9_told_11 cnX9_94 (by decide) ?_
    refine g_cSi [_, _, _] dX9_told_14 mlX9_106 msX9_within (by decide) rfl rfl (Nat.le_of_ble_eq_true rfl) rfl (Nat.le_of_ble_eq_true rfl) (m_within _ _ _ _ (zb_q _)) ?_
    refine g_if_ne 22 dX9_told_17 (by decide) (fun h17 => ?_) (fun h17 => ?_)
    · skip
      have c2 := (zb_q _).yes h17
      refine g_iload_n dX9_told_22 rfl ?_
      refine g_if_ne 35 dX9_told_23 (by decide) (fun h23 => ?_) (fun h23 => ?_)
      · skip
        refine g_iload_n dX9_told_35 rfl ?_
        refine g_iconst dX9_told_36 (by decide) ?_
        refine g_icmp_ne 53 dX9_told_37 (by decide) (fun h37 => ?_) (fun h37 => ?_)
        · skip
          refine g_aload_n dX9_told_53 rfl ?_
          refine g_iload_n dX9_told_54 rfl ?_
          refine g_callV_i [_] dX9_told_55 mlX9_253 mvX9_judgedBy (by decide) hM.o (by decide) rfl rfl (Nat.le_of_ble_eq_true rfl) rfl (Nat.le_of_ble_eq_true rfl) (m_judgedBy hM hN hFS k) (fun _ _ _ _ q => ⟨_, q.1⟩) (fun x g1 l1 s1 q w1 w2 => ?_)
          obtain ⟨q1, q2, q3, f1⟩ := q
          subst q2 q3
          refine g_ireturn dX9_told_58 rfl ?_
          refine ⟨?_, rfl, rfl, f1⟩
          unfold pt_ans
          rw [if_neg (fun v => v c1), if_neg (by omega), if_neg (by omega), if_pos (by omega), q1]
        · skip
          refine g_aload_n dX9_told_40 rfl ?_
          refine g_getR 3 dX9_told_41 flX9_16 rfl hM.o hM.r3 ?_
          refine g_bipush dX9_told_44 (by decide) (by decide) ?_
          refine g_iload_n dX9_told_46 rfl ?_
          refine g_iadd dX9_told_47 (by omega) (by omega) ?_
          refine g_laload dX9_told_48 hM.k193 (by omega) (hM.b193 (by omega)) ?_
          rw [en]
          refine g_l2i dX9_told_49 (by omega) (by omega) ?_
          refine g_goto 58 dX9_told_50 (by decide) ?_
          refine g_ireturn dX9_told_58 rfl ?_
          refine ⟨?_, rfl, rfl, FA.rf⟩
          unfold pt_ans
          rw [if_neg (fun v => v c1), if_neg (by omega), if_pos (by omega)]
      · skip
        refine g_aload_n dX9_told_26 rfl ?_
        refine g_getR 2 dX9_told_27 flX9_13 rfl hM.o hM.r2 ?_
        refine g_iload_n dX9_told_30 rfl ?_
        refine g_iaload dX9_told_31 hM.k192 (by omega) (hM.b192 (by omega)) ?_
        refine g_goto 58 dX9_told_32 (by decide) ?_
        refine g_ireturn dX9_told_58 rfl ?_
        refine ⟨?_, rfl, rfl, FA.rf⟩
        unfold pt_ans
        rw [if_neg (fun v => v c1), if_pos (by omega), ek]
    · skip
      have c2 := zb_nn h17
      refine g_iconst dX9_told_20 (by decide) ?_
      refine g_ireturn dX9_told_21 rfl ?_
      refine ⟨?_, rfl, rfl, FA.rf⟩
      unfold pt_ans
      rw [if_neg (fun v => v c1), if_neg (fun v => c2 (by omega)), if_neg (fun v => c2 (by omega)), if_neg (fun v => c2 (by omega))]

end MD13
