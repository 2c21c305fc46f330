/-! SpeckValves: asked -/
theorem pl_ok.v4 {pl kn nm : gRw} (h : pl_ok pl kn nm) : pl 4 ≤ 16 := by
  obtain ⟨h3, h4, -⟩ := h
  refine Classical.byContradiction (fun hn => ?_)
  have := Int.emod_eq_of_lt (a := pl 3) (b := pl 4) (by omega) (by omega)
  omega
/-- openings in the memory are few and small -/
theorem CI.vl {gi gl : gF} {sh : gSh} {la oa : Int} (hc : CI gi gl sh la oa) {j : Int} (h0 : 0 ≤ j) (h1 : j < 16) : (0 ≤ gi (79 + 4 + 3 * j) 2 ∧ gi (79 + 4 + 3 * j) 2 ≤ 31) ∧ vl_ok gi (79 + 4 + 3 * j) (gi (79 + 4 + 3 * j) 2) := by
  obtain ⟨⟨hs, hct, hcs, hch, hcf⟩, hvd⟩ := hc
  have hec := hcf.2.2.2
  have hj := jv_ok (kn := gi (la + 1)) (nu := gi 6) hcs.1.p (gi 27 4).toNat (fun b b0 b1 => hcf.bok (clo_b _ _) hcs.2.1 _ b b0 (by omega)) j h0 h1
  obtain ⟨e1, e2⟩ := hvd.2 j h0 h1
  have hj1 : 0 ≤ (jv (fvE gi) (gi la) (gi (la + 1)) (gi 6) (gi 27 4).toNat).2.1 j ∧ (jv (fvE gi) (gi la) (gi (la + 1)) (gi 6) (gi 27 4).toNat).2.1 j ≤ (gi 27 4).toNat := hj.1
  refine ⟨by omega, fun k k0 k1 => ?_⟩
  obtain ⟨e3, e4⟩ := e2 k k0 (by omega)
  have := hj.2 k k0 (by omega)
  rw [e3, e4]
  exact ⟨this.1.1, this.1.2, this.2.1, this.2.2⟩
def op_ans (gi : gF) (la j k w : Int) : Int := if ¬ (0 ≤ j ∧ j < gi la 4) ∨ k < -1 ∨ w < 0 ∨ 1 < w then -1 else if k = -1 then gi (79 + 4 + 3 * j) 2 else if gi (79 + 4 + 3 * j) 2 ≤ k then -4 else if w = 0 then gi (79 + 4 + 3 * j + 1) k else gi (79 + 4 + 3 * j + 2) k
def ai_ans (gi : gF) (la j : Int) : Int := if 0 ≤ j ∧ j < gi la 4 then vl_sum (gi (79 + 4 + 3 * j + 1)) (gi (79 + 4 + 3 * j + 2)) (gi (79 + 4 + 3 * j) 2).toNat else -1
noncomputable def co_ans (gi : gF) (la w : Int) : Int := if w = 0 then gi la 3 else if w = 1 then gi la 4 else if w = 2 then gi la 2 else if w = 3 then gi 4 2 else if w = 4 then gi 27 4 else if 5 ≤ w ∧ w ≤ 9 then v_csum (gi la) (gi (79 + 1)) (gi (79 + 2)) (fun b => gi (32 + b)) w (gi 27 4).toNat else if w = 10 then gi 7 1 else if w = 11 then gi 1 2 else -1
def to_ans (gi : gF) (la k w : Int) : Int := if ¬ (0 ≤ k ∧ k < gi la 2) then -1 else if w = 0 then gi (la + 1) k else if w = 1 then gi 6 k else if w = 2 then v_ksum (gi (79 + 1)) k (gi 27 4).toNat else -1
def on_ans (gi : gF) (w : Int) : Int := if w = 0 then f_cnt (fun s => gi (63 + s)) 16 else if w = 1 then f_sum (fun s => gi (63 + s)) 16 else -1
theorem CI.bw {gi gl : gF} {sh : gSh} {la oa : Int} (hc : CI gi gl sh la oa) : ∀ b : Int, 0 ≤ b → b < gi 27 4 → gi (79 + 2) b = 0 ∨ gi (79 + 2) b = 1 := fun b b0 b1 => by
  rw [(hc.2.1 b b0 b1).2]
  have := (zb_q (v_bl (jv (fvE gi) (gi la) (gi (la + 1)) (gi 6) (gi 27 4).toNat).2 (gi la) (fvE gi b))).b
  unfold jb
  omega
section COMP7
variable {gi gl : gF} {sh : gSh} {la oa : Int}
set_option maxRecDepth 20000 in
set_option maxHeartbeats 1000000 in
theorem c_isValve (hs : isSV sh la oa) (h4 : gi la 4 ≤ 16) (k z : Int) (hz : Zq (0 ≤ k ∧ k < gi la 4) z) : Ct mdX8_isValve 0 0 [vR 0, vI k] gi gl sh (Rt (some (vI z)) gi gl sh) := by
  show Go mdX8_isValve 0 0 0 [some (vR 0), some (vI k)] [] gi gl sh _
  obtain ⟨⟨k0, r0, r1, r2, r3, r4, r5, r6, r7, r8, hla⟩, hTx, hSt, hHi, hFo, hV1, hV2, ⟨k183, l183⟩, hP1, hP2⟩ := id hs
  refine g_iload_n dX8_isValve_0 rfl ?_
  refine g_if_lt 25 dX8_isValve_1 (by decide) (fun h1 => ?_) (fun h1 => ?_)
  · skip
    refine g_iconst dX8_isValve_25 (by decide) ?_
    refine g_zreturn dX8_isValve_26 rfl (by omega) ?_
    exact ⟨by rw [hz.2 (by omega)], rfl, rfl, rfl⟩
  · skip
    refine g_iload_n dX8_isValve_4 rfl ?_
    refine g_aload_n dX8_isValve_5 rfl ?_
    refine g_getR 7 dX8_isValve_6 flX8_54 rfl (by assumption) (by assumption) ?_
    refine g_getIN 4 dX8_isValve_9 fnX8_222 rfl (by exact hs.pl.1.1) ?_
    refine g_icmp_ge 25 dX8_isValve_12 (by decide) (fun h12 => ?_) (fun h12 => ?_)
    · skip
      refine g_iconst dX8_isValve_25 (by decide) ?_
      refine g_zreturn dX8_isValve_26 rfl (by omega) ?_
      exact ⟨by rw [hz.2 (by omega)], rfl, rfl, rfl⟩
    · skip
      refine g_iload_n dX8_isValve_15 rfl ?_
      refine g_bipush dX8_isValve_16 (by decide) (by decide) ?_
      refine g_icmp_ge 25 dX8_isValve_18 (by decide) (fun h18 => ?_) (fun h18 => ?_)
      · exfalso; omega
      · skip
        refine g_iconst dX8_isValve_21 (by decide) ?_
        refine g_goto 26 dX8_isValve_22 (by decide) ?_
        refine g_zreturn dX8_isValve_26 rfl (by omega) ?_
        exact ⟨by rw [hz.1 (by omega)], rfl, rfl, rfl⟩

set_option maxRecDepth 20000 in
set_option maxHeartbeats 1000000 in
theorem c_gain (hc : CI gi gl sh la oa) : Ct mdX8_gain 0 0 [vR 0] gi gl sh (Rt (some (vI (v_wsum (gi (79 + 2)) (fun b => gi (32 + b)) (gi 27 4).toNat + 10000))) gi gl sh) := by
  show Go mdX8_gain 0 0 0 [some (vR 0)] [] gi gl sh _
  obtain ⟨⟨k0, r0, r1, r2, r3, r4, r5, r6, r7, r8, hla⟩, hTx, hSt, hHi, hFo, hV1, hV2, ⟨k183, l183⟩, hP1, hP2⟩ := id hc.1.1
  obtain ⟨ks0, sr0, sr1, ks1, ls1, ks2, ls2⟩ := id hSt
  obtain ⟨⟨hs, hct, hcs, hch, hcf⟩, hvd⟩ := id hc
  have hT := hcs.2.1
  have hpk := hcs.1
  have hW := hpk.1
  have hrc := hpk.2.2.2.2.2.2.2.1
  have hh := hch.1
  have hn := hch.2.1
  have hec := hcf.2.2.2
  have ho := hFo.2.2.2.2.2.1
  obtain ⟨v0, vr0, vr1, vr2, vkb, vlb, vkw, vlw, vkv, vlv, hJ⟩ := id hV1
  obtain ⟨kt0, tr0, tr1, kt1, lt1, kt2, lt2⟩ := id hTx
  obtain ⟨f0, fr0, fr1, -, -, -, f1, fl1, f2, fl2, -, -, hE, hL⟩ := id hFo
  obtain ⟨kp0, pr0, pr1, kp1, lp1, kp2, lp2⟩ := id hs.pl.1
  have hv4 := hpk.v4
  have hv1 := hpk.2.1.1
  have hbo : ∀ b : Int, 0 ≤ b → b < gi 27 4 → bl_ok (gi (32 + b)) := fun b b0 b1 => (hcf.bok (clo_b _ _) hT (gi la) b b0 b1).1
  refine g_aload_n dX8_gain_0 rfl ?_
  refine g_getR 4 dX8_gain_1 flX8_40 rfl (by assumption) (by assumption) ?_
  refine g_aload_n dX8_gain_4 rfl ?_
  refine g_getR 3 dX8_gain_5 flX8_33 rfl (by assumption) (by assumption) ?_
  refine g_cVi [_] dX8_gain_8 mlX8_202 mvX7_worth (by decide) (by assumption) (by decide) rfl rfl (Nat.le_of_ble_eq_true rfl) rfl (Nat.le_of_ble_eq_true rfl) (c_worthV hV1 hFo (gi 27 4) rfl hec hbo) ?_
  refine g_sipush dX8_gain_11 (by decide) (by decide) ?_
  have hwb := v_wsum_b (bw := gi (79 + 2)) (er := fun b => gi (32 + b)) (gi 27 4).toNat (fun b b0 b1 => hbo b b0 (by omega))
  refine g_iadd dX8_gain_14 (by omega) (by omega) ?_
  refine g_ireturn dX8_gain_15 rfl ?_
  exact ⟨rfl, rfl, rfl, rfl⟩

set_option maxRecDepth 20000 in
set_option maxHeartbeats 1000000 in
theorem c_air (hc : CI gi gl sh la oa) (j : Int) : Ct mdX8_air 0 0 [vR 0, vI j] gi gl sh (Rt (some (vI (ai_ans gi la j))) gi gl sh) := by
  show Go mdX8_air 0 0 0 [some (vR 0), some (vI j)] [] gi gl sh _
  obtain ⟨⟨k0, r0, r1, r2, r3, r4, r5, r6, r7, r8, hla⟩, hTx, hSt, hHi, hFo, hV1, hV2, ⟨k183, l183⟩, hP1, hP2⟩ := id hc.1.1
  obtain ⟨ks0, sr0, sr1, ks1, ls1, ks2, ls2⟩ := id hSt
  obtain ⟨⟨hs, hct, hcs, hch, hcf⟩, hvd⟩ := id hc
  have hT := hcs.2.1
  have hpk := hcs.1
  have hW := hpk.1
  have hrc := hpk.2.2.2.2.2.2.2.1
  have hh := hch.1
  have hn := hch.2.1
  have hec := hcf.2.2.2
  have ho := hFo.2.2.2.2.2.1
  obtain ⟨v0, vr0, vr1, vr2, vkb, vlb, vkw, vlw, vkv, vlv, hJ⟩ := id hV1
  obtain ⟨kt0, tr0, tr1, kt1, lt1, kt2, lt2⟩ := id hTx
  obtain ⟨f0, fr0, fr1, -, -, -, f1, fl1, f2, fl2, -, -, hE, hL⟩ := id hFo
  obtain ⟨kp0, pr0, pr1, kp1, lp1, kp2, lp2⟩ := id hs.pl.1
  have hv4 := hpk.v4
  have hv1 := hpk.2.1.1
  have hbo : ∀ b : Int, 0 ≤ b → b < gi 27 4 → bl_ok (gi (32 + b)) := fun b b0 b1 => (hcf.bok (clo_b _ _) hT (gi la) b b0 b1).1
  have hz := zb_q (0 ≤ j ∧ j < gi la 4)
  generalize zb (0 ≤ j ∧ j < gi la 4) = z9 at hz
  have hzb := hz.b
  refine g_aload_n dX8_air_0 rfl ?_
  refine g_iload_n dX8_air_1 rfl ?_
  refine g_cVi [_] dX8_air_2 mlX8_181 mvX8_isValve (by decide) (by assumption) (by decide) rfl rfl (Nat.le_of_ble_eq_true rfl) rfl (Nat.le_of_ble_eq_true rfl) (c_isValve hs hv4 j z9 hz) ?_
  refine g_if_eq 23 dX8_air_5 (by decide) (fun h5 => ?_) (fun h5 => ?_)
  · skip
    have hnj : ¬ (0 ≤ j ∧ j < gi la 4) := hz.no (by omega)
    refine g_iconst dX8_air_23 (by decide) ?_
    refine g_ireturn dX8_air_24 rfl ?_
    refine ⟨?_, rfl, rfl, rfl⟩
    unfold ai_ans
    first
      | rw [if_pos (by omega)]
      | rw [if_neg (by omega), if_pos (by omega)]
      | rw [if_neg (by omega), if_neg (by omega), if_pos (by omega)]
      | rw [if_neg (by omega), if_neg (by omega), if_neg (by omega), if_pos (by omega)]
      | rw [if_neg (by omega), if_neg (by omega), if_neg (by omega), if_neg (by omega), if_pos (by omega)]
      | rw [if_neg (by omega), if_neg (by omega), if_neg (by omega), if_neg (by omega), if_neg (by omega), if_pos (by omega)]
      | rw [if_neg (by omega), if_neg (by omega), if_neg (by omega), if_neg (by omega), if_neg (by omega), if_neg (by omega), if_pos (by omega)]
      | rw [if_neg (by omega), if_neg (by omega), if_neg (by omega), if_neg (by omega), if_neg (by omega), if_neg (by omega), if_neg (by omega), if_pos (by omega)]
      | rw [if_neg (by omega), if_neg (by omega), if_neg (by omega), if_neg (by omega), if_neg (by omega), if_neg (by omega), if_neg (by omega), if_neg (by omega)]
      | rw [if_neg (by omega), if_neg (by omega), if_neg (by omega), if_neg (by omega)]
      | rw [if_neg (by omega), if_neg (by omega)]
      | rw [if_neg (by omega)]
  · skip
    have hj : 0 ≤ j ∧ j < gi la 4 := hz.yes (by omega)
    obtain ⟨hjr, hjv⟩ := hJ j hj.1 (by omega)
    obtain ⟨kj0, jr0, jr1, kj1, lj1, kj2, lj2⟩ := id hjv
    obtain ⟨hjn, hjo⟩ := hc.vl hj.1 (show j < 16 by omega)
    refine g_aload_n dX8_air_8 rfl ?_
    refine g_getR 4 dX8_air_9 flX8_40 rfl (by assumption) (by assumption) ?_
    refine g_getRN 2 dX8_air_12 fnX8_184 rfl (by assumption) (by assumption) ?_
    refine g_iload_n dX8_air_15 rfl ?_
    refine g_aaload dX8_air_16 (by assumption) (by decide) (by decide) (by omega) (by omega) (by assumption) ?_
    refine g_cVi [] dX8_air_17 mlX8_199 mvX6_ticksOpen (by decide) (by assumption) (by decide) rfl rfl (Nat.le_of_ble_eq_true rfl) rfl (Nat.le_of_ble_eq_true rfl) (c_ticksOpen hjv hjn hjo) ?_
    refine g_goto 24 dX8_air_20 (by decide) ?_
    refine g_ireturn dX8_air_24 rfl ?_
    refine ⟨?_, rfl, rfl, rfl⟩
    unfold ai_ans
    first
      | rw [if_pos (by omega)]
      | rw [if_neg (by omega), if_pos (by omega)]
      | rw [if_neg (by omega), if_neg (by omega), if_pos (by omega)]
      | rw [if_neg (by omega), if_neg (by omega), if_neg (by omega), if_pos (by omega)]
      | rw [if_neg (by omega), if_neg (by omega), if_neg (by omega), if_neg (by omega), if_pos (by omega)]
      | rw [if_neg (by omega), if_neg (by omega), if_neg (by omega), if_neg (by omega), if_neg (by omega), if_pos (by omega)]
      | rw [if_neg (by omega), if_neg (by omega), if_neg (by omega), if_neg (by omega), if_neg (by omega), if_neg (by omega), if_pos (by omega)]
      | rw [if_neg (by omega), if_neg (by omega), if_neg (by omega), if_neg (by omega), if_neg (by omega), if_neg (by omega), if_neg (by omega), if_pos (by omega)]
      | rw [if_neg (by omega), if_neg (by omega), if_neg (by omega), if_neg (by omega), if_neg (by omega), if_neg (by omega), if_neg (by omega), if_neg (by omega)]
      | rw [if_neg (by omega), if_neg (by omega), if_neg (by omega), if_neg (by omega)]
      | rw [if_neg (by omega), if_neg (by omega)]
      | rw [if_neg (by omega)]

set_option maxRecDepth 20000 in
set_option maxHeartbeats 1000000 in
theorem c_opening (hc : CI gi gl sh la oa) (j k w : Int) : Ct mdX8_opening 0 0 [vR 0, vI j, vI k, vI w] gi gl sh (Rt (some (vI (op_ans gi la j k w))) gi gl sh) := by
  show Go mdX8_opening 0 0 0 [some (vR 0), some (vI j), some (vI k), some (vI w), none] [] gi gl sh _
  obtain ⟨⟨k0, r0, r1, r2, r3, r4, r5, r6, r7, r8, hla⟩, hTx, hSt, hHi, hFo, hV1, hV2, ⟨k183, l183⟩, hP1, hP2⟩ := id hc.1.1
  obtain ⟨ks0, sr0, sr1, ks1, ls1, ks2, ls2⟩ := id hSt
  obtain ⟨⟨hs, hct, hcs, hch, hcf⟩, hvd⟩ := id hc
  have hT := hcs.2.1
  have hpk := hcs.1
  have hW := hpk.1
  have hrc := hpk.2.2.2.2.2.2.2.1
  have hh := hch.1
  have hn := hch.2.1
  have hec := hcf.2.2.2
  have ho := hFo.2.2.2.2.2.1
  obtain ⟨v0, vr0, vr1, vr2, vkb, vlb, vkw, vlw, vkv, vlv, hJ⟩ := id hV1
  obtain ⟨kt0, tr0, tr1, kt1, lt1, kt2, lt2⟩ := id hTx
  obtain ⟨f0, fr0, fr1, -, -, -, f1, fl1, f2, fl2, -, -, hE, hL⟩ := id hFo
  obtain ⟨kp0, pr0, pr1, kp1, lp1, kp2, lp2⟩ := id hs.pl.1
  have hv4 := hpk.v4
  have hv1 := hpk.2.1.1
  have hbo : ∀ b : Int, 0 ≤ b → b < gi 27 4 → bl_ok (gi (32 + b)) := fun b b0 b1 => (hcf.bok (clo_b _ _) hT (gi la) b b0 b1).1
  have hz := zb_q (0 ≤ j ∧ j < gi la 4)
  generalize zb (0 ≤ j ∧ j < gi la 4) = z9 at hz
  have hzb := hz.b
  refine g_aload_n dX8_opening_0 rfl ?_
  refine g_iload_n dX8_opening_1 rfl ?_
  refine g_cVi [_] dX8_opening_2 mlX8_181 mvX8_isValve (by decide) (by assumption) (by decide) rfl rfl (Nat.le_of_ble_eq_true rfl) rfl (Nat.le_of_ble_eq_true rfl) (c_isValve hs hv4 j z9 hz) ?_
  refine g_if_eq 22 dX8_opening_5 (by decide) (fun h5 => ?_) (fun h5 => ?_)
  · skip
    have hnj : ¬ (0 ≤ j ∧ j < gi la 4) := hz.no (by omega)
    refine g_iconst dX8_opening_22 (by decide) ?_
    refine g_ireturn dX8_opening_23 rfl ?_
    refine ⟨?_, rfl, rfl, rfl⟩
    unfold op_ans
    first
      | rw [if_pos (by omega)]
      | rw [if_neg (by omega), if_pos (by omega)]
      | rw [if_neg (by omega), if_neg (by omega), if_pos (by omega)]
      | rw [if_neg (by omega), if_neg (by omega), if_neg (by omega), if_pos (by omega)]
      | rw [if_neg (by omega), if_neg (by omega), if_neg (by omega), if_neg (by omega), if_pos (by omega)]
      | rw [if_neg (by omega), if_neg (by omega), if_neg (by omega), if_neg (by omega), if_neg (by omega), if_pos (by omega)]
      | rw [if_neg (by omega), if_neg (by omega), if_neg (by omega), if_neg (by omega), if_neg (by omega), if_neg (by omega), if_pos (by omega)]
      | rw [if_neg (by omega), if_neg (by omega), if_neg (by omega), if_neg (by omega), if_neg (by omega), if_neg (by omega), if_neg (by omega), if_pos (by omega)]
      | rw [if_neg (by omega), if_neg (by omega), if_neg (by omega), if_neg (by omega), if_neg (by omega), if_neg (by omega), if_neg (by omega), if_neg (by omega)]
      | rw [if_neg (by omega), if_neg (by omega), if_neg (by omega), if_neg (by omega)]
      | rw [if_neg (by omega), if_neg (by omega)]
      | rw [if_neg (by omega)]
  · skip
    have hj : 0 ≤ j ∧ j < gi la 4 := hz.yes (by omega)
    obtain ⟨hjr, hjv⟩ := hJ j hj.1 (by omega)
    obtain ⟨kj0, jr0, jr1, kj1, lj1, kj2, lj2⟩ := id hjv
    obtain ⟨hjn, hjo⟩ := hc.vl hj.1 (show j < 16 by omega)
    refine g_iload_n dX8_opening_8 rfl ?_
    refine g_iconst dX8_opening_9 (by decide) ?_
    refine g_icmp_lt 22 dX8_opening_10 (by decide) (fun h10 => ?_) (fun h10 => ?_)
    · skip
      refine g_iconst dX8_opening_22 (by decide) ?_
      refine g_ireturn dX8_opening_23 rfl ?_
      refine ⟨?_, rfl, rfl, rfl⟩
      unfold op_ans
      first
        | rw [if_pos (by omega)]
        | rw [if_neg (by omega), if_pos (by omega)]
        | rw [if_neg (by omega), if_neg (by omega), if_pos (by omega)]
        | rw [if_neg (by omega), if_neg (by omega), if_neg (by omega), if_pos (by omega)]
        | rw [if_neg (by omega), if_neg (by omega), if_neg (by omega), if_neg (by omega), if_pos (by omega)]
        | rw [if_neg (by omega), if_neg (by omega), if_neg (by omega), if_neg (by omega), if_neg (by omega), if_pos (by omega)]
        | rw [if_neg (by omega), if_neg (by omega), if_neg (by omega), if_neg (by omega), if_neg (by omega), if_neg (by omega), if_pos (by omega)]
        | rw [if_neg (by omega), if_neg (by omega), if_neg (by omega), if_neg (by omega), if_neg (by omega), if_neg (by omega), if_neg (by omega), if_pos (by omega)]
        | rw [if_neg (by omega), if_neg (by omega), if_neg (by omega), if_neg (by omega), if_neg (by omega), if_neg (by omega), if_neg (by omega), if_neg (by omega)]
        | rw [if_neg (by omega), if_neg (by omega), if_neg (by omega), if_neg (by omega)]
        | rw [if_neg (by omega), if_neg (by omega)]
        | rw [if_neg (by omega)]
    · skip
      refine g_iload_n dX8_opening_13 rfl ?_
      refine g_if_lt 22 dX8_opening_14 (by decide) (fun h14 => ?_) (fun h14 => ?_)
      · skip
        refine g_iconst dX8_opening_22 (by decide) ?_
        refine g_ireturn dX8_opening_23 rfl ?_
        refine ⟨?_, rfl, rfl, rfl⟩
        unfold op_ans
        first
          | rw [if_pos (by omega)]
          | rw [if_neg (by omega), if_pos (by omega)]
          | rw [if_neg (by omega), if_neg (by omega), if_pos (by omega)]
          | rw [if_neg (by omega), if_neg (by omega), if_neg (by omega), if_pos (by omega)]
          | rw [if_neg (by omega), if_neg (by omega), if_neg (by omega), if_neg (by omega), if_pos (by omega)]
          | rw [if_neg (by omega), if_neg (by omega), if_neg (by omega), if_neg (by omega), if_neg (by omega), if_pos (by omega)]
          | rw [if_neg (by omega), if_neg (by omega), if_neg (by omega), if_neg (by omega), if_neg (by omega), if_neg (by omega), if_pos (by omega)]
          | rw [if_neg (by omega), if_neg (by omega), if_neg (by omega), if_neg (by omega), if_neg (by omega), if_neg (by omega), if_neg (by omega), if_pos (by omega)]
          | rw [if_neg (by omega), if_neg (by omega), if_neg (by omega), if_neg (by omega), if_neg (by omega), if_neg (by omega), if_neg (by omega), if_neg (by omega)]
          | rw [if_neg (by omega), if_neg (by omega), if_neg (by omega), if_neg (by omega)]
          | rw [if_neg (by omega), if_neg (by omega)]
          | rw [if_neg (by omega)]
      · skip
        refine g_iload_n dX8_opening_17 rfl ?_
        refine g_iconst dX8_opening_18 (by decide) ?_
        refine g_icmp_le 24 dX8_opening_19 (by decide) (fun h19 => ?_) (fun h19 => ?_)
        · skip
          refine g_aload_n dX8_opening_24 rfl ?_
          refine g_getR 4 dX8_opening_25 flX8_40 rfl (by assumption) (by assumption) ?_
          refine g_getRN 2 dX8_opening_28 fnX8_184 rfl (by assumption) (by assumption) ?_
          refine g_iload_n dX8_opening_31 rfl ?_
          refine g_aaload dX8_opening_32 (by assumption) (by decide) (by decide) (by omega) (by omega) (by assumption) ?_
          refine n_astore (lN := [_, _, _, _, _]) dX8_opening_33 (by decide) rfl ?_
          refine g_iload_n dX8_opening_35 rfl ?_
          refine g_iconst dX8_opening_36 (by decide) ?_
          refine g_icmp_ne 46 dX8_opening_37 (by decide) (fun h37 => ?_) (fun h37 => ?_)
          · skip
            refine g_iload_n dX8_opening_46 rfl ?_
            refine g_aload dX8_opening_47 rfl ?_
            refine g_getIN 2 dX8_opening_49 fnX8_188 rfl (by assumption) ?_
            refine g_icmp_ge 65 dX8_opening_52 (by decide) (fun h52 => ?_) (fun h52 => ?_)
            · skip
              refine g_bipush dX8_opening_65 (by decide) (by decide) ?_
              refine g_ireturn dX8_opening_67 rfl ?_
              refine ⟨?_, rfl, rfl, rfl⟩
              unfold op_ans
              first
                | rw [if_pos (by omega)]
                | rw [if_neg (by omega), if_pos (by omega)]
                | rw [if_neg (by omega), if_neg (by omega), if_pos (by omega)]
                | rw [if_neg (by omega), if_neg (by omega), if_neg (by omega), if_pos (by omega)]
                | rw [if_neg (by omega), if_neg (by omega), if_neg (by omega), if_neg (by omega), if_pos (by omega)]
                | rw [if_neg (by omega), if_neg (by omega), if_neg (by omega), if_neg (by omega), if_neg (by omega), if_pos (by omega)]
                | rw [if_neg (by omega), if_neg (by omega), if_neg (by omega), if_neg (by omega), if_neg (by omega), if_neg (by omega), if_pos (by omega)]
                | rw [if_neg (by omega), if_neg (by omega), if_neg (by omega), if_neg (by omega), if_neg (by omega), if_neg (by omega), if_neg (by omega), if_pos (by omega)]
                | rw [if_neg (by omega), if_neg (by omega), if_neg (by omega), if_neg (by omega), if_neg (by omega), if_neg (by omega), if_neg (by omega), if_neg (by omega)]
                | rw [if_neg (by omega), if_neg (by omega), if_neg (by omega), if_neg (by omega)]
                | rw [if_neg (by omega), if_neg (by omega)]
                | rw [if_neg (by omega)]
            · skip
              refine g_iload_n dX8_opening_55 rfl ?_
              refine g_aload dX8_opening_56 rfl ?_
              refine g_getRN 0 dX8_opening_58 fnX8_193 rfl (by assumption) (by assumption) ?_
              refine g_alen _ dX8_opening_61 (by omega) (by assumption) (by decide) ?_
              refine g_icmp_lt 68 dX8_opening_62 (by decide) (fun h62 => ?_) (fun h62 => ?_)
              · skip
                refine g_iload_n dX8_opening_68 rfl ?_
                refine g_if_ne 82 dX8_opening_69 (by decide) (fun h69 => ?_) (fun h69 => ?_)
                · skip
                  refine g_aload dX8_opening_82 rfl ?_
                  refine g_getRN 1 dX8_opening_84 fnX8_196 rfl (by assumption) (by assumption) ?_
                  refine g_iload_n dX8_opening_87 rfl ?_
                  refine g_iaload dX8_opening_88 (by assumption) (by omega) (by omega) ?_
                  refine g_ireturn dX8_opening_89 rfl ?_
                  refine ⟨?_, rfl, rfl, rfl⟩
                  unfold op_ans
                  first
                    | rw [if_pos (by omega)]
                    | rw [if_neg (by omega), if_pos (by omega)]
                    | rw [if_neg (by omega), if_neg (by omega), if_pos (by omega)]
                    | rw [if_neg (by omega), if_neg (by omega), if_neg (by omega), if_pos (by omega)]
                    | rw [if_neg (by omega), if_neg (by omega), if_neg (by omega), if_neg (by omega), if_pos (by omega)]
                    | rw [if_neg (by omega), if_neg (by omega), if_neg (by omega), if_neg (by omega), if_neg (by omega), if_pos (by omega)]
                    | rw [if_neg (by omega), if_neg (by omega), if_neg (by omega), if_neg (by omega), if_neg (by omega), if_neg (by omega), if_pos (by omega)]
                    | rw [if_neg (by omega), if_neg (by omega), if_neg (by omega), if_neg (by omega), if_neg (by omega), if_neg (by omega), if_neg (by omega), if_pos (by omega)]
                    | rw [if_neg (by omega), if_neg (by omega), if_neg (by omega), if_neg (by omega), if_neg (by omega), if_neg (by omega), if_neg (by omega), if_neg (by omega)]
                    | rw [if_neg (by omega), if_neg (by omega), if_neg (by omega), if_neg (by omega)]
                    | rw [if_neg (by omega), if_neg (by omega)]
                    | rw [if_neg (by omega)]
                · skip
                  refine g_aload dX8_opening_72 rfl ?_
                  refine g_getRN 0 dX8_opening_74 fnX8_193 rfl (by assumption) (by assumption) ?_
                  refine g_iload_n dX8_opening_77 rfl ?_
                  refine g_iaload dX8_opening_78 (by assumption) (by omega) (by omega) ?_
                  refine g_goto 89 dX8_opening_79 (by decide) ?_
                  refine g_ireturn dX8_opening_89 rfl ?_
                  refine ⟨?_, rfl, rfl, rfl⟩
                  unfold op_ans
                  first
                    | rw [if_pos (by omega)]
                    | rw [if_neg (by omega), if_pos (by omega)]
                    | rw [if_neg (by omega), if_neg (by omega), if_pos (by omega)]
                    | rw [if_neg (by omega), if_neg (by omega), if_neg (by omega), if_pos (by omega)]
                    | rw [if_neg (by omega), if_neg (by omega), if_neg (by omega), if_neg (by omega), if_pos (by omega)]
                    | rw [if_neg (by omega), if_neg (by omega), if_neg (by omega), if_neg (by omega), if_neg (by omega), if_pos (by omega)]
                    | rw [if_neg (by omega), if_neg (by omega), if_neg (by omega), if_neg (by omega), if_neg (by omega), if_neg (by omega), if_pos (by omega)]
                    | rw [if_neg (by omega), if_neg (by omega), if_neg (by omega), if_neg (by omega), if_neg (by omega), if_neg (by omega), if_neg (by omega), if_pos (by omega)]
                    | rw [if_neg (by omega), if_neg (by omega), if_neg (by omega), if_neg (by omega), if_neg (by omega), if_neg (by omega), if_neg (by omega), if_neg (by omega)]
                    | rw [if_neg (by omega), if_neg (by omega), if_neg (by omega), if_neg (by omega)]
                    | rw [if_neg (by omega), if_neg (by omega)]
                    | rw [if_neg (by omega)]
              · exfalso; omega
          · skip
            refine g_aload dX8_opening_40 rfl ?_
            refine g_getIN 2 dX8_opening_42 fnX8_188 rfl (by assumption) ?_
            refine g_ireturn dX8_opening_45 rfl ?_
            refine ⟨?_, rfl, rfl, rfl⟩
            unfold op_ans
            first
              | rw [if_pos (by omega)]
              | rw [if_neg (by omega), if_pos (by omega)]
              | rw [if_neg (by omega), if_neg (by omega), if_pos (by omega)]
              | rw [if_neg (by omega), if_neg (by omega), if_neg (by omega), if_pos (by omega)]
              | rw [if_neg (by omega), if_neg (by omega), if_neg (by omega), if_neg (by omega), if_pos (by omega)]
              | rw [if_neg (by omega), if_neg (by omega), if_neg (by omega), if_neg (by omega), if_neg (by omega), if_pos (by omega)]
              | rw [if_neg (by omega), if_neg (by omega), if_neg (by omega), if_neg (by omega), if_neg (by omega), if_neg (by omega), if_pos (by omega)]
              | rw [if_neg (by omega), if_neg (by omega), if_neg (by omega), if_neg (by omega), if_neg (by omega), if_neg (by omega), if_neg (by omega), if_pos (by omega)]
              | rw [if_neg (by omega), if_neg (by omega), if_neg (by omega), if_neg (by omega), if_neg (by omega), if_neg (by omega), if_neg (by omega), if_neg (by omega)]
              | rw [if_neg (by omega), if_neg (by omega), if_neg (by omega), if_neg (by omega)]
              | rw [if_neg (by omega), if_neg (by omega)]
              | rw [if_neg (by omega)]
        · skip
          refine g_iconst dX8_opening_22 (by decide) ?_
          refine g_ireturn dX8_opening_23 rfl ?_
          refine ⟨?_, rfl, rfl, rfl⟩
          unfold op_ans
          first
            | rw [if_pos (by omega)]
            | rw [if_neg (by omega), if_pos (by omega)]
            | rw [if_neg (by omega), if_neg (by omega), if_pos (by omega)]
            | rw [if_neg (by omega), if_neg (by omega), if_neg (by omega), if_pos (by omega)]
            | rw [if_neg (by omega), if_neg (by omega), if_neg (by omega), if_neg (by omega), if_pos (by omega)]
            | rw [if_neg (by omega), if_neg (by omega), if_neg (by omega), if_neg (by omega), if_neg (by omega), if_pos (by omega)]
            | rw [if_neg (by omega), if_neg (by omega), if_neg (by omega), if_neg (by omega), if_neg (by omega), if_neg (by omega), if_pos (by omega)]
            | rw [if_neg (by omega), if_neg (by omega), if_neg (by omega), if_neg (by omega), if_neg (by omega), if_neg (by omega), if_neg (by omega), if_pos (by omega)]
            | rw [if_neg (by omega), if_neg (by omega), if_neg (by omega), if_neg (by omega), if_neg (by omega), if_neg (by omega), if_neg (by omega), if_neg (by omega)]
            | rw [if_neg (by omega), if_neg (by omega), if_neg (by omega), if_neg (by omega)]
            | rw [if_neg (by omega), if_neg (by omega)]
            | rw [if_neg (by omega)]

set_option maxRecDepth 20000 in
set_option maxHeartbeats 1000000 in
theorem c_open (hc : CI gi gl sh la oa) (w : Int) : Ct mdX8_open 0 0 [vR 0, vI w] gi gl sh (Rt (some (vI (on_ans gi w))) gi gl sh) := by
  show Go mdX8_open 0 0 0 [some (vR 0), some (vI w)] [] gi gl sh _
  obtain ⟨⟨k0, r0, r1, r2, r3, r4, r5, r6, r7, r8, hla⟩, hTx, hSt, hHi, hFo, hV1, hV2, ⟨k183, l183⟩, hP1, hP2⟩ := id hc.1.1
  obtain ⟨ks0, sr0, sr1, ks1, ls1, ks2, ls2⟩ := id hSt
  obtain ⟨⟨hs, hct, hcs, hch, hcf⟩, hvd⟩ := id hc
  have hT := hcs.2.1
  have hpk := hcs.1
  have hW := hpk.1
  have hrc := hpk.2.2.2.2.2.2.2.1
  have hh := hch.1
  have hn := hch.2.1
  have hec := hcf.2.2.2
  have ho := hFo.2.2.2.2.2.1
  obtain ⟨v0, vr0, vr1, vr2, vkb, vlb, vkw, vlw, vkv, vlv, hJ⟩ := id hV1
  obtain ⟨kt0, tr0, tr1, kt1, lt1, kt2, lt2⟩ := id hTx
  obtain ⟨f0, fr0, fr1, -, -, -, f1, fl1, f2, fl2, -, -, hE, hL⟩ := id hFo
  obtain ⟨kp0, pr0, pr1, kp1, lp1, kp2, lp2⟩ := id hs.pl.1
  have hv4 := hpk.v4
  have hv1 := hpk.2.1.1
  have hbo : ∀ b : Int, 0 ≤ b → b < gi 27 4 → bl_ok (gi (32 + b)) := fun b b0 b1 => (hcf.bok (clo_b _ _) hT (gi la) b b0 b1).1
  have cq1 := c_liveBlobs (gi := emem gi (fvE gi) (gi 27 4)) (gl := gl) hFo (fvS gi oa)
  rw [← fmem_self gi oa ho] at cq1
  have cq2 := c_liveCells (gi := emem gi (fvE gi) (gi 27 4)) (gl := gl) hFo (fvS gi oa) hcf.okS
  rw [← fmem_self gi oa ho] at cq2
  refine g_iload_n dX8_open_0 rfl ?_
  rcases (show (w ≠ 0 ∧ w ≠ 1) ∨ w = 0 ∨ w = 1 by omega) with hsw | hsw | hsw
  · skip
    refine g_lookup (off := 43) 44 dX8_open_1 (by decide) (by simp [Op.lookupswitch.offset, Ne.symm, hsw, Ne.symm hsw.1, Ne.symm hsw.2]) (by decide) ?_
    refine g_iconst dX8_open_44 (by decide) ?_
    refine g_ireturn dX8_open_45 rfl ?_
    refine ⟨?_, rfl, rfl, rfl⟩
    unfold on_ans
    try unfold fvS
    first
      | rw [if_pos (by omega)]
      | rw [if_neg (by omega), if_pos (by omega)]
      | rw [if_neg (by omega), if_neg (by omega), if_pos (by omega)]
      | rw [if_neg (by omega), if_neg (by omega), if_neg (by omega), if_pos (by omega)]
      | rw [if_neg (by omega), if_neg (by omega), if_neg (by omega), if_neg (by omega), if_pos (by omega)]
      | rw [if_neg (by omega), if_neg (by omega), if_neg (by omega), if_neg (by omega), if_neg (by omega), if_pos (by omega)]
      | rw [if_neg (by omega), if_neg (by omega), if_neg (by omega), if_neg (by omega), if_neg (by omega), if_neg (by omega), if_pos (by omega)]
      | rw [if_neg (by omega), if_neg (by omega), if_neg (by omega), if_neg (by omega), if_neg (by omega), if_neg (by omega), if_neg (by omega), if_pos (by omega)]
      | rw [if_neg (by omega), if_neg (by omega), if_neg (by omega), if_neg (by omega), if_neg (by omega), if_neg (by omega), if_neg (by omega), if_neg (by omega)]
      | rw [if_neg (by omega), if_neg (by omega), if_neg (by omega), if_neg (by omega)]
      | rw [if_neg (by omega), if_neg (by omega)]
      | rw [if_neg (by omega)]
  · skip
    refine g_lookup (off := 27) 28 dX8_open_1 (by decide) (by rw [hsw]; rfl) (by decide) ?_
    refine g_aload_n dX8_open_28 rfl ?_
    refine g_getR 3 dX8_open_29 flX8_33 rfl (by assumption) (by assumption) ?_
    refine g_cVi [] dX8_open_32 mlX8_175 mvX1_liveBlobs (by decide) (by assumption) (by decide) rfl rfl (Nat.le_of_ble_eq_true rfl) rfl (Nat.le_of_ble_eq_true rfl) (cq1) ?_
    refine g_ireturn dX8_open_35 rfl ?_
    refine ⟨?_, rfl, rfl, rfl⟩
    unfold on_ans
    try unfold fvS
    first
      | rw [if_pos (by omega)]
      | rw [if_neg (by omega), if_pos (by omega)]
      | rw [if_neg (by omega), if_neg (by omega), if_pos (by omega)]
      | rw [if_neg (by omega), if_neg (by omega), if_neg (by omega), if_pos (by omega)]
      | rw [if_neg (by omega), if_neg (by omega), if_neg (by omega), if_neg (by omega), if_pos (by omega)]
      | rw [if_neg (by omega), if_neg (by omega), if_neg (by omega), if_neg (by omega), if_neg (by omega), if_pos (by omega)]
      | rw [if_neg (by omega), if_neg (by omega), if_neg (by omega), if_neg (by omega), if_neg (by omega), if_neg (by omega), if_pos (by omega)]
      | rw [if_neg (by omega), if_neg (by omega), if_neg (by omega), if_neg (by omega), if_neg (by omega), if_neg (by omega), if_neg (by omega), if_pos (by omega)]
      | rw [if_neg (by omega), if_neg (by omega), if_neg (by omega), if_neg (by omega), if_neg (by omega), if_neg (by omega), if_neg (by omega), if_neg (by omega)]
      | rw [if_neg (by omega), if_neg (by omega), if_neg (by omega), if_neg (by omega)]
      | rw [if_neg (by omega), if_neg (by omega)]
      | rw [if_neg (by omega)]
  · skip
    refine g_lookup (off := 35) 36 dX8_open_1 (by decide) (by rw [hsw]; rfl) (by decide) ?_
    refine g_aload_n dX8_open_36 rfl ?_
    refine g_getR 3 dX8_open_37 flX8_33 rfl (by assumption) (by assumption) ?_
    refine g_cVi [] dX8_open_40 mlX8_178 mvX1_liveCells (by decide) (by assumption) (by decide) rfl rfl (Nat.le_of_ble_eq_true rfl) rfl (Nat.le_of_ble_eq_true rfl) (cq2) ?_
    refine g_ireturn dX8_open_43 rfl ?_
    refine ⟨?_, rfl, rfl, rfl⟩
    unfold on_ans
    try unfold fvS
    first
      | rw [if_pos (by omega)]
      | rw [if_neg (by omega), if_pos (by omega)]
      | rw [if_neg (by omega), if_neg (by omega), if_pos (by omega)]
      | rw [if_neg (by omega), if_neg (by omega), if_neg (by omega), if_pos (by omega)]
      | rw [if_neg (by omega), if_neg (by omega), if_neg (by omega), if_neg (by omega), if_pos (by omega)]
      | rw [if_neg (by omega), if_neg (by omega), if_neg (by omega), if_neg (by omega), if_neg (by omega), if_pos (by omega)]
      | rw [if_neg (by omega), if_neg (by omega), if_neg (by omega), if_neg (by omega), if_neg (by omega), if_neg (by omega), if_pos (by omega)]
      | rw [if_neg (by omega), if_neg (by omega), if_neg (by omega), if_neg (by omega), if_neg (by omega), if_neg (by omega), if_neg (by omega), if_pos (by omega)]
      | rw [if_neg (by omega), if_neg (by omega), if_neg (by omega), if_neg (by omega), if_neg (by omega), if_neg (by omega), if_neg (by omega), if_neg (by omega)]
      | rw [if_neg (by omega), if_neg (by omega), if_neg (by omega), if_neg (by omega)]
      | rw [if_neg (by omega), if_neg (by omega)]
      | rw [if_neg (by omega)]

set_option maxRecDepth 20000 in
set_option maxHeartbeats 1000000 in
theorem c_told (hc : CI gi gl sh la oa) (k w : Int) : Ct mdX8_told 0 0 [vR 0, vI k, vI w] gi gl sh (Rt (some (vI (to_ans gi la k w))) gi gl sh) := by
  show Go mdX8_told 0 0 0 [some (vR 0), some (vI k), some (vI w)] [] gi gl sh _
  obtain ⟨⟨k0, r0, r1, r2, r3, r4, r5, r6, r7, r8, hla⟩, hTx, hSt, hHi, hFo, hV1, hV2, ⟨k183, l183⟩, hP1, hP2⟩ := id hc.1.1
  obtain ⟨ks0, sr0, sr1, ks1, ls1, ks2, ls2⟩ := id hSt
  obtain ⟨⟨hs, hct, hcs, hch, hcf⟩, hvd⟩ := id hc
  have hT := hcs.2.1
  have hpk := hcs.1
  have hW := hpk.1
  have hrc := hpk.2.2.2.2.2.2.2.1
  have hh := hch.1
  have hn := hch.2.1
  have hec := hcf.2.2.2
  have ho := hFo.2.2.2.2.2.1
  obtain ⟨v0, vr0, vr1, vr2, vkb, vlb, vkw, vlw, vkv, vlv, hJ⟩ := id hV1
  obtain ⟨kt0, tr0, tr1, kt1, lt1, kt2, lt2⟩ := id hTx
  obtain ⟨f0, fr0, fr1, -, -, -, f1, fl1, f2, fl2, -, -, hE, hL⟩ := id hFo
  obtain ⟨kp0, pr0, pr1, kp1, lp1, kp2, lp2⟩ := id hs.pl.1
  have hv4 := hpk.v4
  have hv1 := hpk.2.1.1
  have hbo : ∀ b : Int, 0 ≤ b → b < gi 27 4 → bl_ok (gi (32 + b)) := fun b b0 b1 => (hcf.bok (clo_b _ _) hT (gi la) b b0 b1).1
  have sr6 : sh.1 4 1 = some 6 := sr1
  have ks6 : sh.2.1 6 = 11 := ks2
  have ls6 : (sh.2.2.1 6 : Int) = 4 := ls2
  have hz := zb_q (0 ≤ k ∧ k < gi la 2)
  generalize zb (0 ≤ k ∧ k < gi la 2) = z9 at hz
  refine g_aload_n dX8_told_0 rfl ?_
  refine g_iload_n dX8_told_1 rfl ?_
  refine g_cVi [_] dX8_told_2 mlX8_110 mvX8_isRule (by decide) (by assumption) (by decide) rfl rfl (Nat.le_of_ble_eq_true rfl) rfl (Nat.le_of_ble_eq_true rfl) (c_isRule hs hrc.2 k z9 hz) ?_
  refine g_if_ne 10 dX8_told_5 (by decide) (fun h5 => ?_) (fun h5 => ?_)
  · skip
    have hk : 0 ≤ k ∧ k < gi la 2 := hz.yes (by omega)
    refine g_iload_n dX8_told_10 rfl ?_
    rcases (show w < 0 ∨ 2 < w ∨ w = 0 ∨ w = 1 ∨ w = 2 by omega) with hsw | hsw | hsw | hsw | hsw
    · skip
      refine g_tableOut 69 dX8_told_11 (by omega) (by decide) ?_
      refine g_iconst dX8_told_69 (by decide) ?_
      refine g_ireturn dX8_told_70 rfl ?_
      refine ⟨?_, rfl, rfl, rfl⟩
      unfold to_ans
      first
        | rw [if_pos (by omega)]
        | rw [if_neg (by omega), if_pos (by omega)]
        | rw [if_neg (by omega), if_neg (by omega), if_pos (by omega)]
        | rw [if_neg (by omega), if_neg (by omega), if_neg (by omega), if_pos (by omega)]
        | rw [if_neg (by omega), if_neg (by omega), if_neg (by omega), if_neg (by omega), if_pos (by omega)]
        | rw [if_neg (by omega), if_neg (by omega), if_neg (by omega), if_neg (by omega), if_neg (by omega), if_pos (by omega)]
        | rw [if_neg (by omega), if_neg (by omega), if_neg (by omega), if_neg (by omega), if_neg (by omega), if_neg (by omega), if_pos (by omega)]
        | rw [if_neg (by omega), if_neg (by omega), if_neg (by omega), if_neg (by omega), if_neg (by omega), if_neg (by omega), if_neg (by omega), if_pos (by omega)]
        | rw [if_neg (by omega), if_neg (by omega), if_neg (by omega), if_neg (by omega), if_neg (by omega), if_neg (by omega), if_neg (by omega), if_neg (by omega)]
        | rw [if_neg (by omega), if_neg (by omega), if_neg (by omega), if_neg (by omega)]
        | rw [if_neg (by omega), if_neg (by omega)]
        | rw [if_neg (by omega)]
    · skip
      refine g_tableOut 69 dX8_told_11 (by omega) (by decide) ?_
      refine g_iconst dX8_told_69 (by decide) ?_
      refine g_ireturn dX8_told_70 rfl ?_
      refine ⟨?_, rfl, rfl, rfl⟩
      unfold to_ans
      first
        | rw [if_pos (by omega)]
        | rw [if_neg (by omega), if_pos (by omega)]
        | rw [if_neg (by omega), if_neg (by omega), if_pos (by omega)]
        | rw [if_neg (by omega), if_neg (by omega), if_neg (by omega), if_pos (by omega)]
        | rw [if_neg (by omega), if_neg (by omega), if_neg (by omega), if_neg (by omega), if_pos (by omega)]
        | rw [if_neg (by omega), if_neg (by omega), if_neg (by omega), if_neg (by omega), if_neg (by omega), if_pos (by omega)]
        | rw [if_neg (by omega), if_neg (by omega), if_neg (by omega), if_neg (by omega), if_neg (by omega), if_neg (by omega), if_pos (by omega)]
        | rw [if_neg (by omega), if_neg (by omega), if_neg (by omega), if_neg (by omega), if_neg (by omega), if_neg (by omega), if_neg (by omega), if_pos (by omega)]
        | rw [if_neg (by omega), if_neg (by omega), if_neg (by omega), if_neg (by omega), if_neg (by omega), if_neg (by omega), if_neg (by omega), if_neg (by omega)]
        | rw [if_neg (by omega), if_neg (by omega), if_neg (by omega), if_neg (by omega)]
        | rw [if_neg (by omega), if_neg (by omega)]
        | rw [if_neg (by omega)]
    · skip
      refine g_tableIn 36 dX8_told_11 (by omega) (by omega) (by rw [hsw]; rfl) (by decide) ?_
      refine g_aload_n dX8_told_36 rfl ?_
      refine g_getR 7 dX8_told_37 flX8_54 rfl (by assumption) (by assumption) ?_
      refine g_getRN 0 dX8_told_40 fnX8_216 rfl (by assumption) (by assumption) ?_
      refine g_iload_n dX8_told_43 rfl ?_
      refine g_iaload dX8_told_44 (by assumption) (by omega) (by omega) ?_
      refine g_ireturn dX8_told_45 rfl ?_
      refine ⟨?_, rfl, rfl, rfl⟩
      unfold to_ans
      first
        | rw [if_pos (by omega)]
        | rw [if_neg (by omega), if_pos (by omega)]
        | rw [if_neg (by omega), if_neg (by omega), if_pos (by omega)]
        | rw [if_neg (by omega), if_neg (by omega), if_neg (by omega), if_pos (by omega)]
        | rw [if_neg (by omega), if_neg (by omega), if_neg (by omega), if_neg (by omega), if_pos (by omega)]
        | rw [if_neg (by omega), if_neg (by omega), if_neg (by omega), if_neg (by omega), if_neg (by omega), if_pos (by omega)]
        | rw [if_neg (by omega), if_neg (by omega), if_neg (by omega), if_neg (by omega), if_neg (by omega), if_neg (by omega), if_pos (by omega)]
        | rw [if_neg (by omega), if_neg (by omega), if_neg (by omega), if_neg (by omega), if_neg (by omega), if_neg (by omega), if_neg (by omega), if_pos (by omega)]
        | rw [if_neg (by omega), if_neg (by omega), if_neg (by omega), if_neg (by omega), if_neg (by omega), if_neg (by omega), if_neg (by omega), if_neg (by omega)]
        | rw [if_neg (by omega), if_neg (by omega), if_neg (by omega), if_neg (by omega)]
        | rw [if_neg (by omega), if_neg (by omega)]
        | rw [if_neg (by omega)]
    · skip
      refine g_tableIn 46 dX8_told_11 (by omega) (by omega) (by rw [hsw]; rfl) (by decide) ?_
      refine g_aload_n dX8_told_46 rfl ?_
      refine g_getR 1 dX8_told_47 flX8_19 rfl (by assumption) (by assumption) ?_
      refine g_getRN 1 dX8_told_50 fnX8_114 rfl (by assumption) (by assumption) ?_
      refine g_iload_n dX8_told_53 rfl ?_
      refine g_iaload dX8_told_54 (by assumption) (by omega) (by omega) ?_
      refine g_ireturn dX8_told_55 rfl ?_
      refine ⟨?_, rfl, rfl, rfl⟩
      unfold to_ans
      first
        | rw [if_pos (by omega)]
        | rw [if_neg (by omega), if_pos (by omega)]
        | rw [if_neg (by omega), if_neg (by omega), if_pos (by omega)]
        | rw [if_neg (by omega), if_neg (by omega), if_neg (by omega), if_pos (by omega)]
        | rw [if_neg (by omega), if_neg (by omega), if_neg (by omega), if_neg (by omega), if_pos (by omega)]
        | rw [if_neg (by omega), if_neg (by omega), if_neg (by omega), if_neg (by omega), if_neg (by omega), if_pos (by omega)]
        | rw [if_neg (by omega), if_neg (by omega), if_neg (by omega), if_neg (by omega), if_neg (by omega), if_neg (by omega), if_pos (by omega)]
        | rw [if_neg (by omega), if_neg (by omega), if_neg (by omega), if_neg (by omega), if_neg (by omega), if_neg (by omega), if_neg (by omega), if_pos (by omega)]
        | rw [if_neg (by omega), if_neg (by omega), if_neg (by omega), if_neg (by omega), if_neg (by omega), if_neg (by omega), if_neg (by omega), if_neg (by omega)]
        | rw [if_neg (by omega), if_neg (by omega), if_neg (by omega), if_neg (by omega)]
        | rw [if_neg (by omega), if_neg (by omega)]
        | rw [if_neg (by omega)]
    · skip
      refine g_tableIn 56 dX8_told_11 (by omega) (by omega) (by rw [hsw]; rfl) (by decide) ?_
      refine g_aload_n dX8_told_56 rfl ?_
      refine g_getR 4 dX8_told_57 flX8_40 rfl (by assumption) (by assumption) ?_
      refine g_aload_n dX8_told_60 rfl ?_
      refine g_getR 3 dX8_told_61 flX8_33 rfl (by assumption) (by assumption) ?_
      refine g_iload_n dX8_told_64 rfl ?_
      refine g_cVi [_, _] dX8_told_65 mlX8_229 mvX7_howManyBadBy (by decide) (by assumption) (by decide) rfl rfl (Nat.le_of_ble_eq_true rfl) rfl (Nat.le_of_ble_eq_true rfl) (c_badBy hV1 hFo (gi 27 4) rfl hec k) ?_
      refine g_ireturn dX8_told_68 rfl ?_
      refine ⟨?_, rfl, rfl, rfl⟩
      unfold to_ans
      first
        | rw [if_pos (by omega)]
        | rw [if_neg (by omega), if_pos (by omega)]
        | rw [if_neg (by omega), if_neg (by omega), if_pos (by omega)]
        | rw [if_neg (by omega), if_neg (by omega), if_neg (by omega), if_pos (by omega)]
        | rw [if_neg (by omega), if_neg (by omega), if_neg (by omega), if_neg (by omega), if_pos (by omega)]
        | rw [if_neg (by omega), if_neg (by omega), if_neg (by omega), if_neg (by omega), if_neg (by omega), if_pos (by omega)]
        | rw [if_neg (by omega), if_neg (by omega), if_neg (by omega), if_neg (by omega), if_neg (by omega), if_neg (by omega), if_pos (by omega)]
        | rw [if_neg (by omega), if_neg (by omega), if_neg (by omega), if_neg (by omega), if_neg (by omega), if_neg (by omega), if_neg (by omega), if_pos (by omega)]
        | rw [if_neg (by omega), if_neg (by omega), if_neg (by omega), if_neg (by omega), if_neg (by omega), if_neg (by omega), if_neg (by omega), if_neg (by omega)]
        | rw [if_neg (by omega), if_neg (by omega), if_neg (by omega), if_neg (by omega)]
        | rw [if_neg (by omega), if_neg (by omega)]
        | rw [if_neg (by omega)]
  · skip
    have hnk : ¬ (0 ≤ k ∧ k < gi la 2) := hz.no (by omega)
    refine g_iconst dX8_told_8 (by decide) ?_
    refine g_ireturn dX8_told_9 rfl ?_
    refine ⟨?_, rfl, rfl, rfl⟩
    unfold to_ans
    first
      | rw [if_pos (by omega)]
      | rw [if_neg (by omega), if_pos (by omega)]
      | rw [if_neg (by omega), if_neg (by omega), if_pos (by omega)]
      | rw [if_neg (by omega), if_neg (by omega), if_neg (by omega), if_pos (by omega)]
      | rw [if_neg (by omega), if_neg (by omega), if_neg (by omega), if_neg (by omega), if_pos (by omega)]
      | rw [if_neg (by omega), if_neg (by omega), if_neg (by omega), if_neg (by omega), if_neg (by omega), if_pos (by omega)]
      | rw [if_neg (by omega), if_neg (by omega), if_neg (by omega), if_neg (by omega), if_neg (by omega), if_neg (by omega), if_pos (by omega)]
      | rw [if_neg (by omega), if_neg (by omega), if_neg (by omega), if_neg (by omega), if_neg (by omega), if_neg (by omega), if_neg (by omega), if_pos (by omega)]
      | rw [if_neg (by omega), if_neg (by omega), if_neg (by omega), if_neg (by omega), if_neg (by omega), if_neg (by omega), if_neg (by omega), if_neg (by omega)]
      | rw [if_neg (by omega), if_neg (by omega), if_neg (by omega), if_neg (by omega)]
      | rw [if_neg (by omega), if_neg (by omega)]
      | rw [if_neg (by omega)]

set_option maxRecDepth 20000 in
set_option maxHeartbeats 1000000 in
theorem c_count (hc : CI gi gl sh la oa) (w : Int) : Ct mdX8_count 0 0 [vR 0, vI w] gi gl sh (Rt (some (vI (co_ans gi la w))) gi gl sh) := by
  show Go mdX8_count 0 0 0 [some (vR 0), some (vI w)] [] gi gl sh _
  obtain ⟨⟨k0, r0, r1, r2, r3, r4, r5, r6, r7, r8, hla⟩, hTx, hSt, hHi, hFo, hV1, hV2, ⟨k183, l183⟩, hP1, hP2⟩ := id hc.1.1
  obtain ⟨ks0, sr0, sr1, ks1, ls1, ks2, ls2⟩ := id hSt
  obtain ⟨⟨hs, hct, hcs, hch, hcf⟩, hvd⟩ := id hc
  have hT := hcs.2.1
  have hpk := hcs.1
  have hW := hpk.1
  have hrc := hpk.2.2.2.2.2.2.2.1
  have hh := hch.1
  have hn := hch.2.1
  have hec := hcf.2.2.2
  have ho := hFo.2.2.2.2.2.1
  obtain ⟨v0, vr0, vr1, vr2, vkb, vlb, vkw, vlw, vkv, vlv, hJ⟩ := id hV1
  obtain ⟨kt0, tr0, tr1, kt1, lt1, kt2, lt2⟩ := id hTx
  obtain ⟨f0, fr0, fr1, -, -, -, f1, fl1, f2, fl2, -, -, hE, hL⟩ := id hFo
  obtain ⟨kp0, pr0, pr1, kp1, lp1, kp2, lp2⟩ := id hs.pl.1
  have hv4 := hpk.v4
  have hv1 := hpk.2.1.1
  have hbo : ∀ b : Int, 0 ≤ b → b < gi 27 4 → bl_ok (gi (32 + b)) := fun b b0 b1 => (hcf.bok (clo_b _ _) hT (gi la) b b0 b1).1
  have hp5 : (0 ≤ gi la 5 ∧ gi la 5 ≤ 20) ∧ (0 ≤ gi la 6 ∧ gi la 6 ≤ 5) := ⟨hpk.2.2.1, hpk.2.2.2.1⟩
  refine g_iload_n dX8_count_0 rfl ?_
  rcases (show w < 0 ∨ 11 < w ∨ w = 0 ∨ w = 1 ∨ w = 2 ∨ w = 3 ∨ w = 4 ∨ w = 5 ∨ w = 6 ∨ w = 7 ∨ w = 8 ∨ w = 9 ∨ w = 10 ∨ w = 11 by omega) with hsw | hsw | hsw | hsw | hsw | hsw | hsw | hsw | hsw | hsw | hsw | hsw | hsw | hsw
  · skip
    refine g_tableOut 137 dX8_count_1 (by omega) (by decide) ?_
    refine g_iconst dX8_count_137 (by decide) ?_
    refine g_ireturn dX8_count_138 rfl ?_
    refine ⟨?_, rfl, rfl, rfl⟩
    unfold co_ans
    first
      | rw [if_pos (by omega)]
      | rw [if_neg (by omega), if_pos (by omega)]
      | rw [if_neg (by omega), if_neg (by omega), if_pos (by omega)]
      | rw [if_neg (by omega), if_neg (by omega), if_neg (by omega), if_pos (by omega)]
      | rw [if_neg (by omega), if_neg (by omega), if_neg (by omega), if_neg (by omega), if_pos (by omega)]
      | rw [if_neg (by omega), if_neg (by omega), if_neg (by omega), if_neg (by omega), if_neg (by omega), if_pos (by omega)]
      | rw [if_neg (by omega), if_neg (by omega), if_neg (by omega), if_neg (by omega), if_neg (by omega), if_neg (by omega), if_pos (by omega)]
      | rw [if_neg (by omega), if_neg (by omega), if_neg (by omega), if_neg (by omega), if_neg (by omega), if_neg (by omega), if_neg (by omega), if_pos (by omega)]
      | rw [if_neg (by omega), if_neg (by omega), if_neg (by omega), if_neg (by omega), if_neg (by omega), if_neg (by omega), if_neg (by omega), if_neg (by omega)]
      | rw [if_neg (by omega), if_neg (by omega), if_neg (by omega), if_neg (by omega)]
      | rw [if_neg (by omega), if_neg (by omega)]
      | rw [if_neg (by omega)]
  · skip
    refine g_tableOut 137 dX8_count_1 (by omega) (by decide) ?_
    refine g_iconst dX8_count_137 (by decide) ?_
    refine g_ireturn dX8_count_138 rfl ?_
    refine ⟨?_, rfl, rfl, rfl⟩
    unfold co_ans
    first
      | rw [if_pos (by omega)]
      | rw [if_neg (by omega), if_pos (by omega)]
      | rw [if_neg (by omega), if_neg (by omega), if_pos (by omega)]
      | rw [if_neg (by omega), if_neg (by omega), if_neg (by omega), if_pos (by omega)]
      | rw [if_neg (by omega), if_neg (by omega), if_neg (by omega), if_neg (by omega), if_pos (by omega)]
      | rw [if_neg (by omega), if_neg (by omega), if_neg (by omega), if_neg (by omega), if_neg (by omega), if_pos (by omega)]
      | rw [if_neg (by omega), if_neg (by omega), if_neg (by omega), if_neg (by omega), if_neg (by omega), if_neg (by omega), if_pos (by omega)]
      | rw [if_neg (by omega), if_neg (by omega), if_neg (by omega), if_neg (by omega), if_neg (by omega), if_neg (by omega), if_neg (by omega), if_pos (by omega)]
      | rw [if_neg (by omega), if_neg (by omega), if_neg (by omega), if_neg (by omega), if_neg (by omega), if_neg (by omega), if_neg (by omega), if_neg (by omega)]
      | rw [if_neg (by omega), if_neg (by omega), if_neg (by omega), if_neg (by omega)]
      | rw [if_neg (by omega), if_neg (by omega)]
      | rw [if_neg (by omega)]
  · skip
    refine g_tableIn 64 dX8_count_1 (by omega) (by omega) (by rw [hsw]; rfl) (by decide) ?_
    refine g_aload_n dX8_count_64 rfl ?_
    refine g_getR 7 dX8_count_65 flX8_54 rfl (by assumption) (by assumption) ?_
    refine g_getIN 3 dX8_count_68 fnX8_83 rfl (by assumption) ?_
    refine g_ireturn dX8_count_71 rfl ?_
    refine ⟨?_, rfl, rfl, rfl⟩
    unfold co_ans
    first
      | rw [if_pos (by omega)]
      | rw [if_neg (by omega), if_pos (by omega)]
      | rw [if_neg (by omega), if_neg (by omega), if_pos (by omega)]
      | rw [if_neg (by omega), if_neg (by omega), if_neg (by omega), if_pos (by omega)]
      | rw [if_neg (by omega), if_neg (by omega), if_neg (by omega), if_neg (by omega), if_pos (by omega)]
      | rw [if_neg (by omega), if_neg (by omega), if_neg (by omega), if_neg (by omega), if_neg (by omega), if_pos (by omega)]
      | rw [if_neg (by omega), if_neg (by omega), if_neg (by omega), if_neg (by omega), if_neg (by omega), if_neg (by omega), if_pos (by omega)]
      | rw [if_neg (by omega), if_neg (by omega), if_neg (by omega), if_neg (by omega), if_neg (by omega), if_neg (by omega), if_neg (by omega), if_pos (by omega)]
      | rw [if_neg (by omega), if_neg (by omega), if_neg (by omega), if_neg (by omega), if_neg (by omega), if_neg (by omega), if_neg (by omega), if_neg (by omega)]
      | rw [if_neg (by omega), if_neg (by omega), if_neg (by omega), if_neg (by omega)]
      | rw [if_neg (by omega), if_neg (by omega)]
      | rw [if_neg (by omega)]
  · skip
    refine g_tableIn 72 dX8_count_1 (by omega) (by omega) (by rw [hsw]; rfl) (by decide) ?_
    refine g_aload_n dX8_count_72 rfl ?_
    refine g_getR 7 dX8_count_73 flX8_54 rfl (by assumption) (by assumption) ?_
    refine g_getIN 4 dX8_count_76 fnX8_222 rfl (by assumption) ?_
    refine g_ireturn dX8_count_79 rfl ?_
    refine ⟨?_, rfl, rfl, rfl⟩
    unfold co_ans
    first
      | rw [if_pos (by omega)]
      | rw [if_neg (by omega), if_pos (by omega)]
      | rw [if_neg (by omega), if_neg (by omega), if_pos (by omega)]
      | rw [if_neg (by omega), if_neg (by omega), if_neg (by omega), if_pos (by omega)]
      | rw [if_neg (by omega), if_neg (by omega), if_neg (by omega), if_neg (by omega), if_pos (by omega)]
      | rw [if_neg (by omega), if_neg (by omega), if_neg (by omega), if_neg (by omega), if_neg (by omega), if_pos (by omega)]
      | rw [if_neg (by omega), if_neg (by omega), if_neg (by omega), if_neg (by omega), if_neg (by omega), if_neg (by omega), if_pos (by omega)]
      | rw [if_neg (by omega), if_neg (by omega), if_neg (by omega), if_neg (by omega), if_neg (by omega), if_neg (by omega), if_neg (by omega), if_pos (by omega)]
      | rw [if_neg (by omega), if_neg (by omega), if_neg (by omega), if_neg (by omega), if_neg (by omega), if_neg (by omega), if_neg (by omega), if_neg (by omega)]
      | rw [if_neg (by omega), if_neg (by omega), if_neg (by omega), if_neg (by omega)]
      | rw [if_neg (by omega), if_neg (by omega)]
      | rw [if_neg (by omega)]
  · skip
    refine g_tableIn 80 dX8_count_1 (by omega) (by omega) (by rw [hsw]; rfl) (by decide) ?_
    refine g_aload_n dX8_count_80 rfl ?_
    refine g_getR 7 dX8_count_81 flX8_54 rfl (by assumption) (by assumption) ?_
    refine g_getIN 2 dX8_count_84 fnX8_80 rfl (by assumption) ?_
    refine g_ireturn dX8_count_87 rfl ?_
    refine ⟨?_, rfl, rfl, rfl⟩
    unfold co_ans
    first
      | rw [if_pos (by omega)]
      | rw [if_neg (by omega), if_pos (by omega)]
      | rw [if_neg (by omega), if_neg (by omega), if_pos (by omega)]
      | rw [if_neg (by omega), if_neg (by omega), if_neg (by omega), if_pos (by omega)]
      | rw [if_neg (by omega), if_neg (by omega), if_neg (by omega), if_neg (by omega), if_pos (by omega)]
      | rw [if_neg (by omega), if_neg (by omega), if_neg (by omega), if_neg (by omega), if_neg (by omega), if_pos (by omega)]
      | rw [if_neg (by omega), if_neg (by omega), if_neg (by omega), if_neg (by omega), if_neg (by omega), if_neg (by omega), if_pos (by omega)]
      | rw [if_neg (by omega), if_neg (by omega), if_neg (by omega), if_neg (by omega), if_neg (by omega), if_neg (by omega), if_neg (by omega), if_pos (by omega)]
      | rw [if_neg (by omega), if_neg (by omega), if_neg (by omega), if_neg (by omega), if_neg (by omega), if_neg (by omega), if_neg (by omega), if_neg (by omega)]
      | rw [if_neg (by omega), if_neg (by omega), if_neg (by omega), if_neg (by omega)]
      | rw [if_neg (by omega), if_neg (by omega)]
      | rw [if_neg (by omega)]
  · skip
    refine g_tableIn 88 dX8_count_1 (by omega) (by omega) (by rw [hsw]; rfl) (by decide) ?_
    refine g_aload_n dX8_count_88 rfl ?_
    refine g_getR 1 dX8_count_89 flX8_19 rfl (by assumption) (by assumption) ?_
    refine g_getIN 2 dX8_count_92 fnX8_90 rfl (by assumption) ?_
    refine g_ireturn dX8_count_95 rfl ?_
    refine ⟨?_, rfl, rfl, rfl⟩
    unfold co_ans
    first
      | rw [if_pos (by omega)]
      | rw [if_neg (by omega), if_pos (by omega)]
      | rw [if_neg (by omega), if_neg (by omega), if_pos (by omega)]
      | rw [if_neg (by omega), if_neg (by omega), if_neg (by omega), if_pos (by omega)]
      | rw [if_neg (by omega), if_neg (by omega), if_neg (by omega), if_neg (by omega), if_pos (by omega)]
      | rw [if_neg (by omega), if_neg (by omega), if_neg (by omega), if_neg (by omega), if_neg (by omega), if_pos (by omega)]
      | rw [if_neg (by omega), if_neg (by omega), if_neg (by omega), if_neg (by omega), if_neg (by omega), if_neg (by omega), if_pos (by omega)]
      | rw [if_neg (by omega), if_neg (by omega), if_neg (by omega), if_neg (by omega), if_neg (by omega), if_neg (by omega), if_neg (by omega), if_pos (by omega)]
      | rw [if_neg (by omega), if_neg (by omega), if_neg (by omega), if_neg (by omega), if_neg (by omega), if_neg (by omega), if_neg (by omega), if_neg (by omega)]
      | rw [if_neg (by omega), if_neg (by omega), if_neg (by omega), if_neg (by omega)]
      | rw [if_neg (by omega), if_neg (by omega)]
      | rw [if_neg (by omega)]
  · skip
    refine g_tableIn 96 dX8_count_1 (by omega) (by omega) (by rw [hsw]; rfl) (by decide) ?_
    refine g_aload_n dX8_count_96 rfl ?_
    refine g_getR 3 dX8_count_97 flX8_33 rfl (by assumption) (by assumption) ?_
    refine g_getIN 4 dX8_count_100 fnX8_93 rfl (by assumption) ?_
    refine g_ireturn dX8_count_103 rfl ?_
    refine ⟨?_, rfl, rfl, rfl⟩
    unfold co_ans
    first
      | rw [if_pos (by omega)]
      | rw [if_neg (by omega), if_pos (by omega)]
      | rw [if_neg (by omega), if_neg (by omega), if_pos (by omega)]
      | rw [if_neg (by omega), if_neg (by omega), if_neg (by omega), if_pos (by omega)]
      | rw [if_neg (by omega), if_neg (by omega), if_neg (by omega), if_neg (by omega), if_pos (by omega)]
      | rw [if_neg (by omega), if_neg (by omega), if_neg (by omega), if_neg (by omega), if_neg (by omega), if_pos (by omega)]
      | rw [if_neg (by omega), if_neg (by omega), if_neg (by omega), if_neg (by omega), if_neg (by omega), if_neg (by omega), if_pos (by omega)]
      | rw [if_neg (by omega), if_neg (by omega), if_neg (by omega), if_neg (by omega), if_neg (by omega), if_neg (by omega), if_neg (by omega), if_pos (by omega)]
      | rw [if_neg (by omega), if_neg (by omega), if_neg (by omega), if_neg (by omega), if_neg (by omega), if_neg (by omega), if_neg (by omega), if_neg (by omega)]
      | rw [if_neg (by omega), if_neg (by omega), if_neg (by omega), if_neg (by omega)]
      | rw [if_neg (by omega), if_neg (by omega)]
      | rw [if_neg (by omega)]
  · skip
    refine g_tableIn 104 dX8_count_1 (by omega) (by omega) (by rw [hsw]; rfl) (by decide) ?_
    refine g_aload_n dX8_count_104 rfl ?_
    refine g_getR 4 dX8_count_105 flX8_40 rfl (by assumption) (by assumption) ?_
    refine g_aload_n dX8_count_108 rfl ?_
    refine g_getR 7 dX8_count_109 flX8_54 rfl (by assumption) (by assumption) ?_
    refine g_aload_n dX8_count_112 rfl ?_
    refine g_getR 3 dX8_count_113 flX8_33 rfl (by assumption) (by assumption) ?_
    refine g_iload_n dX8_count_116 rfl ?_
    refine g_cVi [_, _, _] dX8_count_117 mlX8_225 mvX7_howMany (by decide) (by exact hV1.1) (by decide) rfl rfl (Nat.le_of_ble_eq_true rfl) rfl (Nat.le_of_ble_eq_true rfl) (c_howMany hV1 hFo (gi 27 4) rfl hec hs.pl.1.1 w hbo ⟨⟨hp5.1.1, by omega⟩, ⟨hp5.2.1, by omega⟩⟩ hc.bw) ?_
    refine g_ireturn dX8_count_120 rfl ?_
    refine ⟨?_, rfl, rfl, rfl⟩
    unfold co_ans
    first
      | rw [if_pos (by omega)]
      | rw [if_neg (by omega), if_pos (by omega)]
      | rw [if_neg (by omega), if_neg (by omega), if_pos (by omega)]
      | rw [if_neg (by omega), if_neg (by omega), if_neg (by omega), if_pos (by omega)]
      | rw [if_neg (by omega), if_neg (by omega), if_neg (by omega), if_neg (by omega), if_pos (by omega)]
      | rw [if_neg (by omega), if_neg (by omega), if_neg (by omega), if_neg (by omega), if_neg (by omega), if_pos (by omega)]
      | rw [if_neg (by omega), if_neg (by omega), if_neg (by omega), if_neg (by omega), if_neg (by omega), if_neg (by omega), if_pos (by omega)]
      | rw [if_neg (by omega), if_neg (by omega), if_neg (by omega), if_neg (by omega), if_neg (by omega), if_neg (by omega), if_neg (by omega), if_pos (by omega)]
      | rw [if_neg (by omega), if_neg (by omega), if_neg (by omega), if_neg (by omega), if_neg (by omega), if_neg (by omega), if_neg (by omega), if_neg (by omega)]
      | rw [if_neg (by omega), if_neg (by omega), if_neg (by omega), if_neg (by omega)]
      | rw [if_neg (by omega), if_neg (by omega)]
      | rw [if_neg (by omega)]
  · skip
    refine g_tableIn 104 dX8_count_1 (by omega) (by omega) (by rw [hsw]; rfl) (by decide) ?_
    refine g_aload_n dX8_count_104 rfl ?_
    refine g_getR 4 dX8_count_105 flX8_40 rfl (by assumption) (by assumption) ?_
    refine g_aload_n dX8_count_108 rfl ?_
    refine g_getR 7 dX8_count_109 flX8_54 rfl (by assumption) (by assumption) ?_
    refine g_aload_n dX8_count_112 rfl ?_
    refine g_getR 3 dX8_count_113 flX8_33 rfl (by assumption) (by assumption) ?_
    refine g_iload_n dX8_count_116 rfl ?_
    refine g_cVi [_, _, _] dX8_count_117 mlX8_225 mvX7_howMany (by decide) (by exact hV1.1) (by decide) rfl rfl (Nat.le_of_ble_eq_true rfl) rfl (Nat.le_of_ble_eq_true rfl) (c_howMany hV1 hFo (gi 27 4) rfl hec hs.pl.1.1 w hbo ⟨⟨hp5.1.1, by omega⟩, ⟨hp5.2.1, by omega⟩⟩ hc.bw) ?_
    refine g_ireturn dX8_count_120 rfl ?_
    refine ⟨?_, rfl, rfl, rfl⟩
    unfold co_ans
    first
      | rw [if_pos (by omega)]
      | rw [if_neg (by omega), if_pos (by omega)]
      | rw [if_neg (by omega), if_neg (by omega), if_pos (by omega)]
      | rw [if_neg (by omega), if_neg (by omega), if_neg (by omega), if_pos (by omega)]
      | rw [if_neg (by omega), if_neg (by omega), if_neg (by omega), if_neg (by omega), if_pos (by omega)]
      | rw [if_neg (by omega), if_neg (by omega), if_neg (by omega), if_neg (by omega), if_neg (by omega), if_pos (by omega)]
      | rw [if_neg (by omega), if_neg (by omega), if_neg (by omega), if_neg (by omega), if_neg (by omega), if_neg (by omega), if_pos (by omega)]
      | rw [if_neg (by omega), if_neg (by omega), if_neg (by omega), if_neg (by omega), if_neg (by omega), if_neg (by omega), if_neg (by omega), if_pos (by omega)]
      | rw [if_neg (by omega), if_neg (by omega), if_neg (by omega), if_neg (by omega), if_neg (by omega), if_neg (by omega), if_neg (by omega), if_neg (by omega)]
      | rw [if_neg (by omega), if_neg (by omega), if_neg (by omega), if_neg (by omega)]
      | rw [if_neg (by omega), if_neg (by omega)]
      | rw [if_neg (by omega)]
  · skip
    refine g_tableIn 104 dX8_count_1 (by omega) (by omega) (by rw [hsw]; rfl) (by decide) ?_
    refine g_aload_n dX8_count_104 rfl ?_
    refine g_getR 4 dX8_count_105 flX8_40 rfl (by assumption) (by assumption) ?_
    refine g_aload_n dX8_count_108 rfl ?_
    refine g_getR 7 dX8_count_109 flX8_54 rfl (by assumption) (by assumption) ?_
    refine g_aload_n dX8_count_112 rfl ?_
    refine g_getR 3 dX8_count_113 flX8_33 rfl (by assumption) (by assumption) ?_
    refine g_iload_n dX8_count_116 rfl ?_
    refine g_cVi [_, _, _] dX8_count_117 mlX8_225 mvX7_howMany (by decide) (by exact hV1.1) (by decide) rfl rfl (Nat.le_of_ble_eq_true rfl) rfl (Nat.le_of_ble_eq_true rfl) (c_howMany hV1 hFo (gi 27 4) rfl hec hs.pl.1.1 w hbo ⟨⟨hp5.1.1, by omega⟩, ⟨hp5.2.1, by omega⟩⟩ hc.bw) ?_
    refine g_ireturn dX8_count_120 rfl ?_
    refine ⟨?_, rfl, rfl, rfl⟩
    unfold co_ans
    first
      | rw [if_pos (by omega)]
      | rw [if_neg (by omega), if_pos (by omega)]
      | rw [if_neg (by omega), if_neg (by omega), if_pos (by omega)]
      | rw [if_neg (by omega), if_neg (by omega), if_neg (by omega), if_pos (by omega)]
      | rw [if_neg (by omega), if_neg (by omega), if_neg (by omega), if_neg (by omega), if_pos (by omega)]
      | rw [if_neg (by omega), if_neg (by omega), if_neg (by omega), if_neg (by omega), if_neg (by omega), if_pos (by omega)]
      | rw [if_neg (by omega), if_neg (by omega), if_neg (by omega), if_neg (by omega), if_neg (by omega), if_neg (by omega), if_pos (by omega)]
      | rw [if_neg (by omega), if_neg (by omega), if_neg (by omega), if_neg (by omega), if_neg (by omega), if_neg (by omega), if_neg (by omega), if_pos (by omega)]
      | rw [if_neg (by omega), if_neg (by omega), if_neg (by omega), if_neg (by omega), if_neg (by omega), if_neg (by omega), if_neg (by omega), if_neg (by omega)]
      | rw [if_neg (by omega), if_neg (by omega), if_neg (by omega), if_neg (by omega)]
      | rw [if_neg (by omega), if_neg (by omega)]
      | rw [if_neg (by omega)]
  · skip
    refine g_tableIn 104 dX8_count_1 (by omega) (by omega) (by rw [hsw]; rfl) (by decide) ?_
    refine g_aload_n dX8_count_104 rfl ?_
    refine g_getR 4 dX8_count_105 flX8_40 rfl (by assumption) (by assumption) ?_
    refine g_aload_n dX8_count_108 rfl ?_
    refine g_getR 7 dX8_count_109 flX8_54 rfl (by assumption) (by assumption) ?_
    refine g_aload_n dX8_count_112 rfl ?_
    refine g_getR 3 dX8_count_113 flX8_33 rfl (by assumption) (by assumption) ?_
    refine g_iload_n dX8_count_116 rfl ?_
    refine g_cVi [_, _, _] dX8_count_117 mlX8_225 mvX7_howMany (by decide) (by exact hV1.1) (by decide) rfl rfl (Nat.le_of_ble_eq_true rfl) rfl (Nat.le_of_ble_eq_true rfl) (c_howMany hV1 hFo (gi 27 4) rfl hec hs.pl.1.1 w hbo ⟨⟨hp5.1.1, by omega⟩, ⟨hp5.2.1, by omega⟩⟩ hc.bw) ?_
    refine g_ireturn dX8_count_120 rfl ?_
    refine ⟨?_, rfl, rfl, rfl⟩
    unfold co_ans
    first
      | rw [if_pos (by omega)]
      | rw [if_neg (by omega), if_pos (by omega)]
      | rw [if_neg (by omega), if_neg (by omega), if_pos (by omega)]
      | rw [if_neg (by omega), if_neg (by omega), if_neg (by omega), if_pos (by omega)]
      | rw [if_neg (by omega), if_neg (by omega), if_neg (by omega), if_neg (by omega), if_pos (by omega)]
      | rw [if_neg (by omega), if_neg (by omega), if_neg (by omega), if_neg (by omega), if_neg (by omega), if_pos (by omega)]
      | rw [if_neg (by omega), if_neg (by omega), if_neg (by omega), if_neg (by omega), if_neg (by omega), if_neg (by omega), if_pos (by omega)]
      | rw [if_neg (by omega), if_neg (by omega), if_neg (by omega), if_neg (by omega), if_neg (by omega), if_neg (by omega), if_neg (by omega), if_pos (by omega)]
      | rw [if_neg (by omega), if_neg (by omega), if_neg (by omega), if_neg (by omega), if_neg (by omega), if_neg (by omega), if_neg (by omega), if_neg (by omega)]
      | rw [if_neg (by omega), if_neg (by omega), if_neg (by omega), if_neg (by omega)]
      | rw [if_neg (by omega), if_neg (by omega)]
      | rw [if_neg (by omega)]
  · skip
    refine g_tableIn 104 dX8_count_1 (by omega) (by omega) (by rw [hsw]; rfl) (by decide) ?_
    refine g_aload_n dX8_count_104 rfl ?_
    refine g_getR 4 dX8_count_105 flX8_40 rfl (by assumption) (by assumption) ?_
    refine g_aload_n dX8_count_108 rfl ?_
    refine g_getR 7 dX8_count_109 flX8_54 rfl (by assumption) (by assumption) ?_
    refine g_aload_n dX8_count_112 rfl ?_
    refine g_getR 3 dX8_count_113 flX8_33 rfl (by assumption) (by assumption) ?_
    refine g_iload_n dX8_count_116 rfl ?_
    refine g_cVi [_, _, _] dX8_count_117 mlX8_225 mvX7_howMany (by decide) (by exact hV1.1) (by decide) rfl rfl (Nat.le_of_ble_eq_true rfl) rfl (Nat.le_of_ble_eq_true rfl) (c_howMany hV1 hFo (gi 27 4) rfl hec hs.pl.1.1 w hbo ⟨⟨hp5.1.1, by omega⟩, ⟨hp5.2.1, by omega⟩⟩ hc.bw) ?_
    refine g_ireturn dX8_count_120 rfl ?_
    refine ⟨?_, rfl, rfl, rfl⟩
    unfold co_ans
    first
      | rw [if_pos (by omega)]
      | rw [if_neg (by omega), if_pos (by omega)]
      | rw [if_neg (by omega), if_neg (by omega), if_pos (by omega)]
      | rw [if_neg (by omega), if_neg (by omega), if_neg (by omega), if_pos (by omega)]
      | rw [if_neg (by omega), if_neg (by omega), if_neg (by omega), if_neg (by omega), if_pos (by omega)]
      | rw [if_neg (by omega), if_neg (by omega), if_neg (by omega), if_neg (by omega), if_neg (by omega), if_pos (by omega)]
      | rw [if_neg (by omega), if_neg (by omega), if_neg (by omega), if_neg (by omega), if_neg (by omega), if_neg (by omega), if_pos (by omega)]
      | rw [if_neg (by omega), if_neg (by omega), if_neg (by omega), if_neg (by omega), if_neg (by omega), if_neg (by omega), if_neg (by omega), if_pos (by omega)]
      | rw [if_neg (by omega), if_neg (by omega), if_neg (by omega), if_neg (by omega), if_neg (by omega), if_neg (by omega), if_neg (by omega), if_neg (by omega)]
      | rw [if_neg (by omega), if_neg (by omega), if_neg (by omega), if_neg (by omega)]
      | rw [if_neg (by omega), if_neg (by omega)]
      | rw [if_neg (by omega)]
  · skip
    refine g_tableIn 121 dX8_count_1 (by omega) (by omega) (by rw [hsw]; rfl) (by decide) ?_
    refine g_aload_n dX8_count_121 rfl ?_
    refine g_getR 2 dX8_count_122 flX8_26 rfl (by assumption) (by assumption) ?_
    refine g_getIN 1 dX8_count_125 fnX8_120 rfl (by exact hHi.1) ?_
    refine g_ireturn dX8_count_128 rfl ?_
    refine ⟨?_, rfl, rfl, rfl⟩
    unfold co_ans
    first
      | rw [if_pos (by omega)]
      | rw [if_neg (by omega), if_pos (by omega)]
      | rw [if_neg (by omega), if_neg (by omega), if_pos (by omega)]
      | rw [if_neg (by omega), if_neg (by omega), if_neg (by omega), if_pos (by omega)]
      | rw [if_neg (by omega), if_neg (by omega), if_neg (by omega), if_neg (by omega), if_pos (by omega)]
      | rw [if_neg (by omega), if_neg (by omega), if_neg (by omega), if_neg (by omega), if_neg (by omega), if_pos (by omega)]
      | rw [if_neg (by omega), if_neg (by omega), if_neg (by omega), if_neg (by omega), if_neg (by omega), if_neg (by omega), if_pos (by omega)]
      | rw [if_neg (by omega), if_neg (by omega), if_neg (by omega), if_neg (by omega), if_neg (by omega), if_neg (by omega), if_neg (by omega), if_pos (by omega)]
      | rw [if_neg (by omega), if_neg (by omega), if_neg (by omega), if_neg (by omega), if_neg (by omega), if_neg (by omega), if_neg (by omega), if_neg (by omega)]
      | rw [if_neg (by omega), if_neg (by omega), if_neg (by omega), if_neg (by omega)]
      | rw [if_neg (by omega), if_neg (by omega)]
      | rw [if_neg (by omega)]
  · skip
    refine g_tableIn 129 dX8_count_1 (by omega) (by omega) (by rw [hsw]; rfl) (by decide) ?_
    refine g_aload_n dX8_count_129 rfl ?_
    refine g_getR 0 dX8_count_130 flX8_12 rfl (by assumption) (by assumption) ?_
    refine g_getIN 2 dX8_count_133 fnX8_68 rfl (by assumption) ?_
    refine g_ireturn dX8_count_136 rfl ?_
    refine ⟨?_, rfl, rfl, rfl⟩
    unfold co_ans
    first
      | rw [if_pos (by omega)]
      | rw [if_neg (by omega), if_pos (by omega)]
      | rw [if_neg (by omega), if_neg (by omega), if_pos (by omega)]
      | rw [if_neg (by omega), if_neg (by omega), if_neg (by omega), if_pos (by omega)]
      | rw [if_neg (by omega), if_neg (by omega), if_neg (by omega), if_neg (by omega), if_pos (by omega)]
      | rw [if_neg (by omega), if_neg (by omega), if_neg (by omega), if_neg (by omega), if_neg (by omega), if_pos (by omega)]
      | rw [if_neg (by omega), if_neg (by omega), if_neg (by omega), if_neg (by omega), if_neg (by omega), if_neg (by omega), if_pos (by omega)]
      | rw [if_neg (by omega), if_neg (by omega), if_neg (by omega), if_neg (by omega), if_neg (by omega), if_neg (by omega), if_neg (by omega), if_pos (by omega)]
      | rw [if_neg (by omega), if_neg (by omega), if_neg (by omega), if_neg (by omega), if_neg (by omega), if_neg (by omega), if_neg (by omega), if_neg (by omega)]
      | rw [if_neg (by omega), if_neg (by omega), if_neg (by omega), if_neg (by omega)]
      | rw [if_neg (by omega), if_neg (by omega)]
      | rw [if_neg (by omega)]

end COMP7
