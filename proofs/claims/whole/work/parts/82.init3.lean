/-! the component made -/
def gZ : gF := fun _ _ => 0
theorem gZ_r {b : Int} : gZ b = fun _ => 0 := rfl
def gi3 : gF := pn_add (pn_add (pn_reset (pn_reset gZ 184) 187) 187 0 5) 187 1 2
theorem pn_reset_o {g : gF} {a b : Int} (h : b ≠ a) : pn_reset g a b = g b := by
  unfold pn_reset
  simp only [g_up_row h]
theorem pn_add_o {g : gF} {a k n b : Int} (h : b ≠ a) (h1 : b ≠ a + 1) (h2 : b ≠ a + 2) : pn_add g a k n b = g b := by
  unfold pn_add
  rw [g_up_row h, g_up_row h2, g_up_row h1]
theorem gi3_o {b : Int} (h : b < 184 ∨ 189 < b) : gi3 b = fun _ => 0 := by
  unfold gi3
  rw [pn_add_o (by omega) (by omega) (by omega), pn_add_o (by omega) (by omega) (by omega), pn_reset_o (by omega), pn_reset_o (by omega)]
  rfl
theorem gi3_v : gi3 187 2 = 2 ∧ gi3 187 3 = 8 ∧ gi3 187 4 = 4 ∧ gi3 187 5 = 6 ∧ gi3 187 6 = 1 ∧ gi3 187 7 = 1 ∧ gi3 187 8 = 7 ∧ gi3 187 9 = 2 ∧ gi3 188 0 = 0 ∧ gi3 188 1 = 1 ∧ gi3 189 0 = 5 ∧ gi3 189 1 = 2 := by
  simp [gi3, pn_add, pn_reset, g_up, gZ]
theorem gi3_ok : pl_ok (gi3 187) (gi3 188) (gi3 189) := by
  obtain ⟨v2, v3, v4, v5, v6, v7, v8, v9, w0, w1, u0, u1⟩ := gi3_v
  unfold pl_ok
  rw [v2, v3, v4, v5, v6, v7, v8, v9]
  refine ⟨by decide, by decide, by decide, by decide, by decide, by decide, by decide, by decide, fun k k0 k1 => ?_⟩
  rcases (show k = 0 ∨ k = 1 by omega) with rfl | rfl
  · rw [w0, u0]; decide
  · rw [w1, u1]; decide
theorem isSt_tx {s : gSh} (h : s.2.1 1 = 5 ∧ s.1 1 0 = some (1 + 1) ∧ s.1 1 1 = some (1 + 2) ∧ s.2.1 (1 + 1) = 10 ∧ (s.2.2.1 (1 + 1) : Int) = 200 ∧ s.2.1 (1 + 2) = 11 ∧ (s.2.2.1 (1 + 2) : Int) = 5) : isText s := h
section INIT3
variable {gi gl : gF} {sh : gSh}

set_option maxRecDepth 20000 in
set_option maxHeartbeats 4000000 in
theorem c_iSV (hk : sh.2.1 0 = 8) (hn : (sh.2.2.2 : Int) = 1) : Ct mdX8_init 189 3429 [vR 0] gZ gZ sh (fun r gi' gl' sh' => r = none ∧ CI gi' gl' sh' 187 30 ∧ ((sh'.2.2.2 : Nat) : Int) = 190 ∧ Zr gi' gl' 190 ∧ gi' 1 2 = 0 ∧ gi' 4 2 = 0 ∧ gi' 7 1 = 0 ∧ (gi' 187 2 = 2 ∧ gi' 187 3 = 8 ∧ gi' 187 4 = 4 ∧ gi' 187 5 = 6 ∧ gi' 187 6 = 1 ∧ gi' 187 7 = 1 ∧ gi' 187 8 = 7 ∧ gi' 187 9 = 2) ∧ gi' 188 0 = 0 ∧ gi' 188 1 = 1 ∧ gi' 6 0 = 5 ∧ gi' 6 1 = 2) := by
  show Go mdX8_init 189 3429 0 [some (vR 0)] [] gZ gZ sh _
  refine g_aload_n dX8_init_0 rfl ?_
  refine g_objInit dX8_init_1 mlX8_3 (Nat.le_of_ble_eq_true rfl) ?_
  refine g_aload_n dX8_init_4 rfl ?_
  refine Go.wk (mc := 188 + 1) (ms := 3425 + g_nf 5) (by decide) (by decide) ?_
  refine g_new 5 dX8_init_5 clX8_9 (by decide) ?_
  rw [hn, alz (g := gZ) rfl]
  have f1 := nsh_k (s := sh) (κ := 5) (len := 0) hn
  have b1 : ∀ b : Int, b < 1 → Ag sh (g_nsh sh 5 0) b := fun b hb => Ag.nsh (by rw [hn]; omega)
  generalize g_nsh sh 5 0 = u1 at f1 b1 ⊢
  refine g_dup dX8_init_8 (fun _ h9 => by cases h9) ?_
  refine Go.wk (mc := 186 + 2) (ms := 3220 + 205) (by decide) (by decide) ?_
  refine g_callIN [] dX8_init_9 mnX8_11 miX5_init (by decide) rfl rfl (Nat.le_of_ble_eq_true rfl) rfl (Nat.le_of_ble_eq_true rfl) (c_iText0 (a := 1) f1.1 f1.2.2 (fun b hb => ⟨rfl, rfl⟩)) (fun _ _ _ _ q => q.1) (fun g1 l1 t1 q w1 w2 => ?_)
  obtain ⟨-, q2, q3, n1, d1, p1⟩ := q
  subst q2 q3
  clear w1 w2
  have n1 : ((t1.2.2.2 : Nat) : Int) = 4 := n1
  have a1 : ∀ b : Int, b < 1 → Ag sh t1 b := fun b hb => (b1 b hb).tr (d1 b hb)
  have p1 := isSt_tx p1
  refine g_putRF 0 dX8_init_12 flX8_12 rfl (by rw [(a1 0 (by decide)).2.1]; exact hk) rfl rfl ?_
  have c1 : ∀ b : Int, b ≠ 0 → Ag t1 (g_up t1.1 0 0 (some 1), t1.2) b := fun b hb => Ag.up hb
  have A1 : ∀ b : Int, 0 < b → b < 1 → Ag sh (g_up t1.1 0 0 (some 1), t1.2) b := fun b b0 hb => (a1 b hb).tr (c1 b (by omega))
  have K1 : (g_up t1.1 0 0 (some 1), t1.2).2.1 0 = 8 := by show t1.2.1 0 = 8; rw [(a1 0 (by decide)).2.1]; exact hk
  have N1 : (((g_up t1.1 0 0 (some 1), t1.2).2.2.2 : Nat) : Int) = 4 := n1
  have R1_0 : (g_up t1.1 0 0 (some 1), t1.2).1 0 0 = some 1 := by show g_up t1.1 0 0 (some 1) 0 0 = _; rw [g_up_at]
  have P1_Text : isText (g_up t1.1 0 0 (some 1), t1.2) := p1.ag (fun b b0 b1 => c1 b (by omega))
  have O1 : ∀ b : Int, b < 0 → True := fun _ _ => trivial
  generalize (g_up t1.1 0 0 (some 1), t1.2) = s1 at K1 N1 R1_0 P1_Text ⊢
  clear f1 a1 A1 c1 n1 p1 O1 b1 d1
  refine g_aload_n dX8_init_15 rfl ?_
  refine Go.wk (mc := 185 + 1) (ms := 3217 + g_nf 4) (by decide) (by decide) ?_
  refine g_new 4 dX8_init_16 clX8_16 (by decide) ?_
  rw [N1, alz (g := gZ) rfl]
  have f2 := nsh_k (s := s1) (κ := 4) (len := 0) N1
  have b2 : ∀ b : Int, b < 4 → Ag s1 (g_nsh s1 4 0) b := fun b hb => Ag.nsh (by rw [N1]; omega)
  generalize g_nsh s1 4 0 = u2 at f2 b2 ⊢
  refine g_dup dX8_init_19 (fun _ h9 => by cases h9) ?_
  refine Go.wk (mc := 183 + 2) (ms := 3153 + 64) (by decide) (by decide) ?_
  refine g_callIN [] dX8_init_20 mnX8_18 miX4_init (by decide) rfl rfl (Nat.le_of_ble_eq_true rfl) rfl (Nat.le_of_ble_eq_true rfl) (c_iStand (a := 4) f2.1 f2.2.2 (fun b hb => ⟨rfl, rfl⟩)) (fun _ _ _ _ q => q.1) (fun g2 l2 t2 q w1 w2 => ?_)
  obtain ⟨-, q2, q3, n2, d2, p2⟩ := q
  subst q2 q3
  clear w1 w2
  have n2 : ((t2.2.2.2 : Nat) : Int) = 7 := n2
  have a2 : ∀ b : Int, b < 4 → Ag s1 t2 b := fun b hb => (b2 b hb).tr (d2 b hb)
  refine g_putRF 1 dX8_init_23 flX8_19 rfl (by rw [(a2 0 (by decide)).2.1]; exact K1) rfl rfl ?_
  have c2 : ∀ b : Int, b ≠ 0 → Ag t2 (g_up t2.1 0 1 (some 4), t2.2) b := fun b hb => Ag.up hb
  have A2 : ∀ b : Int, 0 < b → b < 4 → Ag s1 (g_up t2.1 0 1 (some 4), t2.2) b := fun b b0 hb => (a2 b hb).tr (c2 b (by omega))
  have K2 : (g_up t2.1 0 1 (some 4), t2.2).2.1 0 = 8 := by show t2.2.1 0 = 8; rw [(a2 0 (by decide)).2.1]; exact K1
  have N2 : (((g_up t2.1 0 1 (some 4), t2.2).2.2.2 : Nat) : Int) = 7 := n2
  have R2_0 : (g_up t2.1 0 1 (some 4), t2.2).1 0 0 = some 1 := by show g_up t2.1 0 1 (some 4) 0 0 = _; rw [g_up_ne (by decide), (a2 0 (by decide)).1]; exact R1_0
  have R2_1 : (g_up t2.1 0 1 (some 4), t2.2).1 0 1 = some 4 := by show g_up t2.1 0 1 (some 4) 0 1 = _; rw [g_up_at]
  have P2_Text : isText (g_up t2.1 0 1 (some 4), t2.2) := P1_Text.ag (fun b b0 b1 => A2 b (by omega) (by omega))
  have P2_Stand : isStand (g_up t2.1 0 1 (some 4), t2.2) 4 := p2.ag (fun b b0 b1 => c2 b (by omega))
  have O2 : ∀ b : Int, b < 0 → True := fun _ _ => trivial
  generalize (g_up t2.1 0 1 (some 4), t2.2) = s2 at K2 N2 R2_0 R2_1 P2_Text P2_Stand ⊢
  clear f2 a2 A2 c2 n2 p2 O2 b2 d2
  clear R1_0 P1_Text K1 N1
  refine g_aload_n dX8_init_26 rfl ?_
  refine Go.wk (mc := 182 + 1) (ms := 3150 + g_nf 2) (by decide) (by decide) ?_
  refine g_new 2 dX8_init_27 clX8_23 (by decide) ?_
  rw [N2, alz (g := gZ) rfl]
  have f3 := nsh_k (s := s2) (κ := 2) (len := 0) N2
  have b3 : ∀ b : Int, b < 7 → Ag s2 (g_nsh s2 2 0) b := fun b hb => Ag.nsh (by rw [N2]; omega)
  generalize g_nsh s2 2 0 = u3 at f3 b3 ⊢
  refine g_dup dX8_init_30 (fun _ h9 => by cases h9) ?_
  refine Go.wk (mc := 163 + 19) (ms := 2742 + 408) (by decide) (by decide) ?_
  refine g_callI [] dX8_init_31 mlX8_25 miX2_init (by decide) rfl rfl (Nat.le_of_ble_eq_true rfl) rfl (Nat.le_of_ble_eq_true rfl) (c_iHist f3.1 f3.2.2 (fun b hb => ⟨rfl, rfl⟩)) (fun _ _ _ _ q => q.1) (fun g3 l3 t3 q w1 w2 => ?_)
  obtain ⟨-, q2, q3, n3, d3, p3⟩ := q
  subst q2 q3
  clear w1 w2
  have n3 : ((t3.2.2.2 : Nat) : Int) = 27 := n3
  have a3 : ∀ b : Int, b < 7 → Ag s2 t3 b := fun b hb => (b3 b hb).tr (d3 b hb)
  refine g_putRF 2 dX8_init_34 flX8_26 rfl (by rw [(a3 0 (by decide)).2.1]; exact K2) rfl rfl ?_
  have c3 : ∀ b : Int, b ≠ 0 → Ag t3 (g_up t3.1 0 2 (some 7), t3.2) b := fun b hb => Ag.up hb
  have A3 : ∀ b : Int, 0 < b → b < 7 → Ag s2 (g_up t3.1 0 2 (some 7), t3.2) b := fun b b0 hb => (a3 b hb).tr (c3 b (by omega))
  have K3 : (g_up t3.1 0 2 (some 7), t3.2).2.1 0 = 8 := by show t3.2.1 0 = 8; rw [(a3 0 (by decide)).2.1]; exact K2
  have N3 : (((g_up t3.1 0 2 (some 7), t3.2).2.2.2 : Nat) : Int) = 27 := n3
  have R3_0 : (g_up t3.1 0 2 (some 7), t3.2).1 0 0 = some 1 := by show g_up t3.1 0 2 (some 7) 0 0 = _; rw [g_up_ne (by decide), (a3 0 (by decide)).1]; exact R2_0
  have R3_1 : (g_up t3.1 0 2 (some 7), t3.2).1 0 1 = some 4 := by show g_up t3.1 0 2 (some 7) 0 1 = _; rw [g_up_ne (by decide), (a3 0 (by decide)).1]; exact R2_1
  have R3_2 : (g_up t3.1 0 2 (some 7), t3.2).1 0 2 = some 7 := by show g_up t3.1 0 2 (some 7) 0 2 = _; rw [g_up_at]
  have P3_Text : isText (g_up t3.1 0 2 (some 7), t3.2) := P2_Text.ag (fun b b0 b1 => A3 b (by omega) (by omega))
  have P3_Stand : isStand (g_up t3.1 0 2 (some 7), t3.2) 4 := P2_Stand.ag (fun b b0 b1 => A3 b (by omega) (by omega))
  have P3_History : isHist (g_up t3.1 0 2 (some 7), t3.2) := p3.ag (fun b b0 b1 => c3 b (by omega))
  have O3 : ∀ b : Int, b < 0 → True := fun _ _ => trivial
  generalize (g_up t3.1 0 2 (some 7), t3.2) = s3 at K3 N3 R3_0 R3_1 R3_2 P3_Text P3_Stand P3_History ⊢
  clear f3 a3 A3 c3 n3 p3 O3 b3 d3
  clear R2_0 R2_1 P2_Text P2_Stand K2 N2
  refine g_aload_n dX8_init_37 rfl ?_
  refine Go.wk (mc := 162 + 1) (ms := 2737 + g_nf 1) (by decide) (by decide) ?_
  refine g_new 1 dX8_init_38 clX8_30 (by decide) ?_
  rw [N3, alz (g := gZ) rfl]
  have f4 := nsh_k (s := s3) (κ := 1) (len := 0) N3
  have b4 : ∀ b : Int, b < 27 → Ag s3 (g_nsh s3 1 0) b := fun b hb => Ag.nsh (by rw [N3]; omega)
  generalize g_nsh s3 1 0 = u4 at f4 b4 ⊢
  refine g_dup dX8_init_41 (fun _ h9 => by cases h9) ?_
  refine Go.wk (mc := 111 + 51) (ms := 2282 + 455) (by decide) (by decide) ?_
  refine g_callI [] dX8_init_42 mlX8_32 miX1_init (by decide) rfl rfl (Nat.le_of_ble_eq_true rfl) rfl (Nat.le_of_ble_eq_true rfl) (c_iFold f4.1 f4.2.2 (fun b hb => ⟨rfl, rfl⟩)) (fun _ _ _ _ q => q.1) (fun g4 l4 t4 q w1 w2 => ?_)
  obtain ⟨-, q2, q3, n4, d4, p4⟩ := q
  subst q2 q3
  clear w1 w2
  have n4 : ((t4.2.2.2 : Nat) : Int) = 79 := n4
  have a4 : ∀ b : Int, b < 27 → Ag s3 t4 b := fun b hb => (b4 b hb).tr (d4 b hb)
  refine g_putRF 3 dX8_init_45 flX8_33 rfl (by rw [(a4 0 (by decide)).2.1]; exact K3) rfl rfl ?_
  have c4 : ∀ b : Int, b ≠ 0 → Ag t4 (g_up t4.1 0 3 (some 27), t4.2) b := fun b hb => Ag.up hb
  have A4 : ∀ b : Int, 0 < b → b < 27 → Ag s3 (g_up t4.1 0 3 (some 27), t4.2) b := fun b b0 hb => (a4 b hb).tr (c4 b (by omega))
  have K4 : (g_up t4.1 0 3 (some 27), t4.2).2.1 0 = 8 := by show t4.2.1 0 = 8; rw [(a4 0 (by decide)).2.1]; exact K3
  have N4 : (((g_up t4.1 0 3 (some 27), t4.2).2.2.2 : Nat) : Int) = 79 := n4
  have R4_0 : (g_up t4.1 0 3 (some 27), t4.2).1 0 0 = some 1 := by show g_up t4.1 0 3 (some 27) 0 0 = _; rw [g_up_ne (by decide), (a4 0 (by decide)).1]; exact R3_0
  have R4_1 : (g_up t4.1 0 3 (some 27), t4.2).1 0 1 = some 4 := by show g_up t4.1 0 3 (some 27) 0 1 = _; rw [g_up_ne (by decide), (a4 0 (by decide)).1]; exact R3_1
  have R4_2 : (g_up t4.1 0 3 (some 27), t4.2).1 0 2 = some 7 := by show g_up t4.1 0 3 (some 27) 0 2 = _; rw [g_up_ne (by decide), (a4 0 (by decide)).1]; exact R3_2
  have R4_3 : (g_up t4.1 0 3 (some 27), t4.2).1 0 3 = some 27 := by show g_up t4.1 0 3 (some 27) 0 3 = _; rw [g_up_at]
  have P4_Text : isText (g_up t4.1 0 3 (some 27), t4.2) := P3_Text.ag (fun b b0 b1 => A4 b (by omega) (by omega))
  have P4_Stand : isStand (g_up t4.1 0 3 (some 27), t4.2) 4 := P3_Stand.ag (fun b b0 b1 => A4 b (by omega) (by omega))
  have P4_History : isHist (g_up t4.1 0 3 (some 27), t4.2) := P3_History.ag (fun b b0 b1 => A4 b (by omega) (by omega))
  have P4_Fold : isFold (g_up t4.1 0 3 (some 27), t4.2) 30 := p4.ag (fun b b0 b1 => c4 b (by omega))
  have O4 : ∀ b : Int, b < 0 → True := fun _ _ => trivial
  generalize (g_up t4.1 0 3 (some 27), t4.2) = s4 at K4 N4 R4_0 R4_1 R4_2 R4_3 P4_Text P4_Stand P4_History P4_Fold ⊢
  clear f4 a4 A4 c4 n4 p4 O4 b4 d4
  clear R3_0 R3_1 R3_2 P3_Text P3_Stand P3_History K3 N3
  refine g_aload_n dX8_init_48 rfl ?_
  refine Go.wk (mc := 110 + 1) (ms := 2279 + g_nf 7) (by decide) (by decide) ?_
  refine g_new 7 dX8_init_49 clX8_37 (by decide) ?_
  rw [N4, alz (g := gZ) rfl]
  have f5 := nsh_k (s := s4) (κ := 7) (len := 0) N4
  have b5 : ∀ b : Int, b < 79 → Ag s4 (g_nsh s4 7 0) b := fun b hb => Ag.nsh (by rw [N4]; omega)
  generalize g_nsh s4 7 0 = u5 at f5 b5 ⊢
  refine g_dup dX8_init_52 (fun _ h9 => by cases h9) ?_
  refine Go.wk (mc := 59 + 51) (ms := 1161 + 1118) (by decide) (by decide) ?_
  refine g_callI [] dX8_init_53 mlX8_39 miX7_init (by decide) rfl rfl (Nat.le_of_ble_eq_true rfl) rfl (Nat.le_of_ble_eq_true rfl) (c_iVerd (v := 79) f5.1 f5.2.2 (fun b hb => ⟨rfl, rfl⟩)) (fun _ _ _ _ q => q.1) (fun g5 l5 t5 q w1 w2 => ?_)
  obtain ⟨-, q2, q3, n5, d5, p5⟩ := q
  subst q2 q3
  clear w1 w2
  have n5 : ((t5.2.2.2 : Nat) : Int) = 131 := n5
  have a5 : ∀ b : Int, b < 79 → Ag s4 t5 b := fun b hb => (b5 b hb).tr (d5 b hb)
  refine g_putRF 4 dX8_init_56 flX8_40 rfl (by rw [(a5 0 (by decide)).2.1]; exact K4) rfl rfl ?_
  have c5 : ∀ b : Int, b ≠ 0 → Ag t5 (g_up t5.1 0 4 (some 79), t5.2) b := fun b hb => Ag.up hb
  have A5 : ∀ b : Int, 0 < b → b < 79 → Ag s4 (g_up t5.1 0 4 (some 79), t5.2) b := fun b b0 hb => (a5 b hb).tr (c5 b (by omega))
  have K5 : (g_up t5.1 0 4 (some 79), t5.2).2.1 0 = 8 := by show t5.2.1 0 = 8; rw [(a5 0 (by decide)).2.1]; exact K4
  have N5 : (((g_up t5.1 0 4 (some 79), t5.2).2.2.2 : Nat) : Int) = 131 := n5
  have R5_0 : (g_up t5.1 0 4 (some 79), t5.2).1 0 0 = some 1 := by show g_up t5.1 0 4 (some 79) 0 0 = _; rw [g_up_ne (by decide), (a5 0 (by decide)).1]; exact R4_0
  have R5_1 : (g_up t5.1 0 4 (some 79), t5.2).1 0 1 = some 4 := by show g_up t5.1 0 4 (some 79) 0 1 = _; rw [g_up_ne (by decide), (a5 0 (by decide)).1]; exact R4_1
  have R5_2 : (g_up t5.1 0 4 (some 79), t5.2).1 0 2 = some 7 := by show g_up t5.1 0 4 (some 79) 0 2 = _; rw [g_up_ne (by decide), (a5 0 (by decide)).1]; exact R4_2
  have R5_3 : (g_up t5.1 0 4 (some 79), t5.2).1 0 3 = some 27 := by show g_up t5.1 0 4 (some 79) 0 3 = _; rw [g_up_ne (by decide), (a5 0 (by decide)).1]; exact R4_3
  have R5_4 : (g_up t5.1 0 4 (some 79), t5.2).1 0 4 = some 79 := by show g_up t5.1 0 4 (some 79) 0 4 = _; rw [g_up_at]
  have P5_Text : isText (g_up t5.1 0 4 (some 79), t5.2) := P4_Text.ag (fun b b0 b1 => A5 b (by omega) (by omega))
  have P5_Stand : isStand (g_up t5.1 0 4 (some 79), t5.2) 4 := P4_Stand.ag (fun b b0 b1 => A5 b (by omega) (by omega))
  have P5_History : isHist (g_up t5.1 0 4 (some 79), t5.2) := P4_History.ag (fun b b0 b1 => A5 b (by omega) (by omega))
  have P5_Fold : isFold (g_up t5.1 0 4 (some 79), t5.2) 30 := P4_Fold.ag (fun b b0 b1 => A5 b (by omega) (by omega))
  have P5_Verd : isVerd (g_up t5.1 0 4 (some 79), t5.2) 79 := p5.ag (fun b b0 b1 => c5 b (by omega))
  have O5 : ∀ b : Int, b < 0 → True := fun _ _ => trivial
  generalize (g_up t5.1 0 4 (some 79), t5.2) = s5 at K5 N5 R5_0 R5_1 R5_2 R5_3 R5_4 P5_Text P5_Stand P5_History P5_Fold P5_Verd ⊢
  clear f5 a5 A5 c5 n5 p5 O5 b5 d5
  clear R4_0 R4_1 R4_2 R4_3 P4_Text P4_Stand P4_History P4_Fold K4 N4
  refine g_aload_n dX8_init_59 rfl ?_
  refine Go.wk (mc := 58 + 1) (ms := 1158 + g_nf 7) (by decide) (by decide) ?_
  refine g_new 7 dX8_init_60 clX8_37 (by decide) ?_
  rw [N5, alz (g := gZ) rfl]
  have f6 := nsh_k (s := s5) (κ := 7) (len := 0) N5
  have b6 : ∀ b : Int, b < 131 → Ag s5 (g_nsh s5 7 0) b := fun b hb => Ag.nsh (by rw [N5]; omega)
  generalize g_nsh s5 7 0 = u6 at f6 b6 ⊢
  refine g_dup dX8_init_63 (fun _ h9 => by cases h9) ?_
  refine Go.wk (mc := 7 + 51) (ms := 40 + 1118) (by decide) (by decide) ?_
  refine g_callI [] dX8_init_64 mlX8_39 miX7_init (by decide) rfl rfl (Nat.le_of_ble_eq_true rfl) rfl (Nat.le_of_ble_eq_true rfl) (c_iVerd (v := 131) f6.1 f6.2.2 (fun b hb => ⟨rfl, rfl⟩)) (fun _ _ _ _ q => q.1) (fun g6 l6 t6 q w1 w2 => ?_)
  obtain ⟨-, q2, q3, n6, d6, p6⟩ := q
  subst q2 q3
  clear w1 w2
  have n6 : ((t6.2.2.2 : Nat) : Int) = 183 := n6
  have a6 : ∀ b : Int, b < 131 → Ag s5 t6 b := fun b hb => (b6 b hb).tr (d6 b hb)
  refine g_putRF 5 dX8_init_67 flX8_44 rfl (by rw [(a6 0 (by decide)).2.1]; exact K5) rfl rfl ?_
  have c6 : ∀ b : Int, b ≠ 0 → Ag t6 (g_up t6.1 0 5 (some 131), t6.2) b := fun b hb => Ag.up hb
  have A6 : ∀ b : Int, 0 < b → b < 131 → Ag s5 (g_up t6.1 0 5 (some 131), t6.2) b := fun b b0 hb => (a6 b hb).tr (c6 b (by omega))
  have K6 : (g_up t6.1 0 5 (some 131), t6.2).2.1 0 = 8 := by show t6.2.1 0 = 8; rw [(a6 0 (by decide)).2.1]; exact K5
  have N6 : (((g_up t6.1 0 5 (some 131), t6.2).2.2.2 : Nat) : Int) = 183 := n6
  have R6_0 : (g_up t6.1 0 5 (some 131), t6.2).1 0 0 = some 1 := by show g_up t6.1 0 5 (some 131) 0 0 = _; rw [g_up_ne (by decide), (a6 0 (by decide)).1]; exact R5_0
  have R6_1 : (g_up t6.1 0 5 (some 131), t6.2).1 0 1 = some 4 := by show g_up t6.1 0 5 (some 131) 0 1 = _; rw [g_up_ne (by decide), (a6 0 (by decide)).1]; exact R5_1
  have R6_2 : (g_up t6.1 0 5 (some 131), t6.2).1 0 2 = some 7 := by show g_up t6.1 0 5 (some 131) 0 2 = _; rw [g_up_ne (by decide), (a6 0 (by decide)).1]; exact R5_2
  have R6_3 : (g_up t6.1 0 5 (some 131), t6.2).1 0 3 = some 27 := by show g_up t6.1 0 5 (some 131) 0 3 = _; rw [g_up_ne (by decide), (a6 0 (by decide)).1]; exact R5_3
  have R6_4 : (g_up t6.1 0 5 (some 131), t6.2).1 0 4 = some 79 := by show g_up t6.1 0 5 (some 131) 0 4 = _; rw [g_up_ne (by decide), (a6 0 (by decide)).1]; exact R5_4
  have R6_5 : (g_up t6.1 0 5 (some 131), t6.2).1 0 5 = some 131 := by show g_up t6.1 0 5 (some 131) 0 5 = _; rw [g_up_at]
  have P6_Text : isText (g_up t6.1 0 5 (some 131), t6.2) := P5_Text.ag (fun b b0 b1 => A6 b (by omega) (by omega))
  have P6_Stand : isStand (g_up t6.1 0 5 (some 131), t6.2) 4 := P5_Stand.ag (fun b b0 b1 => A6 b (by omega) (by omega))
  have P6_History : isHist (g_up t6.1 0 5 (some 131), t6.2) := P5_History.ag (fun b b0 b1 => A6 b (by omega) (by omega))
  have P6_Fold : isFold (g_up t6.1 0 5 (some 131), t6.2) 30 := P5_Fold.ag (fun b b0 b1 => A6 b (by omega) (by omega))
  have P6_Verd : isVerd (g_up t6.1 0 5 (some 131), t6.2) 79 := P5_Verd.ag (fun b b0 b1 => A6 b (by omega) (by omega))
  have P6_Trial : isVerd (g_up t6.1 0 5 (some 131), t6.2) 131 := p6.ag (fun b b0 b1 => c6 b (by omega))
  have O6 : ∀ b : Int, b < 0 → True := fun _ _ => trivial
  generalize (g_up t6.1 0 5 (some 131), t6.2) = s6 at K6 N6 R6_0 R6_1 R6_2 R6_3 R6_4 R6_5 P6_Text P6_Stand P6_History P6_Fold P6_Verd P6_Trial ⊢
  clear f6 a6 A6 c6 n6 p6 O6 b6 d6
  clear R5_0 R5_1 R5_2 R5_3 R5_4 P5_Text P5_Stand P5_History P5_Fold P5_Verd K5 N5
  refine g_aload_n dX8_init_70 rfl ?_
  refine g_iconst dX8_init_71 (by decide) ?_
  refine Go.wk (mc := 6 + 1) (ms := 36 + Int.toNat 4) (by decide) (by decide) ?_
  refine g_newI dX8_init_72 (by decide) (by decide) ?_
  rw [N6, alz (g := gZ) rfl]
  have f7 := nsh_k (s := s6) (κ := 11) (len := Int.toNat 4) N6
  have a7 : ∀ b : Int, b < 183 → Ag s6 (g_nsh s6 11 (Int.toNat 4)) b := fun b hb => Ag.nsh (by rw [N6]; omega)
  generalize g_nsh s6 11 (Int.toNat 4) = t7 at f7 a7 ⊢
  have n7 : ((t7.2.2.2 : Nat) : Int) = 184 := f7.2.2
  have p7 : t7.2.1 183 = 11 ∧ (t7.2.2.1 183 : Int) = 4 := ⟨f7.1, by rw [f7.2.1]; rfl⟩
  refine g_putRF 6 dX8_init_74 flX8_47 rfl (by rw [(a7 0 (by decide)).2.1]; exact K6) rfl rfl ?_
  have c7 : ∀ b : Int, b ≠ 0 → Ag t7 (g_up t7.1 0 6 (some 183), t7.2) b := fun b hb => Ag.up hb
  have A7 : ∀ b : Int, 0 < b → b < 183 → Ag s6 (g_up t7.1 0 6 (some 183), t7.2) b := fun b b0 hb => (a7 b hb).tr (c7 b (by omega))
  have K7 : (g_up t7.1 0 6 (some 183), t7.2).2.1 0 = 8 := by show t7.2.1 0 = 8; rw [(a7 0 (by decide)).2.1]; exact K6
  have N7 : (((g_up t7.1 0 6 (some 183), t7.2).2.2.2 : Nat) : Int) = 184 := n7
  have R7_0 : (g_up t7.1 0 6 (some 183), t7.2).1 0 0 = some 1 := by show g_up t7.1 0 6 (some 183) 0 0 = _; rw [g_up_ne (by decide), (a7 0 (by decide)).1]; exact R6_0
  have R7_1 : (g_up t7.1 0 6 (some 183), t7.2).1 0 1 = some 4 := by show g_up t7.1 0 6 (some 183) 0 1 = _; rw [g_up_ne (by decide), (a7 0 (by decide)).1]; exact R6_1
  have R7_2 : (g_up t7.1 0 6 (some 183), t7.2).1 0 2 = some 7 := by show g_up t7.1 0 6 (some 183) 0 2 = _; rw [g_up_ne (by decide), (a7 0 (by decide)).1]; exact R6_2
  have R7_3 : (g_up t7.1 0 6 (some 183), t7.2).1 0 3 = some 27 := by show g_up t7.1 0 6 (some 183) 0 3 = _; rw [g_up_ne (by decide), (a7 0 (by decide)).1]; exact R6_3
  have R7_4 : (g_up t7.1 0 6 (some 183), t7.2).1 0 4 = some 79 := by show g_up t7.1 0 6 (some 183) 0 4 = _; rw [g_up_ne (by decide), (a7 0 (by decide)).1]; exact R6_4
  have R7_5 : (g_up t7.1 0 6 (some 183), t7.2).1 0 5 = some 131 := by show g_up t7.1 0 6 (some 183) 0 5 = _; rw [g_up_ne (by decide), (a7 0 (by decide)).1]; exact R6_5
  have R7_6 : (g_up t7.1 0 6 (some 183), t7.2).1 0 6 = some 183 := by show g_up t7.1 0 6 (some 183) 0 6 = _; rw [g_up_at]
  have P7_Text : isText (g_up t7.1 0 6 (some 183), t7.2) := P6_Text.ag (fun b b0 b1 => A7 b (by omega) (by omega))
  have P7_Stand : isStand (g_up t7.1 0 6 (some 183), t7.2) 4 := P6_Stand.ag (fun b b0 b1 => A7 b (by omega) (by omega))
  have P7_History : isHist (g_up t7.1 0 6 (some 183), t7.2) := P6_History.ag (fun b b0 b1 => A7 b (by omega) (by omega))
  have P7_Fold : isFold (g_up t7.1 0 6 (some 183), t7.2) 30 := P6_Fold.ag (fun b b0 b1 => A7 b (by omega) (by omega))
  have P7_Verd : isVerd (g_up t7.1 0 6 (some 183), t7.2) 79 := P6_Verd.ag (fun b b0 b1 => A7 b (by omega) (by omega))
  have P7_Trial : isVerd (g_up t7.1 0 6 (some 183), t7.2) 131 := P6_Trial.ag (fun b b0 b1 => A7 b (by omega) (by omega))
  have P7_Arr : (g_up t7.1 0 6 (some 183), t7.2).2.1 183 = 11 ∧ ((g_up t7.1 0 6 (some 183), t7.2).2.2.1 183 : Int) = 4 := p7
  have O7 : ∀ b : Int, b < 0 → True := fun _ _ => trivial
  generalize (g_up t7.1 0 6 (some 183), t7.2) = s7 at K7 N7 R7_0 R7_1 R7_2 R7_3 R7_4 R7_5 R7_6 P7_Text P7_Stand P7_History P7_Fold P7_Verd P7_Trial P7_Arr ⊢
  clear f7 a7 A7 c7 n7 p7 O7
  clear R6_0 R6_1 R6_2 R6_3 R6_4 R6_5 P6_Text P6_Stand P6_History P6_Fold P6_Verd P6_Trial K6 N6
  refine g_aload_n dX8_init_77 rfl ?_
  refine Go.wk (mc := 5 + 1) (ms := 26 + g_nf 3) (by decide) (by decide) ?_
  refine g_new 3 dX8_init_78 clX8_51 (by decide) ?_
  rw [N7, alz (g := gZ) rfl]
  have f8 := nsh_k (s := s7) (κ := 3) (len := 0) N7
  have b8 : ∀ b : Int, b < 184 → Ag s7 (g_nsh s7 3 0) b := fun b hb => Ag.nsh (by rw [N7]; omega)
  generalize g_nsh s7 3 0 = u8 at f8 b8 ⊢
  refine g_dup dX8_init_81 (fun _ h9 => by cases h9) ?_
  refine Go.wk (mc := 3 + 2) (ms := 18 + 8) (by decide) (by decide) ?_
  refine g_callI [] dX8_init_82 mlX8_53 miX3_init (by decide) rfl rfl (Nat.le_of_ble_eq_true rfl) rfl (Nat.le_of_ble_eq_true rfl) (c_iPlan (a := 184) f8.1 f8.2.2 (fun b hb => ⟨rfl, rfl⟩)) (fun _ _ _ _ q => q.1) (fun g8 l8 t8 q w1 w2 => ?_)
  obtain ⟨-, q2, q3, n8, d8, p8⟩ := q
  subst q2 q3
  clear w1 w2
  have n8 : ((t8.2.2.2 : Nat) : Int) = 187 := n8
  have a8 : ∀ b : Int, b < 184 → Ag s7 t8 b := fun b hb => (b8 b hb).tr (d8 b hb)
  refine g_putR 7 dX8_init_85 flX8_54 rfl (by rw [(a8 0 (by decide)).2.1]; exact K7) ?_
  have c8 : ∀ b : Int, b ≠ 0 → Ag t8 (g_up t8.1 0 7 (some 184), t8.2) b := fun b hb => Ag.up hb
  have A8 : ∀ b : Int, 0 < b → b < 184 → Ag s7 (g_up t8.1 0 7 (some 184), t8.2) b := fun b b0 hb => (a8 b hb).tr (c8 b (by omega))
  have K8 : (g_up t8.1 0 7 (some 184), t8.2).2.1 0 = 8 := by show t8.2.1 0 = 8; rw [(a8 0 (by decide)).2.1]; exact K7
  have N8 : (((g_up t8.1 0 7 (some 184), t8.2).2.2.2 : Nat) : Int) = 187 := n8
  have R8_0 : (g_up t8.1 0 7 (some 184), t8.2).1 0 0 = some 1 := by show g_up t8.1 0 7 (some 184) 0 0 = _; rw [g_up_ne (by decide), (a8 0 (by decide)).1]; exact R7_0
  have R8_1 : (g_up t8.1 0 7 (some 184), t8.2).1 0 1 = some 4 := by show g_up t8.1 0 7 (some 184) 0 1 = _; rw [g_up_ne (by decide), (a8 0 (by decide)).1]; exact R7_1
  have R8_2 : (g_up t8.1 0 7 (some 184), t8.2).1 0 2 = some 7 := by show g_up t8.1 0 7 (some 184) 0 2 = _; rw [g_up_ne (by decide), (a8 0 (by decide)).1]; exact R7_2
  have R8_3 : (g_up t8.1 0 7 (some 184), t8.2).1 0 3 = some 27 := by show g_up t8.1 0 7 (some 184) 0 3 = _; rw [g_up_ne (by decide), (a8 0 (by decide)).1]; exact R7_3
  have R8_4 : (g_up t8.1 0 7 (some 184), t8.2).1 0 4 = some 79 := by show g_up t8.1 0 7 (some 184) 0 4 = _; rw [g_up_ne (by decide), (a8 0 (by decide)).1]; exact R7_4
  have R8_5 : (g_up t8.1 0 7 (some 184), t8.2).1 0 5 = some 131 := by show g_up t8.1 0 7 (some 184) 0 5 = _; rw [g_up_ne (by decide), (a8 0 (by decide)).1]; exact R7_5
  have R8_6 : (g_up t8.1 0 7 (some 184), t8.2).1 0 6 = some 183 := by show g_up t8.1 0 7 (some 184) 0 6 = _; rw [g_up_ne (by decide), (a8 0 (by decide)).1]; exact R7_6
  have R8_7 : (g_up t8.1 0 7 (some 184), t8.2).1 0 7 = some 184 := by show g_up t8.1 0 7 (some 184) 0 7 = _; rw [g_up_at]
  have P8_Text : isText (g_up t8.1 0 7 (some 184), t8.2) := P7_Text.ag (fun b b0 b1 => A8 b (by omega) (by omega))
  have P8_Stand : isStand (g_up t8.1 0 7 (some 184), t8.2) 4 := P7_Stand.ag (fun b b0 b1 => A8 b (by omega) (by omega))
  have P8_History : isHist (g_up t8.1 0 7 (some 184), t8.2) := P7_History.ag (fun b b0 b1 => A8 b (by omega) (by omega))
  have P8_Fold : isFold (g_up t8.1 0 7 (some 184), t8.2) 30 := P7_Fold.ag (fun b b0 b1 => A8 b (by omega) (by omega))
  have P8_Verd : isVerd (g_up t8.1 0 7 (some 184), t8.2) 79 := P7_Verd.ag (fun b b0 b1 => A8 b (by omega) (by omega))
  have P8_Trial : isVerd (g_up t8.1 0 7 (some 184), t8.2) 131 := P7_Trial.ag (fun b b0 b1 => A8 b (by omega) (by omega))
  have P8_Arr : (g_up t8.1 0 7 (some 184), t8.2).2.1 183 = 11 ∧ ((g_up t8.1 0 7 (some 184), t8.2).2.2.1 183 : Int) = 4 := by have w := A8 183 (by decide) (by decide); exact ⟨w.2.1.trans P7_Arr.1, by rw [w.2.2]; exact P7_Arr.2⟩
  have P8_Laid : isPlan (g_up t8.1 0 7 (some 184), t8.2) 184 := p8.ag (fun b b0 b1 => c8 b (by omega))
  have O8 : ∀ b : Int, b < 0 → True := fun _ _ => trivial
  generalize (g_up t8.1 0 7 (some 184), t8.2) = s8 at K8 N8 R8_0 R8_1 R8_2 R8_3 R8_4 R8_5 R8_6 R8_7 P8_Text P8_Stand P8_History P8_Fold P8_Verd P8_Trial P8_Arr P8_Laid ⊢
  clear f8 a8 A8 c8 n8 p8 O8 b8 d8
  clear R7_0 R7_1 R7_2 R7_3 R7_4 R7_5 R7_6 P7_Text P7_Stand P7_History P7_Fold P7_Verd P7_Trial P7_Arr K7 N7
  refine g_aload_n dX8_init_88 rfl ?_
  refine Go.wk (mc := 2 + 1) (ms := 8 + g_nf 3) (by decide) (by decide) ?_
  refine g_new 3 dX8_init_89 clX8_51 (by decide) ?_
  rw [N8, alz (g := (pn_reset gZ 184)) (pn_reset_o (by decide)), alz (g := gZ) rfl]
  have f9 := nsh_k (s := s8) (κ := 3) (len := 0) N8
  have b9 : ∀ b : Int, b < 187 → Ag s8 (g_nsh s8 3 0) b := fun b hb => Ag.nsh (by rw [N8]; omega)
  generalize g_nsh s8 3 0 = u9 at f9 b9 ⊢
  refine g_dup dX8_init_92 (fun _ h9 => by cases h9) ?_
  refine Go.wk (mc := 0 + 2) (ms := 0 + 8) (by decide) (by decide) ?_
  refine g_callI [] dX8_init_93 mlX8_53 miX3_init (by decide) rfl rfl (Nat.le_of_ble_eq_true rfl) rfl (Nat.le_of_ble_eq_true rfl) (c_iPlan (a := 187) f9.1 f9.2.2 (fun b hb => ⟨pn_reset_o (by omega), rfl⟩)) (fun _ _ _ _ q => q.1) (fun g9 l9 t9 q w1 w2 => ?_)
  obtain ⟨-, q2, q3, n9, d9, p9⟩ := q
  subst q2 q3
  clear w1 w2
  have n9 : ((t9.2.2.2 : Nat) : Int) = 190 := n9
  have a9 : ∀ b : Int, b < 187 → Ag s8 t9 b := fun b hb => (b9 b hb).tr (d9 b hb)
  refine g_putR 8 dX8_init_96 flX8_58 rfl (by rw [(a9 0 (by decide)).2.1]; exact K8) ?_
  have c9 : ∀ b : Int, b ≠ 0 → Ag t9 (g_up t9.1 0 8 (some 187), t9.2) b := fun b hb => Ag.up hb
  have A9 : ∀ b : Int, 0 < b → b < 187 → Ag s8 (g_up t9.1 0 8 (some 187), t9.2) b := fun b b0 hb => (a9 b hb).tr (c9 b (by omega))
  have K9 : (g_up t9.1 0 8 (some 187), t9.2).2.1 0 = 8 := by show t9.2.1 0 = 8; rw [(a9 0 (by decide)).2.1]; exact K8
  have N9 : (((g_up t9.1 0 8 (some 187), t9.2).2.2.2 : Nat) : Int) = 190 := n9
  have R9_0 : (g_up t9.1 0 8 (some 187), t9.2).1 0 0 = some 1 := by show g_up t9.1 0 8 (some 187) 0 0 = _; rw [g_up_ne (by decide), (a9 0 (by decide)).1]; exact R8_0
  have R9_1 : (g_up t9.1 0 8 (some 187), t9.2).1 0 1 = some 4 := by show g_up t9.1 0 8 (some 187) 0 1 = _; rw [g_up_ne (by decide), (a9 0 (by decide)).1]; exact R8_1
  have R9_2 : (g_up t9.1 0 8 (some 187), t9.2).1 0 2 = some 7 := by show g_up t9.1 0 8 (some 187) 0 2 = _; rw [g_up_ne (by decide), (a9 0 (by decide)).1]; exact R8_2
  have R9_3 : (g_up t9.1 0 8 (some 187), t9.2).1 0 3 = some 27 := by show g_up t9.1 0 8 (some 187) 0 3 = _; rw [g_up_ne (by decide), (a9 0 (by decide)).1]; exact R8_3
  have R9_4 : (g_up t9.1 0 8 (some 187), t9.2).1 0 4 = some 79 := by show g_up t9.1 0 8 (some 187) 0 4 = _; rw [g_up_ne (by decide), (a9 0 (by decide)).1]; exact R8_4
  have R9_5 : (g_up t9.1 0 8 (some 187), t9.2).1 0 5 = some 131 := by show g_up t9.1 0 8 (some 187) 0 5 = _; rw [g_up_ne (by decide), (a9 0 (by decide)).1]; exact R8_5
  have R9_6 : (g_up t9.1 0 8 (some 187), t9.2).1 0 6 = some 183 := by show g_up t9.1 0 8 (some 187) 0 6 = _; rw [g_up_ne (by decide), (a9 0 (by decide)).1]; exact R8_6
  have R9_7 : (g_up t9.1 0 8 (some 187), t9.2).1 0 7 = some 184 := by show g_up t9.1 0 8 (some 187) 0 7 = _; rw [g_up_ne (by decide), (a9 0 (by decide)).1]; exact R8_7
  have R9_8 : (g_up t9.1 0 8 (some 187), t9.2).1 0 8 = some 187 := by show g_up t9.1 0 8 (some 187) 0 8 = _; rw [g_up_at]
  have P9_Text : isText (g_up t9.1 0 8 (some 187), t9.2) := P8_Text.ag (fun b b0 b1 => A9 b (by omega) (by omega))
  have P9_Stand : isStand (g_up t9.1 0 8 (some 187), t9.2) 4 := P8_Stand.ag (fun b b0 b1 => A9 b (by omega) (by omega))
  have P9_History : isHist (g_up t9.1 0 8 (some 187), t9.2) := P8_History.ag (fun b b0 b1 => A9 b (by omega) (by omega))
  have P9_Fold : isFold (g_up t9.1 0 8 (some 187), t9.2) 30 := P8_Fold.ag (fun b b0 b1 => A9 b (by omega) (by omega))
  have P9_Verd : isVerd (g_up t9.1 0 8 (some 187), t9.2) 79 := P8_Verd.ag (fun b b0 b1 => A9 b (by omega) (by omega))
  have P9_Trial : isVerd (g_up t9.1 0 8 (some 187), t9.2) 131 := P8_Trial.ag (fun b b0 b1 => A9 b (by omega) (by omega))
  have P9_Arr : (g_up t9.1 0 8 (some 187), t9.2).2.1 183 = 11 ∧ ((g_up t9.1 0 8 (some 187), t9.2).2.2.1 183 : Int) = 4 := by have w := A9 183 (by decide) (by decide); exact ⟨w.2.1.trans P8_Arr.1, by rw [w.2.2]; exact P8_Arr.2⟩
  have P9_Laid : isPlan (g_up t9.1 0 8 (some 187), t9.2) 184 := P8_Laid.ag (fun b b0 b1 => A9 b (by omega) (by omega))
  have P9_Draft : isPlan (g_up t9.1 0 8 (some 187), t9.2) 187 := p9.ag (fun b b0 b1 => c9 b (by omega))
  have O9 : ∀ b : Int, b < 0 → True := fun _ _ => trivial
  generalize (g_up t9.1 0 8 (some 187), t9.2) = s9 at K9 N9 R9_0 R9_1 R9_2 R9_3 R9_4 R9_5 R9_6 R9_7 R9_8 P9_Text P9_Stand P9_History P9_Fold P9_Verd P9_Trial P9_Arr P9_Laid P9_Draft ⊢
  clear f9 a9 A9 c9 n9 p9 O9 b9 d9
  clear R8_0 R8_1 R8_2 R8_3 R8_4 R8_5 R8_6 R8_7 P8_Text P8_Stand P8_History P8_Fold P8_Verd P8_Trial P8_Arr P8_Laid K8 N8
  have hSV : isSV s9 184 30 := ⟨⟨K9, R9_0, R9_1, R9_2, R9_3, R9_4, R9_5, R9_6, R9_7, R9_8, Or.inl rfl⟩, P9_Text, P9_Stand, P9_History, P9_Fold, P9_Verd, P9_Trial, P9_Arr, P9_Laid, P9_Draft⟩
  have hP9 := hSV.2.2.2.2.2.2.2.2.2
  refine g_aload_n dX8_init_99 rfl ?_
  refine g_getR 8 dX8_init_100 flX8_58 rfl K9 R9_8 ?_
  refine g_iconst dX8_init_103 (by decide) ?_
  refine g_iconst dX8_init_104 (by decide) ?_
  refine g_cVi [_, _] dX8_init_105 mlX8_61 mvX3_addRule (by decide) hP9.1 (by decide) rfl rfl (Nat.le_of_ble_eq_true rfl) rfl (Nat.le_of_ble_eq_true rfl) (c_addRule1 hP9 0 5 (by rw [show pn_reset (pn_reset gZ 184) 187 187 2 = 0 by simp [pn_reset, g_up]]; decide) (by decide) (by decide)) ?_
  refine g_pop dX8_init_108 (fun _ h9 => by cases h9) ?_
  refine g_aload_n dX8_init_109 rfl ?_
  refine g_getR 8 dX8_init_110 flX8_58 rfl K9 R9_8 ?_
  refine g_iconst dX8_init_113 (by decide) ?_
  refine g_iconst dX8_init_114 (by decide) ?_
  refine g_cVi [_, _] dX8_init_115 mlX8_61 mvX3_addRule (by decide) hP9.1 (by decide) rfl rfl (Nat.le_of_ble_eq_true rfl) rfl (Nat.le_of_ble_eq_true rfl) (c_addRule1 hP9 1 2 (by rw [show pn_add (pn_reset (pn_reset gZ 184) 187) 187 0 5 187 2 = 1 by simp [pn_add, pn_reset, g_up]]; decide) (by decide) (by decide)) ?_
  refine g_pop dX8_init_118 (fun _ h9 => by cases h9) ?_
  show Go _ _ _ _ _ _ gi3 _ _ _
  refine g_aload_n dX8_init_119 rfl ?_
  refine g_callV_v [] dX8_init_120 mlX8_65 mvX8_layDraft (by decide) K9 (by decide) rfl rfl (Nat.le_of_ble_eq_true rfl) rfl (Nat.le_of_ble_eq_true rfl) (c_layDraft (gi := gi3) (la := 184) (oa := 30) hSV gi3_ok (fun s s0 s1 k k0 k1 => by rw [show (fvS gi3 30).1 s = fun _ => 0 from gi3_o (by omega)]; exact (by decide : (0 : Int) ≤ 0 ∧ (0 : Int) ≤ 100000))) (fun _ _ _ _ q => q.1) (fun g2 l2 s2 q w1 w2 => ?_)
  obtain ⟨-, q2, q3, q4, q5, q6, q7, q8, q9, q10⟩ := q
  subst q2 q3
  refine g_return dX8_init_123 rfl ?_
  simp only [Int.reduceSub, Int.reduceAdd] at q4 q5 q9 q10
  have hL := hSV.lay
  simp only [Int.reduceSub] at hL
  obtain ⟨v2, v3, v4, v5, v6, v7, v8, v9, w0, w1', u0, u1⟩ := gi3_v
  have e187 : g2 187 = gi3 187 := q4 187 (by omega) (by omega) (by omega) (by omega)
  have e188 : g2 188 = gi3 188 := q4 188 (by omega) (by omega) (by omega) (by omega)
  have e1 : g2 1 2 = 0 := by rw [q4 1 (by omega) (by omega) (by omega) (by omega), gi3_o (by omega)]
  have e72 : g2 7 2 = 0 := by rw [q8, gi3_o (by omega)]
  have hok : pl_ok (g2 187) (g2 188) (g2 6) := by
    have hk3 := gi3_ok
    rw [e187, e188]
    refine ⟨hk3.1, hk3.2.1, hk3.2.2.1, hk3.2.2.2.1, hk3.2.2.2.2.1, hk3.2.2.2.2.2.1, hk3.2.2.2.2.2.2.1, hk3.2.2.2.2.2.2.2.1, fun k k0 k1 => ?_⟩
    have := hk3.2.2.2.2.2.2.2.2 k k0 k1
    rw [q5 k k0 (by rw [v2] at k1; omega)]
    exact this
  refine ⟨rfl, ?_, ?_, ?_, ?_, q6, q7, ?_, ?_, ?_, ?_, ?_⟩
  · refine ⟨⟨hL, ⟨by omega, fun i i0 i1 => by omega⟩, ⟨hok, by omega, fun t t0 t1 => by omega, fun t t0 t1 => by omega⟩, ⟨by omega, by omega, fun u u0 u1 => by omega⟩, q9⟩, q10⟩
  · show ((s9.2.2.2 : Nat) : Int) = 190; exact N9
  · intro b hb; exact ⟨by rw [q4 b (by omega) (by omega) (by omega) (by omega)]; exact gi3_o (by omega), rfl⟩
  · exact e1
  · rw [e187]; exact ⟨v2, v3, v4, v5, v6, v7, v8, v9⟩
  · rw [e188]; exact w0
  · rw [e188]; exact w1'
  · rw [q5 0 (by decide) (by decide)]; exact u0
  · rw [q5 1 (by decide) (by decide)]; exact u1
def mf : Nat → Int := fun i => match i with
  | 0 => 0
  | 1 => 2
  | 2 => 3
  | 3 => 4
  | 4 => 6
  | 5 => 8
  | 6 => 10
  | 7 => 11
  | 8 => 13
  | 9 => 14
  | 10 => 18
  | 11 => 19
  | 12 => 20
  | 13 => 21
  | 14 => 22
  | 15 => 23
  | 16 => 24
  | 17 => 25
  | 18 => 26
  | 19 => 27
  | 20 => 28
  | 21 => 29
  | 22 => 30
  | _ => 31
def mk : Nat → Nat := fun i => match i with
  | 0 => 11
  | 1 => 11
  | 2 => 12
  | 3 => 12
  | 4 => 11
  | 5 => 11
  | 6 => 11
  | 7 => 11
  | 8 => 11
  | 9 => 11
  | 10 => 11
  | 11 => 11
  | 12 => 11
  | 13 => 11
  | 14 => 11
  | 15 => 11
  | 16 => 11
  | 17 => 11
  | 18 => 11
  | 19 => 11
  | 20 => 11
  | 21 => 11
  | 22 => 13
  | _ => 13
def mlen : Nat → Nat := fun i => match i with
  | 0 => 7
  | 1 => 4
  | 2 => 65
  | 3 => 390
  | 4 => 200
  | 5 => 7
  | 6 => 4
  | 7 => 4
  | 8 => 960
  | 9 => 960
  | 10 => 48
  | 11 => 48
  | 12 => 48
  | 13 => 48
  | 14 => 48
  | 15 => 48
  | 16 => 48
  | 17 => 48
  | 18 => 48
  | 19 => 48
  | 20 => 4
  | 21 => 48
  | 22 => 1536
  | _ => 48
theorem mf_inj : ∀ i : Nat, i < 24 → ∀ j : Nat, j < 24 → i ≠ j → mf i ≠ mf j := by decide
/-- a model with its first n rows -/
def MF (s0 s : gSh) (n : Nat) : Prop := s.2.1 190 = 9 ∧ (∀ i : Nat, i < n → s.1 190 (mf i) = some (191 + (i : Int)) ∧ s.2.1 (191 + (i : Int)) = mk i ∧ s.2.2.1 (191 + (i : Int)) = mlen i) ∧ ((s.2.2.2 : Nat) : Int) = 191 + (n : Int) ∧ ∀ b : Int, b < 190 → Ag s0 s b
theorem MF.more {s0 s : gSh} {n κ len : Nat} {k p : Int} (h : MF s0 s n) (hn : n < 24) (hk : mf n = k) (hκ : mk n = κ) (hl : mlen n = len) (hp : 191 + (n : Int) = p) : MF s0 (g_up (g_nsh s κ len).1 190 k (some p), (g_nsh s κ len).2) (n + 1) := by
  obtain ⟨h1, h2, h3, h4⟩ := h
  subst hp
  have f1 := nsh_k (s := s) (κ := κ) (len := len) h3
  have f2 : ∀ b : Int, b < 191 + (n : Int) → Ag s (g_nsh s κ len) b := fun b hb => Ag.nsh (by rw [h3]; omega)
  generalize g_nsh s κ len = s1 at f1 f2 ⊢
  have a3 : ∀ b : Int, b ≠ 190 → Ag s1 (g_up s1.1 190 k (some (191 + (n : Int))), s1.2) b := fun b hb => Ag.up hb
  refine ⟨(f2 190 (by omega)).2.1.trans h1, fun i hi => ?_, by show ((s1.2.2.2 : Nat) : Int) = _; rw [f1.2.2]; omega, fun b hb => (h4 b hb).tr ((f2 b (by omega)).tr (a3 b (by omega)))⟩
  show g_up s1.1 190 k (some (191 + (n : Int))) 190 (mf i) = _ ∧ s1.2.1 (191 + (i : Int)) = _ ∧ s1.2.2.1 (191 + (i : Int)) = _
  by_cases e : i = n
  · subst e
    rw [hk, g_up_at, f1.1, f1.2.1, hκ, hl]
    exact ⟨rfl, rfl, rfl⟩
  · have g := h2 i (by omega)
    rw [g_up_ne (by rw [← hk]; exact mf_inj i (by omega) n hn e), (f2 190 (by omega)).1, (f2 (191 + (i : Int)) (by omega)).2.1, (f2 (191 + (i : Int)) (by omega)).2.2]
    exact g
set_option maxRecDepth 20000 in
theorem MF.md {s0 s : gSh} (h : MF s0 s 24) : isMd s := ⟨h.1, (h.2.1 0 (by decide)).1, (h.2.1 0 (by decide)).2.1, (by have w := (h.2.1 0 (by decide)).2.2; exact congrArg (fun (x : Nat) => (x : Int)) w), (h.2.1 1 (by decide)).1, (h.2.1 1 (by decide)).2.1, (by have w := (h.2.1 1 (by decide)).2.2; exact congrArg (fun (x : Nat) => (x : Int)) w), (h.2.1 2 (by decide)).1, (h.2.1 2 (by decide)).2.1, (by have w := (h.2.1 2 (by decide)).2.2; exact congrArg (fun (x : Nat) => (x : Int)) w), (h.2.1 3 (by decide)).1, (h.2.1 3 (by decide)).2.1, (by have w := (h.2.1 3 (by decide)).2.2; exact congrArg (fun (x : Nat) => (x : Int)) w), (h.2.1 4 (by decide)).1, (h.2.1 4 (by decide)).2.1, (by have w := (h.2.1 4 (by decide)).2.2; exact congrArg (fun (x : Nat) => (x : Int)) w), (h.2.1 5 (by decide)).1, (h.2.1 5 (by decide)).2.1, (by have w := (h.2.1 5 (by decide)).2.2; exact congrArg (fun (x : Nat) => (x : Int)) w), (h.2.1 6 (by decide)).1, (h.2.1 6 (by decide)).2.1, (by have w := (h.2.1 6 (by decide)).2.2; exact congrArg (fun (x : Nat) => (x : Int)) w), (h.2.1 7 (by decide)).1, (h.2.1 7 (by decide)).2.1, (by have w := (h.2.1 7 (by decide)).2.2; exact congrArg (fun (x : Nat) => (x : Int)) w), (h.2.1 8 (by decide)).1, (h.2.1 8 (by decide)).2.1, (by have w := (h.2.1 8 (by decide)).2.2; exact congrArg (fun (x : Nat) => (x : Int)) w), (h.2.1 9 (by decide)).1, (h.2.1 9 (by decide)).2.1, (by have w := (h.2.1 9 (by decide)).2.2; exact congrArg (fun (x : Nat) => (x : Int)) w), (h.2.1 10 (by decide)).1, (h.2.1 10 (by decide)).2.1, (by have w := (h.2.1 10 (by decide)).2.2; exact congrArg (fun (x : Nat) => (x : Int)) w), (h.2.1 11 (by decide)).1, (h.2.1 11 (by decide)).2.1, (by have w := (h.2.1 11 (by decide)).2.2; exact congrArg (fun (x : Nat) => (x : Int)) w), (h.2.1 12 (by decide)).1, (h.2.1 12 (by decide)).2.1, (by have w := (h.2.1 12 (by decide)).2.2; exact congrArg (fun (x : Nat) => (x : Int)) w), (h.2.1 13 (by decide)).1, (h.2.1 13 (by decide)).2.1, (by have w := (h.2.1 13 (by decide)).2.2; exact congrArg (fun (x : Nat) => (x : Int)) w), (h.2.1 14 (by decide)).1, (h.2.1 14 (by decide)).2.1, (by have w := (h.2.1 14 (by decide)).2.2; exact congrArg (fun (x : Nat) => (x : Int)) w), (h.2.1 15 (by decide)).1, (h.2.1 15 (by decide)).2.1, (by have w := (h.2.1 15 (by decide)).2.2; exact congrArg (fun (x : Nat) => (x : Int)) w), (h.2.1 16 (by decide)).1, (h.2.1 16 (by decide)).2.1, (by have w := (h.2.1 16 (by decide)).2.2; exact congrArg (fun (x : Nat) => (x : Int)) w), (h.2.1 17 (by decide)).1, (h.2.1 17 (by decide)).2.1, (by have w := (h.2.1 17 (by decide)).2.2; exact congrArg (fun (x : Nat) => (x : Int)) w), (h.2.1 18 (by decide)).1, (h.2.1 18 (by decide)).2.1, (by have w := (h.2.1 18 (by decide)).2.2; exact congrArg (fun (x : Nat) => (x : Int)) w), (h.2.1 19 (by decide)).1, (h.2.1 19 (by decide)).2.1, (by have w := (h.2.1 19 (by decide)).2.2; exact congrArg (fun (x : Nat) => (x : Int)) w), (h.2.1 20 (by decide)).1, (h.2.1 20 (by decide)).2.1, (by have w := (h.2.1 20 (by decide)).2.2; exact congrArg (fun (x : Nat) => (x : Int)) w), (h.2.1 21 (by decide)).1, (h.2.1 21 (by decide)).2.1, (by have w := (h.2.1 21 (by decide)).2.2; exact congrArg (fun (x : Nat) => (x : Int)) w), (h.2.1 22 (by decide)).1, (h.2.1 22 (by decide)).2.1, (by have w := (h.2.1 22 (by decide)).2.2; exact congrArg (fun (x : Nat) => (x : Int)) w), (h.2.1 23 (by decide)).1, (h.2.1 23 (by decide)).2.1, (by have w := (h.2.1 23 (by decide)).2.2; exact congrArg (fun (x : Nat) => (x : Int)) w)⟩
set_option maxRecDepth 20000 in
set_option maxHeartbeats 4000000 in
theorem c_iMd (hk : sh.2.1 190 = 9) (hn : (sh.2.2.2 : Int) = 191) (hz : Zr gi gl 190) : Ct mdX9_init 24 4717 [vR 190] gi gl sh (fun r gi' gl' sh' => r = none ∧ isMd sh' ∧ ((sh'.2.2.2 : Nat) : Int) = 215 ∧ (∀ b : Int, b < 190 → Ag sh sh' b) ∧ (∀ b : Int, b < 190 → gi' b = gi b) ∧ (∀ b : Int, b < 190 → gl' b = gl b) ∧ gi' 190 7 = 0 ∧ gi' 190 5 = 0 ∧ gi' 190 1 = 2 ∧ (gi' 191 0 = 8 ∧ gi' 191 1 = 4 ∧ gi' 191 2 = 6 ∧ gi' 191 3 = 1 ∧ gi' 191 4 = 1 ∧ gi' 191 5 = 7 ∧ gi' 191 6 = 2) ∧ gi' 192 0 = 0 ∧ gi' 192 1 = 1 ∧ gl' 193 0 = 0 ∧ gl' 193 61 = 5 ∧ gl' 193 62 = 2) := by
  show Go mdX9_init 24 4717 0 [some (vR 190)] [] gi gl sh _
  refine g_aload_n dX9_init_0 rfl ?_
  refine g_objInit dX9_init_1 mlX9_1 (Nat.le_of_ble_eq_true rfl) ?_
  have m0 : MF sh sh 0 := ⟨hk, fun i hi => absurd hi (Nat.not_lt_zero i), by rw [hn]; rfl, fun _ _ => Ag.rf⟩
  refine g_aload_n dX9_init_4 rfl ?_
  refine g_bipush dX9_init_5 (by decide) (by decide) ?_
  refine Go.wk (mc := 23 + 1) (ms := 4710 + Int.toNat 7) (by decide) (by decide) ?_
  refine g_newI dX9_init_7 (by decide) (by decide) ?_
  rw [show ((sh.2.2.2 : Nat) : Int) = 191 from m0.2.2.1, alz (hz 191 (by decide)).1, alz (hz 191 (by decide)).2]
  have m1 := m0.more (κ := 11) (len := Int.toNat 7) (k := 0) (p := 191) (by decide) rfl rfl rfl rfl
  refine g_putRF 0 dX9_init_9 flX9_7 rfl (by have w := m1.1; exact w) rfl rfl ?_
  generalize (g_up (g_nsh sh 11 (Int.toNat 7)).1 190 0 (some 191), (g_nsh sh 11 (Int.toNat 7)).2) = s1 at m1 ⊢
  clear m0
  refine g_aload_n dX9_init_12 rfl ?_
  refine g_iconst dX9_init_13 (by decide) ?_
  refine Go.wk (mc := 22 + 1) (ms := 4706 + Int.toNat 4) (by decide) (by decide) ?_
  refine g_newI dX9_init_14 (by decide) (by decide) ?_
  rw [show ((s1.2.2.2 : Nat) : Int) = 192 from m1.2.2.1, alz (hz 192 (by decide)).1, alz (hz 192 (by decide)).2]
  have m2 := m1.more (κ := 11) (len := Int.toNat 4) (k := 2) (p := 192) (by decide) rfl rfl rfl rfl
  refine g_putRF 2 dX9_init_16 flX9_13 rfl (by have w := m2.1; exact w) rfl rfl ?_
  generalize (g_up (g_nsh s1 11 (Int.toNat 4)).1 190 2 (some 192), (g_nsh s1 11 (Int.toNat 4)).2) = s2 at m2 ⊢
  clear m1
  refine g_aload_n dX9_init_19 rfl ?_
  refine g_bipush dX9_init_20 (by decide) (by decide) ?_
  refine Go.wk (mc := 21 + 1) (ms := 4641 + Int.toNat 65) (by decide) (by decide) ?_
  refine g_newL dX9_init_22 (by decide) (by decide) ?_
  rw [show ((s2.2.2.2 : Nat) : Int) = 193 from m2.2.2.1, alz (hz 193 (by decide)).1, alz (hz 193 (by decide)).2]
  have m3 := m2.more (κ := 12) (len := Int.toNat 65) (k := 3) (p := 193) (by decide) rfl rfl rfl rfl
  refine g_putRF 3 dX9_init_24 flX9_16 rfl (by have w := m3.1; exact w) rfl rfl ?_
  generalize (g_up (g_nsh s2 12 (Int.toNat 65)).1 190 3 (some 193), (g_nsh s2 12 (Int.toNat 65)).2) = s3 at m3 ⊢
  clear m2
  refine g_aload_n dX9_init_27 rfl ?_
  refine g_sipush dX9_init_28 (by decide) (by decide) ?_
  refine Go.wk (mc := 20 + 1) (ms := 4251 + Int.toNat 390) (by decide) (by decide) ?_
  refine g_newL dX9_init_31 (by decide) (by decide) ?_
  rw [show ((s3.2.2.2 : Nat) : Int) = 194 from m3.2.2.1, alz (hz 194 (by decide)).1, alz (hz 194 (by decide)).2]
  have m4 := m3.more (κ := 12) (len := Int.toNat 390) (k := 4) (p := 194) (by decide) rfl rfl rfl rfl
  refine g_putRF 4 dX9_init_33 flX9_20 rfl (by have w := m4.1; exact w) rfl rfl ?_
  generalize (g_up (g_nsh s3 12 (Int.toNat 390)).1 190 4 (some 194), (g_nsh s3 12 (Int.toNat 390)).2) = s4 at m4 ⊢
  clear m3
  refine g_aload_n dX9_init_36 rfl ?_
  refine g_sipush dX9_init_37 (by decide) (by decide) ?_
  refine Go.wk (mc := 19 + 1) (ms := 4051 + Int.toNat 200) (by decide) (by decide) ?_
  refine g_newI dX9_init_40 (by decide) (by decide) ?_
  rw [show ((s4.2.2.2 : Nat) : Int) = 195 from m4.2.2.1, alz (hz 195 (by decide)).1, alz (hz 195 (by decide)).2]
  have m5 := m4.more (κ := 11) (len := Int.toNat 200) (k := 6) (p := 195) (by decide) rfl rfl rfl rfl
  refine g_putRF 6 dX9_init_42 flX9_23 rfl (by have w := m5.1; exact w) rfl rfl ?_
  generalize (g_up (g_nsh s4 11 (Int.toNat 200)).1 190 6 (some 195), (g_nsh s4 11 (Int.toNat 200)).2) = s5 at m5 ⊢
  clear m4
  refine g_aload_n dX9_init_45 rfl ?_
  refine g_bipush dX9_init_46 (by decide) (by decide) ?_
  refine Go.wk (mc := 18 + 1) (ms := 4044 + Int.toNat 7) (by decide) (by decide) ?_
  refine g_newI dX9_init_48 (by decide) (by decide) ?_
  rw [show ((s5.2.2.2 : Nat) : Int) = 196 from m5.2.2.1, alz (hz 196 (by decide)).1, alz (hz 196 (by decide)).2]
  have m6 := m5.more (κ := 11) (len := Int.toNat 7) (k := 8) (p := 196) (by decide) rfl rfl rfl rfl
  refine g_putRF 8 dX9_init_50 flX9_26 rfl (by have w := m6.1; exact w) rfl rfl ?_
  generalize (g_up (g_nsh s5 11 (Int.toNat 7)).1 190 8 (some 196), (g_nsh s5 11 (Int.toNat 7)).2) = s6 at m6 ⊢
  clear m5
  refine g_aload_n dX9_init_53 rfl ?_
  refine g_iconst dX9_init_54 (by decide) ?_
  refine Go.wk (mc := 17 + 1) (ms := 4040 + Int.toNat 4) (by decide) (by decide) ?_
  refine g_newI dX9_init_55 (by decide) (by decide) ?_
  rw [show ((s6.2.2.2 : Nat) : Int) = 197 from m6.2.2.1, alz (hz 197 (by decide)).1, alz (hz 197 (by decide)).2]
  have m7 := m6.more (κ := 11) (len := Int.toNat 4) (k := 10) (p := 197) (by decide) rfl rfl rfl rfl
  refine g_putRF 10 dX9_init_57 flX9_29 rfl (by have w := m7.1; exact w) rfl rfl ?_
  generalize (g_up (g_nsh s6 11 (Int.toNat 4)).1 190 10 (some 197), (g_nsh s6 11 (Int.toNat 4)).2) = s7 at m7 ⊢
  clear m6
  refine g_aload_n dX9_init_60 rfl ?_
  refine g_iconst dX9_init_61 (by decide) ?_
  refine Go.wk (mc := 16 + 1) (ms := 4036 + Int.toNat 4) (by decide) (by decide) ?_
  refine g_newI dX9_init_62 (by decide) (by decide) ?_
  rw [show ((s7.2.2.2 : Nat) : Int) = 198 from m7.2.2.1, alz (hz 198 (by decide)).1, alz (hz 198 (by decide)).2]
  have m8 := m7.more (κ := 11) (len := Int.toNat 4) (k := 11) (p := 198) (by decide) rfl rfl rfl rfl
  refine g_putRF 11 dX9_init_64 flX9_32 rfl (by have w := m8.1; exact w) rfl rfl ?_
  generalize (g_up (g_nsh s7 11 (Int.toNat 4)).1 190 11 (some 198), (g_nsh s7 11 (Int.toNat 4)).2) = s8 at m8 ⊢
  clear m7
  refine g_aload_n dX9_init_67 rfl ?_
  refine g_sipush dX9_init_68 (by decide) (by decide) ?_
  refine Go.wk (mc := 15 + 1) (ms := 3076 + Int.toNat 960) (by decide) (by decide) ?_
  refine g_newI dX9_init_71 (by decide) (by decide) ?_
  rw [show ((s8.2.2.2 : Nat) : Int) = 199 from m8.2.2.1, alz (hz 199 (by decide)).1, alz (hz 199 (by decide)).2]
  have m9 := m8.more (κ := 11) (len := Int.toNat 960) (k := 13) (p := 199) (by decide) rfl rfl rfl rfl
  refine g_putRF 13 dX9_init_73 flX9_35 rfl (by have w := m9.1; exact w) rfl rfl ?_
  generalize (g_up (g_nsh s8 11 (Int.toNat 960)).1 190 13 (some 199), (g_nsh s8 11 (Int.toNat 960)).2) = s9 at m9 ⊢
  clear m8
  refine g_aload_n dX9_init_76 rfl ?_
  refine g_sipush dX9_init_77 (by decide) (by decide) ?_
  refine Go.wk (mc := 14 + 1) (ms := 2116 + Int.toNat 960) (by decide) (by decide) ?_
  refine g_newI dX9_init_80 (by decide) (by decide) ?_
  rw [show ((s9.2.2.2 : Nat) : Int) = 200 from m9.2.2.1, alz (hz 200 (by decide)).1, alz (hz 200 (by decide)).2]
  have m10 := m9.more (κ := 11) (len := Int.toNat 960) (k := 14) (p := 200) (by decide) rfl rfl rfl rfl
  refine g_putRF 14 dX9_init_82 flX9_38 rfl (by have w := m10.1; exact w) rfl rfl ?_
  generalize (g_up (g_nsh s9 11 (Int.toNat 960)).1 190 14 (some 200), (g_nsh s9 11 (Int.toNat 960)).2) = s10 at m10 ⊢
  clear m9
  refine g_aload_n dX9_init_85 rfl ?_
  refine g_bipush dX9_init_86 (by decide) (by decide) ?_
  refine Go.wk (mc := 13 + 1) (ms := 2068 + Int.toNat 48) (by decide) (by decide) ?_
  refine g_newI dX9_init_88 (by decide) (by decide) ?_
  rw [show ((s10.2.2.2 : Nat) : Int) = 201 from m10.2.2.1, alz (hz 201 (by decide)).1, alz (hz 201 (by decide)).2]
  have m11 := m10.more (κ := 11) (len := Int.toNat 48) (k := 18) (p := 201) (by decide) rfl rfl rfl rfl
  refine g_putRF 18 dX9_init_90 flX9_41 rfl (by have w := m11.1; exact w) rfl rfl ?_
  generalize (g_up (g_nsh s10 11 (Int.toNat 48)).1 190 18 (some 201), (g_nsh s10 11 (Int.toNat 48)).2) = s11 at m11 ⊢
  clear m10
  refine g_aload_n dX9_init_93 rfl ?_
  refine g_bipush dX9_init_94 (by decide) (by decide) ?_
  refine Go.wk (mc := 12 + 1) (ms := 2020 + Int.toNat 48) (by decide) (by decide) ?_
  refine g_newI dX9_init_96 (by decide) (by decide) ?_
  rw [show ((s11.2.2.2 : Nat) : Int) = 202 from m11.2.2.1, alz (hz 202 (by decide)).1, alz (hz 202 (by decide)).2]
  have m12 := m11.more (κ := 11) (len := Int.toNat 48) (k := 19) (p := 202) (by decide) rfl rfl rfl rfl
  refine g_putRF 19 dX9_init_98 flX9_44 rfl (by have w := m12.1; exact w) rfl rfl ?_
  generalize (g_up (g_nsh s11 11 (Int.toNat 48)).1 190 19 (some 202), (g_nsh s11 11 (Int.toNat 48)).2) = s12 at m12 ⊢
  clear m11
  refine g_aload_n dX9_init_101 rfl ?_
  refine g_bipush dX9_init_102 (by decide) (by decide) ?_
  refine Go.wk (mc := 11 + 1) (ms := 1972 + Int.toNat 48) (by decide) (by decide) ?_
  refine g_newI dX9_init_104 (by decide) (by decide) ?_
  rw [show ((s12.2.2.2 : Nat) : Int) = 203 from m12.2.2.1, alz (hz 203 (by decide)).1, alz (hz 203 (by decide)).2]
  have m13 := m12.more (κ := 11) (len := Int.toNat 48) (k := 20) (p := 203) (by decide) rfl rfl rfl rfl
  refine g_putRF 20 dX9_init_106 flX9_47 rfl (by have w := m13.1; exact w) rfl rfl ?_
  generalize (g_up (g_nsh s12 11 (Int.toNat 48)).1 190 20 (some 203), (g_nsh s12 11 (Int.toNat 48)).2) = s13 at m13 ⊢
  clear m12
  refine g_aload_n dX9_init_109 rfl ?_
  refine g_bipush dX9_init_110 (by decide) (by decide) ?_
  refine Go.wk (mc := 10 + 1) (ms := 1924 + Int.toNat 48) (by decide) (by decide) ?_
  refine g_newI dX9_init_112 (by decide) (by decide) ?_
  rw [show ((s13.2.2.2 : Nat) : Int) = 204 from m13.2.2.1, alz (hz 204 (by decide)).1, alz (hz 204 (by decide)).2]
  have m14 := m13.more (κ := 11) (len := Int.toNat 48) (k := 21) (p := 204) (by decide) rfl rfl rfl rfl
  refine g_putRF 21 dX9_init_114 flX9_50 rfl (by have w := m14.1; exact w) rfl rfl ?_
  generalize (g_up (g_nsh s13 11 (Int.toNat 48)).1 190 21 (some 204), (g_nsh s13 11 (Int.toNat 48)).2) = s14 at m14 ⊢
  clear m13
  refine g_aload_n dX9_init_117 rfl ?_
  refine g_bipush dX9_init_118 (by decide) (by decide) ?_
  refine Go.wk (mc := 9 + 1) (ms := 1876 + Int.toNat 48) (by decide) (by decide) ?_
  refine g_newI dX9_init_120 (by decide) (by decide) ?_
  rw [show ((s14.2.2.2 : Nat) : Int) = 205 from m14.2.2.1, alz (hz 205 (by decide)).1, alz (hz 205 (by decide)).2]
  have m15 := m14.more (κ := 11) (len := Int.toNat 48) (k := 22) (p := 205) (by decide) rfl rfl rfl rfl
  refine g_putRF 22 dX9_init_122 flX9_53 rfl (by have w := m15.1; exact w) rfl rfl ?_
  generalize (g_up (g_nsh s14 11 (Int.toNat 48)).1 190 22 (some 205), (g_nsh s14 11 (Int.toNat 48)).2) = s15 at m15 ⊢
  clear m14
  refine g_aload_n dX9_init_125 rfl ?_
  refine g_bipush dX9_init_126 (by decide) (by decide) ?_
  refine Go.wk (mc := 8 + 1) (ms := 1828 + Int.toNat 48) (by decide) (by decide) ?_
  refine g_newI dX9_init_128 (by decide) (by decide) ?_
  rw [show ((s15.2.2.2 : Nat) : Int) = 206 from m15.2.2.1, alz (hz 206 (by decide)).1, alz (hz 206 (by decide)).2]
  have m16 := m15.more (κ := 11) (len := Int.toNat 48) (k := 23) (p := 206) (by decide) rfl rfl rfl rfl
  refine g_putRF 23 dX9_init_130 flX9_56 rfl (by have w := m16.1; exact w) rfl rfl ?_
  generalize (g_up (g_nsh s15 11 (Int.toNat 48)).1 190 23 (some 206), (g_nsh s15 11 (Int.toNat 48)).2) = s16 at m16 ⊢
  clear m15
  refine g_aload_n dX9_init_133 rfl ?_
  refine g_bipush dX9_init_134 (by decide) (by decide) ?_
  refine Go.wk (mc := 7 + 1) (ms := 1780 + Int.toNat 48) (by decide) (by decide) ?_
  refine g_newI dX9_init_136 (by decide) (by decide) ?_
  rw [show ((s16.2.2.2 : Nat) : Int) = 207 from m16.2.2.1, alz (hz 207 (by decide)).1, alz (hz 207 (by decide)).2]
  have m17 := m16.more (κ := 11) (len := Int.toNat 48) (k := 24) (p := 207) (by decide) rfl rfl rfl rfl
  refine g_putRF 24 dX9_init_138 flX9_59 rfl (by have w := m17.1; exact w) rfl rfl ?_
  generalize (g_up (g_nsh s16 11 (Int.toNat 48)).1 190 24 (some 207), (g_nsh s16 11 (Int.toNat 48)).2) = s17 at m17 ⊢
  clear m16
  refine g_aload_n dX9_init_141 rfl ?_
  refine g_bipush dX9_init_142 (by decide) (by decide) ?_
  refine Go.wk (mc := 6 + 1) (ms := 1732 + Int.toNat 48) (by decide) (by decide) ?_
  refine g_newI dX9_init_144 (by decide) (by decide) ?_
  rw [show ((s17.2.2.2 : Nat) : Int) = 208 from m17.2.2.1, alz (hz 208 (by decide)).1, alz (hz 208 (by decide)).2]
  have m18 := m17.more (κ := 11) (len := Int.toNat 48) (k := 25) (p := 208) (by decide) rfl rfl rfl rfl
  refine g_putRF 25 dX9_init_146 flX9_62 rfl (by have w := m18.1; exact w) rfl rfl ?_
  generalize (g_up (g_nsh s17 11 (Int.toNat 48)).1 190 25 (some 208), (g_nsh s17 11 (Int.toNat 48)).2) = s18 at m18 ⊢
  clear m17
  refine g_aload_n dX9_init_149 rfl ?_
  refine g_bipush dX9_init_150 (by decide) (by decide) ?_
  refine Go.wk (mc := 5 + 1) (ms := 1684 + Int.toNat 48) (by decide) (by decide) ?_
  refine g_newI dX9_init_152 (by decide) (by decide) ?_
  rw [show ((s18.2.2.2 : Nat) : Int) = 209 from m18.2.2.1, alz (hz 209 (by decide)).1, alz (hz 209 (by decide)).2]
  have m19 := m18.more (κ := 11) (len := Int.toNat 48) (k := 26) (p := 209) (by decide) rfl rfl rfl rfl
  refine g_putRF 26 dX9_init_154 flX9_65 rfl (by have w := m19.1; exact w) rfl rfl ?_
  generalize (g_up (g_nsh s18 11 (Int.toNat 48)).1 190 26 (some 209), (g_nsh s18 11 (Int.toNat 48)).2) = s19 at m19 ⊢
  clear m18
  refine g_aload_n dX9_init_157 rfl ?_
  refine g_bipush dX9_init_158 (by decide) (by decide) ?_
  refine Go.wk (mc := 4 + 1) (ms := 1636 + Int.toNat 48) (by decide) (by decide) ?_
  refine g_newI dX9_init_160 (by decide) (by decide) ?_
  rw [show ((s19.2.2.2 : Nat) : Int) = 210 from m19.2.2.1, alz (hz 210 (by decide)).1, alz (hz 210 (by decide)).2]
  have m20 := m19.more (κ := 11) (len := Int.toNat 48) (k := 27) (p := 210) (by decide) rfl rfl rfl rfl
  refine g_putRF 27 dX9_init_162 flX9_68 rfl (by have w := m20.1; exact w) rfl rfl ?_
  generalize (g_up (g_nsh s19 11 (Int.toNat 48)).1 190 27 (some 210), (g_nsh s19 11 (Int.toNat 48)).2) = s20 at m20 ⊢
  clear m19
  refine g_aload_n dX9_init_165 rfl ?_
  refine g_iconst dX9_init_166 (by decide) ?_
  refine Go.wk (mc := 3 + 1) (ms := 1632 + Int.toNat 4) (by decide) (by decide) ?_
  refine g_newI dX9_init_167 (by decide) (by decide) ?_
  rw [show ((s20.2.2.2 : Nat) : Int) = 211 from m20.2.2.1, alz (hz 211 (by decide)).1, alz (hz 211 (by decide)).2]
  have m21 := m20.more (κ := 11) (len := Int.toNat 4) (k := 28) (p := 211) (by decide) rfl rfl rfl rfl
  refine g_putRF 28 dX9_init_169 flX9_71 rfl (by have w := m21.1; exact w) rfl rfl ?_
  generalize (g_up (g_nsh s20 11 (Int.toNat 4)).1 190 28 (some 211), (g_nsh s20 11 (Int.toNat 4)).2) = s21 at m21 ⊢
  clear m20
  refine g_aload_n dX9_init_172 rfl ?_
  refine g_bipush dX9_init_173 (by decide) (by decide) ?_
  refine Go.wk (mc := 2 + 1) (ms := 1584 + Int.toNat 48) (by decide) (by decide) ?_
  refine g_newI dX9_init_175 (by decide) (by decide) ?_
  rw [show ((s21.2.2.2 : Nat) : Int) = 212 from m21.2.2.1, alz (hz 212 (by decide)).1, alz (hz 212 (by decide)).2]
  have m22 := m21.more (κ := 11) (len := Int.toNat 48) (k := 29) (p := 212) (by decide) rfl rfl rfl rfl
  refine g_putRF 29 dX9_init_177 flX9_74 rfl (by have w := m22.1; exact w) rfl rfl ?_
  generalize (g_up (g_nsh s21 11 (Int.toNat 48)).1 190 29 (some 212), (g_nsh s21 11 (Int.toNat 48)).2) = s22 at m22 ⊢
  clear m21
  refine g_aload_n dX9_init_180 rfl ?_
  refine g_sipush dX9_init_181 (by decide) (by decide) ?_
  refine Go.wk (mc := 1 + 1) (ms := 48 + Int.toNat 1536) (by decide) (by decide) ?_
  refine g_newZ dX9_init_184 (by decide) (by decide) ?_
  rw [show ((s22.2.2.2 : Nat) : Int) = 213 from m22.2.2.1, alz (hz 213 (by decide)).1, alz (hz 213 (by decide)).2]
  have m23 := m22.more (κ := 13) (len := Int.toNat 1536) (k := 30) (p := 213) (by decide) rfl rfl rfl rfl
  refine g_putRF 30 dX9_init_186 flX9_77 rfl (by have w := m23.1; exact w) rfl rfl ?_
  generalize (g_up (g_nsh s22 13 (Int.toNat 1536)).1 190 30 (some 213), (g_nsh s22 13 (Int.toNat 1536)).2) = s23 at m23 ⊢
  clear m22
  refine g_aload_n dX9_init_189 rfl ?_
  refine g_bipush dX9_init_190 (by decide) (by decide) ?_
  refine Go.wk (mc := 0 + 1) (ms := 0 + Int.toNat 48) (by decide) (by decide) ?_
  refine g_newZ dX9_init_192 (by decide) (by decide) ?_
  rw [show ((s23.2.2.2 : Nat) : Int) = 214 from m23.2.2.1, alz (hz 214 (by decide)).1, alz (hz 214 (by decide)).2]
  have m24 := m23.more (κ := 13) (len := Int.toNat 48) (k := 31) (p := 214) (by decide) rfl rfl rfl rfl
  refine g_putRF 31 dX9_init_194 flX9_81 rfl (by have w := m24.1; exact w) rfl rfl ?_
  generalize (g_up (g_nsh s23 13 (Int.toNat 48)).1 190 31 (some 214), (g_nsh s23 13 (Int.toNat 48)).2) = s24 at m24 ⊢
  clear m23
  have hM := m24.md
  refine g_aload_n dX9_init_197 rfl ?_
  refine g_getR 8 dX9_init_198 flX9_26 rfl hM.o hM.r8 ?_
  refine g_cSv [_] dX9_init_201 mlX9_84 msX9_plans (by decide) rfl rfl (Nat.le_of_ble_eq_true rfl) rfl (Nat.le_of_ble_eq_true rfl) (m_plans 196 hM.k196 hM.l196) ?_
  refine g_aload_n dX9_init_204 rfl ?_
  refine g_getR 0 dX9_init_205 flX9_7 rfl hM.o hM.r0 ?_
  refine g_cSv [_] dX9_init_208 mlX9_84 msX9_plans (by decide) rfl rfl (Nat.le_of_ble_eq_true rfl) rfl (Nat.le_of_ble_eq_true rfl) (m_plans 191 hM.k191 hM.l191) ?_
  refine g_aload_n dX9_init_211 rfl ?_
  refine g_iconst dX9_init_212 (by decide) ?_
  refine g_putI 1 dX9_init_213 flX9_88 rfl hM.o ?_
  refine g_aload_n dX9_init_216 rfl ?_
  refine g_getR 2 dX9_init_217 flX9_13 rfl hM.o hM.r2 ?_
  refine g_iconst dX9_init_220 (by decide) ?_
  refine g_iconst dX9_init_221 (by decide) ?_
  refine g_iastore dX9_init_222 hM.k192 (by omega) (hM.b192 (by omega)) ?_
  refine g_aload_n dX9_init_223 rfl ?_
  refine g_getR 3 dX9_init_224 flX9_16 rfl hM.o hM.r3 ?_
  refine g_bipush dX9_init_227 (by decide) (by decide) ?_
  refine g_ldc2 (n := 5) dX9_init_229 cnX9_92 (by decide) ?_
  refine g_lastore dX9_init_232 hM.k193 (by omega) (hM.b193 (by omega)) ?_
  refine g_aload_n dX9_init_233 rfl ?_
  refine g_getR 3 dX9_init_234 flX9_16 rfl hM.o hM.r3 ?_
  refine g_bipush dX9_init_237 (by decide) (by decide) ?_
  refine g_ldc2 (n := 2) dX9_init_239 cnX9_94 (by decide) ?_
  refine g_lastore dX9_init_242 hM.k193 (by omega) (hM.b193 (by omega)) ?_
  refine g_return dX9_init_243 rfl ?_
  have hmo : ∀ b : Int, b ≠ 191 → b ≠ 196 → m_pl0 (m_pl0 gi 196) 191 b = gi b := fun b h1 h2 => by unfold m_pl0; simp only [g_up_row h1, g_up_row h2]
  refine ⟨rfl, hM, m24.2.2.1, m24.2.2.2, fun b hb => ?_, fun b hb => ?_, ?_⟩
  · rw [g_up_row (by omega), g_up_row (by omega)]; exact hmo b (by omega) (by omega)
  · rw [g_up_row (by omega), g_up_row (by omega)]
  · have z0 := (hz 190 (by decide)).1
    have z2 := (hz 192 (by decide)).1
    have z3 := (hz 193 (by decide)).2
    have e0 : m_pl0 (m_pl0 gi 196) 191 190 = gi 190 := hmo 190 (by decide) (by decide)
    have e2 : m_pl0 (m_pl0 gi 196) 191 192 = gi 192 := hmo 192 (by decide) (by decide)
    refine ⟨?_, ?_, ?_, ⟨?_, ?_, ?_, ?_, ?_, ?_, ?_⟩, ?_, ?_, ?_, ?_, ?_⟩
    · rw [g_up_row (by decide), g_up_ne (by decide), e0, z0]
    · rw [g_up_row (by decide), g_up_ne (by decide), e0, z0]
    · rw [g_up_row (by decide), g_up_at]
    · rw [g_up_row (by decide), g_up_row (by decide)]; simp [m_pl0, g_up]
    · rw [g_up_row (by decide), g_up_row (by decide)]; simp [m_pl0, g_up]
    · rw [g_up_row (by decide), g_up_row (by decide)]; simp [m_pl0, g_up]
    · rw [g_up_row (by decide), g_up_row (by decide)]; simp [m_pl0, g_up]
    · rw [g_up_row (by decide), g_up_row (by decide)]; simp [m_pl0, g_up]
    · rw [g_up_row (by decide), g_up_row (by decide)]; simp [m_pl0, g_up]
    · rw [g_up_row (by decide), g_up_row (by decide)]; simp [m_pl0, g_up]
    · rw [g_up_ne (by decide), g_up_row (by decide), e2, z2]
    · rw [g_up_at]
    · rw [g_up_ne (by decide), g_up_ne (by decide), z3]
    · rw [g_up_ne (by decide), g_up_at]
    · rw [g_up_at]
end INIT3
