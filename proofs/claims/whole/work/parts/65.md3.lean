/-! the model's text: rules, items, the first fault -/
def m_rul (tx : gRw) (n p : Int) : Option (Int × Int × Int) := (m_rn tx n p 0 3).bind fun k => if t_at tx n k.2 = 44 then (m_rn tx n (k.2 + 1) 1 99).bind fun v => some (k.1, v.1, v.2) else none
def m_rlQ (tx : gRw) (n p R : Int) (gi gl : gF) (sh : gSh) : gQ := fun r gi' gl' sh' => ∃ z : Int, r = some (vI z) ∧ gl' = gl ∧ sh' = sh ∧ TF gi gi' ∧ (z = 0 ∧ (R = 4 ∨ m_rul tx n p = none) ∨ z = 1 ∧ R ≠ 4 ∧ ∃ k v q : Int, m_rul tx n p = some (k, v, q) ∧ (p ≤ q ∧ q ≤ p + 20) ∧ gi' 190 12 = q ∧ gi' 190 9 = R + 1 ∧ gi' 196 = gi 196 ∧ gi' 197 = r_up (gi 197) R k ∧ gi' 198 = r_up (gi 198) R v)
section MD3
variable {gi gl : gF} {sh : gSh} {tx : gRw} {n p R : Int}

set_option maxRecDepth 20000 in
set_option maxHeartbeats 1000000 in
theorem l_rl65 (hM : isMd sh) (hR : gi 190 9 = R) (hR0 : 0 ≤ R ∧ R < 4) (k v q : Int) (h : (0 < v ∧ m_rul tx n p = some (k, v, q) ∧ (p ≤ q ∧ q ≤ p + 20)) ∨ v ≤ 0 ∧ m_rul tx n p = none) : Go mdX9_isRule 0 0 65 [some (vR 190)] [vI v, vI R, vR 198] (g_up (g_up gi 197 R k) 190 12 q) gl sh (m_rlQ tx n p R gi gl sh) := by
  have tf : ∀ u, TF gi (g_up (g_up (g_up (g_up gi 197 R k) 190 12 q) 198 R v) 190 9 u) := fun u => (((TF.rf.up (by omega)).up (by omega)).up (by omega)).up (by omega)
  refine g_iastore dX9_isRule_65 hM.k198 (by omega) (hM.b198 (by omega)) ?_
  refine g_aload_n dX9_isRule_66 rfl ?_
  refine g_dup dX9_isRule_67 (fun _ h9 => by cases h9) ?_
  refine g_getI 9 dX9_isRule_68 flX9_122 rfl hM.o ?_
  refine g_iconst dX9_isRule_71 (by decide) ?_
  have e9 : g_up (g_up (g_up gi 197 R k) 190 12 q) 198 R v 190 9 = R := by simp only [g_up_row, g_up_r, r_up_at, r_up_ne, ne_eq, Int.reduceEq, not_false_eq_true]; exact hR
  rw [e9]
  refine g_iadd dX9_isRule_72 (by omega) (by omega) ?_
  refine g_putI 9 dX9_isRule_73 flX9_122 rfl hM.o ?_
  generalize hG : g_up (g_up (g_up (g_up gi 197 R k) 190 12 q) 198 R v) 190 9 (R + 1) = G
  have g9 : G 190 9 = R + 1 := by rw [← hG, g_up_at]
  have g8 : G 198 = r_up (gi 198) R v := by rw [← hG]; simp only [g_up_row, g_up_r, r_up_at, r_up_ne, ne_eq, Int.reduceEq, not_false_eq_true]
  have g7 : G 197 = r_up (gi 197) R k := by rw [← hG]; simp only [g_up_row, g_up_r, r_up_at, r_up_ne, ne_eq, Int.reduceEq, not_false_eq_true]
  have g6 : G 196 = gi 196 := by rw [← hG]; simp only [g_up_row, g_up_r, r_up_at, r_up_ne, ne_eq, Int.reduceEq, not_false_eq_true]
  have g12 : G 190 12 = q := by rw [← hG]; simp only [g_up_row, g_up_r, r_up_at, r_up_ne, ne_eq, Int.reduceEq, not_false_eq_true]
  have gv : G 198 (G 190 9 - 1) = v := by rw [g9, g8, show R + 1 - 1 = R by omega, r_up_at]
  have gt := tf (R + 1)
  rw [hG] at gt
  refine g_aload_n dX9_isRule_76 rfl ?_
  refine g_getR 11 dX9_isRule_77 flX9_32 rfl hM.o hM.r11 ?_
  refine g_aload_n dX9_isRule_80 rfl ?_
  refine g_getI 9 dX9_isRule_81 flX9_122 rfl hM.o ?_
  refine g_iconst dX9_isRule_84 (by decide) ?_
  refine g_isub dX9_isRule_85 (by omega) (by omega) ?_
  refine g_iaload dX9_isRule_86 hM.k198 (by omega) (hM.b198 (by omega)) ?_
  rw [gv]
  refine g_if_le 94 dX9_isRule_87 (by decide) (fun h87 => ?_) (fun h87 => ?_)
  · skip
    refine g_iconst dX9_isRule_94 (by decide) ?_
    refine g_zreturn dX9_isRule_95 rfl (by decide) ?_
    refine ⟨0, rfl, rfl, rfl, gt, Or.inl ⟨rfl, Or.inr ?_⟩⟩
    rcases h with h | h
    · omega
    · exact h.2
  · skip
    refine g_iconst dX9_isRule_90 (by decide) ?_
    refine g_goto 95 dX9_isRule_91 (by decide) ?_
    refine g_zreturn dX9_isRule_95 rfl (by decide) ?_
    rcases h with h | h
    · exact ⟨1, rfl, rfl, rfl, gt, Or.inr ⟨rfl, by omega, k, v, q, h.2.1, h.2.2, g12, g9, g6, g7, g8⟩⟩
    · omega
set_option maxRecDepth 20000 in
set_option maxHeartbeats 2000000 in
theorem m_isRuleM (hM : isMd sh) (hx : gi 195 = tx) (hn : gi 190 7 = n) (hR : gi 190 9 = R) (hR0 : 0 ≤ R ∧ R ≤ 4) (hp0 : 0 ≤ p ∧ p ≤ 600) (hn0 : n ≤ 200) : Ct mdX9_isRule 0 0 [vR 190] (g_up gi 190 12 p) gl sh (m_rlQ tx n p R gi gl sh) := by
  show Go mdX9_isRule 0 0 0 [some (vR 190)] [] (g_up gi 190 12 p) gl sh _
  refine g_aload_n dX9_isRule_0 rfl ?_
  refine g_getI 9 dX9_isRule_1 flX9_122 rfl hM.o ?_
  refine g_iconst dX9_isRule_4 (by decide) ?_
  rw [show g_up gi 190 12 p 190 9 = R by rw [m_a9, hR]]
  refine g_icmp_ne 10 dX9_isRule_5 (by decide) (fun h5 => ?_) (fun h5 => ?_)
  · skip
    refine g_aload_n dX9_isRule_10 rfl ?_
    refine g_getR 10 dX9_isRule_11 flX9_29 rfl hM.o hM.r10 ?_
    refine g_aload_n dX9_isRule_14 rfl ?_
    refine g_getI 9 dX9_isRule_15 flX9_122 rfl hM.o ?_
    rw [show g_up gi 190 12 p 190 9 = R by rw [m_a9, hR]]
    refine g_aload_n dX9_isRule_18 rfl ?_
    refine g_iconst dX9_isRule_19 (by decide) ?_
    refine g_iconst dX9_isRule_20 (by decide) ?_
    refine g_callV_i [_, _] dX9_isRule_21 mlX9_114 mvX9_number (by decide) hM.o (by decide) rfl rfl (Nat.le_of_ble_eq_true rfl) rfl (Nat.le_of_ble_eq_true rfl) (m_numberA (tx := tx) (n := n) (p := p) hM 0 3 hx hn (by omega) hn0) (fun _ _ _ _ q => q.elim fun x q => q.elim fun _ q => ⟨x, q.1⟩) (fun k g1 l1 s1 c u1 u2 => ?_)
    obtain ⟨k1, kq, c1, rfl, rfl, rfl, kb, kh⟩ := c
    cases c1
    refine g_iastore dX9_isRule_24 hM.k197 (by omega) (hM.b197 (by omega)) ?_
    rw [g_up_comm (show (190 : Int) ≠ 197 ∨ (12 : Int) ≠ R from Or.inl (by decide))]
    generalize hG : g_up gi 197 R k = G
    have x5 : G 195 = tx := by rw [← hG, g_up_row (by decide), hx]
    have x7 : G 190 7 = n := by rw [← hG, g_up_row (by decide), hn]
    have x9 : ∀ u, g_up G 190 12 u 190 9 = R := fun u => by rw [m_a9, ← hG, g_up_row (by decide), hR]
    have xv : ∀ u, g_up G 190 12 u 197 (g_up G 190 12 u 190 9) = k := fun u => by rw [x9, g_up_row (by decide), ← hG, g_up_at]
    refine g_aload_n dX9_isRule_25 rfl ?_
    refine g_getR 11 dX9_isRule_26 flX9_32 rfl hM.o hM.r11 ?_
    refine g_aload_n dX9_isRule_29 rfl ?_
    refine g_getI 9 dX9_isRule_30 flX9_122 rfl hM.o ?_
    rw [x9]
    refine g_aload_n dX9_isRule_33 rfl ?_
    refine g_getR 10 dX9_isRule_34 flX9_29 rfl hM.o hM.r10 ?_
    refine g_aload_n dX9_isRule_37 rfl ?_
    refine g_getI 9 dX9_isRule_38 flX9_122 rfl hM.o ?_
    refine g_iaload dX9_isRule_41 hM.k197 (by (try rw [x9]); omega) (hM.b197 (by (try rw [x9]); omega)) ?_
    rw [xv]
    refine g_if_lt 64 dX9_isRule_42 (by decide) (fun h42 => ?_) (fun h42 => ?_)
    · skip
      have ks : m_rn tx n p 0 3 = none := kh.elim (fun c => by have c1 := (m_rn_num.mp c).2.1; dsimp only at c1; omega) (fun c => c.1)
      refine g_iconst dX9_isRule_64 (by decide) ?_
      rw [← hG]
      exact l_rl65 hM hR (by omega) k (-1) _ (Or.inr ⟨by decide, by simp [m_rul, ks]⟩)
    · skip
      have ks : m_rn tx n p 0 3 = some (k, kq) := kh.elim id (fun c => by have := c.2; omega)
      refine g_aload_n dX9_isRule_45 rfl ?_
      refine g_bipush dX9_isRule_46 (by decide) (by decide) ?_
      refine g_cVi [_] dX9_isRule_48 mlX9_118 mvX9_passes (by decide) hM.o (by decide) rfl rfl (Nat.le_of_ble_eq_true rfl) rfl (Nat.le_of_ble_eq_true rfl) (m_passesA (tx := tx) (n := n) (p := kq) hM 44 x5 x7 (by omega) hn0 (by decide)) ?_
      refine g_if_eq 64 dX9_isRule_51 (by decide) (fun h51 => ?_) (fun h51 => ?_)
      · skip
        have kc := (zb_q _).no h51
        refine g_iconst dX9_isRule_64 (by decide) ?_
        rw [← hG]
        exact l_rl65 hM hR (by omega) k (-1) _ (Or.inr ⟨by decide, by simp [m_rul, ks, kc]⟩)
      · skip
        have kc := (zb_q _).yes h51
        rw [(zb_q (t_at tx n kq = 44)).1 kc]
        refine g_aload_n dX9_isRule_54 rfl ?_
        refine g_iconst dX9_isRule_55 (by decide) ?_
        refine g_bipush dX9_isRule_56 (by decide) (by decide) ?_
        refine g_callV_i [_, _] dX9_isRule_58 mlX9_114 mvX9_number (by decide) hM.o (by decide) rfl rfl (Nat.le_of_ble_eq_true rfl) rfl (Nat.le_of_ble_eq_true rfl) (m_numberA (tx := tx) (n := n) (p := kq + 1) hM 1 99 x5 x7 (by omega) hn0) (fun _ _ _ _ q => q.elim fun x q => q.elim fun _ q => ⟨x, q.1⟩) (fun v g1 l1 s1 c u1 u2 => ?_)
        obtain ⟨v1, vq, c1, rfl, rfl, rfl, vb, vh⟩ := c
        cases c1
        refine g_goto 65 dX9_isRule_61 (by decide) ?_
        rw [← hG]
        rcases vh with vs | ⟨vs, rfl⟩
        · have v0 := (m_rn_num.mp vs).2.1
          dsimp only at v0
          exact l_rl65 hM hR (by omega) k v _ (Or.inl ⟨by omega, by simp [m_rul, ks, kc, vs], by omega⟩)
        · exact l_rl65 hM hR (by omega) k (-1) _ (Or.inr ⟨by decide, by simp [m_rul, ks, kc, vs]⟩)
  · skip
    refine ?_
    refine g_iconst dX9_isRule_8 (by decide) ?_
    refine g_zreturn dX9_isRule_9 rfl (by decide) ?_
    exact ⟨0, rfl, rfl, rfl, TF.rf.up (by omega), Or.inl ⟨rfl, Or.inl (by omega)⟩⟩

theorem t_item_g {tx : gRw} {n p : Int} {pl kn nu : gRw} (h : t_at tx n p = 103) : t_item tx n p pl kn nu = (m_gate tx n (p + 1)).bind fun c => if t_at tx n c.2.2.2.2.2 = 59 then some (c.2.2.2.2.2 + 1, r_up (r_up (r_up (r_up (r_up pl 3 c.1) 4 c.2.1) 5 c.2.2.1) 6 c.2.2.2.1) 7 c.2.2.2.2.1, kn, nu) else none := by
  unfold t_item
  rw [if_pos h]
  simp only [t_num_m]
  unfold m_gate m_rn
  cases m_num tx n (p + 1) with
  | none => rfl
  | some w =>
    simp only [Option.bind_some]
    by_cases hw : t_at tx n w.2 = 44
    · simp only [hw, if_true, Option.bind_some]
      cases hv9 : m_num tx n (w.2 + 1) with
      | none => by_cases hr : 4 ≤ w.1 ∧ w.1 ≤ 16 <;> simp [hr, hw, hv9]
      | some v =>
        simp only [Option.bind_some]
        by_cases hv : t_at tx n v.2 = 44
        · simp only [hv, if_true, Option.bind_some]
          cases hf9 : m_num tx n (v.2 + 1) with
          | none => by_cases hr : 4 ≤ w.1 ∧ w.1 ≤ 16 <;> by_cases hr2 : 1 ≤ v.1 ∧ v.1 ≤ w.1 <;> by_cases hr3 : w.1 % v.1 = 0 <;> simp [hr, hw, hv9, hr2, hr3, hv, hf9]
          | some f =>
            simp only [Option.bind_some]
            by_cases hf : t_at tx n f.2 = 44
            · simp only [hf, if_true, Option.bind_some]
              cases ha9 : m_num tx n (f.2 + 1) with
              | none => by_cases hr : 4 ≤ w.1 ∧ w.1 ≤ 16 <;> by_cases hr2 : 1 ≤ v.1 ∧ v.1 ≤ w.1 <;> by_cases hr3 : w.1 % v.1 = 0 <;> by_cases hr4 : 0 ≤ f.1 ∧ f.1 ≤ 20 <;> simp [hr, hw, hv9, hr2, hr3, hv, hf9, hr4, hf, ha9]
              | some a =>
                simp only [Option.bind_some]
                by_cases ha : t_at tx n a.2 = 44
                · simp only [ha, if_true, Option.bind_some]
                  cases hb9 : m_num tx n (a.2 + 1) with
                  | none => by_cases hr : 4 ≤ w.1 ∧ w.1 ≤ 16 <;> by_cases hr2 : 1 ≤ v.1 ∧ v.1 ≤ w.1 <;> by_cases hr3 : w.1 % v.1 = 0 <;> by_cases hr4 : 0 ≤ f.1 ∧ f.1 ≤ 20 <;> by_cases hr5 : 0 ≤ a.1 ∧ a.1 ≤ 5 <;> simp [hr, hw, hv9, hr2, hr3, hv, hf9, hr4, hf, ha9, hr5, ha, hb9]
                  | some b =>
                    simp only [Option.bind_some]
                    have key : ((4 ≤ w.1 ∧ w.1 ≤ 16) ∧ (1 ≤ v.1 ∧ w.1 % v.1 = 0) ∧ (0 ≤ f.1 ∧ f.1 ≤ 20) ∧ (0 ≤ a.1 ∧ a.1 ≤ 5) ∧ 0 ≤ b.1 ∧ b.1 ≤ 5) ↔ ((4 ≤ w.1 ∧ w.1 ≤ 16) ∧ (1 ≤ v.1 ∧ v.1 ≤ w.1) ∧ w.1 % v.1 = 0 ∧ (0 ≤ f.1 ∧ f.1 ≤ 20) ∧ (0 ≤ a.1 ∧ a.1 ≤ 5) ∧ 0 ≤ b.1 ∧ b.1 ≤ 5) := by
                      constructor
                      · intro ⟨k1, k2, k3, k4, k5⟩
                        refine ⟨k1, ⟨k2.1, ?_⟩, k2.2, k3, k4, k5⟩
                        refine Classical.byContradiction (fun hn => ?_)
                        have := Int.emod_eq_of_lt (a := w.1) (b := v.1) (by omega) (by omega)
                        omega
                      · intro ⟨k1, k2, k3, k4, k5, k6⟩
                        exact ⟨k1, ⟨k2.1, k3⟩, k4, k5, k6⟩
                    by_cases hall : (4 ≤ w.1 ∧ w.1 ≤ 16) ∧ (1 ≤ v.1 ∧ v.1 ≤ w.1) ∧ w.1 % v.1 = 0 ∧ (0 ≤ f.1 ∧ f.1 ≤ 20) ∧ (0 ≤ a.1 ∧ a.1 ≤ 5) ∧ 0 ≤ b.1 ∧ b.1 ≤ 5
                    · obtain ⟨k1, k2, k3, k4, k5, k6⟩ := id hall
                      by_cases hb : t_at tx n b.2 = 59
                      · simp only [hb, if_true, Option.bind_some]
                        rw [if_pos (key.mpr hall)]
                        simp [k1, k2, k3, k4, k5, k6, hw, hv9, hv, hf9, hf, ha9, ha, hb9, hb]
                      · simp [k1, k2, k3, k4, k5, k6, hw, hv9, hv, hf9, hf, ha9, ha, hb9, hb]
                    · have hl : ((if t_at tx n b.2 = 59 then some (b.1, b.2 + 1) else none).bind fun a5 => if (4 ≤ w.1 ∧ w.1 ≤ 16) ∧ (1 ≤ v.1 ∧ w.1 % v.1 = 0) ∧ (0 ≤ f.1 ∧ f.1 ≤ 20) ∧ (0 ≤ a.1 ∧ a.1 ≤ 5) ∧ 0 ≤ a5.1 ∧ a5.1 ≤ 5 then some (a5.2, r_up (r_up (r_up (r_up (r_up pl 3 w.1) 4 v.1) 5 f.1) 6 a.1) 7 a5.1, kn, nu) else none) = none := by
                        by_cases hb : t_at tx n b.2 = 59
                        · simp only [hb, if_true, Option.bind_some]
                          rw [if_neg (fun c => hall (key.mp c))]
                        · simp [hb]
                      rw [hl]
                      by_cases hr : 4 ≤ w.1 ∧ w.1 ≤ 16
                      · by_cases hr2 : 1 ≤ v.1 ∧ v.1 ≤ w.1
                        · by_cases hr3 : w.1 % v.1 = 0
                          · by_cases hr4 : 0 ≤ f.1 ∧ f.1 ≤ 20
                            · by_cases hr5 : 0 ≤ a.1 ∧ a.1 ≤ 5
                              · have hr6 : ¬ (0 ≤ b.1 ∧ b.1 ≤ 5) := fun c => hall ⟨hr, hr2, hr3, hr4, hr5, c⟩
                                simp [hr, hw, hv9, hr2, hr3, hv, hf9, hr4, hf, ha9, hr5, ha, hb9, hr6]
                              · simp [hr, hw, hv9, hr2, hr3, hv, hf9, hr4, hf, ha9, hr5]
                            · simp [hr, hw, hv9, hr2, hr3, hv, hf9, hr4]
                          · simp [hr, hw, hv9, hr2, hr3]
                        · simp [hr, hw, hv9, hr2]
                      · simp [hr]
                · by_cases hr : 4 ≤ w.1 ∧ w.1 ≤ 16 <;> by_cases hr2 : 1 ≤ v.1 ∧ v.1 ≤ w.1 <;> by_cases hr3 : w.1 % v.1 = 0 <;> by_cases hr4 : 0 ≤ f.1 ∧ f.1 ≤ 20 <;> by_cases hr5 : 0 ≤ a.1 ∧ a.1 ≤ 5 <;> simp [hr, hw, hv9, hr2, hr3, hv, hf9, hr4, hf, ha9, hr5, ha]
            · by_cases hr : 4 ≤ w.1 ∧ w.1 ≤ 16 <;> by_cases hr2 : 1 ≤ v.1 ∧ v.1 ≤ w.1 <;> by_cases hr3 : w.1 % v.1 = 0 <;> by_cases hr4 : 0 ≤ f.1 ∧ f.1 ≤ 20 <;> simp [hr, hw, hv9, hr2, hr3, hv, hf9, hr4, hf]
        · by_cases hr : 4 ≤ w.1 ∧ w.1 ≤ 16 <;> by_cases hr2 : 1 ≤ v.1 ∧ v.1 ≤ w.1 <;> by_cases hr3 : w.1 % v.1 = 0 <;> simp [hr, hw, hv9, hr2, hr3, hv]
    · by_cases hr : 4 ≤ w.1 ∧ w.1 ≤ 16 <;> simp [hr, hw]
theorem t_item_r {tx : gRw} {n p : Int} {pl kn nu : gRw} (h : t_at tx n p = 114) (h2 : pl 2 ≤ 4) : t_item tx n p pl kn nu = if pl 2 = 4 then none else (m_rul tx n (p + 1)).bind fun c => if t_at tx n c.2.2 = 59 then some (c.2.2 + 1, r_up pl 2 (pl 2 + 1), r_up kn (pl 2) c.1, r_up nu (pl 2) c.2.1) else none := by
  unfold t_item
  rw [if_neg (by omega), if_pos h]
  simp only [t_num_m]
  unfold m_rul m_rn
  cases m_num tx n (p + 1) with
  | none => simp
  | some w =>
    simp only [Option.bind_some]
    by_cases hw : t_at tx n w.2 = 44
    · simp only [hw, if_true, Option.bind_some]
      cases hv9 : m_num tx n (w.2 + 1) with
      | none => by_cases hr : 0 ≤ w.1 ∧ w.1 ≤ 3 <;> simp [hr, hw, hv9]
      | some v =>
        simp only [Option.bind_some]
        by_cases hv : t_at tx n v.2 = 59
        · simp only [hv, if_true, Option.bind_some]
          by_cases hr : 0 ≤ w.1 ∧ w.1 ≤ 3
          · by_cases hr2 : 1 ≤ v.1 ∧ v.1 ≤ 99
            · by_cases h4 : pl 2 = 4
              · rw [if_neg (by omega), if_pos h4]
              · rw [if_pos ⟨by omega, hr, hr2⟩, if_neg h4]
                simp [hr, hr2, hw, hv9, hv]
            · rw [if_neg (fun c => hr2 c.2.2)]
              simp [hr, hr2, hw, hv9]
          · rw [if_neg (fun c => hr c.2.1)]
            simp [hr]
        · by_cases hr : 0 ≤ w.1 ∧ w.1 ≤ 3 <;> by_cases hr2 : 1 ≤ v.1 ∧ v.1 ≤ 99 <;> simp [hr, hr2, hw, hv9, hv]
    · by_cases hr : 0 ≤ w.1 ∧ w.1 ≤ 3 <;> simp [hr, hw]
theorem t_item_d {tx : gRw} {n p : Int} {pl kn nu : gRw} (h : t_at tx n p = 100) : t_item tx n p pl kn nu = (m_rn tx n (p + 1) 1 9).bind fun c => if t_at tx n c.2 = 59 then some (c.2 + 1, r_up pl 8 c.1, kn, nu) else none := by
  unfold t_item
  rw [if_neg (by omega), if_neg (by omega), if_pos h, t_num_m]
  unfold m_rn
  cases m_num tx n (p + 1) with
  | none => rfl
  | some w => by_cases hr : 1 ≤ w.1 ∧ w.1 ≤ 9 <;> by_cases hw : t_at tx n w.2 = 59 <;> simp [hr, hw]
theorem t_item_q {tx : gRw} {n p : Int} {pl kn nu : gRw} (h : t_at tx n p = 113) : t_item tx n p pl kn nu = (m_rn tx n (p + 1) 0 9).bind fun c => if t_at tx n c.2 = 59 then some (c.2 + 1, r_up pl 9 c.1, kn, nu) else none := by
  unfold t_item
  rw [if_neg (by omega), if_neg (by omega), if_neg (by omega), if_pos h, t_num_m]
  unfold m_rn
  cases m_num tx n (p + 1) with
  | none => rfl
  | some w => by_cases hr : 0 ≤ w.1 ∧ w.1 ≤ 9 <;> by_cases hw : t_at tx n w.2 = 59 <;> simp [hr, hw]
theorem t_item_x {tx : gRw} {n p : Int} {pl kn nu : gRw} (h1 : t_at tx n p ≠ 103) (h2 : t_at tx n p ≠ 114) (h3 : t_at tx n p ≠ 100) (h4 : t_at tx n p ≠ 113) : t_item tx n p pl kn nu = none := by
  unfold t_item
  rw [if_neg h1, if_neg h2, if_neg h3, if_neg h4]
end MD3
