/-! what another number would be worth -/
theorem v_all_rule {er : Int → gRw} {pl kn nu nu' bb0 : gRw} {V0 : vV} : ∀ n : Nat, (∀ b : Int, 0 ≤ b → b < n → v_rule pl kn nu (er b) = v_rule pl kn nu' (er b)) → v_all er pl kn nu bb0 V0 n = v_all er pl kn nu' bb0 V0 n := by
  intro n
  induction n with
  | zero => intro _; rfl
  | succ n ih => intro h; simp only [v_all]; rw [ih (fun b b0 b1 => h b b0 (by omega)), h n (by omega) (by omega)]
theorem v_wsum_congr {bw bw' : gRw} {er : Int → gRw} : ∀ n : Nat, (∀ b : Int, 0 ≤ b → b < n → bw b = bw' b) → v_wsum bw er n = v_wsum bw' er n := by
  intro n
  induction n with
  | zero => intro _; rfl
  | succ n ih => intro h; simp only [v_wsum]; rw [ih (fun b b0 b1 => h b b0 (by omega)), h n (by omega) (by omega)]
theorem v_wsum_er {bw : gRw} {er er' : Int → gRw} : ∀ n : Nat, (∀ b : Int, 0 ≤ b → b < n → er b = er' b) → v_wsum bw er n = v_wsum bw er' n := by
  intro n
  induction n with
  | zero => intro _; rfl
  | succ n ih => intro h; simp only [v_wsum]; rw [ih (fun b b0 b1 => h b b0 (by omega)), h n (by omega) (by omega)]
/-- the worth by these numbers -/
noncomputable def wv (er : Int → gRw) (pl kn nu : gRw) (n : Nat) : Int := v_wsum (jb er pl kn nu n) er n
theorem wv_rule {er : Int → gRw} {pl kn nu nu' : gRw} (n : Nat) (h : ∀ b : Int, 0 ≤ b → b < n → v_rule pl kn nu (er b) = v_rule pl kn nu' (er b)) : wv er pl kn nu n = wv er pl kn nu' n := by
  unfold wv jb jv
  rw [v_all_rule n h]
theorem wv_nu {er : Int → gRw} {pl kn nu nu' : gRw} (n : Nat) (hp : 0 ≤ pl 2) (h : ∀ k : Int, 0 ≤ k → k < pl 2 → nu k = nu' k) : wv er pl kn nu n = wv er pl kn nu' n :=
  wv_rule n (fun b _ _ => v_rl_congr _ _ (fun i i0 i1 => h i i0 (by omega)))
theorem v_rl_skip {kn nu r : gRw} {k x : Int} (h : bl_meas r (kn k) ≠ x - 1) : ∀ (n : Nat) (i : Int), v_rl kn (r_up nu k x) r n i = v_rl kn (r_up nu k (x - 1)) r n i := by
  intro n
  induction n with
  | zero => intro i; rfl
  | succ n ih =>
    intro i
    unfold v_rl
    rw [ih]
    by_cases hi : i = k
    · subst hi
      rw [r_up_at, r_up_at]
      by_cases hx : x ≤ bl_meas r (kn i)
      · rw [if_pos hx, if_pos (by omega)]
      · rw [if_neg hx, if_neg (by omega)]
    · rw [r_up_ne hi, r_up_ne hi]
/-- where none measures one less, a number is worth what the one ahead of it is -/
theorem wv_skip {er : Int → gRw} {pl kn nu : gRw} {k x : Int} (n : Nat) (h : ¬ ∃ b : Int, 0 ≤ b ∧ b < n ∧ bl_meas (er b) (kn k) = x - 1) : wv er pl kn (r_up nu k x) n = wv er pl kn (r_up nu k (x - 1)) n :=
  wv_rule n (fun b b0 b1 => v_rl_skip (fun e => h ⟨b, b0, b1, e⟩) _ _)
/-- the best of the numbers 1 to n + 1, the least of them where some are alike -/
noncomputable def bs (W : Int → Int) : Nat → Int × Int
  | 0 => (1, W 1)
  | n + 1 => if (bs W n).2 < W ((n : Int) + 2) then ((n : Int) + 2, W ((n : Int) + 2)) else bs W n
theorem bs_ge (W : Int → Int) (n : Nat) : W ((n : Int) + 1) ≤ (bs W n).2 := by
  cases n with
  | zero => exact Int.le_refl _
  | succ n =>
    unfold bs
    rw [show ((n + 1 : Nat) : Int) + 1 = (n : Int) + 2 by omega]
    split
    · exact Int.le_refl _
    · omega
section COMP9
variable {gi gl : gF} {sh : gSh} {la oa : Int}
set_option maxRecDepth 20000 in
set_option maxHeartbeats 1000000 in
theorem c_wbn (hs : isSV sh la oa) (hvp : v_pok (gi la)) (hT : 0 ≤ gi 4 2 ∧ gi 4 2 ≤ 60) (hcf : CF0 gi gl la oa) (k x : Int) (hk : 0 ≤ k ∧ k < 4) : Ct mdX8_worthByNumber 0 0 [vR 0, vI k, vI x] gi gl sh (fun r gi' gl' sh' => r = some (vI (wv (fvE gi) (gi la) (gi (la + 1)) (r_up (gi 183) k x) (gi 27 4).toNat)) ∧ gl' = gl ∧ sh' = sh ∧ (∀ b : Int, b < 131 ∨ 184 ≤ b → gi' b = gi b) ∧ gi' 183 = r_up (gi 183) k x) := by
  show Go mdX8_worthByNumber 0 0 0 [some (vR 0), some (vI k), some (vI x)] [] gi gl sh _
  obtain ⟨⟨k0, r0, r1, r2, r3, r4, r5, r6, r7, r8, hla⟩, hTx, hSt, hHi, hFo, hV1, hV2, ⟨k183, l183⟩, hP1, hP2⟩ := id hs
  have ho := hFo.2.2.2.2.2.1
  refine g_iload_n dX8_worthByNumber_0 rfl ?_
  refine g_if_lt 9 dX8_worthByNumber_1 (by decide) (fun h1 => ?_) (fun h1 => ?_)
  · exfalso; omega
  · skip
    refine g_iload_n dX8_worthByNumber_4 rfl ?_
    refine g_iconst dX8_worthByNumber_5 (by decide) ?_
    refine g_icmp_lt 11 dX8_worthByNumber_6 (by decide) (fun h6 => ?_) (fun h6 => ?_)
    · skip
      refine g_aload_n dX8_worthByNumber_11 rfl ?_
      refine g_getR 6 dX8_worthByNumber_12 flX8_47 rfl (by assumption) (by assumption) ?_
      refine g_iload_n dX8_worthByNumber_15 rfl ?_
      refine g_iload_n dX8_worthByNumber_16 rfl ?_
      refine g_iastore dX8_worthByNumber_17 (by assumption) (by omega) (by omega) ?_
      generalize hG : g_up gi 183 k x = G
      have eG : ∀ b : Int, b ≠ 183 → G b = gi b := fun b hb => by rw [← hG]; funext i; unfold g_up; rw [if_neg (fun w => hb w.1)]
      have e183 : G 183 = r_up (gi 183) k x := by rw [← hG, g_up_r]
      have hf2 : CF0 G gl la oa := hcf.fr ho (fun b b0 b1 => eG b (by omega)) (by rw [eG 4 (by omega)]) (eG la (by omega))
      have eE : fvE G = fvE G := rfl
      refine g_aload_n dX8_worthByNumber_18 rfl ?_
      refine g_getR 5 dX8_worthByNumber_19 flX8_44 rfl (by assumption) (by assumption) ?_
      refine g_aload_n dX8_worthByNumber_22 rfl ?_
      refine g_getR 7 dX8_worthByNumber_23 flX8_54 rfl (by assumption) (by assumption) ?_
      refine g_aload_n dX8_worthByNumber_26 rfl ?_
      refine g_getR 6 dX8_worthByNumber_27 flX8_47 rfl (by assumption) (by assumption) ?_
      refine g_aload_n dX8_worthByNumber_30 rfl ?_
      refine g_getR 3 dX8_worthByNumber_31 flX8_33 rfl (by assumption) (by assumption) ?_
      refine g_callV_v [_, _, _] dX8_worthByNumber_34 mlX8_247 mvX7_judgeAll (by decide) (by exact hV2.1) (by decide) rfl rfl (Nat.le_of_ble_eq_true rfl) rfl (Nat.le_of_ble_eq_true rfl) (c_judgeQ (gl := gl) hV2 hFo hs.pl.1 (by omega) (by omega) 183 k183 l183 (by omega) (by omega) (G 27 4) rfl hf2.2.2.2 (by rw [eG la (by omega)]; exact hvp) (hf2.bok (clo_b _ _) (by rw [eG 4 (by omega)]; exact hT) _)) (fun _ _ _ _ q => q.1) (fun g1 l1 s1 q w1 w2 => ?_)
      obtain ⟨-, q2, q3, q4, q5⟩ := q
      subst q2 q3
      have hf3 : CF0 g1 l1 la oa := hf2.fr ho (fun b b0 b1 => q4 b (by omega)) (by rw [q4 4 (by omega)]) (q4 la (by omega))
      have hT3 : 0 ≤ g1 4 2 ∧ g1 4 2 ≤ 60 := by rw [q4 4 (by omega), eG 4 (by omega)]; exact hT
      refine g_aload_n dX8_worthByNumber_37 rfl ?_
      refine g_getR 5 dX8_worthByNumber_38 flX8_44 rfl (by assumption) (by assumption) ?_
      refine g_aload_n dX8_worthByNumber_41 rfl ?_
      refine g_getR 3 dX8_worthByNumber_42 flX8_33 rfl (by assumption) (by assumption) ?_
      refine g_cVi [_] dX8_worthByNumber_45 mlX8_202 mvX7_worth (by decide) (by exact hV2.1) (by decide) rfl rfl (Nat.le_of_ble_eq_true rfl) rfl (Nat.le_of_ble_eq_true rfl) (c_worthV hV2 hFo (g1 27 4) rfl hf3.2.2.2 (fun b b0 b1 => (hf3.bok (clo_b _ _) hT3 (gi la) b b0 b1).1)) ?_
      refine g_ireturn dX8_worthByNumber_48 rfl ?_
      have hec := hf3.2.2.2
      have e27 : g1 27 = gi 27 := by rw [q4 27 (by omega)]; exact eG 27 (by omega)
      have eEr : ∀ b : Int, 0 ≤ b → b < 31 → g1 (32 + b) = gi (32 + b) := fun b b0 b1 => by rw [q4 _ (by omega)]; exact eG _ (by omega)
      refine ⟨?_, rfl, rfl, fun b hb => by rw [q4 b (by omega)]; exact eG b (by omega), by rw [q4 183 (by omega)]; exact e183⟩
      have q6 := q5.er (er' := fvE gi) (fun i i0 i1 => (eG (32 + i) (by omega)).symm) (by rw [← q4 27 (by omega)]; exact hec.2)
      rw [eG la (by omega), eG (la + 1) (by omega), e183, eG 27 (by omega)] at q6
      rw [e27] at hec ⊢
      unfold wv
      rw [v_wsum_er (er' := fvE gi) _ (fun b b0 b1 => eEr b b0 (by omega)), v_wsum_congr (bw' := jb (fvE gi) (gi la) (gi (la + 1)) (r_up (gi 183) k x) (gi 27 4).toNat) _ (fun b b0 b1 => (q6.1 b b0 (by omega)).2)]
    · exfalso; omega

end COMP9
