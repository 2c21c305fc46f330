/-! the model changed -/
section MD15
variable {gi gl : gF} {sh : gSh} {pl kn nu nm ln tx : gRw} {er er' : Int → gRw} {ec ec' T h n W : Int} {S S' : fS} {Q : gQ}

set_option maxRecDepth 20000 in
set_option maxHeartbeats 1000000 in
theorem m_write (hM : isMd sh) (x : Int) (hn : gi 190 7 = n) (hn0 : 0 ≤ n ∧ n ≤ 200) : Ct mdX9_write 0 0 [vR 190, vI x] gi gl sh (fun r gi' gl' sh' => gl' = gl ∧ sh' = sh ∧ ((x < 32 ∨ 126 < x) ∧ r = some (vI (-1)) ∧ gi' = gi ∨ (32 ≤ x ∧ x ≤ 126) ∧ 200 ≤ n ∧ r = some (vI (-3)) ∧ gi' = gi ∨ (32 ≤ x ∧ x ≤ 126) ∧ n < 200 ∧ r = some (vI (n + 1)) ∧ gi' = g_up (g_up gi 195 n x) 190 7 (n + 1))) := by
  show Go mdX9_write 0 0 0 [some (vR 190), some (vI x)] [] gi gl sh _
  subst hn
  refine g_iload_n dX9_write_0 rfl ?_
  refine g_i2l dX9_write_1 ?_
  refine g_ldc2 (n := 32) dX9_write_2 cnX9_134 (by decide) ?_
  refine g_ldc2 (n := 126) dX9_write_5 cnX9_136 (by decide) ?_
  refine g_cSi [_, _, _] dX9_write_8 mlX9_106 msX9_within (by decide) rfl rfl (Nat.le_of_ble_eq_true rfl) rfl (Nat.le_of_ble_eq_true rfl) (m_within _ _ _ _ (zb_q _)) ?_
  refine g_if_ne 16 dX9_write_11 (by decide) (fun h11 => ?_) (fun h11 => ?_)
  · skip
    have c1 := (zb_q _).yes h11
    refine g_aload_n dX9_write_16 rfl ?_
    refine g_getI 7 dX9_write_17 flX9_99 rfl hM.o ?_
    refine g_sipush dX9_write_20 (by decide) (by decide) ?_
    refine g_icmp_ne 29 dX9_write_23 (by decide) (fun h23 => ?_) (fun h23 => ?_)
    · skip
      refine g_aload_n dX9_write_29 rfl ?_
      refine g_getR 6 dX9_write_30 flX9_23 rfl hM.o hM.r6 ?_
      refine g_aload_n dX9_write_33 rfl ?_
      refine g_getI 7 dX9_write_34 flX9_99 rfl hM.o ?_
      refine g_iload_n dX9_write_37 rfl ?_
      refine g_iastore dX9_write_38 hM.k195 (by omega) (hM.b195 (by omega)) ?_
      refine g_aload_n dX9_write_39 rfl ?_
      refine g_dup dX9_write_40 (fun _ h9 => by cases h9) ?_
      refine g_getI 7 dX9_write_41 flX9_99 rfl hM.o ?_
      simp only [g_up_row, g_up_r, r_up_at, r_up_ne, ne_eq, Int.reduceEq, not_false_eq_true]
      refine g_iconst dX9_write_44 (by decide) ?_
      refine g_iadd dX9_write_45 (by omega) (by omega) ?_
      refine g_putI 7 dX9_write_46 flX9_99 rfl hM.o ?_
      refine g_aload_n dX9_write_49 rfl ?_
      refine g_getI 7 dX9_write_50 flX9_99 rfl hM.o ?_
      rw [g_up_at]
      refine g_ireturn dX9_write_53 rfl ?_
      exact ⟨rfl, rfl, Or.inr (Or.inr ⟨by omega, by omega, rfl, rfl⟩)⟩
    · skip
      refine g_bipush dX9_write_26 (by decide) (by decide) ?_
      refine g_ireturn dX9_write_28 rfl ?_
      exact ⟨rfl, rfl, Or.inr (Or.inl ⟨by omega, by omega, rfl, rfl⟩)⟩
  · skip
    have c1 := zb_nn h11
    refine g_iconst dX9_write_14 (by decide) ?_
    refine g_ireturn dX9_write_15 rfl ?_
    exact ⟨rfl, rfl, Or.inl ⟨by omega, rfl, rfl⟩⟩

set_option maxRecDepth 20000 in
set_option maxHeartbeats 1000000 in
theorem m_wipe (hM : isMd sh) : Ct mdX9_wipe 0 0 [vR 190] gi gl sh (Rt (some (vI (gi 190 7))) (g_up gi 190 7 0) gl sh) := by
  show Go mdX9_wipe 0 0 0 [some (vR 190), none] [] gi gl sh _
  refine g_aload_n dX9_wipe_0 rfl ?_
  refine g_getI 7 dX9_wipe_1 flX9_99 rfl hM.o ?_
  refine n_istore_n (lN := [_, _]) dX9_wipe_4 (by decide) rfl ?_
  refine g_aload_n dX9_wipe_5 rfl ?_
  refine g_iconst dX9_wipe_6 (by decide) ?_
  refine g_putI 7 dX9_wipe_7 flX9_99 rfl hM.o ?_
  refine g_iload_n dX9_wipe_10 rfl ?_
  refine g_ireturn dX9_wipe_11 rfl ?_
  exact ⟨rfl, rfl, rfl, rfl⟩

set_option maxRecDepth 20000 in
theorem l_pow (hM : isMd sh) (hW : gi 191 0 = W) (hw : 0 ≤ W ∧ W ≤ 16) : ∀ (n : Nat) (k x : Int), 0 ≤ k → k ≤ W → W - k = n → x = 10 ^ k.toNat → Go mdX9_power 0 0 4 [some (vR 190), some (vL x), none, some (vI k)] [] gi gl sh (Rt (some (vL (10 ^ W.toNat))) gi gl sh) := by
  intro n
  induction n with
  | zero =>
    intro k x h0 h2 h1 hx
    refine g_iload_n dX9_power_4 rfl ?_
    refine g_aload_n dX9_power_5 rfl ?_
    refine g_getR 0 dX9_power_6 flX9_7 rfl hM.o hM.r0 ?_
    refine g_iconst dX9_power_9 (by decide) ?_
    refine g_iaload dX9_power_10 hM.k191 (by omega) (hM.b191 (by omega)) ?_
    refine g_icmp_ge 26 dX9_power_11 (by decide) (fun h11 => ?_) (fun h11 => ?_)
    · skip
      refine g_lload_n dX9_power_26 rfl ?_
      refine g_lreturn dX9_power_27 rfl ?_
      exact ⟨by rw [hx, show k.toNat = W.toNat by omega], rfl, rfl, rfl⟩
    · exfalso; omega
  | succ n ih =>
    intro k x h0 h2 h1 hx
    have hb := p10_b k.toNat (by omega)
    refine g_iload_n dX9_power_4 rfl ?_
    refine g_aload_n dX9_power_5 rfl ?_
    refine g_getR 0 dX9_power_6 flX9_7 rfl hM.o hM.r0 ?_
    refine g_iconst dX9_power_9 (by decide) ?_
    refine g_iaload dX9_power_10 hM.k191 (by omega) (hM.b191 (by omega)) ?_
    refine g_icmp_ge 26 dX9_power_11 (by decide) (fun h11 => ?_) (fun h11 => ?_)
    · exfalso; omega
    · skip
      refine g_lload_n dX9_power_14 rfl ?_
      refine g_ldc2 (n := 10) dX9_power_15 cnX9_145 (by decide) ?_
      refine g_lmul dX9_power_18 (by omega) (by omega) ?_
      refine n_lstore_n (lN := [_, _, _, _]) dX9_power_19 (by decide) rfl ?_
      refine n_iinc (lN := [_, _, _, _]) dX9_power_20 rfl (by decide) (by omega) (by omega) rfl ?_
      refine g_goto 4 dX9_power_23 (by decide) ?_
      exact ih (k + 1) (x * 10) (by omega) (by omega) (by omega) (by rw [hx, show (k + 1).toNat = k.toNat + 1 by omega, Int.pow_succ])
theorem m_power (hM : isMd sh) (hW : gi 191 0 = W) (hw : 0 ≤ W ∧ W ≤ 16) : Ct mdX9_power 0 0 [vR 190] gi gl sh (Rt (some (vL (10 ^ W.toNat))) gi gl sh) := by
  show Go mdX9_power 0 0 0 [some (vR 190), none, none, none] [] gi gl sh _
  refine g_lconst 1 dX9_power_0 (by decide) (by decide) ?_
  refine n_lstore_n (lN := [_, _, _, _]) dX9_power_1 (by decide) rfl ?_
  refine g_iconst dX9_power_2 (by decide) ?_
  refine n_istore_n (lN := [_, _, _, _]) dX9_power_3 (by decide) rfl ?_
  exact l_pow hM hW hw W.toNat 0 1 (by omega) (by omega) (by omega) rfl
/-- one row more is kept of the longs -/
def KL (gl gl' : gF) (h : Int) : Prop := (∀ b : Int, b ≠ 194 → gl' b = gl b) ∧ (∀ k : Int, 0 ≤ k → k < 65 → gl' 194 (65 * (min (h + 1) 6 - 1) + k) = gl 193 k) ∧ ∀ i : Int, 1 ≤ i → i ≤ h → i ≤ 5 → ∀ k : Int, 0 ≤ k → k < 65 → gl' 194 (65 * (min (h + 1) 6 - (i + 1)) + k) = gl 194 (65 * (h - i) + k)
set_option maxRecDepth 20000 in
set_option maxHeartbeats 1000000 in
theorem l_k2 (hM : isMd sh) (u : Int) (hu : gi 190 5 = u) (hu0 : 0 ≤ u ∧ u ≤ 5) (gl0 : gF) (hn : ∀ G : gF, (∀ b : Int, b ≠ 194 → G b = gl0 b) → (∀ k : Int, 0 ≤ k → k < 65 → G 194 (65 * u + k) = gl0 193 k) → (∀ q : Int, q < 65 * u ∨ 65 * u + 65 ≤ q → G 194 q = gl0 194 q) → Go mdX9_keeps 0 0 83 [some (vR 190), some (vI 65)] [] gi G sh Q) :
  ∀ (m : Nat) (k : Int), k + m = 65 → 0 ≤ k → ∀ G : gF, (∀ b : Int, b ≠ 194 → G b = gl0 b) → (∀ i : Int, 0 ≤ i → i < k → G 194 (65 * u + i) = gl0 193 i) → (∀ q : Int, q < 65 * u ∨ 65 * u + 65 ≤ q → G 194 q = gl0 194 q) → Go mdX9_keeps 0 0 51 [some (vR 190), some (vI k)] [] gi G sh Q := by
  intro m
  induction m with
  | zero =>
    intro k h1 h2 G a b c
    have hk : k = 65 := by omega
    subst hk
    refine g_iload_n dX9_keeps_51 rfl ?_
    refine g_bipush dX9_keeps_52 (by decide) (by decide) ?_
    refine g_icmp_ge 83 dX9_keeps_54 (by decide) (fun h54 => ?_) (fun h54 => ?_)
    · skip
      exact hn G a b c
    · exfalso; omega
  | succ m ih =>
    intro k h1 h2 G a b c
    refine g_iload_n dX9_keeps_51 rfl ?_
    refine g_bipush dX9_keeps_52 (by decide) (by decide) ?_
    refine g_icmp_ge 83 dX9_keeps_54 (by decide) (fun h54 => ?_) (fun h54 => ?_)
    · exfalso; omega
    · skip
      refine g_aload_n dX9_keeps_57 rfl ?_
      refine g_getR 4 dX9_keeps_58 flX9_20 rfl hM.o hM.r4 ?_
      refine g_bipush dX9_keeps_61 (by decide) (by decide) ?_
      refine g_aload_n dX9_keeps_63 rfl ?_
      refine g_getI 5 dX9_keeps_64 flX9_142 rfl hM.o ?_
      rw [hu]
      refine g_imul dX9_keeps_67 (by omega) (by omega) ?_
      refine g_iload_n dX9_keeps_68 rfl ?_
      refine g_iadd dX9_keeps_69 (by omega) (by omega) ?_
      refine g_aload_n dX9_keeps_70 rfl ?_
      refine g_getR 3 dX9_keeps_71 flX9_16 rfl hM.o hM.r3 ?_
      refine g_iload_n dX9_keeps_74 rfl ?_
      refine g_laload dX9_keeps_75 hM.k193 (by omega) (hM.b193 (by omega)) ?_
      refine g_lastore dX9_keeps_76 hM.k194 (by omega) (hM.b194 (by omega)) ?_
      refine n_iinc (lN := [_, some (vI (k + 1))]) dX9_keeps_77 rfl (by decide) (by omega) (by omega) rfl ?_
      refine g_goto 51 dX9_keeps_80 (by decide) ?_
      refine ih (k + 1) (by omega) (by omega) _ (fun b hb => by rw [g_up_row hb]; exact a b hb) (fun i i0 i1 => ?_) (fun q hq => ?_)
      · rw [g_up_r]
        by_cases e : i = k
        · rw [e, r_up_at, a 193 (by decide)]
        · rw [r_up_ne (by omega)]; exact b i i0 (by omega)
      · rw [g_up_r, r_up_ne (by omega)]; exact c q hq
set_option maxRecDepth 20000 in
set_option maxHeartbeats 1000000 in
theorem l_k1 (hM : isMd sh) (gl0 : gF) (hn : ∀ G : gF, (∀ b : Int, b ≠ 194 → G b = gl0 b) → (∀ q : Int, 0 ≤ q → q < 325 → G 194 q = gl0 194 (q + 65)) → Go mdX9_keeps 0 0 39 [some (vR 190), some (vI 325)] [] gi G sh Q) :
  ∀ (m : Nat) (k : Int), k + m = 325 → 0 ≤ k → ∀ G : gF, (∀ b : Int, b ≠ 194 → G b = gl0 b) → (∀ q : Int, 0 ≤ q → q < k → G 194 q = gl0 194 (q + 65)) → (∀ q : Int, k ≤ q → G 194 q = gl0 194 q) → Go mdX9_keeps 0 0 11 [some (vR 190), some (vI k)] [] gi G sh Q := by
  intro m
  induction m with
  | zero =>
    intro k h1 h2 G a b c
    have hk : k = 325 := by omega
    subst hk
    refine g_iload_n dX9_keeps_11 rfl ?_
    refine g_sipush dX9_keeps_12 (by decide) (by decide) ?_
    refine g_icmp_ge 39 dX9_keeps_15 (by decide) (fun h15 => ?_) (fun h15 => ?_)
    · skip
      exact hn G a b
    · exfalso; omega
  | succ m ih =>
    intro k h1 h2 G a b c
    refine g_iload_n dX9_keeps_11 rfl ?_
    refine g_sipush dX9_keeps_12 (by decide) (by decide) ?_
    refine g_icmp_ge 39 dX9_keeps_15 (by decide) (fun h15 => ?_) (fun h15 => ?_)
    · exfalso; omega
    · skip
      refine g_aload_n dX9_keeps_18 rfl ?_
      refine g_getR 4 dX9_keeps_19 flX9_20 rfl hM.o hM.r4 ?_
      refine g_iload_n dX9_keeps_22 rfl ?_
      refine g_aload_n dX9_keeps_23 rfl ?_
      refine g_getR 4 dX9_keeps_24 flX9_20 rfl hM.o hM.r4 ?_
      refine g_iload_n dX9_keeps_27 rfl ?_
      refine g_bipush dX9_keeps_28 (by decide) (by decide) ?_
      refine g_iadd dX9_keeps_30 (by omega) (by omega) ?_
      refine g_laload dX9_keeps_31 hM.k194 (by omega) (hM.b194 (by omega)) ?_
      refine g_lastore dX9_keeps_32 hM.k194 (by omega) (hM.b194 (by omega)) ?_
      refine n_iinc (lN := [_, some (vI (k + 1))]) dX9_keeps_33 rfl (by decide) (by omega) (by omega) rfl ?_
      refine g_goto 11 dX9_keeps_36 (by decide) ?_
      refine ih (k + 1) (by omega) (by omega) _ (fun b hb => by rw [g_up_row hb]; exact a b hb) (fun q q0 q1 => ?_) (fun q hq => ?_)
      · rw [g_up_r]
        by_cases e : q = k
        · rw [e, r_up_at, c (k + 65) (by omega)]
        · rw [r_up_ne e]; exact b q q0 (by omega)
      · rw [g_up_r, r_up_ne (by omega)]; exact c q (by omega)
set_option maxRecDepth 20000 in
set_option maxHeartbeats 1000000 in
theorem m_keeps (hM : isMd sh) (hh : gi 190 5 = h) (hh0 : 0 ≤ h ∧ h ≤ 6) : Ct mdX9_keeps 0 0 [vR 190] gi gl sh (fun r gi' gl' sh' => r = none ∧ sh' = sh ∧ (∀ b : Int, b ≠ 190 → gi' b = gi b) ∧ (∀ k : Int, k ≠ 5 → gi' 190 k = gi 190 k) ∧ gi' 190 5 = min (h + 1) 6 ∧ KL gl gl' h) := by
  show Go mdX9_keeps 0 0 0 [some (vR 190), none] [] gi gl sh _
  refine g_aload_n dX9_keeps_0 rfl ?_
  refine g_getI 5 dX9_keeps_1 flX9_142 rfl hM.o ?_
  refine g_bipush dX9_keeps_4 (by decide) (by decide) ?_
  refine g_icmp_ne 49 dX9_keeps_6 (by decide) (fun h6 => ?_) (fun h6 => ?_)
  · skip
    refine g_iconst dX9_keeps_49 (by decide) ?_
    refine n_istore_n (lN := [_, _]) dX9_keeps_50 (by decide) rfl ?_
    refine l_k2 hM h hh (by omega) gl (fun G2 a2 b2 c2 => ?_) 65 0 (by omega) (Int.le_refl _) gl (fun _ _ => rfl) (fun i i0 i1 => by omega) (fun _ _ => rfl)
    refine g_aload_n dX9_keeps_83 rfl ?_
    refine g_dup dX9_keeps_84 (fun _ h9 => by cases h9) ?_
    refine g_getI 5 dX9_keeps_85 flX9_142 rfl hM.o ?_
    rw [hh]
    refine g_iconst dX9_keeps_88 (by decide) ?_
    refine g_iadd dX9_keeps_89 (by omega) (by omega) ?_
    refine g_putI 5 dX9_keeps_90 flX9_142 rfl hM.o ?_
    refine g_return dX9_keeps_93 rfl ?_
    have hm : min (h + 1) 6 = h + 1 := by omega
    refine ⟨rfl, rfl, fun b hb => g_up_row hb, fun k hk => g_up_ne hk, by rw [g_up_at, hm], a2, fun k k0 k1 => ?_, fun i i0 i1 i2 k k0 k1 => ?_⟩
    · rw [hm, show 65 * (h + 1 - 1) + k = 65 * h + k by omega]; exact b2 k k0 k1
    · rw [hm, show 65 * (h + 1 - (i + 1)) + k = 65 * (h - i) + k by omega]; exact c2 _ (by omega)
  · skip
    refine g_iconst dX9_keeps_9 (by decide) ?_
    refine n_istore_n (lN := [_, _]) dX9_keeps_10 (by decide) rfl ?_
    have h6 : h = 6 := by omega
    subst h6
    refine l_k1 hM gl (fun G a b => ?_) 325 0 (by omega) (Int.le_refl _) gl (fun _ _ => rfl) (fun q q0 q1 => by omega) (fun _ _ => rfl)
    refine g_aload_n dX9_keeps_39 rfl ?_
    refine g_dup dX9_keeps_40 (fun _ h9 => by cases h9) ?_
    refine g_getI 5 dX9_keeps_41 flX9_142 rfl hM.o ?_
    refine g_iconst dX9_keeps_44 (by decide) ?_
    rw [hh]
    refine g_isub dX9_keeps_45 (by omega) (by omega) ?_
    refine g_putI 5 dX9_keeps_46 flX9_142 rfl hM.o ?_
    refine g_iconst dX9_keeps_49 (by decide) ?_
    refine n_istore_n (lN := [_, _]) dX9_keeps_50 (by decide) rfl ?_
    have e5 : g_up gi 190 5 (6 - 1) 190 5 = 5 := by rw [g_up_at]; decide
    have eo : ∀ b : Int, b ≠ 190 → g_up gi 190 5 (6 - 1) b = gi b := fun b hb => g_up_row hb
    have ek : ∀ k : Int, k ≠ 5 → g_up gi 190 5 (6 - 1) 190 k = gi 190 k := fun k hk => g_up_ne hk
    generalize g_up gi 190 5 (6 - 1) = g1 at e5 eo ek ⊢
    refine l_k2 hM 5 e5 (by omega) G (fun G2 a2 b2 c2 => ?_) 65 0 (by omega) (Int.le_refl _) G (fun _ _ => rfl) (fun i i0 i1 => by omega) (fun _ _ => rfl)
    refine g_aload_n dX9_keeps_83 rfl ?_
    refine g_dup dX9_keeps_84 (fun _ h9 => by cases h9) ?_
    refine g_getI 5 dX9_keeps_85 flX9_142 rfl hM.o ?_
    rw [e5]
    refine g_iconst dX9_keeps_88 (by decide) ?_
    refine g_iadd dX9_keeps_89 (by omega) (by omega) ?_
    refine g_putI 5 dX9_keeps_90 flX9_142 rfl hM.o ?_
    refine g_return dX9_keeps_93 rfl ?_
    refine ⟨rfl, rfl, fun b hb => by rw [g_up_row hb]; exact eo b hb, fun k hk => by rw [g_up_ne hk]; exact ek k hk, by rw [g_up_at]; decide, fun b hb => by rw [a2 b hb, a b hb], fun k k0 k1 => ?_, fun i i0 i1 i2 k k0 k1 => ?_⟩
    · rw [show 65 * (min (6 + 1) 6 - 1) + k = 65 * 5 + k by omega, b2 k k0 k1, a 193 (by decide)]
    · rw [show 65 * (min (6 + 1) 6 - (i + 1)) + k = 65 * (5 - i) + k by omega, c2 _ (by omega), b _ (by omega) (by omega), show 65 * (5 - i) + k + 65 = 65 * (6 - i) + k by omega]

set_option maxRecDepth 20000 in
set_option maxHeartbeats 1000000 in
theorem l_un (hM : isMd sh) (u : Int) (hu : gi 190 5 = u) (hu0 : 0 ≤ u ∧ u ≤ 5) (gl0 : gF) : ∀ (m : Nat) (k : Int), k + m = 65 → 0 ≤ k → ∀ G : gF, (∀ b : Int, b ≠ 193 → G b = gl0 b) → (∀ i : Int, 0 ≤ i → i < k → G 193 i = gl0 194 (65 * u + i)) → Go mdX9_undo 0 0 22 [some (vR 190), some (vI k)] [] gi G sh (fun r gi' gl' sh' => r = some (vI u) ∧ gi' = gi ∧ sh' = sh ∧ (∀ b : Int, b ≠ 193 → gl' b = gl0 b) ∧ ∀ i : Int, 0 ≤ i → i < 65 → gl' 193 i = gl0 194 (65 * u + i)) := by
  intro m
  induction m with
  | zero =>
    intro k h1 h2 G a b
    have hk : k = 65 := by omega
    subst hk
    refine g_iload_n dX9_undo_22 rfl ?_
    refine g_bipush dX9_undo_23 (by decide) (by decide) ?_
    refine g_icmp_ge 54 dX9_undo_25 (by decide) (fun h25 => ?_) (fun h25 => ?_)
    · skip
      refine g_aload_n dX9_undo_54 rfl ?_
      refine g_getI 5 dX9_undo_55 flX9_142 rfl hM.o ?_
      refine g_ireturn dX9_undo_58 rfl ?_
      exact ⟨by rw [hu], rfl, rfl, a, b⟩
    · exfalso; omega
  | succ m ih =>
    intro k h1 h2 G a b
    refine g_iload_n dX9_undo_22 rfl ?_
    refine g_bipush dX9_undo_23 (by decide) (by decide) ?_
    refine g_icmp_ge 54 dX9_undo_25 (by decide) (fun h25 => ?_) (fun h25 => ?_)
    · exfalso; omega
    · skip
      refine g_aload_n dX9_undo_28 rfl ?_
      refine g_getR 3 dX9_undo_29 flX9_16 rfl hM.o hM.r3 ?_
      refine g_iload_n dX9_undo_32 rfl ?_
      refine g_aload_n dX9_undo_33 rfl ?_
      refine g_getR 4 dX9_undo_34 flX9_20 rfl hM.o hM.r4 ?_
      refine g_bipush dX9_undo_37 (by decide) (by decide) ?_
      refine g_aload_n dX9_undo_39 rfl ?_
      refine g_getI 5 dX9_undo_40 flX9_142 rfl hM.o ?_
      rw [hu]
      refine g_imul dX9_undo_43 (by omega) (by omega) ?_
      refine g_iload_n dX9_undo_44 rfl ?_
      refine g_iadd dX9_undo_45 (by omega) (by omega) ?_
      refine g_laload dX9_undo_46 hM.k194 (by omega) (hM.b194 (by omega)) ?_
      refine g_lastore dX9_undo_47 hM.k193 (by omega) (hM.b193 (by omega)) ?_
      refine n_iinc (lN := [_, some (vI (k + 1))]) dX9_undo_48 rfl (by decide) (by omega) (by omega) rfl ?_
      refine g_goto 22 dX9_undo_51 (by decide) ?_
      refine ih (k + 1) (by omega) (by omega) _ (fun b hb => by rw [g_up_row hb]; exact a b hb) (fun i i0 i1 => ?_)
      rw [g_up_r]
      by_cases e : i = k
      · rw [e, r_up_at, a 194 (by decide)]
      · rw [r_up_ne e]; exact b i i0 (by omega)
set_option maxRecDepth 20000 in
set_option maxHeartbeats 1000000 in
theorem m_undo (hM : isMd sh) (hh : gi 190 5 = h) (hh0 : 0 ≤ h ∧ h ≤ 6) : Ct mdX9_undo 0 0 [vR 190] gi gl sh (fun r gi' gl' sh' => sh' = sh ∧ (h = 0 ∧ r = some (vI (-2)) ∧ gi' = gi ∧ gl' = gl ∨ h ≠ 0 ∧ r = some (vI (h - 1)) ∧ gi' = g_up gi 190 5 (h - 1) ∧ (∀ b : Int, b ≠ 193 → gl' b = gl b) ∧ ∀ i : Int, 0 ≤ i → i < 65 → gl' 193 i = gl 194 (65 * (h - 1) + i))) := by
  show Go mdX9_undo 0 0 0 [some (vR 190), none] [] gi gl sh _
  refine g_aload_n dX9_undo_0 rfl ?_
  refine g_getI 5 dX9_undo_1 flX9_142 rfl hM.o ?_
  refine g_if_ne 10 dX9_undo_4 (by decide) (fun h4 => ?_) (fun h4 => ?_)
  · skip
    refine g_aload_n dX9_undo_10 rfl ?_
    refine g_dup dX9_undo_11 (fun _ h9 => by cases h9) ?_
    refine g_getI 5 dX9_undo_12 flX9_142 rfl hM.o ?_
    refine g_iconst dX9_undo_15 (by decide) ?_
    rw [hh]
    refine g_isub dX9_undo_16 (by omega) (by omega) ?_
    refine g_putI 5 dX9_undo_17 flX9_142 rfl hM.o ?_
    refine g_iconst dX9_undo_20 (by decide) ?_
    refine n_istore_n (lN := [_, _]) dX9_undo_21 (by decide) rfl ?_
    refine Go.imp (l_un hM (h - 1) g_up_at (by omega) gl 65 0 (by omega) (Int.le_refl _) gl (fun _ _ => rfl) (fun i i0 i1 => by omega)) (fun r g2 l2 s2 q => ?_)
    obtain ⟨q1, q2, q3, q4, q5⟩ := q
    exact ⟨q3, Or.inr ⟨by omega, q1, q2, q4, q5⟩⟩
  · skip
    refine g_bipush dX9_undo_7 (by decide) (by decide) ?_
    refine g_ireturn dX9_undo_9 rfl ?_
    exact ⟨rfl, Or.inl ⟨by omega, rfl, rfl, rfl⟩⟩

set_option maxRecDepth 20000 in
set_option maxHeartbeats 1000000 in
theorem m_clear (hM : isMd sh) (hT : gl 193 0 = T) (hT0 : 0 ≤ T ∧ T ≤ 60) (hh : gi 190 5 = h) (hh0 : 0 ≤ h ∧ h ≤ 6) : Ct mdX9_clear 0 0 [vR 190] gi gl sh (fun r gi' gl' sh' => sh' = sh ∧ (T = 0 ∧ r = some (vI (-2)) ∧ gi' = gi ∧ gl' = gl ∨ T ≠ 0 ∧ r = some (vI T) ∧ (∀ b : Int, b ≠ 190 → gi' b = gi b) ∧ (∀ k : Int, k ≠ 5 → gi' 190 k = gi 190 k) ∧ gi' 190 5 = min (h + 1) 6 ∧ ∃ gl1, KL gl gl1 h ∧ gl' = g_up gl1 193 0 0)) := by
  show Go mdX9_clear 0 0 0 [some (vR 190), none] [] gi gl sh _
  refine g_aload_n dX9_clear_0 rfl ?_
  refine g_cVi [] dX9_clear_1 mlX9_154 mvX9_lines (by decide) hM.o (by decide) rfl rfl (Nat.le_of_ble_eq_true rfl) rfl (Nat.le_of_ble_eq_true rfl) (m_lines hM T hT hT0) ?_
  refine n_istore_n (lN := [_, _]) dX9_clear_4 (by decide) rfl ?_
  refine g_iload_n dX9_clear_5 rfl ?_
  refine g_if_ne 12 dX9_clear_6 (by decide) (fun h6 => ?_) (fun h6 => ?_)
  · skip
    refine g_aload_n dX9_clear_12 rfl ?_
    refine g_callV_v [] dX9_clear_13 mlX9_160 mvX9_keeps (by decide) hM.o (by decide) rfl rfl (Nat.le_of_ble_eq_true rfl) rfl (Nat.le_of_ble_eq_true rfl) (m_keeps hM hh hh0) (fun _ _ _ _ q => q.1) (fun g2 l2 s2 q v1 v2 => ?_)
    obtain ⟨-, q2, k1, k2, k3, k4⟩ := q
    subst q2
    refine g_aload_n dX9_clear_16 rfl ?_
    refine g_getR 3 dX9_clear_17 flX9_16 rfl hM.o hM.r3 ?_
    refine g_iconst dX9_clear_20 (by decide) ?_
    refine g_lconst 0 dX9_clear_21 (by decide) (by decide) ?_
    refine g_lastore dX9_clear_22 hM.k193 (by omega) (hM.b193 (by omega)) ?_
    refine g_iload_n dX9_clear_23 rfl ?_
    refine g_ireturn dX9_clear_24 rfl ?_
    exact ⟨rfl, Or.inr ⟨by omega, rfl, k1, k2, k3, l2, k4, rfl⟩⟩
  · skip
    refine g_bipush dX9_clear_9 (by decide) (by decide) ?_
    refine g_ireturn dX9_clear_11 rfl ?_
    exact ⟨rfl, Or.inl ⟨by omega, rfl, rfl, rfl⟩⟩

set_option maxRecDepth 20000 in
set_option maxHeartbeats 1000000 in
theorem m_rule (hM : isMd sh) (k v R : Int) (hR : gi 190 1 = R) (hR0 : 0 ≤ R ∧ R ≤ 4) (hnm : ∀ k : Int, 0 ≤ k → k < R → gl 193 (61 + k) = nm k ∧ 1 ≤ nm k ∧ nm k ≤ 99) (hh : gi 190 5 = h) (hh0 : 0 ≤ h ∧ h ≤ 6) : Ct mdX9_rule 0 0 [vR 190, vI k, vI v] gi gl sh (fun r gi' gl' sh' => sh' = sh ∧ ((¬ (0 ≤ k ∧ k < R) ∨ v < 1 ∨ 99 < v) ∧ r = some (vI (-1)) ∧ gi' = gi ∧ gl' = gl ∨ (0 ≤ k ∧ k < R) ∧ (1 ≤ v ∧ v ≤ 99) ∧ nm k = v ∧ r = some (vI (-2)) ∧ gi' = gi ∧ gl' = gl ∨ (0 ≤ k ∧ k < R) ∧ (1 ≤ v ∧ v ≤ 99) ∧ nm k ≠ v ∧ r = some (vI (nm k)) ∧ (∀ b : Int, b ≠ 190 → gi' b = gi b) ∧ (∀ k : Int, k ≠ 5 → gi' 190 k = gi 190 k) ∧ gi' 190 5 = min (h + 1) 6 ∧ ∃ gl1, KL gl gl1 h ∧ gl' = g_up gl1 193 (61 + k) v)) := by
  show Go mdX9_rule 0 0 0 [some (vR 190), some (vI k), some (vI v), none] [] gi gl sh _
  refine g_aload_n dX9_rule_0 rfl ?_
  refine g_iload_n dX9_rule_1 rfl ?_
  refine g_cVi [_] dX9_rule_2 mlX9_163 mvX9_isRuleThere (by decide) hM.o (by decide) rfl rfl (Nat.le_of_ble_eq_true rfl) rfl (Nat.le_of_ble_eq_true rfl) (m_isRuleThere hM k R _ hR hR0 (zb_q _)) ?_
  refine g_if_eq 20 dX9_rule_5 (by decide) (fun h5 => ?_) (fun h5 => ?_)
  · skip
    have c1 := (zb_q _).no h5
    refine g_iconst dX9_rule_20 (by decide) ?_
    refine g_ireturn dX9_rule_21 rfl ?_
    exact ⟨rfl, Or.inl ⟨Or.inl c1, rfl, rfl, rfl⟩⟩
  · skip
    have c1 := (zb_q _).yes h5
    obtain ⟨n1, n2, n3⟩ := hnm k c1.1 c1.2
    refine g_iload_n dX9_rule_8 rfl ?_
    refine g_i2l dX9_rule_9 ?_
    refine g_lconst 1 dX9_rule_10 (by decide) (by decide) ?_
    refine g_ldc2 (n := 99) dX9_rule_11 cnX9_166 (by decide) ?_
    refine g_cSi [_, _, _] dX9_rule_14 mlX9_106 msX9_within (by decide) rfl rfl (Nat.le_of_ble_eq_true rfl) rfl (Nat.le_of_ble_eq_true rfl) (m_within _ _ _ _ (zb_q _)) ?_
    refine g_if_ne 22 dX9_rule_17 (by decide) (fun h17 => ?_) (fun h17 => ?_)
    · skip
      have c2 := (zb_q _).yes h17
      refine g_aload_n dX9_rule_22 rfl ?_
      refine g_getR 3 dX9_rule_23 flX9_16 rfl hM.o hM.r3 ?_
      refine g_bipush dX9_rule_26 (by decide) (by decide) ?_
      refine g_iload_n dX9_rule_28 rfl ?_
      refine g_iadd dX9_rule_29 (by omega) (by omega) ?_
      refine g_laload dX9_rule_30 hM.k193 (by omega) (hM.b193 (by omega)) ?_
      rw [n1]
      refine g_l2i dX9_rule_31 (by omega) (by omega) ?_
      refine n_istore_n (lN := [_, _, _, _]) dX9_rule_32 (by decide) rfl ?_
      refine g_iload_n dX9_rule_33 rfl ?_
      refine g_iload_n dX9_rule_34 rfl ?_
      refine g_icmp_ne 41 dX9_rule_35 (by decide) (fun h35 => ?_) (fun h35 => ?_)
      · skip
        refine g_aload_n dX9_rule_41 rfl ?_
        refine g_callV_v [] dX9_rule_42 mlX9_160 mvX9_keeps (by decide) hM.o (by decide) rfl rfl (Nat.le_of_ble_eq_true rfl) rfl (Nat.le_of_ble_eq_true rfl) (m_keeps hM hh hh0) (fun _ _ _ _ q => q.1) (fun g2 l2 s2 q v1 v2 => ?_)
        obtain ⟨-, q2, k1, k2, k3, k4⟩ := q
        subst q2
        refine g_aload_n dX9_rule_45 rfl ?_
        refine g_getR 3 dX9_rule_46 flX9_16 rfl hM.o hM.r3 ?_
        refine g_bipush dX9_rule_49 (by decide) (by decide) ?_
        refine g_iload_n dX9_rule_51 rfl ?_
        refine g_iadd dX9_rule_52 (by omega) (by omega) ?_
        refine g_iload_n dX9_rule_53 rfl ?_
        refine g_i2l dX9_rule_54 ?_
        refine g_lastore dX9_rule_55 hM.k193 (by omega) (hM.b193 (by omega)) ?_
        refine g_iload_n dX9_rule_56 rfl ?_
        refine g_ireturn dX9_rule_57 rfl ?_
        exact ⟨rfl, Or.inr (Or.inr ⟨c1, c2, h35, rfl, k1, k2, k3, l2, k4, rfl⟩)⟩
      · skip
        refine g_bipush dX9_rule_38 (by decide) (by decide) ?_
        refine g_ireturn dX9_rule_40 rfl ?_
        exact ⟨rfl, Or.inr (Or.inl ⟨c1, c2, by omega, rfl, rfl, rfl⟩)⟩
    · skip
      have c2 := zb_nn h17
      refine g_iconst dX9_rule_20 (by decide) ?_
      refine g_ireturn dX9_rule_21 rfl ?_
      exact ⟨rfl, Or.inl ⟨Or.inr (by omega), rfl, rfl, rfl⟩⟩

theorem MN.fr {g g' G : gF} (hN : MN g gl pl kn T ln nm) (e0 : g' 190 1 = g 190 1) (e1 : g' 191 = g 191) (e2 : g' 192 = g 192) (eG : G 193 = gl 193) : MN g' G pl kn T ln nm := by
  obtain ⟨a, b, c, d, e, f⟩ := hN
  refine ⟨a.fr e0 e1 e2, b, ?_, d, ?_, ?_⟩ <;> rw [eG]
  · exact c
  · exact e
  · exact f

set_option maxRecDepth 20000 in
set_option maxHeartbeats 2000000 in
theorem m_see (hM : isMd sh) (x : Int) (hN : MN gi gl pl kn T ln nm) (hFS : FS (clo (pl 3) ln) (pl 8) T S er ec) (hh : gi 190 5 = h) (hh0 : 0 ≤ h ∧ h ≤ 6) (hnx : (0 ≤ x ∧ x < 10 ^ (pl 3).toNat) → (T < 60 ∧ ec < 24) → FS (clo (pl 3) (r_up ln T x)) (pl 8) (T + 1) S' er' ec') : Ct mdX9_see 0 0 [vR 190, vL x] gi gl sh (fun r gi' gl' sh' => sh' = sh ∧ ((x < 0 ∨ 10 ^ (pl 3).toNat ≤ x) ∧ r = some (vI (-1)) ∧ gi' = gi ∧ gl' = gl ∨ (0 ≤ x ∧ x < 10 ^ (pl 3).toNat) ∧ (60 ≤ T ∨ 24 ≤ ec) ∧ r = some (vI (-3)) ∧ FA gi gi' ∧ gl' = gl ∨ (0 ≤ x ∧ x < 10 ^ (pl 3).toNat) ∧ (T < 60 ∧ ec < 24) ∧ r = some (vI (ec' - ec)) ∧ (∀ b : Int, b < 190 ∨ (190 < b ∧ b < 199) → gi' b = gi b) ∧ (∀ k : Int, k < 15 → k ≠ 5 → gi' 190 k = gi 190 k) ∧ gi' 190 5 = min (h + 1) 6 ∧ ∃ gl1, KL gl gl1 h ∧ gl' = g_up (g_up gl1 193 (1 + T) x) 193 0 (T + 1))) := by
  show Go mdX9_see 0 0 0 [some (vR 190), some (vL x), none, none] [] gi gl sh _
  have hW := hN.2.1.1
  have p10 := p10_b (pl 3).toNat (by omega)
  have hT0 := hN.2.2.2.1
  refine g_lload_n dX9_see_0 rfl ?_
  refine g_lconst 0 dX9_see_1 (by decide) (by decide) ?_
  refine g_aload_n dX9_see_2 rfl ?_
  refine g_cVl [] dX9_see_3 mlX9_147 mvX9_power (by decide) hM.o (by decide) rfl rfl (Nat.le_of_ble_eq_true rfl) rfl (Nat.le_of_ble_eq_true rfl) (m_power hM hN.1.p.1 (by omega)) ?_
  refine g_lconst 1 dX9_see_6 (by decide) (by decide) ?_
  refine g_lsub dX9_see_7 (by omega) (by omega) ?_
  refine g_cSi [_, _, _] dX9_see_8 mlX9_106 msX9_within (by decide) rfl rfl (Nat.le_of_ble_eq_true rfl) rfl (Nat.le_of_ble_eq_true rfl) (m_within _ _ _ _ (zb_q _)) ?_
  refine g_if_ne 16 dX9_see_11 (by decide) (fun h11 => ?_) (fun h11 => ?_)
  · skip
    have c1 := (zb_q _).yes h11
    refine g_aload_n dX9_see_16 rfl ?_
    refine g_callV_v [] dX9_see_17 mlX9_151 mvX9_laysBlobs (by decide) hM.o (by decide) rfl rfl (Nat.le_of_ble_eq_true rfl) rfl (Nat.le_of_ble_eq_true rfl) (m_laysB hM hN hFS) (fun _ _ _ _ q => q.1) (fun g1 l1 s1 q w1 w2 => ?_)
    obtain ⟨-, q2, q3, f1, E, -⟩ := q
    subst q2 q3
    have e16 := E.1
    have hec := E.2.1
    refine g_aload_n dX9_see_20 rfl ?_
    refine g_cVi [] dX9_see_21 mlX9_154 mvX9_lines (by decide) hM.o (by decide) rfl rfl (Nat.le_of_ble_eq_true rfl) rfl (Nat.le_of_ble_eq_true rfl) (m_lines hM T hN.2.2.1 hT0) ?_
    refine g_bipush dX9_see_24 (by decide) (by decide) ?_
    refine g_icmp_eq 38 dX9_see_26 (by decide) (fun h26 => ?_) (fun h26 => ?_)
    · skip
      refine g_bipush dX9_see_38 (by decide) (by decide) ?_
      refine g_ireturn dX9_see_40 rfl ?_
      exact ⟨rfl, Or.inr (Or.inl ⟨by omega, Or.inl (by omega), rfl, f1.fa, rfl⟩)⟩
    · skip
      refine g_aload_n dX9_see_29 rfl ?_
      refine g_getI 16 dX9_see_30 flX9_157 rfl hM.o ?_
      refine g_bipush dX9_see_33 (by decide) (by decide) ?_
      refine g_icmp_lt 41 dX9_see_35 (by decide) (fun h35 => ?_) (fun h35 => ?_)
      · skip
        refine g_aload_n dX9_see_41 rfl ?_
        refine g_getI 16 dX9_see_42 flX9_157 rfl hM.o ?_
        refine n_istore_n (lN := [_, _, _, _]) dX9_see_45 (by decide) rfl ?_
        refine g_aload_n dX9_see_46 rfl ?_
        refine g_callV_v [] dX9_see_47 mlX9_160 mvX9_keeps (by decide) hM.o (by decide) rfl rfl (Nat.le_of_ble_eq_true rfl) rfl (Nat.le_of_ble_eq_true rfl) (m_keeps (h := h) hM (by rw [f1.2 5 (by omega)]; exact hh) hh0) (fun _ _ _ _ q => q.1) (fun g2 l2 s2 q v1 v2 => ?_)
        obtain ⟨-, q2, k1, k2, k3, k4⟩ := q
        subst q2
        have hF2 := hnx (by omega) (by omega)
        have hN2 : MN g2 l2 pl kn T ln nm := hN.fr (by rw [k2 1 (by decide), f1.2 1 (by omega)]) (by rw [k1 191 (by decide), f1.1 191 (by omega)]) (by rw [k1 192 (by decide), f1.1 192 (by omega)]) (k4.1 193 (by decide))
        refine g_aload_n dX9_see_50 rfl ?_
        refine g_getR 3 dX9_see_51 flX9_16 rfl hM.o hM.r3 ?_
        refine g_iconst dX9_see_54 (by decide) ?_
        refine g_aload_n dX9_see_55 rfl ?_
        refine g_cVi [] dX9_see_56 mlX9_154 mvX9_lines (by decide) hM.o (by decide) rfl rfl (Nat.le_of_ble_eq_true rfl) rfl (Nat.le_of_ble_eq_true rfl) (m_lines hM T hN2.2.2.1 hT0) ?_
        refine g_iadd dX9_see_59 (by omega) (by omega) ?_
        refine g_lload_n dX9_see_60 rfl ?_
        refine g_lastore dX9_see_61 hM.k193 (by omega) (hM.b193 (by omega)) ?_
        refine g_aload_n dX9_see_62 rfl ?_
        refine g_getR 3 dX9_see_63 flX9_16 rfl hM.o hM.r3 ?_
        refine g_iconst dX9_see_66 (by decide) ?_
        refine g_dup2 dX9_see_67 (fun _ h9 => by cases h9) (fun _ h9 => by cases h9) ?_
        refine g_laload dX9_see_68 hM.k193 (by omega) (hM.b193 (by omega)) ?_
        rw [show g_up l2 193 (1 + T) x 193 0 = T by rw [g_up_ne (by omega)]; exact hN2.2.2.1]
        refine g_lconst 1 dX9_see_69 (by decide) (by decide) ?_
        refine g_ladd dX9_see_70 (by omega) (by omega) ?_
        refine g_lastore dX9_see_71 hM.k193 (by omega) (hM.b193 (by omega)) ?_
        have hN3 : MN g2 (g_up (g_up l2 193 (1 + T) x) 193 0 (T + 1)) pl kn (T + 1) (r_up ln T x) nm := by
          obtain ⟨a, b, c, d, e, f⟩ := hN2
          refine ⟨a, b, g_up_at, by omega, fun t t0 t1 => ?_, fun k k0 k1 => ?_⟩
          · rw [g_up_ne (by omega)]
            by_cases w : t = T
            · rw [w, g_up_at, r_up_at]; exact ⟨rfl, by omega⟩
            · rw [g_up_ne (by omega), r_up_ne w]; exact e t t0 (by omega)
          · rw [g_up_ne (by omega), g_up_ne (by have := b.2.2.2.2.2.2.2.1; omega)]; exact f k k0 k1
        refine g_aload_n dX9_see_72 rfl ?_
        refine g_callV_v [] dX9_see_73 mlX9_151 mvX9_laysBlobs (by decide) hM.o (by decide) rfl rfl (Nat.le_of_ble_eq_true rfl) rfl (Nat.le_of_ble_eq_true rfl) (m_laysB hM hN3 hF2) (fun _ _ _ _ q => q.1) (fun g3 l3 s3 q w3 w4 => ?_)
        obtain ⟨-, q2, q3, f3, E3, -⟩ := q
        subst q2 q3
        have e163 := E3.1
        have hec3 := E3.2.1
        refine g_aload_n dX9_see_76 rfl ?_
        refine g_getI 16 dX9_see_77 flX9_157 rfl hM.o ?_
        refine g_iload_n dX9_see_80 rfl ?_
        refine g_isub dX9_see_81 (by omega) (by omega) ?_
        refine g_ireturn dX9_see_82 rfl ?_
        refine ⟨rfl, Or.inr (Or.inr ⟨by omega, by omega, by rw [e163, e16], fun b hb => by rw [f3.1 b (by omega), k1 b (by omega), f1.1 b (by omega)], fun k hk h5 => by rw [f3.2 k (by omega), k2 k h5, f1.2 k (by omega)], by rw [f3.2 5 (by omega)]; exact k3, l2, k4, rfl⟩)⟩
      · skip
        refine g_bipush dX9_see_38 (by decide) (by decide) ?_
        refine g_ireturn dX9_see_40 rfl ?_
        exact ⟨rfl, Or.inr (Or.inl ⟨by omega, Or.inr (by omega), rfl, f1.fa, rfl⟩)⟩
  · skip
    have c1 := zb_nn h11
    refine g_iconst dX9_see_14 (by decide) ?_
    refine g_ireturn dX9_see_15 rfl ?_
    exact ⟨rfl, Or.inl ⟨by omega, rfl, rfl, rfl⟩⟩

set_option maxRecDepth 20000 in
set_option maxHeartbeats 1000000 in
theorem l_ly2 (hM : isMd sh) (R : Int) (hR : gi 190 1 = R) (hR0 : 0 ≤ R ∧ R ≤ 4) (gl0 : gF) : ∀ (m : Nat) (k : Int), k + m = R → 0 ≤ k → ∀ g G : gF, (∀ b : Int, b ≠ 192 → g b = gi b) → (∀ i : Int, 0 ≤ i → i < k → g 192 i = gi 197 i) → (∀ b : Int, b ≠ 193 → G b = gl0 b) → G 193 0 = 0 → (∀ i : Int, 0 ≤ i → i < k → G 193 (61 + i) = gi 198 i) → Go mdX9_lay 0 0 62 [some (vR 190), some (vI k)] [] g G sh (fun r gi' gl' sh' => r = some (vI (gi 191 0)) ∧ sh' = sh ∧ (∀ b : Int, b ≠ 190 → b ≠ 192 → gi' b = gi b) ∧ (∀ k : Int, k ≠ 5 → gi' 190 k = gi 190 k) ∧ gi' 190 5 = 0 ∧ (∀ i : Int, 0 ≤ i → i < R → gi' 192 i = gi 197 i) ∧ (∀ b : Int, b ≠ 193 → gl' b = gl0 b) ∧ gl' 193 0 = 0 ∧ ∀ i : Int, 0 ≤ i → i < R → gl' 193 (61 + i) = gi 198 i) := by
  intro m
  induction m with
  | zero =>
    intro k h1 h2 g G a b c d e
    have hk : k = R := by omega
    subst hk
    have e1 : g 190 1 = k := by rw [a 190 (by decide)]; exact hR
    refine g_iload_n dX9_lay_62 rfl ?_
    refine g_aload_n dX9_lay_63 rfl ?_
    refine g_getI 1 dX9_lay_64 flX9_88 rfl hM.o ?_
    refine g_icmp_ge 104 dX9_lay_67 (by decide) (fun h67 => ?_) (fun h67 => ?_)
    · skip
      refine g_aload_n dX9_lay_104 rfl ?_
      refine g_iconst dX9_lay_105 (by decide) ?_
      refine g_putI 5 dX9_lay_106 flX9_142 rfl hM.o ?_
      refine g_aload_n dX9_lay_109 rfl ?_
      refine g_getR 0 dX9_lay_110 flX9_7 rfl hM.o hM.r0 ?_
      refine g_iconst dX9_lay_113 (by decide) ?_
      refine g_iaload dX9_lay_114 hM.k191 (by omega) (hM.b191 (by omega)) ?_
      refine g_ireturn dX9_lay_115 rfl ?_
      refine ⟨by rw [g_up_row (by decide), a 191 (by decide)], rfl, fun b h1 h2 => by rw [g_up_row h1]; exact a b h2, fun k hk => by rw [g_up_ne hk, a 190 (by decide)], g_up_at, fun i i0 i1 => by rw [g_up_row (by decide)]; exact b i i0 i1, c, d, e⟩
    · exfalso; omega
  | succ m ih =>
    intro k h1 h2 g G a b c d e
    have e1 : g 190 1 = R := by rw [a 190 (by decide)]; exact hR
    refine g_iload_n dX9_lay_62 rfl ?_
    refine g_aload_n dX9_lay_63 rfl ?_
    refine g_getI 1 dX9_lay_64 flX9_88 rfl hM.o ?_
    refine g_icmp_ge 104 dX9_lay_67 (by decide) (fun h67 => ?_) (fun h67 => ?_)
    · exfalso; omega
    · skip
      refine g_aload_n dX9_lay_70 rfl ?_
      refine g_getR 2 dX9_lay_71 flX9_13 rfl hM.o hM.r2 ?_
      refine g_iload_n dX9_lay_74 rfl ?_
      refine g_aload_n dX9_lay_75 rfl ?_
      refine g_getR 10 dX9_lay_76 flX9_29 rfl hM.o hM.r10 ?_
      refine g_iload_n dX9_lay_79 rfl ?_
      refine g_iaload dX9_lay_80 hM.k197 (by omega) (hM.b197 (by omega)) ?_
      refine g_iastore dX9_lay_81 hM.k192 (by omega) (hM.b192 (by omega)) ?_
      refine g_aload_n dX9_lay_82 rfl ?_
      refine g_getR 3 dX9_lay_83 flX9_16 rfl hM.o hM.r3 ?_
      refine g_bipush dX9_lay_86 (by decide) (by decide) ?_
      refine g_iload_n dX9_lay_88 rfl ?_
      refine g_iadd dX9_lay_89 (by omega) (by omega) ?_
      refine g_aload_n dX9_lay_90 rfl ?_
      refine g_getR 11 dX9_lay_91 flX9_32 rfl hM.o hM.r11 ?_
      refine g_iload_n dX9_lay_94 rfl ?_
      refine g_iaload dX9_lay_95 hM.k198 (by omega) (hM.b198 (by omega)) ?_
      refine g_i2l dX9_lay_96 ?_
      refine g_lastore dX9_lay_97 hM.k193 (by omega) (hM.b193 (by omega)) ?_
      refine n_iinc (lN := [_, some (vI (k + 1))]) dX9_lay_98 rfl (by decide) (by omega) (by omega) rfl ?_
      refine g_goto 62 dX9_lay_101 (by decide) ?_
      refine ih (k + 1) (by omega) (by omega) _ _ (fun b hb => by rw [g_up_row hb]; exact a b hb) (fun i i0 i1 => ?_) (fun b hb => by rw [g_up_row hb]; exact c b hb) (by rw [g_up_ne (by omega)]; exact d) (fun i i0 i1 => ?_)
      · rw [g_up_r]
        by_cases w : i = k
        · rw [w, r_up_at, a 197 (by decide)]
        · rw [r_up_ne w]; exact b i i0 (by omega)
      · rw [g_up_r]
        by_cases w : i = k
        · rw [w, r_up_at, g_up_row (by decide), a 198 (by decide)]
        · rw [r_up_ne (by omega)]; exact e i i0 (by omega)
set_option maxRecDepth 20000 in
set_option maxHeartbeats 1000000 in
theorem l_ly1 (hM : isMd sh) (hn : ∀ g : gF, (∀ b : Int, b ≠ 191 → g b = gi b) → (∀ i : Int, 0 ≤ i → i < 7 → g 191 i = gi 196 i) → Go mdX9_lay 0 0 45 [some (vR 190), some (vI 7)] [] g gl sh Q) : ∀ (m : Nat) (k : Int), k + m = 7 → 0 ≤ k → ∀ g : gF, (∀ b : Int, b ≠ 191 → g b = gi b) → (∀ i : Int, 0 ≤ i → i < k → g 191 i = gi 196 i) → Go mdX9_lay 0 0 21 [some (vR 190), some (vI k)] [] g gl sh Q := by
  intro m
  induction m with
  | zero =>
    intro k h1 h2 g a b
    have hk : k = 7 := by omega
    subst hk
    refine g_iload_n dX9_lay_21 rfl ?_
    refine g_bipush dX9_lay_22 (by decide) (by decide) ?_
    refine g_icmp_ge 45 dX9_lay_24 (by decide) (fun h24 => ?_) (fun h24 => ?_)
    · skip
      exact hn g a b
    · exfalso; omega
  | succ m ih =>
    intro k h1 h2 g a b
    refine g_iload_n dX9_lay_21 rfl ?_
    refine g_bipush dX9_lay_22 (by decide) (by decide) ?_
    refine g_icmp_ge 45 dX9_lay_24 (by decide) (fun h24 => ?_) (fun h24 => ?_)
    · exfalso; omega
    · skip
      refine g_aload_n dX9_lay_27 rfl ?_
      refine g_getR 0 dX9_lay_28 flX9_7 rfl hM.o hM.r0 ?_
      refine g_iload_n dX9_lay_31 rfl ?_
      refine g_aload_n dX9_lay_32 rfl ?_
      refine g_getR 8 dX9_lay_33 flX9_26 rfl hM.o hM.r8 ?_
      refine g_iload_n dX9_lay_36 rfl ?_
      refine g_iaload dX9_lay_37 hM.k196 (by omega) (hM.b196 (by omega)) ?_
      refine g_iastore dX9_lay_38 hM.k191 (by omega) (hM.b191 (by omega)) ?_
      refine n_iinc (lN := [_, some (vI (k + 1))]) dX9_lay_39 rfl (by decide) (by omega) (by omega) rfl ?_
      refine g_goto 21 dX9_lay_42 (by decide) ?_
      refine ih (k + 1) (by omega) (by omega) _ (fun b hb => by rw [g_up_row hb]; exact a b hb) (fun i i0 i1 => ?_)
      rw [g_up_r]
      by_cases w : i = k
      · rw [w, r_up_at, a 196 (by decide)]
      · rw [r_up_ne w]; exact b i i0 (by omega)
set_option maxRecDepth 20000 in
set_option maxHeartbeats 2000000 in
theorem m_lay (hM : isMd sh) (hx : gi 195 = tx) (hn : gi 190 7 = n) (hn0 : 0 ≤ n ∧ n ≤ 200) (r0 kn0 nu0 : gRw) (res : Int × gRw × gRw × gRw) (hres : t_parse tx n 200 0 (t_pl0 r0) kn0 nu0 = res) : Ct mdX9_lay 0 0 [vR 190] gi gl sh (fun r gi' gl' sh' => sh' = sh ∧ ((res.1 ≠ -4 ∨ res.2.1 2 = 0) ∧ r = some (vI (-2)) ∧ TF gi gi' ∧ gl' = gl ∨ (res.1 = -4 ∧ res.2.1 2 ≠ 0) ∧ r = some (vI (res.2.1 3)) ∧ (∀ b : Int, b < 190 → gi' b = gi b) ∧ gi' 195 = gi 195 ∧ gi' 190 7 = gi 190 7 ∧ gi' 190 5 = 0 ∧ MP gi' res.2.1 res.2.2.1 ∧ (∀ b : Int, b ≠ 193 → gl' b = gl b) ∧ gl' 193 0 = 0 ∧ ∀ k : Int, 0 ≤ k → k < res.2.1 2 → gl' 193 (61 + k) = res.2.2.2 k)) := by
  show Go mdX9_lay 0 0 0 [some (vR 190), none] [] gi gl sh _
  have hpk : pl_ok res.2.1 res.2.2.1 res.2.2.2 := by rw [← hres]; exact t_parse_ok 200 0 _ _ _ (t_pl0_ok _ _ _)
  have h4 := hpk.2.2.2.2.2.2.2.1
  refine g_aload_n dX9_lay_0 rfl ?_
  refine g_callV_i [] dX9_lay_1 mlX9_138 mvX9_faultAt (by decide) hM.o (by decide) rfl rfl (Nat.le_of_ble_eq_true rfl) rfl (Nat.le_of_ble_eq_true rfl) (m_faultAt hM hx hn hn0 r0 kn0 nu0) (fun _ _ _ _ q => ⟨_, q.1⟩) (fun x g1 l1 s1 q w1 w2 => ?_)
  rw [hres] at q
  obtain ⟨q1, q2, q3, tf, hp⟩ := q
  subst q2 q3
  cases q1
  refine g_bipush dX9_lay_4 (by decide) (by decide) ?_
  refine g_icmp_ne 16 dX9_lay_6 (by decide) (fun h6 => ?_) (fun h6 => ?_)
  · skip
    refine g_bipush dX9_lay_16 (by decide) (by decide) ?_
    refine g_ireturn dX9_lay_18 rfl ?_
    exact ⟨rfl, Or.inl ⟨Or.inl h6, rfl, tf, rfl⟩⟩
  · skip
    have hc4 : res.1 = -4 := by omega
    obtain ⟨p', hP⟩ := hp hc4
    have e9 := hP.2.1
    refine g_aload_n dX9_lay_9 rfl ?_
    refine g_getI 9 dX9_lay_10 flX9_122 rfl hM.o ?_
    refine g_if_ne 19 dX9_lay_13 (by decide) (fun h13 => ?_) (fun h13 => ?_)
    · skip
      refine g_iconst dX9_lay_19 (by decide) ?_
      refine n_istore_n (lN := [_, _]) dX9_lay_20 (by decide) rfl ?_
      refine l_ly1 hM (fun g2 a2 b2 => ?_) 7 0 (by omega) (Int.le_refl _) g1 (fun _ _ => rfl) (fun i i0 i1 => by omega)
      have e29 : g2 190 9 = res.2.1 2 := by rw [a2 190 (by decide)]; exact e9
      refine g_aload_n dX9_lay_45 rfl ?_
      refine g_aload_n dX9_lay_46 rfl ?_
      refine g_getI 9 dX9_lay_47 flX9_122 rfl hM.o ?_
      rw [e29]
      refine g_putI 1 dX9_lay_50 flX9_88 rfl hM.o ?_
      refine g_aload_n dX9_lay_53 rfl ?_
      refine g_getR 3 dX9_lay_54 flX9_16 rfl hM.o hM.r3 ?_
      refine g_iconst dX9_lay_57 (by decide) ?_
      refine g_lconst 0 dX9_lay_58 (by decide) (by decide) ?_
      refine g_lastore dX9_lay_59 hM.k193 (by omega) (hM.b193 (by omega)) ?_
      refine g_iconst dX9_lay_60 (by decide) ?_
      refine n_istore_n (lN := [_, _]) dX9_lay_61 (by decide) rfl ?_
      have e3 : ∀ b : Int, b ≠ 190 → g_up g2 190 1 (res.2.1 2) b = g2 b := fun b hb => g_up_row hb
      have e3k : ∀ k : Int, k ≠ 1 → g_up g2 190 1 (res.2.1 2) 190 k = g1 190 k := fun k hk => by rw [g_up_ne hk, a2 190 (by decide)]
      have e31 : g_up g2 190 1 (res.2.1 2) 190 1 = res.2.1 2 := g_up_at
      generalize g_up g2 190 1 (res.2.1 2) = g3 at e3 e3k e31 ⊢
      refine Go.imp (l_ly2 hM (res.2.1 2) e31 h4 l1 (res.2.1 2).toNat 0 (by omega) (Int.le_refl _) g3 _ (fun _ _ => rfl) (fun i i0 i1 => by omega) (fun b hb => g_up_row hb) g_up_at (fun i i0 i1 => by omega)) (fun r g4 l4 s4 q => ?_)
      obtain ⟨q1, q2, q3, q4, q5, q6, q7, q8, q9⟩ := q
      have e191 : ∀ i : Int, 0 ≤ i → i < 7 → g4 191 i = res.2.1 (3 + i) := fun i i0 i1 => by rw [q3 191 (by decide) (by decide), e3 191 (by decide), b2 i i0 i1]; exact hP.2.2.1 i i0 i1
      refine ⟨q2, Or.inr ⟨⟨hc4, by omega⟩, ?_, fun b hb => ?_, ?_, ?_, q5, ⟨?_, e191, fun i i0 i1 => ?_⟩, q7, q8, fun k k0 k1 => ?_⟩⟩
      · rw [q1, ← q3 191 (by decide) (by decide), e191 0 (by decide) (by decide)]; rfl
      · rw [q3 b (by omega) (by omega), e3 b (by omega), a2 b (by omega)]; exact tf.1 b (by omega) (by omega) (by omega) (by omega)
      · rw [q3 195 (by decide) (by decide), e3 195 (by decide), a2 195 (by decide)]; exact tf.1 195 (by decide) (by decide) (by decide) (by decide)
      · rw [q4 7 (by decide), e3k 7 (by decide)]; exact tf.2 7 (by decide) (by decide)
      · rw [q4 1 (by decide)]; exact e31
      · rw [q6 i i0 i1, e3 197 (by decide), a2 197 (by decide)]; exact (hP.2.2.2 i i0 i1).1
      · rw [q9 k k0 k1, e3 198 (by decide), a2 198 (by decide)]; exact (hP.2.2.2 k k0 k1).2
    · skip
      refine g_bipush dX9_lay_16 (by decide) (by decide) ?_
      refine g_ireturn dX9_lay_18 rfl ?_
      exact ⟨rfl, Or.inl ⟨Or.inr (by omega), rfl, tf, rfl⟩⟩

end MD15
