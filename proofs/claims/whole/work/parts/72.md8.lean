/-! the model's blobs: all counted, those that ended numbered -/
def kyB (g : gF) (b : Int) : Int := 1000 * g 203 b + g 201 b
/-- labels by first and low -/
def lwB (g : gF) (nb : Int) : Prop := ∀ b : Int, 0 ≤ b → b < nb → (16 * g 202 b + g 204 b = g 201 b ∧ 0 ≤ g 204 b ∧ g 204 b < 16) ∧ 0 ≤ g 201 b ∧ g 201 b < 960
/-- what numbering leaves as it is -/
def FN (g g' : gF) : Prop := (∀ b : Int, b ≠ 190 → b ≠ 210 → g' b = g b) ∧ ∀ k : Int, k ≠ 16 → k ≠ 17 → g' 190 k = g 190 k
theorem FN.up {g g' : gF} {a i v : Int} (h : FN g g') (ha : (a = 190 ∧ (i = 16 ∨ i = 17)) ∨ a = 210) : FN g (g_up g' a i v) := by
  refine ⟨fun b h1 h2 => ?_, fun k h1 h2 => ?_⟩
  · rw [g_up_row (by omega)]; exact h.1 b h1 h2
  · unfold g_up; rw [if_neg (by omega)]; exact h.2 k h1 h2
theorem FN.rf {g : gF} : FN g g := ⟨fun _ _ _ => rfl, fun _ _ _ => rfl⟩
/-- of the first b blobs those that ended are numbered -/
def NS (gi : gF) (T b e : Int) (num : gRw) : Prop :=
  (0 ≤ e ∧ e ≤ b) ∧ (∀ i : Int, 0 ≤ i → i < e → (0 ≤ num i ∧ num i < b) ∧ gi 203 (num i) < T - 1) ∧
  (∀ i j : Int, 0 ≤ i → i < j → j < e → kyB gi (num i) < kyB gi (num j)) ∧
  (∀ a : Int, 0 ≤ a → a < b → gi 203 a < T - 1 → ∃ i : Int, (0 ≤ i ∧ i < e) ∧ num i = a) ∧
  e + p_sum (fun i => decide (¬ gi 203 (i : Int) < T - 1)) (fun _ => 1) b.toNat = b
theorem NS.skip {gi : gF} {T b e : Int} {num : gRw} (h : NS gi T b e num) (hb : ¬ gi 203 b < T - 1) (h0 : 0 ≤ b) : NS gi T (b + 1) e num := by
  obtain ⟨h1, h2, h3, h4, h5⟩ := h
  refine ⟨by omega, fun i i0 i1 => ⟨by have := (h2 i i0 i1).1; omega, (h2 i i0 i1).2⟩, h3, fun a a0 a1 w => h4 a a0 ?_ w, ?_⟩
  · by_cases c : a = b
    · rw [c] at w; exact absurd w hb
    · omega
  · rw [show (b + 1).toNat = b.toNat + 1 by omega, p_sum, if_pos (decide_eq_true (by rw [show ((b.toNat : Nat) : Int) = b by omega]; exact hb))]
    omega
theorem NS.ins {gi : gF} {T b e k : Int} {num c : gRw} (h : NS gi T b e num) (hb : gi 203 b < T - 1) (h0 : 0 ≤ b) (hk : 0 ≤ k ∧ k ≤ e) (c1 : ∀ i : Int, 0 ≤ i → i < k → c i = num i) (c2 : c k = b) (c3 : ∀ i : Int, k < i → i ≤ e → c i = num (i - 1)) (lo : k = 0 ∨ kyB gi (num (k - 1)) < kyB gi b) (hi : ∀ i : Int, k ≤ i → i < e → kyB gi b < kyB gi (num i)) : NS gi T (b + 1) (e + 1) c := by
  obtain ⟨h1, h2, h3, h4, h5⟩ := h
  have hlo : ∀ i : Int, 0 ≤ i → i < k → kyB gi (num i) < kyB gi b := fun i i0 i1 => by
    rcases lo with lo | lo
    · omega
    · by_cases e1 : i = k - 1
      · rw [e1]; exact lo
      · have := h3 i (k - 1) i0 (by omega) (by omega); omega
  refine ⟨by omega, fun i i0 i1 => ?_, fun i j i0 ij j1 => ?_, fun a a0 a1 w => ?_, ?_⟩
  · rcases (show i < k ∨ i = k ∨ k < i by omega) with w | w | w
    · rw [c1 i i0 w]; have := h2 i i0 (by omega); exact ⟨by omega, this.2⟩
    · rw [w, c2]; exact ⟨by omega, hb⟩
    · rw [c3 i w (by omega)]; have := h2 (i - 1) (by omega) (by omega); exact ⟨by omega, this.2⟩
  · rcases (show j < k ∨ j = k ∨ k < j by omega) with w | w | w
    · rw [c1 i i0 (by omega), c1 j (by omega) w]; exact h3 i j i0 ij (by omega)
    · rw [w, c2, c1 i i0 (by omega)]; exact hlo i i0 (by omega)
    · rw [c3 j w (by omega)]
      rcases (show i < k ∨ i = k ∨ k < i by omega) with v | v | v
      · rw [c1 i i0 v]
        have a1 := hlo i i0 v
        have a2 := hi (j - 1) (by omega) (by omega)
        omega
      · rw [v, c2]; exact hi (j - 1) (by omega) (by omega)
      · rw [c3 i v (by omega)]; exact h3 (i - 1) (j - 1) (by omega) (by omega) (by omega)
  · by_cases ea : a = b
    · exact ⟨k, by omega, by rw [c2, ea]⟩
    · obtain ⟨i, hi1, hi2⟩ := h4 a a0 (by omega) w
      by_cases v : i < k
      · exact ⟨i, by omega, by rw [c1 i hi1.1 v]; exact hi2⟩
      · exact ⟨i + 1, by omega, by rw [c3 (i + 1) (by omega) (by omega), show i + 1 - 1 = i by omega]; exact hi2⟩
  · rw [show (b + 1).toNat = b.toNat + 1 by omega, p_sum, if_neg (fun w => by have w := of_decide_eq_true w; rw [show ((b.toNat : Nat) : Int) = b by omega] at w; exact w hb)]
    omega
section MD8
variable {gi gl : gF} {sh : gSh} {cl L : gRw} {D T nb W : Int} {Q : gQ}

set_option maxRecDepth 20000 in
set_option maxHeartbeats 1000000 in
theorem m_isAhead (hM : isMd sh) (a b z : Int) (ha : 0 ≤ a ∧ a < 48) (hb : 0 ≤ b ∧ b < 48) (la : (16 * gi 202 a + gi 204 a = gi 201 a ∧ 0 ≤ gi 204 a ∧ gi 204 a < 16) ∧ 0 ≤ gi 201 a ∧ gi 201 a < 960) (lb : (16 * gi 202 b + gi 204 b = gi 201 b ∧ 0 ≤ gi 204 b ∧ gi 204 b < 16) ∧ 0 ≤ gi 201 b ∧ gi 201 b < 960) (hz : Zq (1000 * gi 203 a + gi 201 a < 1000 * gi 203 b + gi 201 b) z) : Ct mdX9_isAhead 0 0 [vR 190, vI a, vI b] gi gl sh (Rt (some (vI z)) gi gl sh) := by
  show Go mdX9_isAhead 0 0 0 [some (vR 190), some (vI a), some (vI b)] [] gi gl sh _
  refine g_aload_n dX9_isAhead_0 rfl ?_
  refine g_getR 20 dX9_isAhead_1 flX9_47 rfl hM.o hM.r20 ?_
  refine g_iload_n dX9_isAhead_4 rfl ?_
  refine g_iaload dX9_isAhead_5 hM.k203 (by omega) (hM.b203 (by omega)) ?_
  refine g_aload_n dX9_isAhead_6 rfl ?_
  refine g_getR 20 dX9_isAhead_7 flX9_47 rfl hM.o hM.r20 ?_
  refine g_iload_n dX9_isAhead_10 rfl ?_
  refine g_iaload dX9_isAhead_11 hM.k203 (by omega) (hM.b203 (by omega)) ?_
  refine g_icmp_eq 36 dX9_isAhead_12 (by decide) (fun h12 => ?_) (fun h12 => ?_)
  · skip
    refine g_aload_n dX9_isAhead_36 rfl ?_
    refine g_getR 19 dX9_isAhead_37 flX9_44 rfl hM.o hM.r19 ?_
    refine g_iload_n dX9_isAhead_40 rfl ?_
    refine g_iaload dX9_isAhead_41 hM.k202 (by omega) (hM.b202 (by omega)) ?_
    refine g_aload_n dX9_isAhead_42 rfl ?_
    refine g_getR 19 dX9_isAhead_43 flX9_44 rfl hM.o hM.r19 ?_
    refine g_iload_n dX9_isAhead_46 rfl ?_
    refine g_iaload dX9_isAhead_47 hM.k202 (by omega) (hM.b202 (by omega)) ?_
    refine g_icmp_lt 81 dX9_isAhead_48 (by decide) (fun h48 => ?_) (fun h48 => ?_)
    · skip
      refine g_iconst dX9_isAhead_81 (by decide) ?_
      refine g_goto 86 dX9_isAhead_82 (by decide) ?_
      refine g_zreturn dX9_isAhead_86 rfl (by decide) ?_
      exact ⟨by first | (rw [hz.1 (by omega)]; done) | (rw [hz.2 (by omega)]; done), rfl, rfl, rfl⟩
    · skip
      refine g_aload_n dX9_isAhead_51 rfl ?_
      refine g_getR 19 dX9_isAhead_52 flX9_44 rfl hM.o hM.r19 ?_
      refine g_iload_n dX9_isAhead_55 rfl ?_
      refine g_iaload dX9_isAhead_56 hM.k202 (by omega) (hM.b202 (by omega)) ?_
      refine g_aload_n dX9_isAhead_57 rfl ?_
      refine g_getR 19 dX9_isAhead_58 flX9_44 rfl hM.o hM.r19 ?_
      refine g_iload_n dX9_isAhead_61 rfl ?_
      refine g_iaload dX9_isAhead_62 hM.k202 (by omega) (hM.b202 (by omega)) ?_
      refine g_icmp_ne 85 dX9_isAhead_63 (by decide) (fun h63 => ?_) (fun h63 => ?_)
      · skip
        refine g_iconst dX9_isAhead_85 (by decide) ?_
        refine g_zreturn dX9_isAhead_86 rfl (by decide) ?_
        exact ⟨by first | (rw [hz.1 (by omega)]; done) | (rw [hz.2 (by omega)]; done), rfl, rfl, rfl⟩
      · skip
        refine g_aload_n dX9_isAhead_66 rfl ?_
        refine g_getR 21 dX9_isAhead_67 flX9_50 rfl hM.o hM.r21 ?_
        refine g_iload_n dX9_isAhead_70 rfl ?_
        refine g_iaload dX9_isAhead_71 hM.k204 (by omega) (hM.b204 (by omega)) ?_
        refine g_aload_n dX9_isAhead_72 rfl ?_
        refine g_getR 21 dX9_isAhead_73 flX9_50 rfl hM.o hM.r21 ?_
        refine g_iload_n dX9_isAhead_76 rfl ?_
        refine g_iaload dX9_isAhead_77 hM.k204 (by omega) (hM.b204 (by omega)) ?_
        refine g_icmp_ge 85 dX9_isAhead_78 (by decide) (fun h78 => ?_) (fun h78 => ?_)
        · skip
          refine g_iconst dX9_isAhead_85 (by decide) ?_
          refine g_zreturn dX9_isAhead_86 rfl (by decide) ?_
          exact ⟨by first | (rw [hz.1 (by omega)]; done) | (rw [hz.2 (by omega)]; done), rfl, rfl, rfl⟩
        · skip
          refine g_iconst dX9_isAhead_81 (by decide) ?_
          refine g_goto 86 dX9_isAhead_82 (by decide) ?_
          refine g_zreturn dX9_isAhead_86 rfl (by decide) ?_
          exact ⟨by first | (rw [hz.1 (by omega)]; done) | (rw [hz.2 (by omega)]; done), rfl, rfl, rfl⟩
  · skip
    refine g_aload_n dX9_isAhead_15 rfl ?_
    refine g_getR 20 dX9_isAhead_16 flX9_47 rfl hM.o hM.r20 ?_
    refine g_iload_n dX9_isAhead_19 rfl ?_
    refine g_iaload dX9_isAhead_20 hM.k203 (by omega) (hM.b203 (by omega)) ?_
    refine g_aload_n dX9_isAhead_21 rfl ?_
    refine g_getR 20 dX9_isAhead_22 flX9_47 rfl hM.o hM.r20 ?_
    refine g_iload_n dX9_isAhead_25 rfl ?_
    refine g_iaload dX9_isAhead_26 hM.k203 (by omega) (hM.b203 (by omega)) ?_
    refine g_icmp_ge 34 dX9_isAhead_27 (by decide) (fun h27 => ?_) (fun h27 => ?_)
    · skip
      refine g_iconst dX9_isAhead_34 (by decide) ?_
      refine g_zreturn dX9_isAhead_35 rfl (by decide) ?_
      exact ⟨by first | (rw [hz.1 (by omega)]; done) | (rw [hz.2 (by omega)]; done), rfl, rfl, rfl⟩
    · skip
      refine g_iconst dX9_isAhead_30 (by decide) ?_
      refine g_goto 35 dX9_isAhead_31 (by decide) ?_
      refine g_zreturn dX9_isAhead_35 rfl (by decide) ?_
      exact ⟨by first | (rw [hz.1 (by omega)]; done) | (rw [hz.2 (by omega)]; done), rfl, rfl, rfl⟩

set_option maxRecDepth 20000 in
set_option maxHeartbeats 1000000 in
theorem l_ne2 {g0 : gRw} (hM : isMd sh) (hlw : lwB gi nb) (hn8 : nb ≤ 48) (b e : Int) (num : gRw) (hb : 0 ≤ b ∧ b < nb) (hN : NS gi T b e num) (hne : ∀ i : Int, 0 ≤ i → i < e → kyB gi (num i) ≠ kyB gi b) (hn : ∀ (g : gF) (k : Int), FN gi g → g 190 = g0 → (0 ≤ k ∧ k ≤ e) → (∀ i : Int, 0 ≤ i → i < k → g 210 i = num i) → (∀ i : Int, k < i → i ≤ e → g 210 i = num (i - 1)) → (k = 0 ∨ kyB gi (num (k - 1)) < kyB gi b) → (∀ i : Int, k ≤ i → i < e → kyB gi b < kyB gi (num i)) → Go mdX9_numbersEnded 0 0 80 [some (vR 190), some (vI b), some (vI k)] [] g gl sh Q) :
  ∀ (n : Nat) (g : gF) (k : Int), k = n → FN gi g → g 190 = g0 → k ≤ e → (∀ i : Int, 0 ≤ i → i < k → g 210 i = num i) → (∀ i : Int, k < i → i ≤ e → g 210 i = num (i - 1)) → (∀ i : Int, k ≤ i → i < e → kyB gi b < kyB gi (num i)) → Go mdX9_numbersEnded 0 0 40 [some (vR 190), some (vI b), some (vI k)] [] g gl sh Q := by
  have hNe := hN.1
  intro n
  induction n with
  | zero =>
    intro g k h1 h2 h2b h3 h4 h5 h6
    have hk : k = 0 := h1
    subst hk
    refine g_iload_n dX9_numbersEnded_40 rfl ?_
    refine g_if_le 80 dX9_numbersEnded_41 (by decide) (fun h41 => ?_) (fun h41 => ?_)
    · skip
      exact hn g 0 h2 h2b (by omega) h4 h5 (Or.inl rfl) h6
    · exfalso; omega
  | succ n ih =>
    intro g k h1 h2 h2b h3 h4 h5 h6
    have ev := h4 (k - 1) (by omega) (by omega)
    have hni := (hN.2.1 (k - 1) (by omega) (by omega)).1
    have lb := hlw b hb.1 hb.2
    have ln := hlw (num (k - 1)) hni.1 (by omega)
    have eg : ∀ a : Int, 201 ≤ a → a ≤ 209 → g a = gi a := fun a a0 a1 => h2.1 a (by omega) (by omega)
    refine g_iload_n dX9_numbersEnded_40 rfl ?_
    refine g_if_le 80 dX9_numbersEnded_41 (by decide) (fun h41 => ?_) (fun h41 => ?_)
    · exfalso; omega
    · skip
      refine g_aload_n dX9_numbersEnded_44 rfl ?_
      refine g_iload_n dX9_numbersEnded_45 rfl ?_
      refine g_aload_n dX9_numbersEnded_46 rfl ?_
      refine g_getR 27 dX9_numbersEnded_47 flX9_68 rfl hM.o hM.r27 ?_
      refine g_iload_n dX9_numbersEnded_50 rfl ?_
      refine g_iconst dX9_numbersEnded_51 (by decide) ?_
      refine g_isub dX9_numbersEnded_52 (by omega) (by omega) ?_
      refine g_iaload dX9_numbersEnded_53 hM.k210 (by omega) (hM.b210 (by omega)) ?_
      rw [ev]
      refine g_cVi [_, _] dX9_numbersEnded_54 mlX9_189 mvX9_isAhead (by decide) hM.o (by decide) rfl rfl (Nat.le_of_ble_eq_true rfl) rfl (Nat.le_of_ble_eq_true rfl) (m_isAhead hM b (num (k - 1)) (zb (kyB gi b < kyB gi (num (k - 1)))) (by omega) (by omega) (by rw [eg 201 (by decide) (by decide), eg 202 (by decide) (by decide), eg 204 (by decide) (by decide)]; exact lb) (by rw [eg 201 (by decide) (by decide), eg 202 (by decide) (by decide), eg 204 (by decide) (by decide)]; exact ln) (by rw [eg 201 (by decide) (by decide), eg 203 (by decide) (by decide)]; exact zb_q _)) ?_
      refine g_if_eq 80 dX9_numbersEnded_57 (by decide) (fun h57 => ?_) (fun h57 => ?_)
      · skip
        have c1 := (zb_q _).no h57
        exact hn g k h2 h2b (by omega) h4 h5 (Or.inr (by have := hne (k - 1) (by omega) (by omega); omega)) h6
      · skip
        have c1 := (zb_q _).yes h57
        refine g_aload_n dX9_numbersEnded_60 rfl ?_
        refine g_getR 27 dX9_numbersEnded_61 flX9_68 rfl hM.o hM.r27 ?_
        refine g_iload_n dX9_numbersEnded_64 rfl ?_
        refine g_aload_n dX9_numbersEnded_65 rfl ?_
        refine g_getR 27 dX9_numbersEnded_66 flX9_68 rfl hM.o hM.r27 ?_
        refine g_iload_n dX9_numbersEnded_69 rfl ?_
        refine g_iconst dX9_numbersEnded_70 (by decide) ?_
        refine g_isub dX9_numbersEnded_71 (by omega) (by omega) ?_
        refine g_iaload dX9_numbersEnded_72 hM.k210 (by omega) (hM.b210 (by omega)) ?_
        rw [ev]
        refine g_iastore dX9_numbersEnded_73 hM.k210 (by omega) (hM.b210 (by omega)) ?_
        refine n_iinc (lN := [_, _, some (vI (k - 1))]) dX9_numbersEnded_74 rfl (by decide) (by omega) (by omega) rfl ?_
        refine g_goto 40 dX9_numbersEnded_77 (by decide) ?_
        refine ih _ (k - 1) (by omega) (h2.up (by omega)) (by rw [g_up_row (by decide)]; exact h2b) (by omega) (fun i i0 i1 => ?_) (fun i i0 i1 => ?_) (fun i i0 i1 => ?_)
        · rw [g_up_r, r_up_ne (by omega)]; exact h4 i i0 (by omega)
        · rw [g_up_r]
          by_cases c : i = k
          · rw [c, r_up_at]
          · rw [r_up_ne c]; exact h5 i (by omega) i1
        · by_cases c : i = k - 1
          · rw [c]; exact c1
          · exact h6 i (by omega) i1
/-- all numbered -/
def NQ (gi gl : gF) (sh : gSh) (T nb : Int) : gQ := fun r g' gl' sh' => r = none ∧ gl' = gl ∧ sh' = sh ∧ FN gi g' ∧ NS gi T nb (g' 190 16) (g' 210) ∧ g' 190 17 = p_sum (fun i => decide (¬ gi 203 (i : Int) < T - 1)) (fun i => gi 207 (i : Int)) nb.toNat
set_option maxRecDepth 20000 in
set_option maxHeartbeats 1000000 in
theorem l_ne1 (hM : isMd sh) (hT : gl 193 0 = T) (hT0 : 0 ≤ T ∧ T ≤ 60) (hlw : lwB gi nb) (hn8 : nb ≤ 48) (hnb : gi 190 15 = nb) (hinj : ∀ a b : Int, 0 ≤ a → a < b → b < nb → gi 201 a < gi 201 b) (h7 : ∀ b : Int, 0 ≤ b → b < nb → 0 ≤ gi 207 b ∧ gi 207 b ≤ 1000) :
  ∀ (n : Nat) (b : Int), b + n = nb → 0 ≤ b → ∀ (g : gF) (e oc : Int), FN gi g → g 190 16 = e → g 190 17 = oc → NS gi T b e (g 210) → oc = p_sum (fun i => decide (¬ gi 203 (i : Int) < T - 1)) (fun i => gi 207 (i : Int)) b.toNat → (0 ≤ oc ∧ oc ≤ 1000 * b) → ∀ l2 : Option gV, Go mdX9_numbersEnded 0 0 12 [some (vR 190), some (vI b), l2] [] g gl sh (NQ gi gl sh T nb) := by
  intro n
  induction n with
  | zero =>
    intro b h1 h2 g e oc hF he ho hN hs hr l2
    have hb : b = nb := by omega
    subst hb
    have e15 : g 190 15 = b := by rw [hF.2 15 (by decide) (by decide)]; exact hnb
    refine g_iload_n dX9_numbersEnded_12 rfl ?_
    refine g_aload_n dX9_numbersEnded_13 rfl ?_
    refine g_getI 15 dX9_numbersEnded_14 flX9_176 rfl hM.o ?_
    refine g_icmp_ge 121 dX9_numbersEnded_17 (by decide) (fun h17 => ?_) (fun h17 => ?_)
    · skip
      refine g_return dX9_numbersEnded_121 rfl ?_
      exact ⟨rfl, rfl, rfl, hF, by rw [he]; exact hN, by rw [ho]; exact hs⟩
    · exfalso; omega
  | succ n ih =>
    intro b h1 h2 g e oc hF he ho hN hs hr l2
    have e15 : g 190 15 = nb := by rw [hF.2 15 (by decide) (by decide)]; exact hnb
    have e203 : g 203 b = gi 203 b := by rw [hF.1 203 (by decide) (by decide)]
    have e207 : g 207 b = gi 207 b := by rw [hF.1 207 (by decide) (by decide)]
    have hNe := hN.1
    have h7b := h7 b h2 (by omega)
    have lb := hlw b h2 (by omega)
    refine g_iload_n dX9_numbersEnded_12 rfl ?_
    refine g_aload_n dX9_numbersEnded_13 rfl ?_
    refine g_getI 15 dX9_numbersEnded_14 flX9_176 rfl hM.o ?_
    refine g_icmp_ge 121 dX9_numbersEnded_17 (by decide) (fun h17 => ?_) (fun h17 => ?_)
    · exfalso; omega
    · skip
      refine g_aload_n dX9_numbersEnded_20 rfl ?_
      refine g_getR 20 dX9_numbersEnded_21 flX9_47 rfl hM.o hM.r20 ?_
      refine g_iload_n dX9_numbersEnded_24 rfl ?_
      refine g_iaload dX9_numbersEnded_25 hM.k203 (by omega) (hM.b203 (by omega)) ?_
      refine g_aload_n dX9_numbersEnded_26 rfl ?_
      refine g_cVi [] dX9_numbersEnded_27 mlX9_154 mvX9_lines (by decide) hM.o (by decide) rfl rfl (Nat.le_of_ble_eq_true rfl) rfl (Nat.le_of_ble_eq_true rfl) (m_lines hM T hT hT0) ?_
      refine g_iconst dX9_numbersEnded_30 (by decide) ?_
      refine g_isub dX9_numbersEnded_31 (by omega) (by omega) ?_
      rw [e203]
      refine g_icmp_ge 100 dX9_numbersEnded_32 (by decide) (fun h32 => ?_) (fun h32 => ?_)
      · skip
        refine g_aload_n dX9_numbersEnded_100 rfl ?_
        refine g_dup dX9_numbersEnded_101 (fun _ h9 => by cases h9) ?_
        refine g_getI 17 dX9_numbersEnded_102 flX9_186 rfl hM.o ?_
        refine g_aload_n dX9_numbersEnded_105 rfl ?_
        refine g_getR 24 dX9_numbersEnded_106 flX9_59 rfl hM.o hM.r24 ?_
        refine g_iload_n dX9_numbersEnded_109 rfl ?_
        refine g_iaload dX9_numbersEnded_110 hM.k207 (by omega) (hM.b207 (by omega)) ?_
        rw [ho, e207]
        refine g_iadd dX9_numbersEnded_111 (by omega) (by omega) ?_
        refine g_putI 17 dX9_numbersEnded_112 flX9_186 rfl hM.o ?_
        refine n_iinc (lN := [_, some (vI (b + 1)), _]) dX9_numbersEnded_115 rfl (by decide) (by omega) (by omega) rfl ?_
        refine g_goto 12 dX9_numbersEnded_118 (by decide) ?_
        refine ih (b + 1) (by omega) (by omega) _ e (oc + gi 207 b) (hF.up (by omega)) (by rw [g_up_ne (by decide)]; exact he) g_up_at ?_ ?_ (by omega) _
        · rw [g_up_row (by decide)]
          exact hN.skip (by omega) h2
        · rw [show (b + 1).toNat = b.toNat + 1 by omega, p_sum, if_pos (decide_eq_true (by rw [show ((b.toNat : Nat) : Int) = b by omega]; omega)), show ((b.toNat : Nat) : Int) = b by omega, hs]
      · skip
        refine g_aload_n dX9_numbersEnded_35 rfl ?_
        refine g_getI 16 dX9_numbersEnded_36 flX9_157 rfl hM.o ?_
        refine n_istore_n (lN := [_, _, _]) dX9_numbersEnded_39 (by decide) rfl ?_
        rw [he]
        refine l_ne2 (g0 := g 190) hM hlw hn8 b e (g 210) (by omega) hN (fun i i0 i1 w => ?_) (fun g2 k f1 f2 f3 f4 f5 f6 f7 => ?_) e.toNat g e (by omega) hF rfl (Int.le_refl _) (fun _ _ _ => rfl) (fun i i0 i1 => by omega) (fun i i0 i1 => by omega)
        · have w1 := (hN.2.1 i i0 i1).1
          have w2 := hinj _ _ w1.1 w1.2 (show b < nb by omega)
          have w3 := hlw _ w1.1 (show g 210 i < nb by omega)
          unfold kyB at w
          omega
        · have g16 : g_up g2 210 k b 190 16 = e := by rw [g_up_row (by decide), f2]; exact he
          refine g_aload_n dX9_numbersEnded_80 rfl ?_
          refine g_getR 27 dX9_numbersEnded_81 flX9_68 rfl hM.o hM.r27 ?_
          refine g_iload_n dX9_numbersEnded_84 rfl ?_
          refine g_iload_n dX9_numbersEnded_85 rfl ?_
          refine g_iastore dX9_numbersEnded_86 hM.k210 (by omega) (hM.b210 (by omega)) ?_
          refine g_aload_n dX9_numbersEnded_87 rfl ?_
          refine g_dup dX9_numbersEnded_88 (fun _ h9 => by cases h9) ?_
          refine g_getI 16 dX9_numbersEnded_89 flX9_157 rfl hM.o ?_
          rw [g16]
          refine g_iconst dX9_numbersEnded_92 (by decide) ?_
          refine g_iadd dX9_numbersEnded_93 (by omega) (by omega) ?_
          refine g_putI 16 dX9_numbersEnded_94 flX9_157 rfl hM.o ?_
          refine g_goto 115 dX9_numbersEnded_97 (by decide) ?_
          refine n_iinc (lN := [_, some (vI (b + 1)), _]) dX9_numbersEnded_115 rfl (by decide) (by omega) (by omega) rfl ?_
          refine g_goto 12 dX9_numbersEnded_118 (by decide) ?_
          refine ih (b + 1) (by omega) (by omega) _ (e + 1) oc ((f1.up (by omega)).up (by omega)) g_up_at ?_ ?_ ?_ (by omega) _
          · rw [g_up_ne (by decide), g_up_row (by decide), f2]; exact ho
          · rw [g_up_row (by decide), g_up_r]
            exact hN.ins (by omega) h2 f3 (fun i i0 i1 => by rw [r_up_ne (by omega)]; exact f4 i i0 i1) r_up_at (fun i i0 i1 => by rw [r_up_ne (by omega)]; exact f5 i i0 i1) f6 f7
          · rw [show (b + 1).toNat = b.toNat + 1 by omega, p_sum, if_neg (fun w => by have w := of_decide_eq_true w; rw [show ((b.toNat : Nat) : Int) = b by omega] at w; omega)]
            omega
set_option maxRecDepth 20000 in
set_option maxHeartbeats 1000000 in
theorem m_numbersEnded (hM : isMd sh) (hT : gl 193 0 = T) (hT0 : 0 ≤ T ∧ T ≤ 60) (hlw : lwB gi nb) (hn8 : 0 ≤ nb ∧ nb ≤ 48) (hnb : gi 190 15 = nb) (hinj : ∀ a b : Int, 0 ≤ a → a < b → b < nb → gi 201 a < gi 201 b) (h7 : ∀ b : Int, 0 ≤ b → b < nb → 0 ≤ gi 207 b ∧ gi 207 b ≤ 1000) : Ct mdX9_numbersEnded 0 0 [vR 190] gi gl sh (NQ gi gl sh T nb) := by
  show Go mdX9_numbersEnded 0 0 0 [some (vR 190), none, none] [] gi gl sh _
  refine g_aload_n dX9_numbersEnded_0 rfl ?_
  refine g_iconst dX9_numbersEnded_1 (by decide) ?_
  refine g_putI 16 dX9_numbersEnded_2 flX9_157 rfl hM.o ?_
  refine g_aload_n dX9_numbersEnded_5 rfl ?_
  refine g_iconst dX9_numbersEnded_6 (by decide) ?_
  refine g_putI 17 dX9_numbersEnded_7 flX9_186 rfl hM.o ?_
  refine g_iconst dX9_numbersEnded_10 (by decide) ?_
  refine n_istore_n (lN := [_, _, _]) dX9_numbersEnded_11 (by decide) rfl ?_
  refine l_ne1 hM hT hT0 hlw hn8.2 hnb hinj h7 nb.toNat 0 (by omega) (Int.le_refl _) _ 0 0 ((FN.rf.up (by omega)).up (by omega)) (by rw [g_up_ne (by decide), g_up_at]) g_up_at ?_ rfl (by omega) none
  exact ⟨by omega, fun i i0 i1 => by omega, fun i j i0 ij j1 => by omega, fun a a0 a1 => by omega, rfl⟩

theorem BS.skips {g : gF} {K : Int} (h0 : 0 ≤ K) : ∀ n : Nat, (∀ i : Int, 0 ≤ i → i < n → ¬ 0 < cl (K + i)) → BS cl D L K g nb → BS cl D L (K + n) g nb := by
  intro n
  induction n with
  | zero => intro _ h; simpa using h
  | succ n ih =>
    intro hz h
    have := (ih (fun i i0 i1 => hz i i0 (by omega)) h).skip (by omega) (hz n (by omega) (by omega))
    rw [show K + ((n + 1 : Nat) : Int) = K + n + 1 by omega]
    exact this
set_option maxRecDepth 20000 in
set_option maxHeartbeats 1000000 in
theorem l_lb2c (hM : isMd sh) (hW : gi 191 0 = W) (hW0 : 0 ≤ W ∧ W ≤ 16) (hT0 : 0 ≤ T ∧ T ≤ 60) (hcl : ∀ q : Int, 0 ≤ q → q < 16 * T → q % 16 < W → gi 199 q = cl q) (hz : ∀ q : Int, 0 ≤ q → q < 16 * T → W ≤ q % 16 → cl q = 0) (hnn : ∀ q, 0 ≤ cl q ∧ cl q ≤ 9) (hD : gi 191 5 = D) (hL : LB cl L (gi 200) (16 * T)) (hB : ∀ (n : Nat) (f : Int → Int), (∀ i : Int, 0 ≤ i → i < n → rtL cl L (16 * T) (f i)) → (∀ i j : Int, 0 ≤ i → i < j → j < n → f i < f j) → n ≤ 48) (t : Int) (ht : 0 ≤ t ∧ t < T) (hn : ∀ (g : gF) (nb : Int), FC gi g → BS cl D L (16 * t + W) g nb → g 190 15 = nb → Go mdX9_laysBlobs 0 0 97 [some (vR 190), some (vI t), some (vI W)] [] g gl sh Q) :
  ∀ (n : Nat) (c : Int), c + n = W → 0 ≤ c → ∀ (g : gF) (nb : Int), FC gi g → BS cl D L (16 * t + c) g nb → g 190 15 = nb → Go mdX9_laysBlobs 0 0 61 [some (vR 190), some (vI t), some (vI c)] [] g gl sh Q := by
  intro n
  induction n with
  | zero =>
    intro c h1 h2 g nb hF hS h15
    have hc : c = W := by omega
    subst hc
    have eW : g 191 0 = c := by rw [hF.1 191 (by omega)]; exact hW
    refine g_iload_n dX9_laysBlobs_61 rfl ?_
    refine g_aload_n dX9_laysBlobs_62 rfl ?_
    refine g_getR 0 dX9_laysBlobs_63 flX9_7 rfl hM.o hM.r0 ?_
    refine g_iconst dX9_laysBlobs_66 (by decide) ?_
    refine g_iaload dX9_laysBlobs_67 hM.k191 (by omega) (hM.b191 (by omega)) ?_
    refine g_icmp_ge 97 dX9_laysBlobs_68 (by decide) (fun h68 => ?_) (fun h68 => ?_)
    · skip
      exact hn g nb hF hS h15
    · exfalso; omega
  | succ n ih =>
    intro c h1 h2 g nb hF hS h15
    have eW : g 191 0 = W := by rw [hF.1 191 (by omega)]; exact hW
    have e9 : g 199 (16 * t + c) = cl (16 * t + c) := by rw [hF.1 199 (by omega)]; exact hcl _ (by omega) (by omega) (by omega)
    refine g_iload_n dX9_laysBlobs_61 rfl ?_
    refine g_aload_n dX9_laysBlobs_62 rfl ?_
    refine g_getR 0 dX9_laysBlobs_63 flX9_7 rfl hM.o hM.r0 ?_
    refine g_iconst dX9_laysBlobs_66 (by decide) ?_
    refine g_iaload dX9_laysBlobs_67 hM.k191 (by omega) (hM.b191 (by omega)) ?_
    refine g_icmp_ge 97 dX9_laysBlobs_68 (by decide) (fun h68 => ?_) (fun h68 => ?_)
    · exfalso; omega
    · skip
      refine g_aload_n dX9_laysBlobs_71 rfl ?_
      refine g_getR 13 dX9_laysBlobs_72 flX9_35 rfl hM.o hM.r13 ?_
      refine g_bipush dX9_laysBlobs_75 (by decide) (by decide) ?_
      refine g_iload_n dX9_laysBlobs_77 rfl ?_
      refine g_imul dX9_laysBlobs_78 (by omega) (by omega) ?_
      refine g_iload_n dX9_laysBlobs_79 rfl ?_
      refine g_iadd dX9_laysBlobs_80 (by omega) (by omega) ?_
      refine g_iaload dX9_laysBlobs_81 hM.k199 (by omega) (hM.b199 (by omega)) ?_
      rw [e9]
      refine g_if_le 91 dX9_laysBlobs_82 (by decide) (fun h82 => ?_) (fun h82 => ?_)
      · skip
        refine n_iinc (lN := [_, _, some (vI (c + 1))]) dX9_laysBlobs_91 rfl (by decide) (by omega) (by omega) rfl ?_
        refine g_goto 61 dX9_laysBlobs_94 (by decide) ?_
        refine ih (c + 1) (by omega) (by omega) g nb hF ?_ h15
        rw [show 16 * t + (c + 1) = 16 * t + c + 1 by omega]
        exact hS.skip (by omega) (by omega)
      · skip
        refine g_aload_n dX9_laysBlobs_85 rfl ?_
        refine g_iload_n dX9_laysBlobs_86 rfl ?_
        refine g_iload_n dX9_laysBlobs_87 rfl ?_
        refine g_callV_v [_, _] dX9_laysBlobs_88 mlX9_199 mvX9_counts (by decide) hM.o (by decide) rfl rfl (Nat.le_of_ble_eq_true rfl) rfl (Nat.le_of_ble_eq_true rfl) (m_counts (cl := cl) (L := L) (D := D) (nb := nb) (T := T) hM ht hT0.2 ⟨h2, by omega⟩ (by omega) hnn e9 (by rw [hF.1 191 (by omega)]; exact hD) (by rw [hF.1 200 (by omega)]; exact hL) hS h15 hB) (fun _ _ _ _ q => q.1) (fun g1 l1 s1 q w1 w2 => ?_)
        obtain ⟨-, q2, q3, q4, nb2, q5, q6⟩ := q
        subst q2 q3
        refine n_iinc (lN := [_, _, some (vI (c + 1))]) dX9_laysBlobs_91 rfl (by decide) (by omega) (by omega) rfl ?_
        refine g_goto 61 dX9_laysBlobs_94 (by decide) ?_
        refine ih (c + 1) (by omega) (by omega) g1 nb2 (hF.tr q4) ?_ q6
        rw [show 16 * t + (c + 1) = 16 * t + c + 1 by omega]
        exact q5
set_option maxRecDepth 20000 in
set_option maxHeartbeats 1000000 in
theorem l_lb2t (hM : isMd sh) (hW : gi 191 0 = W) (hW0 : 0 ≤ W ∧ W ≤ 16) (hT0 : 0 ≤ T ∧ T ≤ 60) (hcl : ∀ q : Int, 0 ≤ q → q < 16 * T → q % 16 < W → gi 199 q = cl q) (hz : ∀ q : Int, 0 ≤ q → q < 16 * T → W ≤ q % 16 → cl q = 0) (hnn : ∀ q, 0 ≤ cl q ∧ cl q ≤ 9) (hD : gi 191 5 = D) (hL : LB cl L (gi 200) (16 * T)) (hB : ∀ (n : Nat) (f : Int → Int), (∀ i : Int, 0 ≤ i → i < n → rtL cl L (16 * T) (f i)) → (∀ i j : Int, 0 ≤ i → i < j → j < n → f i < f j) → n ≤ 48) (hTl : gl 193 0 = T) (hn : ∀ (g : gF) (nb : Int) (l2 : Option gV), FC gi g → BS cl D L (16 * T) g nb → g 190 15 = nb → Go mdX9_laysBlobs 0 0 103 [some (vR 190), some (vI T), l2] [] g gl sh Q) :
  ∀ (n : Nat) (t : Int), t + n = T → 0 ≤ t → ∀ (g : gF) (nb : Int), FC gi g → BS cl D L (16 * t) g nb → g 190 15 = nb → ∀ l2 : Option gV, Go mdX9_laysBlobs 0 0 51 [some (vR 190), some (vI t), l2] [] g gl sh Q := by
  intro n
  induction n with
  | zero =>
    intro t h1 h2 g nb hF hS h15 l2
    have ht : t = T := by omega
    subst ht
    refine g_iload_n dX9_laysBlobs_51 rfl ?_
    refine g_aload_n dX9_laysBlobs_52 rfl ?_
    refine g_cVi [] dX9_laysBlobs_53 mlX9_154 mvX9_lines (by decide) hM.o (by decide) rfl rfl (Nat.le_of_ble_eq_true rfl) rfl (Nat.le_of_ble_eq_true rfl) (m_lines hM t hTl hT0) ?_
    refine g_icmp_ge 103 dX9_laysBlobs_56 (by decide) (fun h56 => ?_) (fun h56 => ?_)
    · skip
      exact hn g nb l2 hF hS h15
    · exfalso; omega
  | succ n ih =>
    intro t h1 h2 g nb hF hS h15 l2
    refine g_iload_n dX9_laysBlobs_51 rfl ?_
    refine g_aload_n dX9_laysBlobs_52 rfl ?_
    refine g_cVi [] dX9_laysBlobs_53 mlX9_154 mvX9_lines (by decide) hM.o (by decide) rfl rfl (Nat.le_of_ble_eq_true rfl) rfl (Nat.le_of_ble_eq_true rfl) (m_lines hM T hTl hT0) ?_
    refine g_icmp_ge 103 dX9_laysBlobs_56 (by decide) (fun h56 => ?_) (fun h56 => ?_)
    · exfalso; omega
    · skip
      refine g_iconst dX9_laysBlobs_59 (by decide) ?_
      refine n_istore_n (lN := [_, _, _]) dX9_laysBlobs_60 (by decide) rfl ?_
      refine l_lb2c (cl := cl) (L := L) hM hW hW0 hT0 hcl hz hnn hD hL hB t (by omega) (fun g9 nb9 hF9 hS9 h159 => ?_) W.toNat 0 (by omega) (by omega) g nb hF (by rw [show 16 * t + 0 = 16 * t by omega]; exact hS) h15
      refine n_iinc (lN := [_, some (vI (t + 1)), _]) dX9_laysBlobs_97 rfl (by decide) (by omega) (by omega) rfl ?_
      refine g_goto 51 dX9_laysBlobs_100 (by decide) ?_
      refine ih (t + 1) (by omega) (by omega) g9 nb9 hF9 ?_ h159 _
      have := BS.skips (cl := cl) (D := D) (L := L) (nb := nb9) (g := g9) (K := 16 * t + W) (by omega) (16 - W).toNat (fun i i0 i1 => by rw [hz (16 * t + W + i) (by omega) (by omega) (by omega)]; decide) hS9
      rw [show 16 * t + W + ((16 - W).toNat : Int) = 16 * (t + 1) by omega] at this
      exact this
/-- the ended ones, numbered, as rows of the model -/
def ME (g : gF) (er : Int → gRw) (ec : Int) : Prop := g 190 16 = ec ∧ (0 ≤ ec ∧ ec ≤ 31) ∧ (∀ i : Int, 0 ≤ i → i < ec → (0 ≤ g 210 i ∧ g 210 i < 48) ∧ bl_eq (er i) (mrow g (g 210 i))) ∧ ∀ i j : Int, 0 ≤ i → i < ec → 0 ≤ j → j < ec → g 210 i = g 210 j → i = j
/-- what laying of blobs leaves as it is -/
def FL (g g' : gF) : Prop := (∀ b : Int, b < 190 ∨ (190 < b ∧ b < 199) ∨ 210 < b → g' b = g b) ∧ ∀ k : Int, k < 15 ∨ 17 < k → g' 190 k = g 190 k
theorem NS.es {g g' : gF} (hS : BS cl D L (16 * T) g nb) (hT0 : 0 ≤ T ∧ T ≤ 60) {e : Int} (hN : NS g T nb e (g' 210)) (hF : FN g g') : ES cl D L T (fun i => mrow g' (g' 210 i)) e := by
  obtain ⟨n1, n2, n3, n4, n5⟩ := hN
  obtain ⟨s0, s1, s2, s3⟩ := hS
  have er : ∀ b : Int, mrow g' b 0 = g 202 b ∧ mrow g' b 1 = g 203 b ∧ mrow g' b 2 = g 204 b ∧ bl_eq (mrow g' b) (mrow g b) := fun b => by
    unfold bl_eq
    simp only [mrow_0, mrow_1, mrow_2, mrow_3, mrow_4, mrow_5, mrow_6, mrow_7]
    rw [hF.1 202 (by decide) (by decide), hF.1 203 (by decide) (by decide), hF.1 204 (by decide) (by decide), hF.1 205 (by decide) (by decide), hF.1 206 (by decide) (by decide), hF.1 207 (by decide) (by decide), hF.1 208 (by decide) (by decide), hF.1 209 (by decide) (by decide)]
    exact ⟨rfl, rfl, rfl, rfl, rfl, rfl, rfl, rfl, rfl, rfl, rfl⟩
  have el : ∀ b : Int, 0 ≤ b → b < nb → rlab (mrow g' b) = g 201 b := fun b b0 b1 => by
    have := (s1 b b0 b1).2.1.1
    rw [mrow_0, mrow_2] at this
    unfold rlab
    rw [(er b).1, (er b).2.2.1]
    exact this
  have hi : ∀ i : Int, 0 ≤ i → i < e → 0 ≤ g' 210 i ∧ g' 210 i < nb := fun i i0 i1 => (n2 i i0 i1).1
  refine ⟨fun i i0 i1 => ?_, fun i j i0 ij j1 => ?_, fun x hx hk => ?_⟩
  · obtain ⟨a, b⟩ := hi i i0 i1
    show isSt cl D (mm cl L (rlab (mrow g' (g' 210 i)))) (rlab (mrow g' (g' 210 i))) (16 * T).toNat (mrow g' (g' 210 i)) ∧ rtL cl L (16 * T) (rlab (mrow g' (g' 210 i))) ∧ mrow g' (g' 210 i) 1 < T - 1
    rw [el _ a b]
    exact ⟨(s1 _ a b).2.eq (er _).2.2.2, (s1 _ a b).1, by rw [(er _).2.1]; exact (n2 i i0 i1).2⟩
  · obtain ⟨a, b⟩ := hi i i0 (by omega)
    obtain ⟨a', b'⟩ := hi j (by omega) j1
    show mrow g' (g' 210 i) 1 < mrow g' (g' 210 j) 1 ∨ mrow g' (g' 210 i) 1 = mrow g' (g' 210 j) 1 ∧ rlab (mrow g' (g' 210 i)) < rlab (mrow g' (g' 210 j))
    rw [el _ a b, el _ a' b', (er _).2.1, (er _).2.1]
    have k := n3 i j i0 ij j1
    unfold kyB at k
    have r1 := (s1 _ a b).1.1
    have r2 := (s1 _ a' b').1.1
    omega
  · obtain ⟨b, hb, eb⟩ := s3 x hx
    have hl := (s1 b hb.1 hb.2).2.2.1
    rw [mrow_1, eb] at hl
    obtain ⟨i, hi1, hi2⟩ := n4 b hb.1 hb.2 (by omega)
    refine ⟨i, hi1, ?_⟩
    show rlab (mrow g' (g' 210 i)) = x
    rw [hi2, el b hb.1 hb.2, eb]

end MD8
