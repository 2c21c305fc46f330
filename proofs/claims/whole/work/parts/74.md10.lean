/-! the model judges: rules, what is wanted, rests, blown -/
def MP (g : gF) (pl kn : gRw) : Prop := g 190 1 = pl 2 ∧ (∀ k : Int, 0 ≤ k → k < 7 → g 191 k = pl (3 + k)) ∧ ∀ k : Int, 0 ≤ k → k < pl 2 → g 192 k = kn k
theorem MP.p {g : gF} {pl kn : gRw} (h : MP g pl kn) : g 191 0 = pl 3 ∧ g 191 1 = pl 4 ∧ g 191 2 = pl 5 ∧ g 191 3 = pl 6 ∧ g 191 4 = pl 7 ∧ g 191 5 = pl 8 ∧ g 191 6 = pl 9 :=
  ⟨h.2.1 0 (by decide) (by decide), h.2.1 1 (by decide) (by decide), h.2.1 2 (by decide) (by decide), h.2.1 3 (by decide) (by decide), h.2.1 4 (by decide) (by decide), h.2.1 5 (by decide) (by decide), h.2.1 6 (by decide) (by decide)⟩
theorem MP.fr {g g' : gF} {pl kn : gRw} (h : MP g pl kn) (e0 : g' 190 1 = g 190 1) (e1 : g' 191 = g 191) (e2 : g' 192 = g 192) : MP g' pl kn := by
  unfold MP
  rw [e0, e1, e2]
  exact h
/-- valve j is open at tick t -/
def On (g : gF) (j t : Int) : Prop := g 213 (96 * j + t) ≠ 0
theorem On.up {g : gF} {j t j' t' : Int} (ht : 0 ≤ t ∧ t < 96) (ht' : 0 ≤ t' ∧ t' < 96) : On (g_up g 213 (96 * j + t) 1) j' t' ↔ On g j' t' ∨ j' = j ∧ t' = t := by
  unfold On
  rw [g_up_r]
  by_cases e : 96 * j' + t' = 96 * j + t
  · rw [e, r_up_at]
    constructor
    · intro _; exact Or.inr (by omega)
    · intro _; decide
  · rw [r_up_ne e]
    constructor
    · intro w; exact Or.inl w
    · intro w
      rcases w with w | w
      · exact w
      · exfalso; omega
theorem On.eq {g g' : gF} {j t : Int} (e : g' 213 = g 213) : On g' j t ↔ On g j t := by unfold On; rw [e]
/-- a blob's row in the model, small -/
def rwB (g : gF) (b : Int) (r : gRw) : Prop := (0 ≤ b ∧ b < 48) ∧ bl_eq r (mrow g b) ∧ bl_ok r ∧ (0 ≤ r 0 ∧ r 0 < 60) ∧ (0 ≤ r 1 ∧ r 1 < 60) ∧ (0 ≤ r 3 ∧ r 3 < 16) ∧ (0 ≤ r 4 ∧ r 4 < 16) ∧ 1 ≤ r 5 ∧ r 0 ≤ r 1 ∧ r 3 ≤ r 4
theorem rwB.e {g : gF} {b : Int} {r : gRw} (h : rwB g b r) : g 202 b = r 0 ∧ g 203 b = r 1 ∧ g 205 b = r 3 ∧ g 206 b = r 4 ∧ g 207 b = r 5 ∧ g 208 b = r 6 ∧ g 209 b = r 7 := by
  obtain ⟨e0, e1, e2, e3, e4, e5, e6, e7⟩ := h.2.1
  exact ⟨e0.symm, e1.symm, e3.symm, e4.symm, e5.symm, e6.symm, e7.symm⟩
theorem rwB.fr {g g' : gF} {b : Int} {r : gRw} (h : rwB g b r) (e : ∀ a : Int, 202 ≤ a → a ≤ 209 → g' a = g a) : rwB g' b r := by
  refine ⟨h.1, ?_, h.2.2⟩
  have h2 := h.2.1
  unfold bl_eq at h2 ⊢
  simp only [mrow_0, mrow_1, mrow_2, mrow_3, mrow_4, mrow_5, mrow_6, mrow_7] at h2 ⊢
  rw [e 202 (by decide) (by decide), e 203 (by decide) (by decide), e 204 (by decide) (by decide), e 205 (by decide) (by decide), e 206 (by decide) (by decide), e 207 (by decide) (by decide), e 208 (by decide) (by decide), e 209 (by decide) (by decide)]
  exact h2
theorem v_lo_e {pl r : gRw} (hp : 0 < v_cpv pl) (h : 0 ≤ r 3) : v_lo pl r = r 3 / v_cpv pl := by
  unfold v_lo
  have := Int.ediv_nonneg h (Int.le_of_lt hp)
  omega
theorem v_hi_e {pl r : gRw} (hp : 0 < v_cpv pl) (h : 0 ≤ r 4 ∧ r 4 < 16) : v_hi pl r = r 4 / v_cpv pl := by
  unfold v_hi
  have := Int.ediv_le_self (v_cpv pl) h.1
  omega
section MD10
variable {gi gl : gF} {sh : gSh} {pl kn nu r : gRw} {b : Int} {Q : gQ}

set_option maxRecDepth 20000 in
set_option maxHeartbeats 1000000 in
theorem m_valueOf (hM : isMd sh) (hr : rwB gi b r) (kd : Int) : Ct mdX9_valueOf 0 0 [vR 190, vI b, vI kd] gi gl sh (Rt (some (vI (bl_meas r kd))) gi gl sh) := by
  show Go mdX9_valueOf 0 0 0 [some (vR 190), some (vI b), some (vI kd)] [] gi gl sh _
  obtain ⟨e0, e1, e3, e4, e5, e6, e7⟩ := hr.e
  have hb := hr.1
  have hok := hr.2.2.1
  have k0 := hok 0 (by decide) (by decide)
  have k1 := hok 1 (by decide) (by decide)
  have k6 := hok 6 (by decide) (by decide)
  have k5 := hr.2.2.2.2.2.2.2.1
  refine g_iload_n dX9_valueOf_0 rfl ?_
  refine g_if_ne 20 dX9_valueOf_1 (by decide) (fun h1 => ?_) (fun h1 => ?_)
  · skip
    refine g_iload_n dX9_valueOf_20 rfl ?_
    refine g_iconst dX9_valueOf_21 (by decide) ?_
    refine g_icmp_ne 34 dX9_valueOf_22 (by decide) (fun h22 => ?_) (fun h22 => ?_)
    · skip
      refine g_iload_n dX9_valueOf_34 rfl ?_
      refine g_iconst dX9_valueOf_35 (by decide) ?_
      refine g_icmp_ne 48 dX9_valueOf_36 (by decide) (fun h36 => ?_) (fun h36 => ?_)
      · skip
        refine g_aload_n dX9_valueOf_48 rfl ?_
        refine g_getR 20 dX9_valueOf_49 flX9_47 rfl hM.o hM.r20 ?_
        refine g_iload_n dX9_valueOf_52 rfl ?_
        refine g_iaload dX9_valueOf_53 hM.k203 (by omega) (hM.b203 (by omega)) ?_
        refine g_aload_n dX9_valueOf_54 rfl ?_
        refine g_getR 19 dX9_valueOf_55 flX9_44 rfl hM.o hM.r19 ?_
        refine g_iload_n dX9_valueOf_58 rfl ?_
        refine g_iaload dX9_valueOf_59 hM.k202 (by omega) (hM.b202 (by omega)) ?_
        refine g_isub dX9_valueOf_60 (by omega) (by omega) ?_
        refine g_iconst dX9_valueOf_61 (by decide) ?_
        refine g_iadd dX9_valueOf_62 (by omega) (by omega) ?_
        refine g_ireturn dX9_valueOf_63 rfl ?_
        exact ⟨by
          unfold bl_meas
          first
          | (rw [if_pos (by omega)]; unfold bl_mean; rw [if_pos (by omega), e5, e6]; done)
          | (rw [if_neg (by omega), if_pos (by omega), e7]; done)
          | (rw [if_neg (by omega), if_neg (by omega), if_pos (by omega), e5]; done)
          | (rw [if_neg (by omega), if_neg (by omega), if_neg (by omega), e0, e1]; done), rfl, rfl, rfl⟩
      · skip
        refine g_aload_n dX9_valueOf_39 rfl ?_
        refine g_getR 24 dX9_valueOf_40 flX9_59 rfl hM.o hM.r24 ?_
        refine g_iload_n dX9_valueOf_43 rfl ?_
        refine g_iaload dX9_valueOf_44 hM.k207 (by omega) (hM.b207 (by omega)) ?_
        refine g_goto 63 dX9_valueOf_45 (by decide) ?_
        refine g_ireturn dX9_valueOf_63 rfl ?_
        exact ⟨by
          unfold bl_meas
          first
          | (rw [if_pos (by omega)]; unfold bl_mean; rw [if_pos (by omega), e5, e6]; done)
          | (rw [if_neg (by omega), if_pos (by omega), e7]; done)
          | (rw [if_neg (by omega), if_neg (by omega), if_pos (by omega), e5]; done)
          | (rw [if_neg (by omega), if_neg (by omega), if_neg (by omega), e0, e1]; done), rfl, rfl, rfl⟩
    · skip
      refine g_aload_n dX9_valueOf_25 rfl ?_
      refine g_getR 26 dX9_valueOf_26 flX9_65 rfl hM.o hM.r26 ?_
      refine g_iload_n dX9_valueOf_29 rfl ?_
      refine g_iaload dX9_valueOf_30 hM.k209 (by omega) (hM.b209 (by omega)) ?_
      refine g_goto 63 dX9_valueOf_31 (by decide) ?_
      refine g_ireturn dX9_valueOf_63 rfl ?_
      exact ⟨by
        unfold bl_meas
        first
        | (rw [if_pos (by omega)]; unfold bl_mean; rw [if_pos (by omega), e5, e6]; done)
        | (rw [if_neg (by omega), if_pos (by omega), e7]; done)
        | (rw [if_neg (by omega), if_neg (by omega), if_pos (by omega), e5]; done)
        | (rw [if_neg (by omega), if_neg (by omega), if_neg (by omega), e0, e1]; done), rfl, rfl, rfl⟩
  · skip
    refine g_aload_n dX9_valueOf_4 rfl ?_
    refine g_getR 25 dX9_valueOf_5 flX9_62 rfl hM.o hM.r25 ?_
    refine g_iload_n dX9_valueOf_8 rfl ?_
    refine g_iaload dX9_valueOf_9 hM.k208 (by omega) (hM.b208 (by omega)) ?_
    refine g_aload_n dX9_valueOf_10 rfl ?_
    refine g_getR 24 dX9_valueOf_11 flX9_59 rfl hM.o hM.r24 ?_
    refine g_iload_n dX9_valueOf_14 rfl ?_
    refine g_iaload dX9_valueOf_15 hM.k207 (by omega) (hM.b207 (by omega)) ?_
    refine g_idiv dX9_valueOf_16 (by omega) (by omega) ?_
    refine g_goto 63 dX9_valueOf_17 (by decide) ?_
    refine g_ireturn dX9_valueOf_63 rfl ?_
    exact ⟨by
      unfold bl_meas
      first
      | (rw [if_pos (by omega)]; unfold bl_mean; rw [if_pos (by omega), e5, e6]; done)
      | (rw [if_neg (by omega), if_pos (by omega), e7]; done)
      | (rw [if_neg (by omega), if_neg (by omega), if_pos (by omega), e5]; done)
      | (rw [if_neg (by omega), if_neg (by omega), if_neg (by omega), e0, e1]; done), rfl, rfl, rfl⟩

set_option maxRecDepth 20000 in
theorem l_ro (hM : isMd sh) (hr : rwB gi b r) (hP : MP gi pl kn) (h4 : pl 2 ≤ 4) (hnu : ∀ k : Int, 0 ≤ k → k < pl 2 → gi 211 k = nu k) : ∀ (n : Nat) (k : Int), 0 ≤ k → k + n = pl 2 → Go mdX9_ruleOf 0 0 2 [some (vR 190), some (vI b), some (vI k)] [] gi gl sh (Rt (some (vI (v_rl kn nu r n k))) gi gl sh) := by
  have e1 := hP.1
  intro n
  induction n with
  | zero =>
    intro k h0 h1
    refine g_iload_n dX9_ruleOf_2 rfl ?_
    refine g_aload_n dX9_ruleOf_3 rfl ?_
    refine g_getI 1 dX9_ruleOf_4 flX9_88 rfl hM.o ?_
    refine g_icmp_ge 38 dX9_ruleOf_7 (by decide) (fun h7 => ?_) (fun h7 => ?_)
    · skip
      refine g_bipush dX9_ruleOf_38 (by decide) (by decide) ?_
      refine g_ireturn dX9_ruleOf_40 rfl ?_
      exact ⟨rfl, rfl, rfl, rfl⟩
    · exfalso; omega
  | succ n ih =>
    intro k h0 h1
    have ek := hP.2.2 k h0 (by omega)
    have en := hnu k h0 (by omega)
    refine g_iload_n dX9_ruleOf_2 rfl ?_
    refine g_aload_n dX9_ruleOf_3 rfl ?_
    refine g_getI 1 dX9_ruleOf_4 flX9_88 rfl hM.o ?_
    refine g_icmp_ge 38 dX9_ruleOf_7 (by decide) (fun h7 => ?_) (fun h7 => ?_)
    · exfalso; omega
    · skip
      refine g_aload_n dX9_ruleOf_10 rfl ?_
      refine g_iload_n dX9_ruleOf_11 rfl ?_
      refine g_aload_n dX9_ruleOf_12 rfl ?_
      refine g_getR 2 dX9_ruleOf_13 flX9_13 rfl hM.o hM.r2 ?_
      refine g_iload_n dX9_ruleOf_16 rfl ?_
      refine g_iaload dX9_ruleOf_17 hM.k192 (by omega) (hM.b192 (by omega)) ?_
      rw [ek]
      refine g_cVi [_, _] dX9_ruleOf_18 mlX9_205 mvX9_valueOf (by decide) hM.o (by decide) rfl rfl (Nat.le_of_ble_eq_true rfl) rfl (Nat.le_of_ble_eq_true rfl) (m_valueOf hM hr _) ?_
      refine g_aload_n dX9_ruleOf_21 rfl ?_
      refine g_getR 28 dX9_ruleOf_22 flX9_71 rfl hM.o hM.r28 ?_
      refine g_iload_n dX9_ruleOf_25 rfl ?_
      refine g_iaload dX9_ruleOf_26 hM.k211 (by omega) (hM.b211 (by omega)) ?_
      rw [en]
      refine g_icmp_lt 32 dX9_ruleOf_27 (by decide) (fun h27 => ?_) (fun h27 => ?_)
      · skip
        refine n_iinc (lN := [_, _, _]) dX9_ruleOf_32 rfl (by decide) (by omega) (by omega) rfl ?_
        refine g_goto 2 dX9_ruleOf_35 (by decide) ?_
        rw [v_rl, if_neg (by omega)]
        exact ih (k + 1) (by omega) (by omega)
      · skip
        refine g_iload_n dX9_ruleOf_30 rfl ?_
        refine g_ireturn dX9_ruleOf_31 rfl ?_
        exact ⟨by rw [v_rl, if_pos (by omega)], rfl, rfl, rfl⟩
theorem m_ruleOf (hM : isMd sh) (hr : rwB gi b r) (hP : MP gi pl kn) (h4 : 0 ≤ pl 2 ∧ pl 2 ≤ 4) (hnu : ∀ k : Int, 0 ≤ k → k < pl 2 → gi 211 k = nu k) : Ct mdX9_ruleOf 0 0 [vR 190, vI b] gi gl sh (Rt (some (vI (v_rule pl kn nu r))) gi gl sh) := by
  show Go mdX9_ruleOf 0 0 0 [some (vR 190), some (vI b), none] [] gi gl sh _
  refine g_iconst dX9_ruleOf_0 (by decide) ?_
  refine n_istore_n (lN := [_, _, _]) dX9_ruleOf_1 (by decide) rfl ?_
  exact l_ro hM hr hP h4.2 hnu (pl 2).toNat 0 (by omega) (by omega)
set_option maxRecDepth 20000 in
set_option maxHeartbeats 1000000 in
theorem m_perValve (hM : isMd sh) (hP : MP gi pl kn) (hpo : v_pok pl) : Ct mdX9_perValve 0 0 [vR 190] gi gl sh (Rt (some (vI (v_cpv pl))) gi gl sh) := by
  show Go mdX9_perValve 0 0 0 [some (vR 190)] [] gi gl sh _
  obtain ⟨p0, p1, p2, p3, p4, p5, p6⟩ := hP.p
  have q1 := hpo.1
  refine g_aload_n dX9_perValve_0 rfl ?_
  refine g_getR 0 dX9_perValve_1 flX9_7 rfl hM.o hM.r0 ?_
  refine g_iconst dX9_perValve_4 (by decide) ?_
  refine g_iaload dX9_perValve_5 hM.k191 (by omega) (hM.b191 (by omega)) ?_
  refine g_aload_n dX9_perValve_6 rfl ?_
  refine g_getR 0 dX9_perValve_7 flX9_7 rfl hM.o hM.r0 ?_
  refine g_iconst dX9_perValve_10 (by decide) ?_
  refine g_iaload dX9_perValve_11 hM.k191 (by omega) (hM.b191 (by omega)) ?_
  refine g_idiv dX9_perValve_12 (by omega) (by omega) ?_
  refine g_ireturn dX9_perValve_13 rfl ?_
  exact ⟨by rw [p0, p1]; rfl, rfl, rfl, rfl⟩

set_option maxRecDepth 20000 in
set_option maxHeartbeats 1000000 in
theorem m_wanted (hM : isMd sh) (hr : rwB gi b r) (hP : MP gi pl kn) (hpo : v_pok pl) : Ct mdX9_wanted 0 0 [vR 190, vI b] gi gl sh (Rt (some (vI (r 0 + pl 5 - pl 6))) gi gl sh) := by
  show Go mdX9_wanted 0 0 0 [some (vR 190), some (vI b)] [] gi gl sh _
  obtain ⟨e0, e1, e3, e4, e5, e6, e7⟩ := hr.e
  obtain ⟨p0, p1, p2, p3, p4, p5, p6⟩ := hP.p
  have hb := hr.1
  have q5 := hpo.2.1
  have q6 := hpo.2.2.1
  have k0 := hr.2.2.2.1
  refine g_aload_n dX9_wanted_0 rfl ?_
  refine g_getR 19 dX9_wanted_1 flX9_44 rfl hM.o hM.r19 ?_
  refine g_iload_n dX9_wanted_4 rfl ?_
  refine g_iaload dX9_wanted_5 hM.k202 (by omega) (hM.b202 (by omega)) ?_
  refine g_aload_n dX9_wanted_6 rfl ?_
  refine g_getR 0 dX9_wanted_7 flX9_7 rfl hM.o hM.r0 ?_
  refine g_iconst dX9_wanted_10 (by decide) ?_
  refine g_iaload dX9_wanted_11 hM.k191 (by omega) (hM.b191 (by omega)) ?_
  refine g_iadd dX9_wanted_12 (by omega) (by omega) ?_
  refine g_aload_n dX9_wanted_13 rfl ?_
  refine g_getR 0 dX9_wanted_14 flX9_7 rfl hM.o hM.r0 ?_
  refine g_iconst dX9_wanted_17 (by decide) ?_
  refine g_iaload dX9_wanted_18 hM.k191 (by omega) (hM.b191 (by omega)) ?_
  refine g_isub dX9_wanted_19 (by omega) (by omega) ?_
  refine g_ireturn dX9_wanted_20 rfl ?_
  exact ⟨by rw [e0, p2, p3], rfl, rfl, rfl⟩

/-- only what is open has changed -/
def FO (g g' : gF) : Prop := ∀ b : Int, b ≠ 213 → g' b = g b
theorem FO.rf {g : gF} : FO g g := fun _ _ => rfl
theorem FO.up {g g' : gF} {i v : Int} (h : FO g g') : FO g (g_up g' 213 i v) := fun b hb => by rw [g_up_row hb]; exact h b hb
set_option maxRecDepth 20000 in
set_option maxHeartbeats 1000000 in
theorem l_wt2 (hM : isMd sh) (hr : rwB gi b r) (hP : MP gi pl kn) (hpo : v_pok pl) (h90 : pl 5 ≤ 20 ∧ pl 7 ≤ 5) (en fr j : Int) (hj : 0 ≤ j ∧ j < 16) (hfr : 0 ≤ fr) (P : Int → Int → Prop) (hn : ∀ (g : gF) (t : Int), FO gi g → (∀ i s : Int, 0 ≤ i → i < 16 → 0 ≤ s → s < 96 → (On g i s ↔ P i s ∨ i = j ∧ fr ≤ s ∧ s ≤ v_to pl r)) → Go mdX9_wants 0 0 105 [some (vR 190), some (vI b), some (vI en), some (vI fr), some (vI j), some (vI t)] [] g gl sh Q) :
  ∀ (n : Nat) (t : Int), n = (v_to pl r - t + 1).toNat → fr ≤ t → ∀ g : gF, FO gi g → (∀ i s : Int, 0 ≤ i → i < 16 → 0 ≤ s → s < 96 → (On g i s ↔ P i s ∨ i = j ∧ fr ≤ s ∧ s < t ∧ s ≤ v_to pl r)) → Go mdX9_wants 0 0 60 [some (vR 190), some (vI b), some (vI en), some (vI fr), some (vI j), some (vI t)] [] g gl sh Q := by
  obtain ⟨e0, e1, e3, e4, e5, e6, e7⟩ := hr.e
  obtain ⟨p0, p1, p2, p3, p4, p5, p6⟩ := hP.p
  have hb := hr.1
  have k1 := hr.2.2.2.2.1
  have q5 := hpo.2.1
  have q7 := hpo.2.2.2.1
  have hto : v_to pl r = r 1 + pl 5 + pl 7 := rfl
  intro n
  induction n with
  | zero =>
    intro t h1 h2 g hg hO
    have g1 : g 203 b = r 1 := by rw [hg 203 (by decide)]; exact e1
    have g2 : g 191 2 = pl 5 := by rw [hg 191 (by decide)]; exact p2
    have g4 : g 191 4 = pl 7 := by rw [hg 191 (by decide)]; exact p4
    refine g_iload dX9_wants_60 rfl ?_
    refine g_aload_n dX9_wants_62 rfl ?_
    refine g_getR 20 dX9_wants_63 flX9_47 rfl hM.o hM.r20 ?_
    refine g_iload_n dX9_wants_66 rfl ?_
    refine g_iaload dX9_wants_67 hM.k203 (by omega) (hM.b203 (by omega)) ?_
    refine g_aload_n dX9_wants_68 rfl ?_
    refine g_getR 0 dX9_wants_69 flX9_7 rfl hM.o hM.r0 ?_
    refine g_iconst dX9_wants_72 (by decide) ?_
    refine g_iaload dX9_wants_73 hM.k191 (by omega) (hM.b191 (by omega)) ?_
    refine g_iadd dX9_wants_74 (by omega) (by omega) ?_
    refine g_aload_n dX9_wants_75 rfl ?_
    refine g_getR 0 dX9_wants_76 flX9_7 rfl hM.o hM.r0 ?_
    refine g_iconst dX9_wants_79 (by decide) ?_
    refine g_iaload dX9_wants_80 hM.k191 (by omega) (hM.b191 (by omega)) ?_
    refine g_iadd dX9_wants_81 (by omega) (by omega) ?_
    refine g_icmp_gt 105 dX9_wants_82 (by decide) (fun h82 => ?_) (fun h82 => ?_)
    · skip
      refine hn g t hg (fun i s i0 i1 s0 s1 => ?_)
      rw [hO i s i0 i1 s0 s1]
      constructor
      · intro w; rcases w with w | w
        · exact Or.inl w
        · exact Or.inr (by omega)
      · intro w; rcases w with w | w
        · exact Or.inl w
        · exact Or.inr (by omega)
    · exfalso; omega
  | succ n ih =>
    intro t h1 h2 g hg hO
    have g1 : g 203 b = r 1 := by rw [hg 203 (by decide)]; exact e1
    have g2 : g 191 2 = pl 5 := by rw [hg 191 (by decide)]; exact p2
    have g4 : g 191 4 = pl 7 := by rw [hg 191 (by decide)]; exact p4
    refine g_iload dX9_wants_60 rfl ?_
    refine g_aload_n dX9_wants_62 rfl ?_
    refine g_getR 20 dX9_wants_63 flX9_47 rfl hM.o hM.r20 ?_
    refine g_iload_n dX9_wants_66 rfl ?_
    refine g_iaload dX9_wants_67 hM.k203 (by omega) (hM.b203 (by omega)) ?_
    refine g_aload_n dX9_wants_68 rfl ?_
    refine g_getR 0 dX9_wants_69 flX9_7 rfl hM.o hM.r0 ?_
    refine g_iconst dX9_wants_72 (by decide) ?_
    refine g_iaload dX9_wants_73 hM.k191 (by omega) (hM.b191 (by omega)) ?_
    refine g_iadd dX9_wants_74 (by omega) (by omega) ?_
    refine g_aload_n dX9_wants_75 rfl ?_
    refine g_getR 0 dX9_wants_76 flX9_7 rfl hM.o hM.r0 ?_
    refine g_iconst dX9_wants_79 (by decide) ?_
    refine g_iaload dX9_wants_80 hM.k191 (by omega) (hM.b191 (by omega)) ?_
    refine g_iadd dX9_wants_81 (by omega) (by omega) ?_
    refine g_icmp_gt 105 dX9_wants_82 (by decide) (fun h82 => ?_) (fun h82 => ?_)
    · exfalso; omega
    · skip
      refine g_aload_n dX9_wants_85 rfl ?_
      refine g_getR 30 dX9_wants_86 flX9_77 rfl hM.o hM.r30 ?_
      refine g_bipush dX9_wants_89 (by decide) (by decide) ?_
      refine g_iload dX9_wants_91 rfl ?_
      refine g_imul dX9_wants_93 (by omega) (by omega) ?_
      refine g_iload dX9_wants_94 rfl ?_
      refine g_iadd dX9_wants_96 (by omega) (by omega) ?_
      refine g_iconst dX9_wants_97 (by decide) ?_
      refine g_bastore dX9_wants_98 hM.k213 (by omega) (hM.b213 (by omega)) (by decide) ?_
      refine n_iinc (lN := [_, _, _, _, _, some (vI (t + 1))]) dX9_wants_99 rfl (by decide) (by omega) (by omega) rfl ?_
      refine g_goto 60 dX9_wants_102 (by decide) ?_
      refine ih (t + 1) (by omega) (by omega) _ hg.up (fun i s i0 i1 s0 s1 => ?_)
      rw [On.up (by omega) ⟨s0, s1⟩, hO i s i0 i1 s0 s1]
      constructor
      · intro w; rcases w with (w | w) | w
        · exact Or.inl w
        · exact Or.inr (by omega)
        · exact Or.inr (by omega)
      · intro w; rcases w with w | w
        · exact Or.inl (Or.inl w)
        · by_cases c : s = t
          · exact Or.inr (by omega)
          · exact Or.inl (Or.inr (by omega))
set_option maxRecDepth 20000 in
set_option maxHeartbeats 1000000 in
theorem l_wt1 (hM : isMd sh) (hr : rwB gi b r) (hP : MP gi pl kn) (hpo : v_pok pl) (h90 : pl 5 ≤ 20 ∧ pl 7 ≤ 5) (en fr lo : Int) (hfr : 0 ≤ fr) (hlo : 0 ≤ lo) (hhi : r 4 / v_cpv pl < 16) :
  ∀ (n : Nat) (j : Int), n = (r 4 / v_cpv pl - j + 1).toNat → lo ≤ j → ∀ g : gF, FO gi g → (∀ i s : Int, 0 ≤ i → i < 16 → 0 ≤ s → s < 96 → (On g i s ↔ On gi i s ∨ (lo ≤ i ∧ i < j ∧ i ≤ r 4 / v_cpv pl) ∧ fr ≤ s ∧ s ≤ v_to pl r)) → ∀ l5 : Option gV, Go mdX9_wants 0 0 41 [some (vR 190), some (vI b), some (vI en), some (vI fr), some (vI j), l5] [] g gl sh (fun x g' gl' sh' => x = none ∧ gl' = gl ∧ sh' = sh ∧ FO gi g' ∧ ∀ i s : Int, 0 ≤ i → i < 16 → 0 ≤ s → s < 96 → (On g' i s ↔ On gi i s ∨ (lo ≤ i ∧ i ≤ r 4 / v_cpv pl) ∧ fr ≤ s ∧ s ≤ v_to pl r)) := by
  obtain ⟨e0, e1, e3, e4, e5, e6, e7⟩ := hr.e
  have hb := hr.1
  have k4 := hr.2.2.2.2.2.2.1
  have hcp := hpo.1.2.2
  intro n
  induction n with
  | zero =>
    intro j h1 h2 g hg hO l5
    have g4 : g 206 b = r 4 := by rw [hg 206 (by decide)]; exact e4
    refine g_iload dX9_wants_41 rfl ?_
    refine g_aload_n dX9_wants_43 rfl ?_
    refine g_getR 23 dX9_wants_44 flX9_56 rfl hM.o hM.r23 ?_
    refine g_iload_n dX9_wants_47 rfl ?_
    refine g_iaload dX9_wants_48 hM.k206 (by omega) (hM.b206 (by omega)) ?_
    refine g_aload_n dX9_wants_49 rfl ?_
    refine g_cVi [] dX9_wants_50 mlX9_211 mvX9_perValve (by decide) hM.o (by decide) rfl rfl (Nat.le_of_ble_eq_true rfl) rfl (Nat.le_of_ble_eq_true rfl) (m_perValve hM (hP.fr (by rw [hg 190 (by decide)]) (hg 191 (by decide)) (hg 192 (by decide))) hpo) ?_
    rw [g4]
    refine g_idiv dX9_wants_53 (by omega) (by omega) ?_
    refine g_icmp_gt 111 dX9_wants_54 (by decide) (fun h54 => ?_) (fun h54 => ?_)
    · skip
      refine g_return dX9_wants_111 rfl ?_
      refine ⟨rfl, rfl, rfl, hg, fun i s i0 i1 s0 s1 => ?_⟩
      rw [hO i s i0 i1 s0 s1]
      constructor
      · intro w; rcases w with w | w
        · exact Or.inl w
        · exact Or.inr (by omega)
      · intro w; rcases w with w | w
        · exact Or.inl w
        · exact Or.inr (by omega)
    · exfalso; omega
  | succ n ih =>
    intro j h1 h2 g hg hO l5
    have g4 : g 206 b = r 4 := by rw [hg 206 (by decide)]; exact e4
    refine g_iload dX9_wants_41 rfl ?_
    refine g_aload_n dX9_wants_43 rfl ?_
    refine g_getR 23 dX9_wants_44 flX9_56 rfl hM.o hM.r23 ?_
    refine g_iload_n dX9_wants_47 rfl ?_
    refine g_iaload dX9_wants_48 hM.k206 (by omega) (hM.b206 (by omega)) ?_
    refine g_aload_n dX9_wants_49 rfl ?_
    refine g_cVi [] dX9_wants_50 mlX9_211 mvX9_perValve (by decide) hM.o (by decide) rfl rfl (Nat.le_of_ble_eq_true rfl) rfl (Nat.le_of_ble_eq_true rfl) (m_perValve hM (hP.fr (by rw [hg 190 (by decide)]) (hg 191 (by decide)) (hg 192 (by decide))) hpo) ?_
    rw [g4]
    refine g_idiv dX9_wants_53 (by omega) (by omega) ?_
    refine g_icmp_gt 111 dX9_wants_54 (by decide) (fun h54 => ?_) (fun h54 => ?_)
    · exfalso; omega
    · skip
      refine g_iload_n dX9_wants_57 rfl ?_
      refine n_istore (lN := [_, _, _, _, _, _]) dX9_wants_58 (by decide) rfl ?_
      refine l_wt2 (gi := g) (r := r) (pl := pl) (kn := kn) hM (hr.fr (fun a a0 a1 => hg a (by omega))) (hP.fr (by rw [hg 190 (by decide)]) (hg 191 (by decide)) (hg 192 (by decide))) hpo h90 en fr j (by omega) hfr (On g) (fun g9 t9 hg9 hO9 => ?_) (v_to pl r - fr + 1).toNat fr rfl (Int.le_refl _) g FO.rf (fun i s i0 i1 s0 s1 => ⟨fun w => Or.inl w, fun w => w.elim id (fun w => by omega)⟩)
      refine n_iinc (lN := [_, _, _, _, some (vI (j + 1)), _]) dX9_wants_105 rfl (by decide) (by omega) (by omega) rfl ?_
      refine g_goto 41 dX9_wants_108 (by decide) ?_
      refine ih (j + 1) (by omega) (by omega) g9 (fun b hb => by rw [hg9 b hb]; exact hg b hb) (fun i s i0 i1 s0 s1 => ?_) _
      rw [hO9 i s i0 i1 s0 s1, hO i s i0 i1 s0 s1]
      constructor
      · intro w; rcases w with (w | w) | w
        · exact Or.inl w
        · exact Or.inr (by omega)
        · exact Or.inr (by omega)
      · intro w; rcases w with w | w
        · exact Or.inl (Or.inl w)
        · by_cases c : i = j
          · exact Or.inr (by omega)
          · exact Or.inl (Or.inr (by omega))
set_option maxRecDepth 20000 in
set_option maxHeartbeats 2000000 in
theorem m_wants (hM : isMd sh) (hr : rwB gi b r) (hP : MP gi pl kn) (hpo : v_pok pl) (h90 : pl 5 ≤ 20 ∧ pl 7 ≤ 5) : Ct mdX9_wants 0 0 [vR 190, vI b] gi gl sh (fun x g' gl' sh' => x = none ∧ gl' = gl ∧ sh' = sh ∧ FO gi g' ∧ ∀ i s : Int, 0 ≤ i → i < 16 → 0 ≤ s → s < 96 → (On g' i s ↔ On gi i s ∨ (v_lo pl r ≤ i ∧ i ≤ v_hi pl r) ∧ v_fr pl r ≤ s ∧ s ≤ v_to pl r)) := by
  show Go mdX9_wants 0 0 0 [some (vR 190), some (vI b), none, none, none, none] [] gi gl sh _
  obtain ⟨e0, e1, e3, e4, e5, e6, e7⟩ := hr.e
  have hb := hr.1
  have k0 := hr.2.2.2.1
  have k1 := hr.2.2.2.2.1
  have k3 := hr.2.2.2.2.2.1
  have k4 := hr.2.2.2.2.2.2.1
  have hcp := hpo.1.2.2
  have q5 := hpo.2.1
  have q6 := hpo.2.2.1
  have hl := v_lo_e (r := r) hcp k3.1
  have hh := v_hi_e (r := r) hcp k4
  have hf : v_fr pl r = max (r 0 + pl 5 - pl 6) (r 1 + 1) := rfl
  have d4 := Int.ediv_le_self (v_cpv pl) k4.1
  have d3 := Int.ediv_nonneg k3.1 (Int.le_of_lt hcp)
  refine g_aload_n dX9_wants_0 rfl ?_
  refine g_getR 20 dX9_wants_1 flX9_47 rfl hM.o hM.r20 ?_
  refine g_iload_n dX9_wants_4 rfl ?_
  refine g_iaload dX9_wants_5 hM.k203 (by omega) (hM.b203 (by omega)) ?_
  refine g_iconst dX9_wants_6 (by decide) ?_
  refine g_iadd dX9_wants_7 (by omega) (by omega) ?_
  rw [e1]
  refine n_istore_n (lN := [_, _, _, _, _, _]) dX9_wants_8 (by decide) rfl ?_
  refine g_aload_n dX9_wants_9 rfl ?_
  refine g_iload_n dX9_wants_10 rfl ?_
  refine g_cVi [_] dX9_wants_11 mlX9_208 mvX9_wanted (by decide) hM.o (by decide) rfl rfl (Nat.le_of_ble_eq_true rfl) rfl (Nat.le_of_ble_eq_true rfl) (m_wanted hM hr hP hpo) ?_
  refine g_iload_n dX9_wants_14 rfl ?_
  refine g_icmp_ge 22 dX9_wants_15 (by decide) (fun h15 => ?_) (fun h15 => ?_)
  · skip
    refine g_aload_n dX9_wants_22 rfl ?_
    refine g_iload_n dX9_wants_23 rfl ?_
    refine g_cVi [_] dX9_wants_24 mlX9_208 mvX9_wanted (by decide) hM.o (by decide) rfl rfl (Nat.le_of_ble_eq_true rfl) rfl (Nat.le_of_ble_eq_true rfl) (m_wanted hM hr hP hpo) ?_
    refine n_istore_n (lN := [_, _, _, _, _, _]) dX9_wants_27 (by decide) rfl ?_
    refine g_aload_n dX9_wants_28 rfl ?_
    refine g_getR 22 dX9_wants_29 flX9_53 rfl hM.o hM.r22 ?_
    refine g_iload_n dX9_wants_32 rfl ?_
    refine g_iaload dX9_wants_33 hM.k205 (by omega) (hM.b205 (by omega)) ?_
    refine g_aload_n dX9_wants_34 rfl ?_
    refine g_cVi [] dX9_wants_35 mlX9_211 mvX9_perValve (by decide) hM.o (by decide) rfl rfl (Nat.le_of_ble_eq_true rfl) rfl (Nat.le_of_ble_eq_true rfl) (m_perValve hM hP hpo) ?_
    rw [e3]
    refine g_idiv dX9_wants_38 (by omega) (by omega) ?_
    refine n_istore (lN := [_, _, _, _, _, _]) dX9_wants_39 (by decide) rfl ?_
    rw [show (r 0 + pl 5 - pl 6) = v_fr pl r by omega]
    have key := l_wt1 (gl := gl) hM hr hP hpo h90 (r 1 + 1) (v_fr pl r) (r 3 / v_cpv pl) (by omega) d3 (by omega) (r 4 / v_cpv pl - r 3 / v_cpv pl + 1).toNat (r 3 / v_cpv pl) rfl (Int.le_refl _) gi FO.rf (fun i s i0 i1 s0 s1 => ⟨fun w => Or.inl w, fun w => w.elim id (fun w => by omega)⟩) none
    rw [hl, hh]
    exact key
  · skip
    refine g_iload_n dX9_wants_18 rfl ?_
    refine g_goto 27 dX9_wants_19 (by decide) ?_
    refine n_istore_n (lN := [_, _, _, _, _, _]) dX9_wants_27 (by decide) rfl ?_
    refine g_aload_n dX9_wants_28 rfl ?_
    refine g_getR 22 dX9_wants_29 flX9_53 rfl hM.o hM.r22 ?_
    refine g_iload_n dX9_wants_32 rfl ?_
    refine g_iaload dX9_wants_33 hM.k205 (by omega) (hM.b205 (by omega)) ?_
    refine g_aload_n dX9_wants_34 rfl ?_
    refine g_cVi [] dX9_wants_35 mlX9_211 mvX9_perValve (by decide) hM.o (by decide) rfl rfl (Nat.le_of_ble_eq_true rfl) rfl (Nat.le_of_ble_eq_true rfl) (m_perValve hM hP hpo) ?_
    rw [e3]
    refine g_idiv dX9_wants_38 (by omega) (by omega) ?_
    refine n_istore (lN := [_, _, _, _, _, _]) dX9_wants_39 (by decide) rfl ?_
    have key := l_wt1 (gl := gl) hM hr hP hpo h90 (r 1 + 1) (v_fr pl r) (r 3 / v_cpv pl) (by omega) d3 (by omega) (r 4 / v_cpv pl - r 3 / v_cpv pl + 1).toNat (r 3 / v_cpv pl) rfl (Int.le_refl _) gi FO.rf (fun i s i0 i1 s0 s1 => ⟨fun w => Or.inl w, fun w => w.elim id (fun w => by omega)⟩) none
    rw [hl, hh]
    rw [show v_fr pl r = r 1 + 1 by omega] at key ⊢
    exact key

end MD10
