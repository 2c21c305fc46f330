/-! Verdict at v: badBy v+1, blown v+2, valves v+3, valve j at v+4+3j -/
def isVerd (sh : gSh) (v : Int) : Prop := sh.2.1 v = 7 ∧ sh.1 v 0 = some (v + 1) ∧ sh.1 v 1 = some (v + 2) ∧ sh.1 v 2 = some (v + 3) ∧ sh.2.1 (v + 1) = 11 ∧ (sh.2.2.1 (v + 1) : Int) = 31 ∧ sh.2.1 (v + 2) = 13 ∧ (sh.2.2.1 (v + 2) : Int) = 31 ∧ sh.2.1 (v + 3) = 16 ∧ (sh.2.2.1 (v + 3) : Int) = 16 ∧
  ∀ j : Int, 0 ≤ j → j < 16 → sh.1 (v + 3) j = some (v + 4 + 3 * j) ∧ isValve sh (v + 4 + 3 * j)
abbrev vV : Type := (Int → Int) × (Int → gRw) × (Int → gRw)
def vmem (gi : gF) (v : Int) (bb bw : gRw) (V : vV) : gF := fun b => if b = v + 1 then bb else if b = v + 2 then bw else if v + 4 ≤ b ∧ b < v + 52 then (if (b - (v + 4)) % 3 = 0 then r_up (gi b) 2 (V.1 ((b - (v + 4)) / 3)) else if (b - (v + 4)) % 3 = 1 then V.2.1 ((b - (v + 4)) / 3) else V.2.2 ((b - (v + 4)) / 3)) else gi b
section VMEM
variable {gi : gF} {v : Int} {bb bw : gRw} {V : vV} {j : Int}
theorem vm_b : vmem gi v bb bw V (v + 1) = bb := by unfold vmem; rw [if_pos rfl]
theorem vm_w : vmem gi v bb bw V (v + 2) = bw := by unfold vmem; rw [if_neg (by omega), if_pos rfl]
theorem vm_o (h0 : 0 ≤ j) (h1 : j < 16) : vmem gi v bb bw V (v + 4 + 3 * j) = r_up (gi (v + 4 + 3 * j)) 2 (V.1 j) := by
  unfold vmem; rw [if_neg (by omega), if_neg (by omega), if_pos (by omega), if_pos (by omega), show (v + 4 + 3 * j - (v + 4)) / 3 = j by omega]
theorem vm_f (h0 : 0 ≤ j) (h1 : j < 16) : vmem gi v bb bw V (v + 4 + 3 * j + 1) = V.2.1 j := by
  unfold vmem; rw [if_neg (by omega), if_neg (by omega), if_pos (by omega), if_neg (by omega), if_pos (by omega), show (v + 4 + 3 * j + 1 - (v + 4)) / 3 = j by omega]
theorem vm_l (h0 : 0 ≤ j) (h1 : j < 16) : vmem gi v bb bw V (v + 4 + 3 * j + 2) = V.2.2 j := by
  unfold vmem; rw [if_neg (by omega), if_neg (by omega), if_pos (by omega), if_neg (by omega), if_neg (by omega), show (v + 4 + 3 * j + 2 - (v + 4)) / 3 = j by omega]
theorem vm_x {b : Int} (h : b ≤ v ∨ b = v + 3 ∨ v + 52 ≤ b) : vmem gi v bb bw V b = gi b := by
  unfold vmem; rw [if_neg (by omega), if_neg (by omega), if_neg (by omega)]
theorem vm_rb {r : gRw} : g_row (vmem gi v bb bw V) (v + 1) r = vmem gi v r bw V := by
  funext b
  by_cases hb : b = v + 1
  · subst hb; rw [g_row_at, vm_b]
  · rw [g_row_ne hb]; unfold vmem; simp only [hb, if_false]
theorem vm_rw {r : gRw} : g_row (vmem gi v bb bw V) (v + 2) r = vmem gi v bb r V := by
  funext b
  by_cases hb : b = v + 2
  · subst hb; rw [g_row_at, vm_w]
  · rw [g_row_ne hb]; unfold vmem; simp only [hb, if_false]
theorem vm_ro {x : Int} (h0 : 0 ≤ j) (h1 : j < 16) : g_up (vmem gi v bb bw V) (v + 4 + 3 * j) 2 x = vmem gi v bb bw (g_row V.1 j x, V.2) := by
  rw [g_up_as_row]
  funext b
  by_cases hb : b = v + 4 + 3 * j
  · subst hb
    rw [g_row_at, vm_o h0 h1, vm_o h0 h1]
    funext k
    dsimp only
    rw [g_row_at]
    simp only [r_up]
    split <;> rfl
  · rw [g_row_ne hb]; unfold vmem
    split
    · rfl
    · split
      · rfl
      · split
        · split
          · dsimp only; rw [g_row_ne (by omega)]
          · rfl
        · rfl
theorem vm_rf {r : gRw} (h0 : 0 ≤ j) (h1 : j < 16) : g_row (vmem gi v bb bw V) (v + 4 + 3 * j + 1) r = vmem gi v bb bw (V.1, g_row V.2.1 j r, V.2.2) := by
  funext b
  by_cases hb : b = v + 4 + 3 * j + 1
  · subst hb; rw [g_row_at, vm_f h0 h1]; dsimp only; rw [g_row_at]
  · rw [g_row_ne hb]; unfold vmem
    split
    · rfl
    · split
      · rfl
      · split
        · split
          · rfl
          · split
            · dsimp only; rw [g_row_ne (by omega)]
            · rfl
        · rfl
theorem vm_rl {r : gRw} (h0 : 0 ≤ j) (h1 : j < 16) : g_row (vmem gi v bb bw V) (v + 4 + 3 * j + 2) r = vmem gi v bb bw (V.1, V.2.1, g_row V.2.2 j r) := by
  funext b
  by_cases hb : b = v + 4 + 3 * j + 2
  · subst hb; rw [g_row_at, vm_l h0 h1]; dsimp only; rw [g_row_at]
  · rw [g_row_ne hb]; unfold vmem
    split
    · rfl
    · split
      · rfl
      · split
        · split
          · rfl
          · split
            · rfl
            · dsimp only; rw [g_row_ne (by omega)]
        · rfl
end VMEM
def v_want (V : vV) (j fr to r : Int) : vV := (g_row V.1 j (((vl_w (V.2.1 j) (V.2.2 j) r (V.1 j).toNat fr).1 : Int) + 1), g_row V.2.1 j (r_up (V.2.1 j) ((vl_w (V.2.1 j) (V.2.2 j) r (V.1 j).toNat fr).1 : Int) (vl_w (V.2.1 j) (V.2.2 j) r (V.1 j).toNat fr).2), g_row V.2.2 j (r_up (V.2.2 j) ((vl_w (V.2.1 j) (V.2.2 j) r (V.1 j).toNat fr).1 : Int) to))
def v_wants (fr to r : Int) : Nat → Int → vV → vV
  | 0, _, V => V
  | n + 1, j, V => v_wants fr to r n (j + 1) (v_want V j fr to r)
def v_cpv (pl : gRw) : Int := pl 3 / pl 4
def v_lo (pl b : gRw) : Int := max (b 3 / v_cpv pl) 0
def v_hi (pl b : gRw) : Int := min (b 4 / v_cpv pl) 15
def v_fr (pl b : gRw) : Int := max (b 0 + pl 5 - pl 6) (b 1 + 1)
def v_to (pl b : gRw) : Int := b 1 + pl 5 + pl 7
def v_open (V : vV) (pl b : gRw) : vV := if v_to pl b < b 1 + 1 then V else v_wants (v_fr pl b) (v_to pl b) (pl 9) (v_hi pl b - v_lo pl b + 1).toNat (v_lo pl b) V
def v_rl (kn nu r : gRw) : Nat → Int → Int
  | 0, _ => -4
  | n + 1, k => if nu k ≤ bl_meas r (kn k) then k else v_rl kn nu r n (k + 1)
/-- the openings' numbers are small, and no valve j has more of them than B j -/
def v_ok (V : vV) (B : Int → Int) : Prop := ∀ j : Int, 0 ≤ j → j < 16 → (0 ≤ V.1 j ∧ V.1 j ≤ B j) ∧ ∀ k : Int, 0 ≤ k → k < V.1 j → (-1000 ≤ V.2.1 j k ∧ V.2.1 j k ≤ 1000) ∧ (-1000 ≤ V.2.2 j k ∧ V.2.2 j k ≤ 1000)
theorem vl_w_b {fs ls : gRw} {r : Int} : ∀ (n : Nat) (f : Int), (∀ k : Int, 0 ≤ k → k < n → -1000 ≤ fs k ∧ fs k ≤ 1000) → -1000 ≤ f ∧ f ≤ 1000 → -1000 ≤ (vl_w fs ls r n f).2 ∧ (vl_w fs ls r n f).2 ≤ 1000 := by
  intro n
  induction n with
  | zero => intro f _ h; exact h
  | succ n ih =>
    intro f h h2
    unfold vl_w
    split
    · refine ih _ (fun k h0 h1 => h k h0 (by omega)) ?_
      have := h n (by omega) (by omega)
      omega
    · exact h2
theorem v_want_ok {V : vV} {B : Int → Int} {j fr to r : Int} (h : v_ok V B) (h0 : 0 ≤ j) (h1 : j < 16) (hf : -1000 ≤ fr ∧ fr ≤ 1000) (ht : -1000 ≤ to ∧ to ≤ 1000) : v_ok (v_want V j fr to r) (g_row B j (B j + 1)) := by
  intro i i0 i1
  by_cases hi : i = j
  · subst hi
    obtain ⟨hb, hk⟩ := h i i0 i1
    have hle := vl_w_le (V.2.1 i) (V.2.2 i) r (V.1 i).toNat fr
    have hfb := vl_w_b (fs := V.2.1 i) (ls := V.2.2 i) (r := r) (V.1 i).toNat fr (fun k k0 k1 => (hk k k0 (by omega)).1) hf
    simp only [v_want, g_row_at]
    refine ⟨by omega, fun k k0 k1 => ?_⟩
    by_cases hkm : k = ((vl_w (V.2.1 i) (V.2.2 i) r (V.1 i).toNat fr).1 : Int)
    · subst hkm; simp only [r_up_at]; exact ⟨hfb, ht⟩
    · simp only [r_up_ne hkm]; exact hk k k0 (by omega)
  · simp only [v_want, g_row_ne hi]; exact h i i0 i1
section VERD1
variable {gi gl : gF} {sh : gSh} {oa a v p : Int} {bb bw : gRw}
set_option maxRecDepth 20000 in
set_option maxHeartbeats 1000000 in
theorem c_endedOf (hk : sh.2.1 27 = 1) (ec : Int) (he : gi 27 4 = ec) (h1 : 0 ≤ ec ∧ ec ≤ 31) : Ct mdX7_endedOf 0 0 [vR 27] gi gl sh (Rt (some (vI ec)) gi gl sh) := by
  show Go mdX7_endedOf 0 0 0 [some (vR 27)] [] gi gl sh _
  refine g_aload_n dX7_endedOf_0 rfl ?_
  refine g_getIN 4 dX7_endedOf_1 fnX7_59 rfl (by assumption) ?_
  refine g_bipush dX7_endedOf_4 (by decide) (by decide) ?_
  refine g_min dX7_endedOf_6 mlX7_62 (Nat.le_of_ble_eq_true rfl) ?_
  refine g_ireturn dX7_endedOf_9 rfl ?_
  exact ⟨by rw [he, Int.min_eq_left (by omega)], rfl, rfl, rfl⟩

set_option maxRecDepth 20000 in
set_option maxHeartbeats 1000000 in
theorem c_isBad (hV : isVerd sh v) (b z : Int) (hb : 0 ≤ b ∧ b < 31) (hz : Zq (gi (v + 1) b ≠ -4) z) : Ct mdX7_isBad 0 0 [vR v, vI b] gi gl sh (Rt (some (vI z)) gi gl sh) := by
  show Go mdX7_isBad 0 0 0 [some (vR v), some (vI b)] [] gi gl sh _
  obtain ⟨k0, r0, r1, r2, kb, lb, kw, lw, kv, lv, hJ⟩ := id hV
  have hzb := hz.b
  refine g_iload_n dX7_isBad_0 rfl ?_
  refine g_if_lt 28 dX7_isBad_1 (by decide) (fun h1 => ?_) (fun h1 => ?_)
  · exfalso; omega
  · skip
    refine g_iload_n dX7_isBad_4 rfl ?_
    refine g_aload_n dX7_isBad_5 rfl ?_
    refine g_getR 0 dX7_isBad_6 flX7_9 rfl (by assumption) (by assumption) ?_
    refine g_alen _ dX7_isBad_9 (by omega) (by assumption) (by decide) ?_
    refine g_icmp_ge 28 dX7_isBad_10 (by decide) (fun h10 => ?_) (fun h10 => ?_)
    · exfalso; omega
    · skip
      refine g_aload_n dX7_isBad_13 rfl ?_
      refine g_getR 0 dX7_isBad_14 flX7_9 rfl (by assumption) (by assumption) ?_
      refine g_iload_n dX7_isBad_17 rfl ?_
      refine g_iaload dX7_isBad_18 (by assumption) (by omega) (by omega) ?_
      refine g_bipush dX7_isBad_19 (by decide) (by decide) ?_
      refine g_icmp_eq 28 dX7_isBad_21 (by decide) (fun q1 => ?_) (fun q1 => ?_)
      · skip
        refine g_iconst dX7_isBad_28 (by decide) ?_
        refine g_zreturn dX7_isBad_29 rfl (by omega) ?_
        exact ⟨by first | (rw [hz.1 q1]; done) | (rw [hz.2 (fun q => q q1)]; done), rfl, rfl, rfl⟩
      · skip
        refine g_iconst dX7_isBad_24 (by decide) ?_
        refine g_goto 29 dX7_isBad_25 (by decide) ?_
        refine g_zreturn dX7_isBad_29 rfl (by omega) ?_
        exact ⟨by first | (rw [hz.1 q1]; done) | (rw [hz.2 (fun q => q q1)]; done), rfl, rfl, rfl⟩

set_option maxRecDepth 20000 in
theorem l_rule (hP : isPlan sh a) (nb : Int) (hn : sh.2.1 nb = 11) (hnl : (sh.2.2.1 nb : Int) = 4) (hb : sh.2.1 p = 0) (hok : bl_ok (gi p)) (hrc : gi a 2 ≤ 4) : ∀ (n : Nat) (k : Int), 0 ≤ k → k + n = gi a 2 → Go mdX7_firstRuleFor 0 0 2 [some (vR a), some (vR nb), some (vR p), some (vI k)] [] gi gl sh (Rt (some (vI (v_rl (gi (a + 1)) (gi nb) (gi p) n k))) gi gl sh) := by
  obtain ⟨p0, pr0, pr1, pk1, pl1, pk2, pl2⟩ := id hP
  intro n
  induction n with
  | zero =>
    intro k h0 h1
    refine g_iload_n dX7_firstRuleFor_2 rfl ?_
    refine g_aload_n dX7_firstRuleFor_3 rfl ?_
    refine g_getIN 2 dX7_firstRuleFor_4 fnX7_68 rfl (by assumption) ?_
    refine g_icmp_ge 49 dX7_firstRuleFor_7 (by decide) (fun h7 => ?_) (fun h7 => ?_)
    · skip
      refine g_bipush dX7_firstRuleFor_49 (by decide) (by decide) ?_
      refine g_ireturn dX7_firstRuleFor_51 rfl ?_
      exact ⟨rfl, rfl, rfl, rfl⟩
    · exfalso; omega
  | succ n ih =>
    intro k h0 h1
    refine g_iload_n dX7_firstRuleFor_2 rfl ?_
    refine g_aload_n dX7_firstRuleFor_3 rfl ?_
    refine g_getIN 2 dX7_firstRuleFor_4 fnX7_68 rfl (by assumption) ?_
    refine g_icmp_ge 49 dX7_firstRuleFor_7 (by decide) (fun h7 => ?_) (fun h7 => ?_)
    · exfalso; omega
    · skip
      refine g_iload_n dX7_firstRuleFor_10 rfl ?_
      refine g_aload_n dX7_firstRuleFor_11 rfl ?_
      refine g_alen _ dX7_firstRuleFor_12 (by omega) (by assumption) (by decide) ?_
      refine g_icmp_ge 49 dX7_firstRuleFor_13 (by decide) (fun h13 => ?_) (fun h13 => ?_)
      · exfalso; omega
      · skip
        refine g_iload_n dX7_firstRuleFor_16 rfl ?_
        refine g_aload_n dX7_firstRuleFor_17 rfl ?_
        refine g_getRN 0 dX7_firstRuleFor_18 fnX7_73 rfl (by assumption) (by assumption) ?_
        refine g_alen _ dX7_firstRuleFor_21 (by omega) (by assumption) (by decide) ?_
        refine g_icmp_ge 49 dX7_firstRuleFor_22 (by decide) (fun h22 => ?_) (fun h22 => ?_)
        · exfalso; omega
        · skip
          refine g_aload_n dX7_firstRuleFor_25 rfl ?_
          refine g_aload_n dX7_firstRuleFor_26 rfl ?_
          refine g_getRN 0 dX7_firstRuleFor_27 fnX7_73 rfl (by assumption) (by assumption) ?_
          refine g_iload_n dX7_firstRuleFor_30 rfl ?_
          refine g_iaload dX7_firstRuleFor_31 (by assumption) (by omega) (by omega) ?_
          refine g_cVi [_] dX7_firstRuleFor_32 mlX7_76 mvX0_measure (by decide) (by assumption) (by decide) rfl rfl (Nat.le_of_ble_eq_true rfl) rfl (Nat.le_of_ble_eq_true rfl) (c_measure hb hok _) ?_
          refine g_aload_n dX7_firstRuleFor_35 rfl ?_
          refine g_iload_n dX7_firstRuleFor_36 rfl ?_
          refine g_iaload dX7_firstRuleFor_37 (by assumption) (by omega) (by omega) ?_
          refine g_icmp_lt 43 dX7_firstRuleFor_38 (by decide) (fun h38 => ?_) (fun h38 => ?_)
          · skip
            refine n_iinc (lN := [_, _, _, _]) dX7_firstRuleFor_43 rfl (by decide) (by omega) (by omega) rfl ?_
            refine g_goto 2 dX7_firstRuleFor_46 (by decide) ?_
            rw [v_rl, if_neg (by omega)]
            exact ih (k + 1) (by omega) (by omega)
          · skip
            refine g_iload_n dX7_firstRuleFor_41 rfl ?_
            refine g_ireturn dX7_firstRuleFor_42 rfl ?_
            exact ⟨by rw [v_rl, if_pos (by omega)], rfl, rfl, rfl⟩
theorem c_rule (hP : isPlan sh a) (nb : Int) (hn : sh.2.1 nb = 11) (hnl : (sh.2.2.1 nb : Int) = 4) (hb : sh.2.1 p = 0) (hok : bl_ok (gi p)) (hrc : 0 ≤ gi a 2 ∧ gi a 2 ≤ 4) : Ct mdX7_firstRuleFor 0 0 [vR a, vR nb, vR p] gi gl sh (Rt (some (vI (v_rl (gi (a + 1)) (gi nb) (gi p) (gi a 2).toNat 0))) gi gl sh) := by
  show Go mdX7_firstRuleFor 0 0 0 [some (vR a), some (vR nb), some (vR p), none] [] gi gl sh _
  refine g_iconst dX7_firstRuleFor_0 (by decide) ?_
  refine n_istore_n (lN := [_, _, _, _]) dX7_firstRuleFor_1 (by decide) rfl ?_
  exact l_rule hP nb hn hnl hb hok hrc.2 (gi a 2).toNat 0 (by omega) (by omega)
set_option maxRecDepth 20000 in
set_option maxHeartbeats 1000000 in
theorem l_openFor (hV : isVerd sh v) (hP0 : sh.2.1 a = 3) (hav : a < v ∨ v + 52 ≤ a) (fr to hi : Int) (l2 : Option gV) (hfr : -1000 ≤ fr ∧ fr ≤ 1000) (hto : -1000 ≤ to ∧ to ≤ 1000) (hhi : hi ≤ 15) : ∀ (n : Nat) (j : Int) (V : vV), 0 ≤ j → n = (hi - j + 1).toNat → v_ok V (fun i => if i < j then 31 else 30) →
    Go mdX7_openFor 0 0 58 [some (vR v), some (vR a), l2, some (vI to), some (vI fr), some (vI hi), some (vI j)] [] (vmem gi v bb bw V) gl sh (Rt none (vmem gi v bb bw (v_wants fr to (gi a 9) n j V)) gl sh) := by
  obtain ⟨k0, r0, r1, r2, kb, lb, kw, lw, kv, lv, hJ⟩ := id hV
  intro n
  induction n with
  | zero =>
    intro j V h0 h1 hv
    refine g_iload dX7_openFor_58 rfl ?_
    refine g_iload dX7_openFor_60 rfl ?_
    refine g_icmp_gt 88 dX7_openFor_62 (by decide) (fun h62 => ?_) (fun h62 => ?_)
    · skip
      refine g_return dX7_openFor_88 rfl ?_
      exact ⟨rfl, rfl, rfl, rfl⟩
    · exfalso; omega
  | succ n ih =>
    intro j V h0 h1 hv
    obtain ⟨hr, hq⟩ := hJ j h0 (by omega)
    have hq0 := hq.1
    obtain ⟨hvb, hvk⟩ := hv j h0 (by omega)
    dsimp only at hvb
    rw [if_neg (Int.lt_irrefl j)] at hvb
    have fo : (vmem gi v bb bw V) (v + 4 + 3 * j) 2 = V.1 j := by rw [vm_o h0 (by omega), r_up_at]
    have fp : (vmem gi v bb bw V) a = gi a := vm_x (by omega)
    have hcall := c_want (gi := (vmem gi v bb bw V)) (gl := gl) hq fr to (gi a 9) (V.1 j).toNat (by rw [fo]; omega) (by omega) (by intro k k0 k1; rw [vm_f h0 (by omega), vm_l h0 (by omega)]; have := hvk k k0 (by omega); omega) hfr
    have hres : vl_put (vmem gi v bb bw V) (v + 4 + 3 * j) ((vl_w ((vmem gi v bb bw V) (v + 4 + 3 * j + 1)) ((vmem gi v bb bw V) (v + 4 + 3 * j + 2)) (gi a 9) (V.1 j).toNat fr).1 : Int) (vl_w ((vmem gi v bb bw V) (v + 4 + 3 * j + 1)) ((vmem gi v bb bw V) (v + 4 + 3 * j + 2)) (gi a 9) (V.1 j).toNat fr).2 to = vmem gi v bb bw (v_want V j fr to (gi a 9)) := by
      rw [vm_f h0 (by omega), vm_l h0 (by omega)]
      unfold vl_put
      have g1 : ∀ (V : vV) (k x : Int), g_up (vmem gi v bb bw V) (v + 4 + 3 * j + 1) k x = vmem gi v bb bw (V.1, g_row V.2.1 j (r_up (V.2.1 j) k x), V.2.2) := fun V k x => by rw [g_up_as_row, vm_f h0 (by omega), vm_rf h0 (by omega)]; rfl
      have g2 : ∀ (V : vV) (k x : Int), g_up (vmem gi v bb bw V) (v + 4 + 3 * j + 2) k x = vmem gi v bb bw (V.1, V.2.1, g_row V.2.2 j (r_up (V.2.2 j) k x)) := fun V k x => by rw [g_up_as_row, vm_l h0 (by omega), vm_rl h0 (by omega)]; rfl
      rw [g1, g2, vm_ro h0 (by omega)]
      rfl
    rw [hres] at hcall
    refine g_iload dX7_openFor_58 rfl ?_
    refine g_iload dX7_openFor_60 rfl ?_
    refine g_icmp_gt 88 dX7_openFor_62 (by decide) (fun h62 => ?_) (fun h62 => ?_)
    · exfalso; omega
    · skip
      refine g_aload_n dX7_openFor_65 rfl ?_
      refine g_getR 2 dX7_openFor_66 flX7_21 rfl (by assumption) (by assumption) ?_
      refine g_iload dX7_openFor_69 rfl ?_
      refine g_aaload dX7_openFor_71 (by assumption) (by decide) (by decide) (by omega) (by omega) (by assumption) ?_
      refine g_iload dX7_openFor_72 rfl ?_
      refine g_iload_n dX7_openFor_74 rfl ?_
      refine g_aload_n dX7_openFor_75 rfl ?_
      refine g_getIN 9 dX7_openFor_76 fnX7_105 rfl (by assumption) ?_
      rw [fp]
      refine g_cVv [_, _, _] dX7_openFor_79 mlX7_108 mvX6_want (by decide) (by assumption) (by decide) rfl rfl (Nat.le_of_ble_eq_true rfl) rfl (Nat.le_of_ble_eq_true rfl) (hcall) ?_
      refine n_iinc (lN := [_, _, _, _, _, _, _]) dX7_openFor_82 rfl (by decide) (by omega) (by omega) rfl ?_
      refine g_goto 58 dX7_openFor_85 (by decide) ?_
      rw [v_wants]
      refine ih (j + 1) _ (by omega) (by omega) ?_
      have hk := v_want_ok (r := gi a 9) hv h0 (by omega) hfr hto
      intro i i0 i1
      obtain ⟨q1, q2⟩ := hk i i0 i1
      refine ⟨⟨q1.1, ?_⟩, q2⟩
      have q3 := q1.2
      dsimp only
      by_cases hij : i = j
      · subst hij; rw [g_row_at] at q3; rw [if_neg (Int.lt_irrefl i)] at q3; rw [if_pos (by omega)]; exact q3
      · rw [g_row_ne hij] at q3
        by_cases hlt : i < j
        · rw [if_pos hlt] at q3; rw [if_pos (by omega)]; exact q3
        · rw [if_neg hlt] at q3; rw [if_neg (by omega)]; exact q3
set_option maxRecDepth 20000 in
set_option maxHeartbeats 1000000 in
theorem c_openFor (hV : isVerd sh v) (hP : isPlan sh a) (hav : a < v ∨ v + 52 ≤ a) (hpv : p < v) (hb : sh.2.1 p = 0) (hok : bl_ok (gi p)) (hpl : 1 ≤ gi a 4 ∧ 0 ≤ gi a 3 ∧ 0 < v_cpv (gi a)) (hp5 : (0 ≤ gi a 5 ∧ gi a 5 ≤ 100) ∧ (0 ≤ gi a 6 ∧ gi a 6 ≤ 100) ∧ (0 ≤ gi a 7 ∧ gi a 7 ≤ 100) ∧ gi p 0 ≤ 100 ∧ gi p 1 ≤ 100) (V : vV) (hv : v_ok V (fun _ => 30)) : Ct mdX7_openFor 0 0 [vR v, vR a, vR p] (vmem gi v bb bw V) gl sh (Rt none (vmem gi v bb bw (v_open V (gi a) (gi p))) gl sh) := by
  show Go mdX7_openFor 0 0 0 [some (vR v), some (vR a), some (vR p), none, none, none, none] [] (vmem gi v bb bw V) gl sh _
  have hP0 := hP.1
  have fp : (vmem gi v bb bw V) a = gi a := vm_x (by omega)
  have fq : (vmem gi v bb bw V) p = gi p := vm_x (by omega)
  have b0 := hok 0 (by decide) (by decide)
  have b1 := hok 1 (by decide) (by decide)
  have b3 := hok 3 (by decide) (by decide)
  have b4 := hok 4 (by decide) (by decide)
  refine g_aload_n dX7_openFor_0 rfl ?_
  refine g_aload_n dX7_openFor_1 rfl ?_
  refine g_cVi [_] dX7_openFor_2 mlX7_82 mvX3_wantedTo (by decide) (by assumption) (by decide) rfl rfl (Nat.le_of_ble_eq_true rfl) rfl (Nat.le_of_ble_eq_true rfl) (c_wantedTo hP0 hb (by rw [fq]; exact b1) (by rw [fp]; exact hp5.1) (by rw [fp]; exact hp5.2.2.1)) ?_
  rw [fp, fq]
  refine n_istore_n (lN := [_, _, _, _, _, _, _]) dX7_openFor_5 (by decide) rfl ?_
  refine g_iload_n dX7_openFor_6 rfl ?_
  refine g_aload_n dX7_openFor_7 rfl ?_
  refine g_cVi [] dX7_openFor_8 mlX7_86 mvX0_endTick (by decide) (by assumption) (by decide) rfl rfl (Nat.le_of_ble_eq_true rfl) rfl (Nat.le_of_ble_eq_true rfl) (c_endTick hb (by rw [fq]; exact b1)) ?_
  rw [fq]
  refine g_icmp_ge 15 dX7_openFor_11 (by decide) (fun h11 => ?_) (fun h11 => ?_)
  · skip
    refine g_aload_n dX7_openFor_15 rfl ?_
    refine g_aload_n dX7_openFor_16 rfl ?_
    refine g_cVi [_] dX7_openFor_17 mlX7_90 mvX3_wantedFrom (by decide) (by assumption) (by decide) rfl rfl (Nat.le_of_ble_eq_true rfl) rfl (Nat.le_of_ble_eq_true rfl) (c_wantedFrom hP0 hb (by rw [fq]; exact b0) (by rw [fp]; exact hp5.1) (by rw [fp]; exact hp5.2.1)) ?_
    rw [fp, fq]
    refine g_aload_n dX7_openFor_20 rfl ?_
    refine g_cVi [] dX7_openFor_21 mlX7_86 mvX0_endTick (by decide) (by assumption) (by decide) rfl rfl (Nat.le_of_ble_eq_true rfl) rfl (Nat.le_of_ble_eq_true rfl) (c_endTick hb (by rw [fq]; exact b1)) ?_
    rw [fq]
    refine g_max dX7_openFor_24 mlX7_93 (Nat.le_of_ble_eq_true rfl) ?_
    refine n_istore (lN := [_, _, _, _, _, _, _]) dX7_openFor_27 (by decide) rfl ?_
    refine g_aload_n dX7_openFor_29 rfl ?_
    refine g_aload_n dX7_openFor_30 rfl ?_
    refine g_getIN 4 dX7_openFor_31 fnX7_96 rfl (by assumption) ?_
    refine g_cVi [_] dX7_openFor_34 mlX7_99 mvX3_valveOver (by decide) (by assumption) (by decide) rfl rfl (Nat.le_of_ble_eq_true rfl) rfl (Nat.le_of_ble_eq_true rfl) (c_valveOver hP0 _ (by rw [fq]; exact b4.1) (by rw [fp]; exact hpl.1) (by rw [fp]; exact hpl.2.1) (by rw [fp]; exact hpl.2.2)) ?_
    rw [fp, fq]
    refine g_bipush dX7_openFor_37 (by decide) (by decide) ?_
    refine g_min dX7_openFor_39 mlX7_62 (Nat.le_of_ble_eq_true rfl) ?_
    refine n_istore (lN := [_, _, _, _, _, _, _]) dX7_openFor_42 (by decide) rfl ?_
    refine g_aload_n dX7_openFor_44 rfl ?_
    refine g_aload_n dX7_openFor_45 rfl ?_
    refine g_getIN 3 dX7_openFor_46 fnX7_102 rfl (by assumption) ?_
    refine g_cVi [_] dX7_openFor_49 mlX7_99 mvX3_valveOver (by decide) (by assumption) (by decide) rfl rfl (Nat.le_of_ble_eq_true rfl) rfl (Nat.le_of_ble_eq_true rfl) (c_valveOver hP0 _ (by rw [fq]; exact b3.1) (by rw [fp]; exact hpl.1) (by rw [fp]; exact hpl.2.1) (by rw [fp]; exact hpl.2.2)) ?_
    rw [fp, fq]
    refine g_iconst dX7_openFor_52 (by decide) ?_
    refine g_max dX7_openFor_53 mlX7_93 (Nat.le_of_ble_eq_true rfl) ?_
    refine n_istore (lN := [_, _, _, _, _, _, _]) dX7_openFor_56 (by decide) rfl ?_
    rw [v_open, if_neg (by unfold v_to; omega)]
    exact l_openFor hV hP0 hav (v_fr (gi a) (gi p)) (v_to (gi a) (gi p)) (v_hi (gi a) (gi p)) _ (by unfold v_fr; omega) (by unfold v_to; omega) (by unfold v_hi; omega) (v_hi (gi a) (gi p) - v_lo (gi a) (gi p) + 1).toNat (v_lo (gi a) (gi p)) V (by unfold v_lo; omega) rfl (fun j j0 j1 => by
      obtain ⟨q1, q2⟩ := hv j j0 j1
      have q3 : V.1 j ≤ 30 := q1.2
      exact ⟨⟨q1.1, by dsimp only; split <;> omega⟩, q2⟩)
  · skip
    refine g_return dX7_openFor_14 rfl ?_
    exact ⟨rfl, by rw [v_open, if_pos (by unfold v_to; omega)], rfl, rfl⟩
end VERD1
