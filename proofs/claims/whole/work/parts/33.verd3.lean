/-! Verdict: counts; Fold: emptied, asked -/
def v_wsum (bw : gRw) (er : Int → gRw) : Nat → Int
  | 0 => 0
  | n + 1 => v_wsum bw er n + (if bw n = 0 then bl_worth (er n) else 0)
def v_ksum (bb : gRw) (k : Int) : Nat → Int
  | 0 => 0
  | n + 1 => v_ksum bb k n + (if bb n = k then 1 else 0)
/-- what a verdict counts: 5 bad, 6 late, 7 blown, 8 let, 9 lost -/
def v_is (pl bb bw : gRw) (er : Int → gRw) (b w : Int) : Prop :=
  (w = 5 ∧ bb b ≠ -4) ∨ (w = 6 ∧ bb b ≠ -4 ∧ er b 0 + pl 5 - pl 6 < er b 1 + 1) ∨ (w = 7 ∧ bw b ≠ 0) ∨ (w = 8 ∧ bb b ≠ -4 ∧ bw b = 0) ∨ (w = 9 ∧ bb b = -4 ∧ bw b ≠ 0)
noncomputable def v_csum (pl bb bw : gRw) (er : Int → gRw) (w : Int) : Nat → Int
  | 0 => 0
  | n + 1 => v_csum pl bb bw er w n + zb (v_is pl bb bw er n w)
theorem v_csum_b (pl bb bw : gRw) (er : Int → gRw) (w : Int) : ∀ n : Nat, 0 ≤ v_csum pl bb bw er w n ∧ v_csum pl bb bw er w n ≤ n := by
  intro n
  induction n with
  | zero => simp [v_csum]
  | succ n ih =>
    simp only [v_csum]
    have := (zb_q (v_is pl bb bw er n w)).b
    omega
theorem v_ksum_b (bb : gRw) (k : Int) : ∀ n : Nat, 0 ≤ v_ksum bb k n ∧ v_ksum bb k n ≤ n := by
  intro n
  induction n with
  | zero => simp [v_ksum]
  | succ n ih => simp only [v_ksum]; split <;> omega
theorem v_wsum_b {bw : gRw} {er : Int → gRw} : ∀ n : Nat, (∀ b : Int, 0 ≤ b → b < n → bl_ok (er b)) → -300000 * (n : Int) ≤ v_wsum bw er n ∧ v_wsum bw er n ≤ 100000 * (n : Int) := by
  intro n
  induction n with
  | zero => intro _; simp [v_wsum]
  | succ n ih =>
    intro h
    have h1 := ih (fun b b0 b1 => h b b0 (by omega))
    have h5 := h n (by omega) (by omega) 5 (by decide) (by decide)
    have h7 := h n (by omega) (by omega) 7 (by decide) (by decide)
    simp only [v_wsum, bl_worth]
    split
    · split <;> omega
    · omega
def f_off (lv : Int → gRw) : Int → gRw := fun s => if 0 ≤ s ∧ s < 16 then bl_off (lv s) else lv s
section VERD3
variable {gi gl : gF} {sh : gSh} {oa a v p : Int} {bb bw : gRw}
set_option maxRecDepth 20000 in
theorem l_worthV (hV : isVerd sh v) (hF : isFold sh oa) (ec : Int) (he : gi 27 4 = ec) (hec : 0 ≤ ec ∧ ec ≤ 31) (hok : ∀ b : Int, 0 ≤ b → b < ec → bl_ok (gi (32 + b))) : ∀ (n : Nat) (b x : Int), 0 ≤ b → b + n = ec → x = v_wsum (gi (v + 2)) (fun b => gi (32 + b)) b.toNat → Go mdX7_worth 0 0 4 [some (vR v), some (vR 27), some (vI x), some (vI b)] [] gi gl sh (Rt (some (vI (v_wsum (gi (v + 2)) (fun b => gi (32 + b)) ec.toNat))) gi gl sh) := by
  obtain ⟨k0, r0, r1, r2, kb, lb, kw, lw, kv, lv, hJ⟩ := id hV
  obtain ⟨f0, fr0, -, -, -, ho, f1, fl1, -, -, -, -, hE, -⟩ := id hF
  intro n
  induction n with
  | zero =>
    intro b x h0 h1 hx
    refine g_iload_n dX7_worth_4 rfl ?_
    refine g_aload_n dX7_worth_5 rfl ?_
    refine g_cSi [_] dX7_worth_6 mlX7_33 msX7_endedOf (by decide) rfl rfl (Nat.le_of_ble_eq_true rfl) rfl (Nat.le_of_ble_eq_true rfl) (c_endedOf f0 ec he hec) ?_
    refine g_icmp_ge 43 dX7_worth_9 (by decide) (fun h9 => ?_) (fun h9 => ?_)
    · skip
      refine g_iload_n dX7_worth_43 rfl ?_
      refine g_ireturn dX7_worth_44 rfl ?_
      exact ⟨by rw [hx, show b.toNat = ec.toNat by omega], rfl, rfl, rfl⟩
    · exfalso; omega
  | succ n ih =>
    intro b x h0 h1 hx
    obtain ⟨hr, hk⟩ := hE b h0 (by omega)
    have hbo := hok b h0 (by omega)
    have h5 := hbo 5 (by decide) (by decide)
    have h7 := hbo 7 (by decide) (by decide)
    have hwb : -300000 ≤ bl_worth (gi (32 + b)) ∧ bl_worth (gi (32 + b)) ≤ 100000 := by unfold bl_worth; split <;> omega
    have hs := v_wsum_b (bw := gi (v + 2)) (er := (fun b => gi (32 + b))) b.toNat (fun c c0 c1 => hok c c0 (by omega))
    refine g_iload_n dX7_worth_4 rfl ?_
    refine g_aload_n dX7_worth_5 rfl ?_
    refine g_cSi [_] dX7_worth_6 mlX7_33 msX7_endedOf (by decide) rfl rfl (Nat.le_of_ble_eq_true rfl) rfl (Nat.le_of_ble_eq_true rfl) (c_endedOf f0 ec he hec) ?_
    refine g_icmp_ge 43 dX7_worth_9 (by decide) (fun h9 => ?_) (fun h9 => ?_)
    · exfalso; omega
    · skip
      refine g_iload_n dX7_worth_12 rfl ?_
      refine g_aload_n dX7_worth_13 rfl ?_
      refine g_getR 1 dX7_worth_14 flX7_15 rfl (by assumption) (by assumption) ?_
      refine g_iload_n dX7_worth_17 rfl ?_
      refine g_baload dX7_worth_18 (by assumption) (by omega) (by omega) ?_
      refine g_if_eq 26 dX7_worth_19 (by decide) (fun q1 => ?_) (fun q1 => ?_)
      · skip
        refine g_aload_n dX7_worth_26 rfl ?_
        refine g_getRN 0 dX7_worth_27 fnX7_37 rfl (by assumption) (by assumption) ?_
        refine g_iload_n dX7_worth_30 rfl ?_
        refine g_aaload dX7_worth_31 (by assumption) (by decide) (by decide) (by omega) (by omega) (by assumption) ?_
        refine g_cVi [] dX7_worth_32 mlX7_125 mvX0_worth (by decide) (by assumption) (by decide) rfl rfl (Nat.le_of_ble_eq_true rfl) rfl (Nat.le_of_ble_eq_true rfl) (c_worth hk hbo) ?_
        refine g_iadd dX7_worth_35 (by omega) (by omega) ?_
        refine n_istore_n (lN := [_, _, _, _]) dX7_worth_36 (by decide) rfl ?_
        refine n_iinc (lN := [_, _, _, _]) dX7_worth_37 rfl (by decide) (by omega) (by omega) rfl ?_
        refine g_goto 4 dX7_worth_40 (by decide) ?_
        refine ih (b + 1) _ (by omega) (by omega) ?_
        rw [show (b + 1).toNat = b.toNat + 1 by omega, v_wsum, show ((b.toNat : Nat) : Int) = b by omega, if_pos q1, hx]
      · skip
        refine g_iconst dX7_worth_22 (by decide) ?_
        refine g_goto 35 dX7_worth_23 (by decide) ?_
        refine g_iadd dX7_worth_35 (by omega) (by omega) ?_
        refine n_istore_n (lN := [_, _, _, _]) dX7_worth_36 (by decide) rfl ?_
        refine n_iinc (lN := [_, _, _, _]) dX7_worth_37 rfl (by decide) (by omega) (by omega) rfl ?_
        refine g_goto 4 dX7_worth_40 (by decide) ?_
        refine ih (b + 1) _ (by omega) (by omega) ?_
        rw [show (b + 1).toNat = b.toNat + 1 by omega, v_wsum, show ((b.toNat : Nat) : Int) = b by omega, if_neg q1, hx]
theorem c_worthV (hV : isVerd sh v) (hF : isFold sh oa) (ec : Int) (he : gi 27 4 = ec) (hec : 0 ≤ ec ∧ ec ≤ 31) (hok : ∀ b : Int, 0 ≤ b → b < ec → bl_ok (gi (32 + b))) : Ct mdX7_worth 0 0 [vR v, vR 27] gi gl sh (Rt (some (vI (v_wsum (gi (v + 2)) (fun b => gi (32 + b)) ec.toNat))) gi gl sh) := by
  show Go mdX7_worth 0 0 0 [some (vR v), some (vR 27), none, none] [] gi gl sh _
  refine g_iconst dX7_worth_0 (by decide) ?_
  refine n_istore_n (lN := [_, _, _, _]) dX7_worth_1 (by decide) rfl ?_
  refine g_iconst dX7_worth_2 (by decide) ?_
  refine n_istore_n (lN := [_, _, _, _]) dX7_worth_3 (by decide) rfl ?_
  exact l_worthV hV hF ec he hec hok ec.toNat 0 0 (by omega) (by omega) rfl
set_option maxRecDepth 20000 in
theorem l_badBy (hV : isVerd sh v) (hF : isFold sh oa) (ec : Int) (he : gi 27 4 = ec) (hec : 0 ≤ ec ∧ ec ≤ 31) (k : Int) : ∀ (n : Nat) (b x : Int), 0 ≤ b → b + n = ec → x = v_ksum (gi (v + 1)) k b.toNat → Go mdX7_howManyBadBy 0 0 5 [some (vR v), some (vR 27), some (vI k), some (vI x), some (vI b)] [] gi gl sh (Rt (some (vI (v_ksum (gi (v + 1)) k ec.toNat))) gi gl sh) := by
  obtain ⟨k0, r0, r1, r2, kb, lb, kw, lw, kv, lv, hJ⟩ := id hV
  obtain ⟨f0, fr0, -, -, -, ho, f1, fl1, -, -, -, -, hE, -⟩ := id hF
  intro n
  induction n with
  | zero =>
    intro b x h0 h1 hx
    refine g_iload dX7_howManyBadBy_5 rfl ?_
    refine g_aload_n dX7_howManyBadBy_7 rfl ?_
    refine g_cSi [_] dX7_howManyBadBy_8 mlX7_33 msX7_endedOf (by decide) rfl rfl (Nat.le_of_ble_eq_true rfl) rfl (Nat.le_of_ble_eq_true rfl) (c_endedOf f0 ec he hec) ?_
    refine g_icmp_ge 39 dX7_howManyBadBy_11 (by decide) (fun h11 => ?_) (fun h11 => ?_)
    · skip
      refine g_iload_n dX7_howManyBadBy_39 rfl ?_
      refine g_ireturn dX7_howManyBadBy_40 rfl ?_
      exact ⟨by rw [hx, show b.toNat = ec.toNat by omega], rfl, rfl, rfl⟩
    · exfalso; omega
  | succ n ih =>
    intro b x h0 h1 hx
    have hs := v_ksum_b (gi (v + 1)) k b.toNat
    refine g_iload dX7_howManyBadBy_5 rfl ?_
    refine g_aload_n dX7_howManyBadBy_7 rfl ?_
    refine g_cSi [_] dX7_howManyBadBy_8 mlX7_33 msX7_endedOf (by decide) rfl rfl (Nat.le_of_ble_eq_true rfl) rfl (Nat.le_of_ble_eq_true rfl) (c_endedOf f0 ec he hec) ?_
    refine g_icmp_ge 39 dX7_howManyBadBy_11 (by decide) (fun h11 => ?_) (fun h11 => ?_)
    · exfalso; omega
    · skip
      refine g_iload_n dX7_howManyBadBy_14 rfl ?_
      refine g_aload_n dX7_howManyBadBy_15 rfl ?_
      refine g_getR 0 dX7_howManyBadBy_16 flX7_9 rfl (by assumption) (by assumption) ?_
      refine g_iload dX7_howManyBadBy_19 rfl ?_
      refine g_iaload dX7_howManyBadBy_21 (by assumption) (by omega) (by omega) ?_
      refine g_iload_n dX7_howManyBadBy_22 rfl ?_
      refine g_icmp_ne 30 dX7_howManyBadBy_23 (by decide) (fun q1 => ?_) (fun q1 => ?_)
      · skip
        refine g_iconst dX7_howManyBadBy_30 (by decide) ?_
        refine g_iadd dX7_howManyBadBy_31 (by omega) (by omega) ?_
        refine n_istore_n (lN := [_, _, _, _, _]) dX7_howManyBadBy_32 (by decide) rfl ?_
        refine n_iinc (lN := [_, _, _, _, _]) dX7_howManyBadBy_33 rfl (by decide) (by omega) (by omega) rfl ?_
        refine g_goto 5 dX7_howManyBadBy_36 (by decide) ?_
        refine ih (b + 1) _ (by omega) (by omega) ?_
        rw [show (b + 1).toNat = b.toNat + 1 by omega, v_ksum, show ((b.toNat : Nat) : Int) = b by omega, if_neg q1, hx]
      · skip
        refine g_iconst dX7_howManyBadBy_26 (by decide) ?_
        refine g_goto 31 dX7_howManyBadBy_27 (by decide) ?_
        refine g_iadd dX7_howManyBadBy_31 (by omega) (by omega) ?_
        refine n_istore_n (lN := [_, _, _, _, _]) dX7_howManyBadBy_32 (by decide) rfl ?_
        refine n_iinc (lN := [_, _, _, _, _]) dX7_howManyBadBy_33 rfl (by decide) (by omega) (by omega) rfl ?_
        refine g_goto 5 dX7_howManyBadBy_36 (by decide) ?_
        refine ih (b + 1) _ (by omega) (by omega) ?_
        rw [show (b + 1).toNat = b.toNat + 1 by omega, v_ksum, show ((b.toNat : Nat) : Int) = b by omega, if_pos (Classical.byContradiction q1), hx]
theorem c_badBy (hV : isVerd sh v) (hF : isFold sh oa) (ec : Int) (he : gi 27 4 = ec) (hec : 0 ≤ ec ∧ ec ≤ 31) (k : Int) : Ct mdX7_howManyBadBy 0 0 [vR v, vR 27, vI k] gi gl sh (Rt (some (vI (v_ksum (gi (v + 1)) k ec.toNat))) gi gl sh) := by
  show Go mdX7_howManyBadBy 0 0 0 [some (vR v), some (vR 27), some (vI k), none, none] [] gi gl sh _
  refine g_iconst dX7_howManyBadBy_0 (by decide) ?_
  refine n_istore_n (lN := [_, _, _, _, _]) dX7_howManyBadBy_1 (by decide) rfl ?_
  refine g_iconst dX7_howManyBadBy_2 (by decide) ?_
  refine n_istore (lN := [_, _, _, _, _]) dX7_howManyBadBy_3 (by decide) rfl ?_
  exact l_badBy hV hF ec he hec k ec.toNat 0 0 (by omega) (by omega) rfl
set_option maxRecDepth 20000 in
set_option maxHeartbeats 1000000 in
theorem c_isOneOf (hV : isVerd sh v) (hF : isFold sh oa) (hP0 : sh.2.1 a = 3) (b w z : Int) (hb : 0 ≤ b ∧ b < 31) (hbo : bl_ok (gi (32 + b))) (hp : (0 ≤ gi a 5 ∧ gi a 5 ≤ 100) ∧ (0 ≤ gi a 6 ∧ gi a 6 ≤ 100)) (hbw : gi (v + 2) b = 0 ∨ gi (v + 2) b = 1) (hz : Zq (v_is (gi a) (gi (v + 1)) (gi (v + 2)) (fun b => gi (32 + b)) b w) z) : Ct mdX7_isOneOf 0 0 [vR v, vR a, vR 27, vI b, vI w] gi gl sh (Rt (some (vI z)) gi gl sh) := by
  show Go mdX7_isOneOf 0 0 0 [some (vR v), some (vR a), some (vR 27), some (vI b), some (vI w)] [] gi gl sh _
  obtain ⟨k0, r0, r1, r2, kb, lb, kw, lw, kv, lv, hJ⟩ := id hV
  obtain ⟨f0, fr0, -, -, -, ho, f1, fl1, -, -, -, -, hE, -⟩ := id hF
  obtain ⟨hr, hk⟩ := hE b hb.1 hb.2
  have hq0 := hbo 0 (by decide) (by decide)
  have hq1 := hbo 1 (by decide) (by decide)
  obtain ⟨y, hy⟩ := Zq.ex (gi (v + 1) b ≠ -4)
  obtain ⟨l, hl⟩ := Zq.ex (gi (32 + b) 0 + gi a 5 - gi a 6 < gi (32 + b) 1 + 1)
  have hyb := hy.b
  have hlb := hl.b
  have hy1 := fun h => hy.1 h
  have hy2 := fun h => hy.2 h
  have hl1 := fun h => hl.1 h
  have hl2 := fun h => hl.2 h
  refine g_iload_n dX7_isOneOf_0 rfl ?_
  refine g_if_lt 10 dX7_isOneOf_1 (by decide) (fun h1 => ?_) (fun h1 => ?_)
  · exfalso; omega
  · skip
    refine g_iload_n dX7_isOneOf_4 rfl ?_
    refine g_bipush dX7_isOneOf_5 (by decide) (by decide) ?_
    refine g_icmp_lt 12 dX7_isOneOf_7 (by decide) (fun h7 => ?_) (fun h7 => ?_)
    · skip
      refine g_iload dX7_isOneOf_12 rfl ?_
      rcases (show w < 5 ∨ 9 < w ∨ w = 5 ∨ w = 6 ∨ w = 7 ∨ w = 8 ∨ w = 9 by omega) with hsw | hsw | hsw | hsw | hsw | hsw | hsw
      · skip
        refine g_tableOut 134 dX7_isOneOf_14 (by omega) (by decide) ?_
        refine g_iconst dX7_isOneOf_134 (by decide) ?_
        refine g_zreturn dX7_isOneOf_135 rfl (by omega) ?_
        have hzz : 0 = z := by
          by_cases hq : v_is (gi a) (gi (v + 1)) (gi (v + 2)) (fun b => gi (32 + b)) b w
          · (rw [hz.1 hq]) <;> (dsimp only [v_is] at hq; omega)
          · (rw [hz.2 hq]) <;> (dsimp only [v_is] at hq; omega)
        exact ⟨by rw [hzz], rfl, rfl, rfl⟩
      · skip
        refine g_tableOut 134 dX7_isOneOf_14 (by omega) (by decide) ?_
        refine g_iconst dX7_isOneOf_134 (by decide) ?_
        refine g_zreturn dX7_isOneOf_135 rfl (by omega) ?_
        have hzz : 0 = z := by
          by_cases hq : v_is (gi a) (gi (v + 1)) (gi (v + 2)) (fun b => gi (32 + b)) b w
          · (rw [hz.1 hq]) <;> (dsimp only [v_is] at hq; omega)
          · (rw [hz.2 hq]) <;> (dsimp only [v_is] at hq; omega)
        exact ⟨by rw [hzz], rfl, rfl, rfl⟩
      · skip
        refine g_tableIn 48 dX7_isOneOf_14 (by omega) (by omega) (by rw [hsw]; rfl) (by decide) ?_
        refine g_aload_n dX7_isOneOf_48 rfl ?_
        refine g_iload_n dX7_isOneOf_49 rfl ?_
        refine g_cVi [_] dX7_isOneOf_50 mlX7_47 mvX7_isBad (by decide) (by assumption) (by decide) rfl rfl (Nat.le_of_ble_eq_true rfl) rfl (Nat.le_of_ble_eq_true rfl) (c_isBad hV b y hb hy) ?_
        refine g_zreturn dX7_isOneOf_53 rfl (by omega) ?_
        have hzz : y = z := by
          by_cases hq : v_is (gi a) (gi (v + 1)) (gi (v + 2)) (fun b => gi (32 + b)) b w
          · (rw [hz.1 hq]) <;> (dsimp only [v_is] at hq; omega)
          · (rw [hz.2 hq]) <;> (dsimp only [v_is] at hq; omega)
        exact ⟨by rw [hzz], rfl, rfl, rfl⟩
      · skip
        refine g_tableIn 54 dX7_isOneOf_14 (by omega) (by omega) (by rw [hsw]; rfl) (by decide) ?_
        refine g_aload_n dX7_isOneOf_54 rfl ?_
        refine g_iload_n dX7_isOneOf_55 rfl ?_
        refine g_cVi [_] dX7_isOneOf_56 mlX7_47 mvX7_isBad (by decide) (by assumption) (by decide) rfl rfl (Nat.le_of_ble_eq_true rfl) rfl (Nat.le_of_ble_eq_true rfl) (c_isBad hV b y hb hy) ?_
        refine g_if_eq 79 dX7_isOneOf_59 (by decide) (fun h59 => ?_) (fun h59 => ?_)
        · skip
          refine g_iconst dX7_isOneOf_79 (by decide) ?_
          refine g_zreturn dX7_isOneOf_80 rfl (by omega) ?_
          have hzz : 0 = z := by
            by_cases hq : v_is (gi a) (gi (v + 1)) (gi (v + 2)) (fun b => gi (32 + b)) b w
            · (rw [hz.1 hq]) <;> (dsimp only [v_is] at hq; omega)
            · (rw [hz.2 hq]) <;> (dsimp only [v_is] at hq; omega)
          exact ⟨by rw [hzz], rfl, rfl, rfl⟩
        · skip
          refine g_aload_n dX7_isOneOf_62 rfl ?_
          refine g_aload_n dX7_isOneOf_63 rfl ?_
          refine g_getRN 0 dX7_isOneOf_64 fnX7_37 rfl (by assumption) (by assumption) ?_
          refine g_iload_n dX7_isOneOf_67 rfl ?_
          refine g_aaload dX7_isOneOf_68 (by assumption) (by decide) (by decide) (by omega) (by omega) (by assumption) ?_
          refine g_cVi [_] dX7_isOneOf_69 mlX7_132 mvX3_isLate (by decide) (by assumption) (by decide) rfl rfl (Nat.le_of_ble_eq_true rfl) rfl (Nat.le_of_ble_eq_true rfl) (c_isLate hP0 hk hq1 hq0 hp.1 hp.2 l hl.1 hl.2) ?_
          refine g_if_eq 79 dX7_isOneOf_72 (by decide) (fun h72 => ?_) (fun h72 => ?_)
          · skip
            refine g_iconst dX7_isOneOf_79 (by decide) ?_
            refine g_zreturn dX7_isOneOf_80 rfl (by omega) ?_
            have hzz : 0 = z := by
              by_cases hq : v_is (gi a) (gi (v + 1)) (gi (v + 2)) (fun b => gi (32 + b)) b w
              · (rw [hz.1 hq]) <;> (dsimp only [v_is] at hq; omega)
              · (rw [hz.2 hq]) <;> (dsimp only [v_is] at hq; omega)
            exact ⟨by rw [hzz], rfl, rfl, rfl⟩
          · skip
            refine g_iconst dX7_isOneOf_75 (by decide) ?_
            refine g_goto 80 dX7_isOneOf_76 (by decide) ?_
            refine g_zreturn dX7_isOneOf_80 rfl (by omega) ?_
            have hzz : 1 = z := by
              by_cases hq : v_is (gi a) (gi (v + 1)) (gi (v + 2)) (fun b => gi (32 + b)) b w
              · (rw [hz.1 hq]) <;> (dsimp only [v_is] at hq; omega)
              · (rw [hz.2 hq]) <;> (dsimp only [v_is] at hq; omega)
            exact ⟨by rw [hzz], rfl, rfl, rfl⟩
      · skip
        refine g_tableIn 81 dX7_isOneOf_14 (by omega) (by omega) (by rw [hsw]; rfl) (by decide) ?_
        refine g_aload_n dX7_isOneOf_81 rfl ?_
        refine g_getR 1 dX7_isOneOf_82 flX7_15 rfl (by assumption) (by assumption) ?_
        refine g_iload_n dX7_isOneOf_85 rfl ?_
        refine g_baload dX7_isOneOf_86 (by assumption) (by omega) (by omega) ?_
        refine g_zreturn dX7_isOneOf_87 rfl (by omega) ?_
        have hzz : gi (v + 2) b = z := by
          by_cases hq : v_is (gi a) (gi (v + 1)) (gi (v + 2)) (fun b => gi (32 + b)) b w
          · (rw [hz.1 hq]) <;> (dsimp only [v_is] at hq; omega)
          · (rw [hz.2 hq]) <;> (dsimp only [v_is] at hq; omega)
        exact ⟨by rw [hzz], rfl, rfl, rfl⟩
      · skip
        refine g_tableIn 88 dX7_isOneOf_14 (by omega) (by omega) (by rw [hsw]; rfl) (by decide) ?_
        refine g_aload_n dX7_isOneOf_88 rfl ?_
        refine g_iload_n dX7_isOneOf_89 rfl ?_
        refine g_cVi [_] dX7_isOneOf_90 mlX7_47 mvX7_isBad (by decide) (by assumption) (by decide) rfl rfl (Nat.le_of_ble_eq_true rfl) rfl (Nat.le_of_ble_eq_true rfl) (c_isBad hV b y hb hy) ?_
        refine g_if_eq 109 dX7_isOneOf_93 (by decide) (fun h93 => ?_) (fun h93 => ?_)
        · skip
          refine g_iconst dX7_isOneOf_109 (by decide) ?_
          refine g_zreturn dX7_isOneOf_110 rfl (by omega) ?_
          have hzz : 0 = z := by
            by_cases hq : v_is (gi a) (gi (v + 1)) (gi (v + 2)) (fun b => gi (32 + b)) b w
            · (rw [hz.1 hq]) <;> (dsimp only [v_is] at hq; omega)
            · (rw [hz.2 hq]) <;> (dsimp only [v_is] at hq; omega)
          exact ⟨by rw [hzz], rfl, rfl, rfl⟩
        · skip
          refine g_aload_n dX7_isOneOf_96 rfl ?_
          refine g_getR 1 dX7_isOneOf_97 flX7_15 rfl (by assumption) (by assumption) ?_
          refine g_iload_n dX7_isOneOf_100 rfl ?_
          refine g_baload dX7_isOneOf_101 (by assumption) (by omega) (by omega) ?_
          refine g_if_ne 109 dX7_isOneOf_102 (by decide) (fun h102 => ?_) (fun h102 => ?_)
          · skip
            refine g_iconst dX7_isOneOf_109 (by decide) ?_
            refine g_zreturn dX7_isOneOf_110 rfl (by omega) ?_
            have hzz : 0 = z := by
              by_cases hq : v_is (gi a) (gi (v + 1)) (gi (v + 2)) (fun b => gi (32 + b)) b w
              · (rw [hz.1 hq]) <;> (dsimp only [v_is] at hq; omega)
              · (rw [hz.2 hq]) <;> (dsimp only [v_is] at hq; omega)
            exact ⟨by rw [hzz], rfl, rfl, rfl⟩
          · skip
            refine g_iconst dX7_isOneOf_105 (by decide) ?_
            refine g_goto 110 dX7_isOneOf_106 (by decide) ?_
            refine g_zreturn dX7_isOneOf_110 rfl (by omega) ?_
            have hzz : 1 = z := by
              by_cases hq : v_is (gi a) (gi (v + 1)) (gi (v + 2)) (fun b => gi (32 + b)) b w
              · (rw [hz.1 hq]) <;> (dsimp only [v_is] at hq; omega)
              · (rw [hz.2 hq]) <;> (dsimp only [v_is] at hq; omega)
            exact ⟨by rw [hzz], rfl, rfl, rfl⟩
      · skip
        refine g_tableIn 111 dX7_isOneOf_14 (by omega) (by omega) (by rw [hsw]; rfl) (by decide) ?_
        refine g_aload_n dX7_isOneOf_111 rfl ?_
        refine g_iload_n dX7_isOneOf_112 rfl ?_
        refine g_cVi [_] dX7_isOneOf_113 mlX7_47 mvX7_isBad (by decide) (by assumption) (by decide) rfl rfl (Nat.le_of_ble_eq_true rfl) rfl (Nat.le_of_ble_eq_true rfl) (c_isBad hV b y hb hy) ?_
        refine g_if_ne 132 dX7_isOneOf_116 (by decide) (fun h116 => ?_) (fun h116 => ?_)
        · skip
          refine g_iconst dX7_isOneOf_132 (by decide) ?_
          refine g_zreturn dX7_isOneOf_133 rfl (by omega) ?_
          have hzz : 0 = z := by
            by_cases hq : v_is (gi a) (gi (v + 1)) (gi (v + 2)) (fun b => gi (32 + b)) b w
            · (rw [hz.1 hq]) <;> (dsimp only [v_is] at hq; omega)
            · (rw [hz.2 hq]) <;> (dsimp only [v_is] at hq; omega)
          exact ⟨by rw [hzz], rfl, rfl, rfl⟩
        · skip
          refine g_aload_n dX7_isOneOf_119 rfl ?_
          refine g_getR 1 dX7_isOneOf_120 flX7_15 rfl (by assumption) (by assumption) ?_
          refine g_iload_n dX7_isOneOf_123 rfl ?_
          refine g_baload dX7_isOneOf_124 (by assumption) (by omega) (by omega) ?_
          refine g_if_eq 132 dX7_isOneOf_125 (by decide) (fun h125 => ?_) (fun h125 => ?_)
          · skip
            refine g_iconst dX7_isOneOf_132 (by decide) ?_
            refine g_zreturn dX7_isOneOf_133 rfl (by omega) ?_
            have hzz : 0 = z := by
              by_cases hq : v_is (gi a) (gi (v + 1)) (gi (v + 2)) (fun b => gi (32 + b)) b w
              · (rw [hz.1 hq]) <;> (dsimp only [v_is] at hq; omega)
              · (rw [hz.2 hq]) <;> (dsimp only [v_is] at hq; omega)
            exact ⟨by rw [hzz], rfl, rfl, rfl⟩
          · skip
            refine g_iconst dX7_isOneOf_128 (by decide) ?_
            refine g_goto 133 dX7_isOneOf_129 (by decide) ?_
            refine g_zreturn dX7_isOneOf_133 rfl (by omega) ?_
            have hzz : 1 = z := by
              by_cases hq : v_is (gi a) (gi (v + 1)) (gi (v + 2)) (fun b => gi (32 + b)) b w
              · (rw [hz.1 hq]) <;> (dsimp only [v_is] at hq; omega)
              · (rw [hz.2 hq]) <;> (dsimp only [v_is] at hq; omega)
            exact ⟨by rw [hzz], rfl, rfl, rfl⟩
    · exfalso; omega
set_option maxRecDepth 20000 in
set_option maxHeartbeats 1000000 in
theorem l_howMany (hV : isVerd sh v) (hF : isFold sh oa) (ec : Int) (he : gi 27 4 = ec) (hec : 0 ≤ ec ∧ ec ≤ 31) (hP0 : sh.2.1 a = 3) (w : Int) (hok : ∀ b : Int, 0 ≤ b → b < ec → bl_ok (gi (32 + b))) (hp : (0 ≤ gi a 5 ∧ gi a 5 ≤ 100) ∧ (0 ≤ gi a 6 ∧ gi a 6 ≤ 100)) (hbw : ∀ b : Int, 0 ≤ b → b < ec → gi (v + 2) b = 0 ∨ gi (v + 2) b = 1) : ∀ (n : Nat) (b x : Int), 0 ≤ b → b + n = ec → x = v_csum (gi a) (gi (v + 1)) (gi (v + 2)) (fun b => gi (32 + b)) w b.toNat → Go mdX7_howMany 0 0 6 [some (vR v), some (vR a), some (vR 27), some (vI w), some (vI x), some (vI b)] [] gi gl sh (Rt (some (vI (v_csum (gi a) (gi (v + 1)) (gi (v + 2)) (fun b => gi (32 + b)) w ec.toNat))) gi gl sh) := by
  obtain ⟨k0, r0, r1, r2, kb, lb, kw, lw, kv, lv, hJ⟩ := id hV
  obtain ⟨f0, fr0, -, -, -, ho, f1, fl1, -, -, -, -, hE, -⟩ := id hF
  intro n
  induction n with
  | zero =>
    intro b x h0 h1 hx
    refine g_iload dX7_howMany_6 rfl ?_
    refine g_aload_n dX7_howMany_8 rfl ?_
    refine g_cSi [_] dX7_howMany_9 mlX7_33 msX7_endedOf (by decide) rfl rfl (Nat.le_of_ble_eq_true rfl) rfl (Nat.le_of_ble_eq_true rfl) (c_endedOf f0 ec he hec) ?_
    refine g_icmp_ge 43 dX7_howMany_12 (by decide) (fun h12 => ?_) (fun h12 => ?_)
    · skip
      refine g_iload dX7_howMany_43 rfl ?_
      refine g_ireturn dX7_howMany_45 rfl ?_
      exact ⟨by rw [hx, show b.toNat = ec.toNat by omega], rfl, rfl, rfl⟩
    · exfalso; omega
  | succ n ih =>
    intro b x h0 h1 hx
    have hs := v_csum_b (gi a) (gi (v + 1)) (gi (v + 2)) (fun b => gi (32 + b)) w b.toNat
    have hq := zb_q (v_is (gi a) (gi (v + 1)) (gi (v + 2)) (fun b => gi (32 + b)) b w)
    have hqb := hq.b
    refine g_iload dX7_howMany_6 rfl ?_
    refine g_aload_n dX7_howMany_8 rfl ?_
    refine g_cSi [_] dX7_howMany_9 mlX7_33 msX7_endedOf (by decide) rfl rfl (Nat.le_of_ble_eq_true rfl) rfl (Nat.le_of_ble_eq_true rfl) (c_endedOf f0 ec he hec) ?_
    refine g_icmp_ge 43 dX7_howMany_12 (by decide) (fun h12 => ?_) (fun h12 => ?_)
    · exfalso; omega
    · skip
      refine g_iload dX7_howMany_15 rfl ?_
      refine g_aload_n dX7_howMany_17 rfl ?_
      refine g_aload_n dX7_howMany_18 rfl ?_
      refine g_aload_n dX7_howMany_19 rfl ?_
      refine g_iload dX7_howMany_20 rfl ?_
      refine g_iload_n dX7_howMany_22 rfl ?_
      refine g_cVi [_, _, _, _] dX7_howMany_23 mlX7_128 mvX7_isOneOf (by decide) (by assumption) (by decide) rfl rfl (Nat.le_of_ble_eq_true rfl) rfl (Nat.le_of_ble_eq_true rfl) (c_isOneOf hV hF hP0 b w _ (by omega) (hok b h0 (by omega)) hp (hbw b h0 (by omega)) hq) ?_
      refine g_if_eq 33 dX7_howMany_26 (by decide) (fun q1 => ?_) (fun q1 => ?_)
      · skip
        refine g_iconst dX7_howMany_33 (by decide) ?_
        refine g_iadd dX7_howMany_34 (by omega) (by omega) ?_
        refine n_istore (lN := [_, _, _, _, _, _]) dX7_howMany_35 (by decide) rfl ?_
        refine n_iinc (lN := [_, _, _, _, _, _]) dX7_howMany_37 rfl (by decide) (by omega) (by omega) rfl ?_
        refine g_goto 6 dX7_howMany_40 (by decide) ?_
        refine ih (b + 1) _ (by omega) (by omega) ?_
        rw [show (b + 1).toNat = b.toNat + 1 by omega, v_csum, show ((b.toNat : Nat) : Int) = b by omega, q1, hx]
      · skip
        refine g_iconst dX7_howMany_29 (by decide) ?_
        refine g_goto 34 dX7_howMany_30 (by decide) ?_
        refine g_iadd dX7_howMany_34 (by omega) (by omega) ?_
        refine n_istore (lN := [_, _, _, _, _, _]) dX7_howMany_35 (by decide) rfl ?_
        refine n_iinc (lN := [_, _, _, _, _, _]) dX7_howMany_37 rfl (by decide) (by omega) (by omega) rfl ?_
        refine g_goto 6 dX7_howMany_40 (by decide) ?_
        refine ih (b + 1) _ (by omega) (by omega) ?_
        rw [show (b + 1).toNat = b.toNat + 1 by omega, v_csum, show ((b.toNat : Nat) : Int) = b by omega, show zb (v_is (gi a) (gi (v + 1)) (gi (v + 2)) (fun b => gi (32 + b)) b w) = 1 by omega, hx]
theorem c_howMany (hV : isVerd sh v) (hF : isFold sh oa) (ec : Int) (he : gi 27 4 = ec) (hec : 0 ≤ ec ∧ ec ≤ 31) (hP0 : sh.2.1 a = 3) (w : Int) (hok : ∀ b : Int, 0 ≤ b → b < ec → bl_ok (gi (32 + b))) (hp : (0 ≤ gi a 5 ∧ gi a 5 ≤ 100) ∧ (0 ≤ gi a 6 ∧ gi a 6 ≤ 100)) (hbw : ∀ b : Int, 0 ≤ b → b < ec → gi (v + 2) b = 0 ∨ gi (v + 2) b = 1) : Ct mdX7_howMany 0 0 [vR v, vR a, vR 27, vI w] gi gl sh (Rt (some (vI (v_csum (gi a) (gi (v + 1)) (gi (v + 2)) (fun b => gi (32 + b)) w ec.toNat))) gi gl sh) := by
  show Go mdX7_howMany 0 0 0 [some (vR v), some (vR a), some (vR 27), some (vI w), none, none] [] gi gl sh _
  refine g_iconst dX7_howMany_0 (by decide) ?_
  refine n_istore (lN := [_, _, _, _, _, _]) dX7_howMany_1 (by decide) rfl ?_
  refine g_iconst dX7_howMany_3 (by decide) ?_
  refine n_istore (lN := [_, _, _, _, _, _]) dX7_howMany_4 (by decide) rfl ?_
  exact l_howMany hV hF ec he hec hP0 w hok hp hbw ec.toNat 0 0 (by omega) (by omega) rfl
set_option maxRecDepth 20000 in
theorem l_hasEnded (hF : isFold sh oa) (kd m z : Int) (hec : gi 27 4 ≤ 31) (hok : ∀ b : Int, 0 ≤ b → b < gi 27 4 → bl_ok (gi (32 + b))) (hz : Zq (∃ b : Int, 0 ≤ b ∧ b < gi 27 4 ∧ bl_meas (gi (32 + b)) kd = m) z) : ∀ (n : Nat) (b : Int), 0 ≤ b → n = (gi 27 4 - b).toNat → (∀ c : Int, 0 ≤ c → c < b → bl_meas (gi (32 + c)) kd ≠ m) → Go mdX1_hasEndedWith 0 0 2 [some (vR 27), some (vI kd), some (vI m), some (vI b)] [] gi gl sh (Rt (some (vI z)) gi gl sh) := by
  obtain ⟨f0, fr0, fr1, fr2, fr3, ho, f1, fl1, f2, fl2, -, -, hE, hL⟩ := id hF
  intro n
  induction n with
  | zero =>
    intro b h0 h1 hn
    refine g_iload_n dX1_hasEndedWith_2 rfl ?_
    refine g_aload_n dX1_hasEndedWith_3 rfl ?_
    refine g_getI 4 dX1_hasEndedWith_4 flX1_28 rfl (by assumption) ?_
    refine g_icmp_ge 41 dX1_hasEndedWith_7 (by decide) (fun h7 => ?_) (fun h7 => ?_)
    · skip
      refine g_iconst dX1_hasEndedWith_41 (by decide) ?_
      refine g_zreturn dX1_hasEndedWith_42 rfl (by omega) ?_
      exact ⟨by rw [hz.2 (fun ⟨c, c0, c1, c2⟩ => hn c c0 (by omega) c2)], rfl, rfl, rfl⟩
    · exfalso; omega
  | succ n ih =>
    intro b h0 h1 hn
    obtain ⟨hr, hk⟩ := hE b h0 (by omega)
    refine g_iload_n dX1_hasEndedWith_2 rfl ?_
    refine g_aload_n dX1_hasEndedWith_3 rfl ?_
    refine g_getI 4 dX1_hasEndedWith_4 flX1_28 rfl (by assumption) ?_
    refine g_icmp_ge 41 dX1_hasEndedWith_7 (by decide) (fun h7 => ?_) (fun h7 => ?_)
    · exfalso; omega
    · skip
      refine g_iload_n dX1_hasEndedWith_10 rfl ?_
      refine g_aload_n dX1_hasEndedWith_11 rfl ?_
      refine g_getR 0 dX1_hasEndedWith_12 flX1_11 rfl (by assumption) (by assumption) ?_
      refine g_alen _ dX1_hasEndedWith_15 (by omega) (by assumption) (by decide) ?_
      refine g_icmp_ge 41 dX1_hasEndedWith_16 (by decide) (fun h16 => ?_) (fun h16 => ?_)
      · exfalso; omega
      · skip
        refine g_aload_n dX1_hasEndedWith_19 rfl ?_
        refine g_getR 0 dX1_hasEndedWith_20 flX1_11 rfl (by assumption) (by assumption) ?_
        refine g_iload_n dX1_hasEndedWith_23 rfl ?_
        refine g_aaload dX1_hasEndedWith_24 (by assumption) (by decide) (by decide) (by omega) (by omega) (by assumption) ?_
        refine g_iload_n dX1_hasEndedWith_25 rfl ?_
        refine g_cVi [_] dX1_hasEndedWith_26 mlX1_97 mvX0_measure (by decide) (by assumption) (by decide) rfl rfl (Nat.le_of_ble_eq_true rfl) rfl (Nat.le_of_ble_eq_true rfl) (c_measure hk (hok b h0 (by omega)) kd) ?_
        refine g_iload_n dX1_hasEndedWith_29 rfl ?_
        refine g_icmp_ne 35 dX1_hasEndedWith_30 (by decide) (fun q1 => ?_) (fun q1 => ?_)
        · skip
          refine n_iinc (lN := [_, _, _, _]) dX1_hasEndedWith_35 rfl (by decide) (by omega) (by omega) rfl ?_
          refine g_goto 2 dX1_hasEndedWith_38 (by decide) ?_
          exact ih (b + 1) (by omega) (by omega) (fun c c0 c1 => if h : c = b then (by subst h; exact q1) else hn c c0 (by omega))
        · skip
          refine g_iconst dX1_hasEndedWith_33 (by decide) ?_
          refine g_zreturn dX1_hasEndedWith_34 rfl (by omega) ?_
          exact ⟨by rw [hz.1 ⟨b, h0, by omega, Classical.byContradiction q1⟩], rfl, rfl, rfl⟩
theorem c_hasEnded (hF : isFold sh oa) (kd m z : Int) (hec : gi 27 4 ≤ 31) (hok : ∀ b : Int, 0 ≤ b → b < gi 27 4 → bl_ok (gi (32 + b))) (hz : Zq (∃ b : Int, 0 ≤ b ∧ b < gi 27 4 ∧ bl_meas (gi (32 + b)) kd = m) z) : Ct mdX1_hasEndedWith 0 0 [vR 27, vI kd, vI m] gi gl sh (Rt (some (vI z)) gi gl sh) := by
  show Go mdX1_hasEndedWith 0 0 0 [some (vR 27), some (vI kd), some (vI m), none] [] gi gl sh _
  refine g_iconst dX1_hasEndedWith_0 (by decide) ?_
  refine n_istore_n (lN := [_, _, _, _]) dX1_hasEndedWith_1 (by decide) rfl ?_
  exact l_hasEnded hF kd m z hec hok hz _ 0 (by omega) rfl (fun c c0 c1 => by omega)
set_option maxRecDepth 20000 in
set_option maxHeartbeats 1000000 in
theorem l_empty (hF : isFold sh oa) (er : Int → gRw) (S : fS) : ∀ (n : Nat) (s : Int), 0 ≤ s → s + n = 16 → Go mdX1_empty 0 0 7 [some (vR 27), some (vI s)] [] (fmem (emem gi er 0) oa ((fun x9 => if 0 ≤ x9 ∧ x9 < s then bl_off (S.1 x9) else S.1 x9), S.2)) gl sh (Rt none (fmem (emem gi er 0) oa (f_off S.1, f_fill S.2.1 (-1), S.2.2)) gl sh) := by
  obtain ⟨f0, fr0, fr1, fr2, fr3, ho, f1, fl1, f2, fl2, -, -, hE, hL⟩ := id hF
  obtain ⟨o1, o2, o3, o4⟩ := hF.own
  intro n
  induction n with
  | zero =>
    intro s h0 h1
    obtain rfl : 16 = s := by omega
    refine g_iload_n dX1_empty_7 rfl ?_
    refine g_aload_n dX1_empty_8 rfl ?_
    refine g_getR 1 dX1_empty_9 flX1_17 rfl (by assumption) (by assumption) ?_
    refine g_alen _ dX1_empty_12 (by omega) (by assumption) (by decide) ?_
    refine g_icmp_ge 32 dX1_empty_13 (by decide) (fun h13 => ?_) (fun h13 => ?_)
    · skip
      refine g_aload_n dX1_empty_32 rfl ?_
      refine g_getR 2 dX1_empty_33 flX1_20 rfl (by assumption) (by assumption) ?_
      refine g_iconst dX1_empty_36 (by decide) ?_
      refine g_cSv [_, _] dX1_empty_37 mlX1_35 msJ7_fill_53178 (by decide) rfl rfl (Nat.le_of_ble_eq_true rfl) rfl (Nat.le_of_ble_eq_true rfl) (c_fill o1 o2 (-1)) ?_
      refine g_return dX1_empty_40 rfl ?_
      exact ⟨rfl, by rw [fmem_a ho, fmem_ra ho]; rfl, rfl, rfl⟩
    · exfalso; omega
  | succ n ih =>
    intro s h0 h1
    obtain ⟨hr, hk⟩ := hL s h0 (by omega)
    refine g_iload_n dX1_empty_7 rfl ?_
    refine g_aload_n dX1_empty_8 rfl ?_
    refine g_getR 1 dX1_empty_9 flX1_17 rfl (by assumption) (by assumption) ?_
    refine g_alen _ dX1_empty_12 (by omega) (by assumption) (by decide) ?_
    refine g_icmp_ge 32 dX1_empty_13 (by decide) (fun h13 => ?_) (fun h13 => ?_)
    · exfalso; omega
    · skip
      refine g_aload_n dX1_empty_16 rfl ?_
      refine g_getR 1 dX1_empty_17 flX1_17 rfl (by assumption) (by assumption) ?_
      refine g_iload_n dX1_empty_20 rfl ?_
      refine g_aaload dX1_empty_21 (by assumption) (by decide) (by decide) (by omega) (by omega) (by assumption) ?_
      refine g_iconst dX1_empty_22 (by decide) ?_
      refine g_putIN 5 dX1_empty_23 fnX1_32 rfl (by assumption) ?_
      refine n_iinc (lN := [_, _]) dX1_empty_26 rfl (by decide) (by omega) (by omega) rfl ?_
      refine g_goto 7 dX1_empty_29 (by decide) ?_
      have e : g_up (fmem (emem gi er 0) oa ((fun x9 => if 0 ≤ x9 ∧ x9 < s then bl_off (S.1 x9) else S.1 x9), S.2)) (63 + s) 5 0 = (fmem (emem gi er 0) oa ((fun x9 => if 0 ≤ x9 ∧ x9 < (s + 1) then bl_off (S.1 x9) else S.1 x9), S.2)) := by
        rw [g_up_as_row, fmem_l h0 (by omega), fmem_rl h0 (by omega)]
        congr 2
        funext c
        by_cases hc : c = s
        · subst hc; rw [g_row_at, if_pos (by omega)]; simp only [Int.lt_irrefl, and_false, if_false]; rfl
        · rw [g_row_ne hc]
          dsimp only
          by_cases h9 : 0 ≤ c ∧ c < s
          · rw [if_pos h9, if_pos (by omega)]
          · rw [if_neg h9, if_neg (by omega)]
      rw [e]
      exact ih (s + 1) (by omega) (by omega)
theorem c_empty (hF : isFold sh oa) (er : Int → gRw) (ec : Int) (S : fS) : Ct mdX1_empty 0 0 [vR 27] (fmem (emem gi er ec) oa S) gl sh (Rt none (fmem (emem gi er 0) oa (f_off S.1, f_fill S.2.1 (-1), S.2.2)) gl sh) := by
  show Go mdX1_empty 0 0 0 [some (vR 27), none] [] (fmem (emem gi er ec) oa S) gl sh _
  obtain ⟨f0, fr0, fr1, fr2, fr3, ho, f1, fl1, f2, fl2, -, -, hE, hL⟩ := id hF
  refine g_aload_n dX1_empty_0 rfl ?_
  refine g_iconst dX1_empty_1 (by decide) ?_
  refine g_putI 4 dX1_empty_2 flX1_28 rfl (by assumption) ?_
  rw [fm_rc ho]
  refine g_iconst dX1_empty_5 (by decide) ?_
  refine n_istore_n (lN := [_, _]) dX1_empty_6 (by decide) rfl ?_
  have e : S = ((fun x9 => if 0 ≤ x9 ∧ x9 < 0 then bl_off (S.1 x9) else S.1 x9), S.2) := by
    refine Prod.ext ?_ rfl
    funext c; dsimp only; rw [if_neg (by omega)]
  have k := l_empty (gl := gl) (gi := gi) hF er S 16 0 (by omega) (by omega)
  rw [← e] at k
  exact k
end VERD3
