/-! Verdict: all judged -/
noncomputable def zb (P : Prop) : Int := @ite Int P (Classical.propDecidable P) 1 0
theorem zb_q (P : Prop) : Zq P (zb P) := ⟨fun h => by unfold zb; rw [if_pos h], fun h => by unfold zb; rw [if_neg h]⟩
def v_bl (V : vV) (pl b : gRw) : Prop := ∃ j : Int, (v_lo pl b ≤ j ∧ j ≤ v_hi pl b) ∧ ∃ k : Int, 0 ≤ k ∧ k < V.1 j ∧ V.2.1 j k ≤ b 1 + pl 5 ∧ b 0 + pl 5 ≤ V.2.2 j k
def v_rule (pl kn nu r : gRw) : Int := v_rl kn nu r (pl 2).toNat 0
def v_all (er : Int → gRw) (pl kn nu bb0 : gRw) (V0 : vV) : Nat → gRw × vV
  | 0 => (bb0, V0)
  | b + 1 => (r_up (v_all er pl kn nu bb0 V0 b).1 b (v_rule pl kn nu (er b)), if v_rule pl kn nu (er b) = -4 then (v_all er pl kn nu bb0 V0 b).2 else v_open (v_all er pl kn nu bb0 V0 b).2 pl (er b))
/-- what a blob must be so that it can be judged -/
def v_bok (pl b : gRw) : Prop := bl_ok b ∧ b 0 ≤ 100 ∧ b 1 ≤ 100
def v_pok (pl : gRw) : Prop := (1 ≤ pl 4 ∧ 0 ≤ pl 3 ∧ 0 < v_cpv pl) ∧ (0 ≤ pl 5 ∧ pl 5 ≤ 100) ∧ (0 ≤ pl 6 ∧ pl 6 ≤ 100) ∧ (0 ≤ pl 7 ∧ pl 7 ≤ 100) ∧ (0 ≤ pl 2 ∧ pl 2 ≤ 4)
theorem v_wants_ok {fr to r B : Int} (hf : -1000 ≤ fr ∧ fr ≤ 1000) (ht : -1000 ≤ to ∧ to ≤ 1000) : ∀ (n : Nat) (j : Int) (V : vV), 0 ≤ j → j + n ≤ 16 → v_ok V (fun i => if i < j then B + 1 else B) → v_ok (v_wants fr to r n j V) (fun _ => B + 1) := by
  intro n
  induction n with
  | zero =>
    intro j V h0 h1 h i i0 i1
    obtain ⟨q1, q2⟩ := h i i0 i1
    refine ⟨⟨q1.1, ?_⟩, q2⟩
    have q3 : V.1 i ≤ (if i < j then B + 1 else B) := q1.2
    show V.1 i ≤ B + 1
    split at q3 <;> omega
  | succ n ih =>
    intro j V h0 h1 h
    rw [v_wants]
    refine ih (j + 1) _ (by omega) (by omega) ?_
    have hk := v_want_ok (r := r) h h0 (by omega) hf ht
    intro i i0 i1
    obtain ⟨q1, q2⟩ := hk i i0 i1
    refine ⟨⟨q1.1, ?_⟩, q2⟩
    have q3 := q1.2
    dsimp only
    by_cases hij : i = j
    · subst hij; rw [g_row_at] at q3; rw [if_neg (Int.lt_irrefl i)] at q3; rw [if_pos (by omega)]; exact q3
    · rw [g_row_ne hij] at q3
      by_cases hlt : i < j
      · rw [if_pos hlt] at q3; rw [if_pos (by omega)]; exact q3
      · rw [if_neg hlt] at q3; rw [if_neg (by omega)]; exact q3
theorem v_open_ok {V : vV} {pl b : gRw} {B : Int} (h : v_ok V (fun _ => B)) (hp : v_pok pl) (hb : v_bok pl b) : v_ok (v_open V pl b) (fun _ => B + 1) := by
  have hup : v_ok V (fun _ => B + 1) := fun j j0 j1 => ⟨⟨(h j j0 j1).1.1, by have : V.1 j ≤ B := (h j j0 j1).1.2; dsimp only; omega⟩, (h j j0 j1).2⟩
  have b0 := hb.1 0 (by decide) (by decide)
  have b1 := hb.1 1 (by decide) (by decide)
  have b3 := hb.1 3 (by decide) (by decide)
  have b01 := hb.2
  have p5 := hp.2
  unfold v_open
  split
  · exact hup
  · by_cases hn : v_hi pl b < v_lo pl b
    · rw [show (v_hi pl b - v_lo pl b + 1).toNat = 0 by omega]
      exact hup
    · have h15 : v_hi pl b ≤ 15 := by unfold v_hi; omega
      have h00 : 0 ≤ v_lo pl b := by unfold v_lo; omega
      refine v_wants_ok (by unfold v_fr; omega) (by unfold v_to; omega) _ _ V h00 (by omega) (fun j j0 j1 => ⟨⟨(h j j0 j1).1.1, ?_⟩, (h j j0 j1).2⟩)
      have : V.1 j ≤ B := (h j j0 j1).1.2
      dsimp only
      split <;> omega
theorem v_all_ok {er : Int → gRw} {pl kn nu bb0 : gRw} {V0 : vV} (hp : v_pok pl) (h0 : v_ok V0 (fun _ => 0)) : ∀ n : Nat, (∀ b : Int, 0 ≤ b → b < n → v_bok pl (er b)) → v_ok (v_all er pl kn nu bb0 V0 n).2 (fun _ => n) := by
  intro n
  induction n with
  | zero => intro _; exact h0
  | succ n ih =>
    intro hb
    have h1 := ih (fun b b0 b1 => hb b b0 (by omega))
    have hc : (fun _ : Int => ((n + 1 : Nat) : Int)) = (fun _ : Int => (n : Int) + 1) := by funext _; omega
    rw [hc]
    simp only [v_all]
    split
    · exact fun j j0 j1 => ⟨⟨(h1 j j0 j1).1.1, by have : (v_all er pl kn nu bb0 V0 n).2.1 j ≤ (n : Int) := (h1 j j0 j1).1.2; dsimp only; omega⟩, (h1 j j0 j1).2⟩
    · exact v_open_ok h1 hp (hb n (by omega) (by omega))
theorem vm_self {gi : gF} {v : Int} : gi = vmem gi v (gi (v + 1)) (gi (v + 2)) (fun j => gi (v + 4 + 3 * j) 2, fun j => gi (v + 4 + 3 * j + 1), fun j => gi (v + 4 + 3 * j + 2)) := by
  funext b
  unfold vmem
  split
  · rename_i h; rw [h]
  · split
    · rename_i h; rw [h]
    · split
      · split
        · dsimp only
          rw [show v + 4 + 3 * ((b - (v + 4)) / 3) = b by omega]
          funext k
          simp only [r_up]
          split
          · rename_i h; rw [h]
          · rfl
        · split
          · dsimp only; rw [show v + 4 + 3 * ((b - (v + 4)) / 3) + 1 = b by omega]
          · dsimp only; rw [show v + 4 + 3 * ((b - (v + 4)) / 3) + 2 = b by omega]
      · rfl
section VERD2
variable {gi gl : gF} {sh : gSh} {oa a v p : Int} {bb bw : gRw}
set_option maxRecDepth 20000 in
set_option maxHeartbeats 1000000 in
theorem l_isBlown (hV : isVerd sh v) (hP : isPlan sh a) (hav : a < v ∨ v + 52 ≤ a) (hpv : p < v) (hb : sh.2.1 p = 0) (hbo : v_bok (gi a) (gi p)) (hpo : v_pok (gi a)) (V : vV) (hv : v_ok V (fun _ => 31)) (z : Int) (hz : Zq (v_bl V (gi a) (gi p)) z) : ∀ (n : Nat) (j : Int), v_lo (gi a) (gi p) ≤ j → n = (v_hi (gi a) (gi p) - j + 1).toNat → (∀ i : Int, v_lo (gi a) (gi p) ≤ i → i < j → ¬ ∃ k : Int, 0 ≤ k ∧ k < V.1 i ∧ V.2.1 i k ≤ gi p 1 + gi a 5 ∧ gi p 0 + gi a 5 ≤ V.2.2 i k) →
    Go mdX7_isBlown 0 0 28 [some (vR v), some (vR a), some (vR p), some (vI (v_hi (gi a) (gi p))), some (vI j)] [] (vmem gi v bb bw V) gl sh (Rt (some (vI z)) (vmem gi v bb bw V) gl sh) := by
  obtain ⟨k0, r0, r1, r2, kb, lb, kw, lw, kv, lv, hJ⟩ := id hV
  have hP0 := hP.1
  have fp : (vmem gi v bb bw V) a = gi a := vm_x (by omega)
  have fq : (vmem gi v bb bw V) p = gi p := vm_x (by omega)
  have b0 := hbo.1 0 (by decide) (by decide)
  have b1 := hbo.1 1 (by decide) (by decide)
  have p5 := hpo.2.1
  have hlo : 0 ≤ v_lo (gi a) (gi p) := by unfold v_lo; omega
  have hhi : v_hi (gi a) (gi p) ≤ 15 := by unfold v_hi; omega
  have b01 := hbo.2
  have hend : ∀ j : Int, v_hi (gi a) (gi p) < j → (∀ i : Int, v_lo (gi a) (gi p) ≤ i → i < j → ¬ ∃ k : Int, 0 ≤ k ∧ k < V.1 i ∧ V.2.1 i k ≤ gi p 1 + gi a 5 ∧ gi p 0 + gi a 5 ≤ V.2.2 i k) → (0 : Int) = z := fun j hj hn => by
    rw [hz.2 (fun ⟨i, hi, hk⟩ => hn i hi.1 (by omega) hk)]
  intro n
  induction n with
  | zero =>
    intro j h0 h1 hn
    refine g_iload dX7_isBlown_28 rfl ?_
    refine g_iload_n dX7_isBlown_30 rfl ?_
    refine g_icmp_gt 73 dX7_isBlown_31 (by decide) (fun h31 => ?_) (fun h31 => ?_)
    · skip
      refine g_iconst dX7_isBlown_73 (by decide) ?_
      refine g_zreturn dX7_isBlown_74 rfl (by omega) ?_
      exact ⟨by rw [hend j (by omega) hn], rfl, rfl, rfl⟩
    · exfalso; omega
  | succ n ih =>
    intro j h0 h1 hn
    obtain ⟨hr, hq⟩ := hJ j (by omega) (by omega)
    have hq0 := hq.1
    obtain ⟨hvb, hvk⟩ := hv j (by omega) (by omega)
    have hvb2 : V.1 j ≤ 31 := hvb.2
    have fo : (vmem gi v bb bw V) (v + 4 + 3 * j) 2 = V.1 j := by rw [vm_o (by omega) (by omega), r_up_at]
    obtain ⟨y, hy⟩ := Zq.ex (∃ k : Int, 0 ≤ k ∧ k < V.1 j ∧ V.2.1 j k ≤ gi p 1 + gi a 5 ∧ gi p 0 + gi a 5 ≤ V.2.2 j k)
    have hcall := c_isOpenWithin (gi := (vmem gi v bb bw V)) (gl := gl) hq (gi p 0 + gi a 5) (gi p 1 + gi a 5) y (by rw [fo]; exact hvb2) (by rw [fo, vm_f (by omega) (by omega), vm_l (by omega) (by omega)]; exact hy.1) (by rw [fo, vm_f (by omega) (by omega), vm_l (by omega) (by omega)]; exact hy.2)
    refine g_iload dX7_isBlown_28 rfl ?_
    refine g_iload_n dX7_isBlown_30 rfl ?_
    refine g_icmp_gt 73 dX7_isBlown_31 (by decide) (fun h31 => ?_) (fun h31 => ?_)
    · exfalso; omega
    · skip
      refine g_aload_n dX7_isBlown_34 rfl ?_
      refine g_getR 2 dX7_isBlown_35 flX7_21 rfl (by assumption) (by assumption) ?_
      refine g_iload dX7_isBlown_38 rfl ?_
      refine g_aaload dX7_isBlown_40 (by assumption) (by decide) (by decide) (by omega) (by omega) (by assumption) ?_
      refine g_aload_n dX7_isBlown_41 rfl ?_
      refine g_getIN 0 dX7_isBlown_42 fnX7_112 rfl (by assumption) ?_
      refine g_aload_n dX7_isBlown_45 rfl ?_
      refine g_getIN 5 dX7_isBlown_46 fnX7_115 rfl (by assumption) ?_
      rw [fp, fq]
      refine g_iadd dX7_isBlown_49 (by omega) (by omega) ?_
      refine g_aload_n dX7_isBlown_50 rfl ?_
      refine g_getIN 1 dX7_isBlown_51 fnX7_118 rfl (by assumption) ?_
      refine g_aload_n dX7_isBlown_54 rfl ?_
      refine g_getIN 5 dX7_isBlown_55 fnX7_115 rfl (by assumption) ?_
      rw [fp, fq]
      refine g_iadd dX7_isBlown_58 (by omega) (by omega) ?_
      refine g_cVi [_, _] dX7_isBlown_59 mlX7_121 mvX6_isOpenWithin (by decide) (by assumption) (by decide) rfl rfl (Nat.le_of_ble_eq_true rfl) rfl (Nat.le_of_ble_eq_true rfl) (hcall) ?_
      refine g_if_eq 67 dX7_isBlown_62 (by decide) (fun q1 => ?_) (fun q1 => ?_)
      · skip
        refine n_iinc (lN := [_, _, _, _, _]) dX7_isBlown_67 rfl (by decide) (by omega) (by omega) rfl ?_
        refine g_goto 28 dX7_isBlown_70 (by decide) ?_
        exact ih (j + 1) (by omega) (by omega) (fun i i0 i1 => if h : i = j then (by subst h; exact hy.no q1) else hn i i0 (by omega))
      · skip
        refine g_iconst dX7_isBlown_65 (by decide) ?_
        refine g_zreturn dX7_isBlown_66 rfl (by omega) ?_
        exact ⟨by rw [hz.1 ⟨j, ⟨h0, by omega⟩, hy.yes q1⟩], rfl, rfl, rfl⟩
set_option maxRecDepth 20000 in
theorem c_isBlown (hV : isVerd sh v) (hP : isPlan sh a) (hav : a < v ∨ v + 52 ≤ a) (hpv : p < v) (hb : sh.2.1 p = 0) (hbo : v_bok (gi a) (gi p)) (hpo : v_pok (gi a)) (V : vV) (hv : v_ok V (fun _ => 31)) (z : Int) (hz : Zq (v_bl V (gi a) (gi p)) z) : Ct mdX7_isBlown 0 0 [vR v, vR a, vR p] (vmem gi v bb bw V) gl sh (Rt (some (vI z)) (vmem gi v bb bw V) gl sh) := by
  show Go mdX7_isBlown 0 0 0 [some (vR v), some (vR a), some (vR p), none, none] [] (vmem gi v bb bw V) gl sh _
  have hP0 := hP.1
  have fp : (vmem gi v bb bw V) a = gi a := vm_x (by omega)
  have fq : (vmem gi v bb bw V) p = gi p := vm_x (by omega)
  have b3 := hbo.1 3 (by decide) (by decide)
  have b4 := hbo.1 4 (by decide) (by decide)
  refine g_aload_n dX7_isBlown_0 rfl ?_
  refine g_aload_n dX7_isBlown_1 rfl ?_
  refine g_getIN 4 dX7_isBlown_2 fnX7_96 rfl (by assumption) ?_
  refine g_cVi [_] dX7_isBlown_5 mlX7_99 mvX3_valveOver (by decide) (by assumption) (by decide) rfl rfl (Nat.le_of_ble_eq_true rfl) rfl (Nat.le_of_ble_eq_true rfl) (c_valveOver hP0 _ (by rw [fq]; exact b4.1) (by rw [fp]; exact hpo.1.1) (by rw [fp]; exact hpo.1.2.1) (by rw [fp]; exact hpo.1.2.2)) ?_
  rw [fp, fq]
  refine g_bipush dX7_isBlown_8 (by decide) (by decide) ?_
  refine g_min dX7_isBlown_10 mlX7_62 (Nat.le_of_ble_eq_true rfl) ?_
  refine n_istore_n (lN := [_, _, _, _, _]) dX7_isBlown_13 (by decide) rfl ?_
  refine g_aload_n dX7_isBlown_14 rfl ?_
  refine g_aload_n dX7_isBlown_15 rfl ?_
  refine g_getIN 3 dX7_isBlown_16 fnX7_102 rfl (by assumption) ?_
  refine g_cVi [_] dX7_isBlown_19 mlX7_99 mvX3_valveOver (by decide) (by assumption) (by decide) rfl rfl (Nat.le_of_ble_eq_true rfl) rfl (Nat.le_of_ble_eq_true rfl) (c_valveOver hP0 _ (by rw [fq]; exact b3.1) (by rw [fp]; exact hpo.1.1) (by rw [fp]; exact hpo.1.2.1) (by rw [fp]; exact hpo.1.2.2)) ?_
  rw [fp, fq]
  refine g_iconst dX7_isBlown_22 (by decide) ?_
  refine g_max dX7_isBlown_23 mlX7_93 (Nat.le_of_ble_eq_true rfl) ?_
  refine n_istore (lN := [_, _, _, _, _]) dX7_isBlown_26 (by decide) rfl ?_
  exact l_isBlown hV hP hav hpv hb hbo hpo V hv z hz _ (v_lo (gi a) (gi p)) (Int.le_refl _) rfl (fun i i0 i1 => by omega)
set_option maxRecDepth 20000 in
set_option maxHeartbeats 1000000 in
theorem l_judge3 (hV : isVerd sh v) (hF : isFold sh oa) (hP : isPlan sh a) (hav : a < v ∨ v + 52 ≤ a) (hv79 : 79 ≤ v) (nb : Int) (hn : sh.2.1 nb = 11) (hnl : (sh.2.2.1 nb : Int) = 4) (hnv : nb < v ∨ v + 52 ≤ nb) (hna : a + 1 < v ∨ v + 52 ≤ a + 1) (ec : Int) (he : gi 27 4 = ec) (hec : 0 ≤ ec ∧ ec ≤ 31) (hpo : v_pok (gi a)) (hbo : ∀ b : Int, 0 ≤ b → b < ec → v_bok (gi a) (gi (32 + b))) (V : vV) (hv : v_ok V (fun _ => 31)) : ∀ (n : Nat) (b : Int), 0 ≤ b → b + n = ec → Go mdX7_judgeAll 0 0 65 [some (vR v), some (vR a), some (vR nb), some (vR 27), some (vI b)] [] (vmem gi v bb (fun x9 => if 0 ≤ x9 ∧ x9 < b then zb (v_bl V (gi a) (gi (32 + x9))) else gi (v + 2) x9) V) gl sh (Rt none (vmem gi v bb (fun x9 => if 0 ≤ x9 ∧ x9 < ec then zb (v_bl V (gi a) (gi (32 + x9))) else gi (v + 2) x9) V) gl sh) := by
  obtain ⟨k0, r0, r1, r2, kb, lb, kw, lw, kv, lv, hJ⟩ := id hV
  obtain ⟨f0, fr0, -, -, -, ho, f1, fl1, -, -, -, -, hE, -⟩ := id hF
  intro n
  induction n with
  | zero =>
    intro b h0 h1
    refine g_iload dX7_judgeAll_65 rfl ?_
    refine g_aload_n dX7_judgeAll_67 rfl ?_
    refine g_cSi [_] dX7_judgeAll_68 mlX7_33 msX7_endedOf (by decide) rfl rfl (Nat.le_of_ble_eq_true rfl) rfl (Nat.le_of_ble_eq_true rfl) (c_endedOf f0 ec (by rw [vm_x (by omega)]; exact he) hec) ?_
    refine g_icmp_ge 99 dX7_judgeAll_71 (by decide) (fun h71 => ?_) (fun h71 => ?_)
    · skip
      refine g_return dX7_judgeAll_99 rfl ?_
      obtain rfl : ec = b := by omega
      exact ⟨rfl, rfl, rfl, rfl⟩
    · exfalso; omega
  | succ n ih =>
    intro b h0 h1
    obtain ⟨hr, hk⟩ := hE b h0 (by omega)
    have hzq := zb_q (v_bl V (gi a) (gi (32 + b)))
    have hzb := hzq.b
    refine g_iload dX7_judgeAll_65 rfl ?_
    refine g_aload_n dX7_judgeAll_67 rfl ?_
    refine g_cSi [_] dX7_judgeAll_68 mlX7_33 msX7_endedOf (by decide) rfl rfl (Nat.le_of_ble_eq_true rfl) rfl (Nat.le_of_ble_eq_true rfl) (c_endedOf f0 ec (by rw [vm_x (by omega)]; exact he) hec) ?_
    refine g_icmp_ge 99 dX7_judgeAll_71 (by decide) (fun h71 => ?_) (fun h71 => ?_)
    · exfalso; omega
    · skip
      refine g_aload_n dX7_judgeAll_74 rfl ?_
      refine g_getR 1 dX7_judgeAll_75 flX7_15 rfl (by assumption) (by assumption) ?_
      refine g_iload dX7_judgeAll_78 rfl ?_
      refine g_aload_n dX7_judgeAll_80 rfl ?_
      refine g_aload_n dX7_judgeAll_81 rfl ?_
      refine g_aload_n dX7_judgeAll_82 rfl ?_
      refine g_getRN 0 dX7_judgeAll_83 fnX7_37 rfl (by assumption) (by assumption) ?_
      refine g_iload dX7_judgeAll_86 rfl ?_
      refine g_aaload dX7_judgeAll_88 (by assumption) (by decide) (by decide) (by omega) (by omega) (by assumption) ?_
      refine g_cVi [_, _] dX7_judgeAll_89 mlX7_55 mvX7_isBlown (by decide) (by assumption) (by decide) rfl rfl (Nat.le_of_ble_eq_true rfl) rfl (Nat.le_of_ble_eq_true rfl) (c_isBlown hV hP hav (by omega) hk (hbo b h0 (by omega)) hpo V hv _ hzq) ?_
      refine g_bastore dX7_judgeAll_92 (by assumption) (by omega) (by omega) (by exact hzb) ?_
      refine n_iinc (lN := [_, _, _, _, _]) dX7_judgeAll_93 rfl (by decide) (by omega) (by omega) rfl ?_
      refine g_goto 65 dX7_judgeAll_96 (by decide) ?_
      have e : g_up (vmem gi v bb (fun x9 => if 0 ≤ x9 ∧ x9 < b then zb (v_bl V (gi a) (gi (32 + x9))) else gi (v + 2) x9) V) (v + 2) b (zb (v_bl V (gi a) (gi (32 + b)))) = (vmem gi v bb (fun x9 => if 0 ≤ x9 ∧ x9 < (b + 1) then zb (v_bl V (gi a) (gi (32 + x9))) else gi (v + 2) x9) V) := by
        rw [g_up_as_row, vm_w, vm_rw]
        congr 1
        funext c
        by_cases hc : c = b
        · subst hc; rw [if_pos rfl, if_pos (by omega)]
        · rw [if_neg hc]
          by_cases h9 : 0 ≤ c ∧ c < b
          · rw [if_pos h9, if_pos (by omega)]
          · rw [if_neg h9, if_neg (by omega)]
      rw [e]
      exact ih (b + 1) (by omega) (by omega)
set_option maxRecDepth 20000 in
set_option maxHeartbeats 1000000 in
theorem l_judge2 (hV : isVerd sh v) (hF : isFold sh oa) (hP : isPlan sh a) (hav : a < v ∨ v + 52 ≤ a) (hv79 : 79 ≤ v) (nb : Int) (hn : sh.2.1 nb = 11) (hnl : (sh.2.2.1 nb : Int) = 4) (hnv : nb < v ∨ v + 52 ≤ nb) (hna : a + 1 < v ∨ v + 52 ≤ a + 1) (ec : Int) (he : gi 27 4 = ec) (hec : 0 ≤ ec ∧ ec ≤ 31) (hpo : v_pok (gi a)) (hbo : ∀ b : Int, 0 ≤ b → b < ec → v_bok (gi a) (gi (32 + b))) (V0 : vV) (hv0 : v_ok V0 (fun _ => 0)) : ∀ (n : Nat) (b : Int), 0 ≤ b → b + n = ec → Go mdX7_judgeAll 0 0 7 [some (vR v), some (vR a), some (vR nb), some (vR 27), some (vI b)] [] (vmem gi v (v_all (fun b => gi (32 + b)) (gi a) (gi (a + 1)) (gi nb) (gi (v + 1)) V0 (b).toNat).1 (gi (v + 2)) (v_all (fun b => gi (32 + b)) (gi a) (gi (a + 1)) (gi nb) (gi (v + 1)) V0 (b).toNat).2) gl sh (Rt none (vmem gi v (v_all (fun b => gi (32 + b)) (gi a) (gi (a + 1)) (gi nb) (gi (v + 1)) V0 ec.toNat).1 (fun x9 => if 0 ≤ x9 ∧ x9 < ec then zb (v_bl (v_all (fun b => gi (32 + b)) (gi a) (gi (a + 1)) (gi nb) (gi (v + 1)) V0 ec.toNat).2 (gi a) (gi (32 + x9))) else gi (v + 2) x9) (v_all (fun b => gi (32 + b)) (gi a) (gi (a + 1)) (gi nb) (gi (v + 1)) V0 ec.toNat).2) gl sh) := by
  obtain ⟨k0, r0, r1, r2, kb, lb, kw, lw, kv, lv, hJ⟩ := id hV
  obtain ⟨f0, fr0, -, -, -, ho, f1, fl1, -, -, -, -, hE, -⟩ := id hF
  have hP0 := hP.1
  intro n
  induction n with
  | zero =>
    intro b h0 h1
    obtain rfl : ec = b := by omega
    have hall := v_all_ok (er := fun b => gi (32 + b)) (kn := gi (a + 1)) (nu := gi nb) (bb0 := gi (v + 1)) hpo hv0 ec.toNat (fun c c0 c1 => hbo c c0 (by omega))
    refine g_iload dX7_judgeAll_7 rfl ?_
    refine g_aload_n dX7_judgeAll_9 rfl ?_
    refine g_cSi [_] dX7_judgeAll_10 mlX7_33 msX7_endedOf (by decide) rfl rfl (Nat.le_of_ble_eq_true rfl) rfl (Nat.le_of_ble_eq_true rfl) (c_endedOf f0 ec (by rw [vm_x (by omega)]; exact he) hec) ?_
    refine g_icmp_ge 62 dX7_judgeAll_13 (by decide) (fun h13 => ?_) (fun h13 => ?_)
    · skip
      refine g_iconst dX7_judgeAll_62 (by decide) ?_
      refine n_istore (lN := [_, _, _, _, _]) dX7_judgeAll_63 (by decide) rfl ?_
      have e : gi (v + 2) = (fun x9 => if 0 ≤ x9 ∧ x9 < 0 then zb (v_bl (v_all (fun b => gi (32 + b)) (gi a) (gi (a + 1)) (gi nb) (gi (v + 1)) V0 ec.toNat).2 (gi a) (gi (32 + x9))) else gi (v + 2) x9) := by
        funext c; rw [if_neg (by omega)]
      have k := l_judge3 (gl := gl) (bb := (v_all (fun b => gi (32 + b)) (gi a) (gi (a + 1)) (gi nb) (gi (v + 1)) V0 ec.toNat).1) hV hF hP hav hv79 nb hn hnl hnv hna ec he hec hpo hbo (v_all (fun b => gi (32 + b)) (gi a) (gi (a + 1)) (gi nb) (gi (v + 1)) V0 ec.toNat).2 (fun j j0 j1 => ⟨⟨(hall j j0 j1).1.1, Int.le_trans (hall j j0 j1).1.2 (by dsimp only; omega)⟩, (hall j j0 j1).2⟩) ec.toNat 0 (by omega) (by omega)
      rw [← e] at k
      exact k
    · exfalso; omega
  | succ n ih =>
    intro b h0 h1
    obtain ⟨hr, hk⟩ := hE b h0 (by omega)
    have hbb := hbo b h0 (by omega)
    have hall := v_all_ok (er := fun b => gi (32 + b)) (kn := gi (a + 1)) (nu := gi nb) (bb0 := gi (v + 1)) hpo hv0 b.toNat (fun c c0 c1 => hbo c c0 (by omega))
    have hstep : v_all (fun b => gi (32 + b)) (gi a) (gi (a + 1)) (gi nb) (gi (v + 1)) V0 (b + 1).toNat = (r_up (v_all (fun b => gi (32 + b)) (gi a) (gi (a + 1)) (gi nb) (gi (v + 1)) V0 b.toNat).1 b (v_rule (gi a) (gi (a + 1)) (gi nb) (gi (32 + b))), if v_rule (gi a) (gi (a + 1)) (gi nb) (gi (32 + b)) = -4 then (v_all (fun b => gi (32 + b)) (gi a) (gi (a + 1)) (gi nb) (gi (v + 1)) V0 b.toNat).2 else v_open (v_all (fun b => gi (32 + b)) (gi a) (gi (a + 1)) (gi nb) (gi (v + 1)) V0 b.toNat).2 (gi a) (gi (32 + b))) := by
      rw [show (b + 1).toNat = b.toNat + 1 by omega, v_all, show ((b.toNat : Nat) : Int) = b by omega]
    have hih := ih (b + 1) (by omega) (by omega)
    rw [hstep] at hih
    generalize v_all (fun b => gi (32 + b)) (gi a) (gi (a + 1)) (gi nb) (gi (v + 1)) V0 b.toNat = X at hih hall
    have hall2 : v_ok X.2 (fun _ => 30) := fun j j0 j1 => ⟨⟨(hall j j0 j1).1.1, Int.le_trans (hall j j0 j1).1.2 (by dsimp only; omega)⟩, (hall j j0 j1).2⟩
    have fx : ∀ (bb : gRw) (V : vV) (c : Int), (c ≤ v ∨ c = v + 3 ∨ v + 52 ≤ c) → vmem gi v bb (gi (v + 2)) V c = gi c := fun bb V c hc => vm_x hc
    obtain ⟨z, hz⟩ := Zq.ex (v_rule (gi a) (gi (a + 1)) (gi nb) (gi (32 + b)) ≠ -4)
    have hrule := c_rule (gi := vmem gi v X.1 (gi (v + 2)) X.2) (gl := gl) (p := 32 + b) hP nb hn hnl hk (by rw [fx _ _ _ (by omega)]; exact hbb.1) (by rw [fx _ _ _ (by omega)]; exact hpo.2.2.2.2)
    rw [fx _ _ (a + 1) (by omega), fx _ _ nb (by omega), fx _ _ (32 + b) (by omega), fx _ _ a (by omega)] at hrule
    refine g_iload dX7_judgeAll_7 rfl ?_
    refine g_aload_n dX7_judgeAll_9 rfl ?_
    refine g_cSi [_] dX7_judgeAll_10 mlX7_33 msX7_endedOf (by decide) rfl rfl (Nat.le_of_ble_eq_true rfl) rfl (Nat.le_of_ble_eq_true rfl) (c_endedOf f0 ec (by rw [vm_x (by omega)]; exact he) hec) ?_
    refine g_icmp_ge 62 dX7_judgeAll_13 (by decide) (fun h13 => ?_) (fun h13 => ?_)
    · exfalso; omega
    · skip
      refine g_aload_n dX7_judgeAll_16 rfl ?_
      refine g_getR 0 dX7_judgeAll_17 flX7_9 rfl (by assumption) (by assumption) ?_
      refine g_iload dX7_judgeAll_20 rfl ?_
      refine g_aload_n dX7_judgeAll_22 rfl ?_
      refine g_aload_n dX7_judgeAll_23 rfl ?_
      refine g_aload_n dX7_judgeAll_24 rfl ?_
      refine g_getRN 0 dX7_judgeAll_25 fnX7_37 rfl (by assumption) (by assumption) ?_
      refine g_iload dX7_judgeAll_28 rfl ?_
      refine g_aaload dX7_judgeAll_30 (by assumption) (by decide) (by decide) (by omega) (by omega) (by assumption) ?_
      refine g_cSi [_, _, _] dX7_judgeAll_31 mlX7_43 msX7_firstRuleFor (by decide) rfl rfl (Nat.le_of_ble_eq_true rfl) rfl (Nat.le_of_ble_eq_true rfl) (hrule) ?_
      refine g_iastore dX7_judgeAll_34 (by assumption) (by omega) (by omega) ?_
      rw [g_up_as_row, vm_b, vm_rb]
      refine g_aload_n dX7_judgeAll_35 rfl ?_
      refine g_iload dX7_judgeAll_36 rfl ?_
      refine g_cVi [_] dX7_judgeAll_38 mlX7_47 mvX7_isBad (by decide) (by assumption) (by decide) rfl rfl (Nat.le_of_ble_eq_true rfl) rfl (Nat.le_of_ble_eq_true rfl) (c_isBad hV b z ⟨h0, by omega⟩ (by rw [vm_b]; simp only [if_true]; exact hz)) ?_
      refine g_if_eq 56 dX7_judgeAll_41 (by decide) (fun q1 => ?_) (fun q1 => ?_)
      · skip
        refine n_iinc (lN := [_, _, _, _, _]) dX7_judgeAll_56 rfl (by decide) (by omega) (by omega) rfl ?_
        refine g_goto 7 dX7_judgeAll_59 (by decide) ?_
        rw [if_pos (Classical.byContradiction (fun q => hz.no q1 q))] at hih
        exact hih
      · skip
        refine g_aload_n dX7_judgeAll_44 rfl ?_
        refine g_aload_n dX7_judgeAll_45 rfl ?_
        refine g_aload_n dX7_judgeAll_46 rfl ?_
        refine g_getRN 0 dX7_judgeAll_47 fnX7_37 rfl (by assumption) (by assumption) ?_
        refine g_iload dX7_judgeAll_50 rfl ?_
        refine g_aaload dX7_judgeAll_52 (by assumption) (by decide) (by decide) (by omega) (by omega) (by assumption) ?_
        refine g_cVv [_, _] dX7_judgeAll_53 mlX7_51 mvX7_openFor (by decide) (by assumption) (by decide) rfl rfl (Nat.le_of_ble_eq_true rfl) rfl (Nat.le_of_ble_eq_true rfl) (c_openFor hV hP hav (by omega) hk hbb.1 hpo.1 ⟨hpo.2.1, hpo.2.2.1, hpo.2.2.2.1, hbb.2⟩ X.2 hall2) ?_
        refine n_iinc (lN := [_, _, _, _, _]) dX7_judgeAll_56 rfl (by decide) (by omega) (by omega) rfl ?_
        refine g_goto 7 dX7_judgeAll_59 (by decide) ?_
        rw [if_neg (hz.yes q1)] at hih
        exact hih
set_option maxRecDepth 20000 in
set_option maxHeartbeats 1000000 in
theorem l_closeAll (hV : isVerd sh v) : ∀ (n : Nat) (j : Int), 0 ≤ j → j + n = 16 → Go mdX7_closeAll 0 0 2 [some (vR v), some (vI j)] [] (vmem gi v (gi (v + 1)) (gi (v + 2)) (fun x9 => if 0 ≤ x9 ∧ x9 < j then 0 else gi (v + 4 + 3 * x9) 2, fun x9 => gi (v + 4 + 3 * x9 + 1), fun x9 => gi (v + 4 + 3 * x9 + 2))) gl sh (Rt none (vmem gi v (gi (v + 1)) (gi (v + 2)) (fun x9 => if 0 ≤ x9 ∧ x9 < 16 then 0 else gi (v + 4 + 3 * x9) 2, fun x9 => gi (v + 4 + 3 * x9 + 1), fun x9 => gi (v + 4 + 3 * x9 + 2))) gl sh) := by
  obtain ⟨k0, r0, r1, r2, kb, lb, kw, lw, kv, lv, hJ⟩ := id hV
  intro n
  induction n with
  | zero =>
    intro j h0 h1
    obtain rfl : j = 16 := by omega
    refine g_iload_n dX7_closeAll_2 rfl ?_
    refine g_aload_n dX7_closeAll_3 rfl ?_
    refine g_getR 2 dX7_closeAll_4 flX7_21 rfl (by assumption) (by assumption) ?_
    refine g_alen _ dX7_closeAll_7 (by omega) (by assumption) (by decide) ?_
    refine g_icmp_ge 27 dX7_closeAll_8 (by decide) (fun h8 => ?_) (fun h8 => ?_)
    · skip
      refine g_return dX7_closeAll_27 rfl ?_
      exact ⟨rfl, rfl, rfl, rfl⟩
    · exfalso; omega
  | succ n ih =>
    intro j h0 h1
    obtain ⟨hr, hq⟩ := hJ j h0 (by omega)
    have hq0 := hq.1
    refine g_iload_n dX7_closeAll_2 rfl ?_
    refine g_aload_n dX7_closeAll_3 rfl ?_
    refine g_getR 2 dX7_closeAll_4 flX7_21 rfl (by assumption) (by assumption) ?_
    refine g_alen _ dX7_closeAll_7 (by omega) (by assumption) (by decide) ?_
    refine g_icmp_ge 27 dX7_closeAll_8 (by decide) (fun h8 => ?_) (fun h8 => ?_)
    · exfalso; omega
    · skip
      refine g_aload_n dX7_closeAll_11 rfl ?_
      refine g_getR 2 dX7_closeAll_12 flX7_21 rfl (by assumption) (by assumption) ?_
      refine g_iload_n dX7_closeAll_15 rfl ?_
      refine g_aaload dX7_closeAll_16 (by assumption) (by decide) (by decide) (by omega) (by omega) (by assumption) ?_
      refine g_iconst dX7_closeAll_17 (by decide) ?_
      refine g_putIN 2 dX7_closeAll_18 fnX7_26 rfl (by assumption) ?_
      refine n_iinc (lN := [_, _]) dX7_closeAll_21 rfl (by decide) (by omega) (by omega) rfl ?_
      refine g_goto 2 dX7_closeAll_24 (by decide) ?_
      have e : g_up (vmem gi v (gi (v + 1)) (gi (v + 2)) (fun x9 => if 0 ≤ x9 ∧ x9 < j then 0 else gi (v + 4 + 3 * x9) 2, fun x9 => gi (v + 4 + 3 * x9 + 1), fun x9 => gi (v + 4 + 3 * x9 + 2))) (v + 4 + 3 * j) 2 0 = (vmem gi v (gi (v + 1)) (gi (v + 2)) (fun x9 => if 0 ≤ x9 ∧ x9 < (j + 1) then 0 else gi (v + 4 + 3 * x9) 2, fun x9 => gi (v + 4 + 3 * x9 + 1), fun x9 => gi (v + 4 + 3 * x9 + 2))) := by
        rw [vm_ro h0 (by omega)]
        congr 2
        funext c
        by_cases hc : c = j
        · subst hc; rw [g_row_at, if_pos (by omega)]
        · rw [g_row_ne hc]
          dsimp only
          by_cases h9 : 0 ≤ c ∧ c < j
          · rw [if_pos h9, if_pos (by omega)]
          · rw [if_neg h9, if_neg (by omega)]
      rw [e]
      exact ih (j + 1) (by omega) (by omega)
theorem c_closeAll (hV : isVerd sh v) : Ct mdX7_closeAll 0 0 [vR v] gi gl sh (Rt none (vmem gi v (gi (v + 1)) (gi (v + 2)) (fun x9 => if 0 ≤ x9 ∧ x9 < 16 then 0 else gi (v + 4 + 3 * x9) 2, fun x9 => gi (v + 4 + 3 * x9 + 1), fun x9 => gi (v + 4 + 3 * x9 + 2))) gl sh) := by
  show Go mdX7_closeAll 0 0 0 [some (vR v), none] [] gi gl sh _
  refine g_iconst dX7_closeAll_0 (by decide) ?_
  refine n_istore_n (lN := [_, _]) dX7_closeAll_1 (by decide) rfl ?_
  have e : gi = (vmem gi v (gi (v + 1)) (gi (v + 2)) (fun x9 => if 0 ≤ x9 ∧ x9 < 0 then 0 else gi (v + 4 + 3 * x9) 2, fun x9 => gi (v + 4 + 3 * x9 + 1), fun x9 => gi (v + 4 + 3 * x9 + 2))) := by
    refine (vm_self (gi := gi) (v := v)).trans ?_
    congr 2
    funext c; rw [if_neg (by omega)]
  have k := l_closeAll (gi := gi) (gl := gl) hV 16 0 (by omega) (by omega)
  rw [← e] at k
  exact k
theorem c_judgeAll (hV : isVerd sh v) (hF : isFold sh oa) (hP : isPlan sh a) (hav : a < v ∨ v + 52 ≤ a) (hv79 : 79 ≤ v) (nb : Int) (hn : sh.2.1 nb = 11) (hnl : (sh.2.2.1 nb : Int) = 4) (hnv : nb < v ∨ v + 52 ≤ nb) (hna : a + 1 < v ∨ v + 52 ≤ a + 1) (ec : Int) (he : gi 27 4 = ec) (hec : 0 ≤ ec ∧ ec ≤ 31) (hpo : v_pok (gi a)) (hbo : ∀ b : Int, 0 ≤ b → b < ec → v_bok (gi a) (gi (32 + b))) : Ct mdX7_judgeAll 0 0 [vR v, vR a, vR nb, vR 27] gi gl sh (Rt none (vmem gi v (v_all (fun b => gi (32 + b)) (gi a) (gi (a + 1)) (gi nb) (gi (v + 1)) (fun j => if 0 ≤ j ∧ j < 16 then 0 else gi (v + 4 + 3 * j) 2, fun j => gi (v + 4 + 3 * j + 1), fun j => gi (v + 4 + 3 * j + 2)) ec.toNat).1 (fun x9 => if 0 ≤ x9 ∧ x9 < ec then zb (v_bl (v_all (fun b => gi (32 + b)) (gi a) (gi (a + 1)) (gi nb) (gi (v + 1)) (fun j => if 0 ≤ j ∧ j < 16 then 0 else gi (v + 4 + 3 * j) 2, fun j => gi (v + 4 + 3 * j + 1), fun j => gi (v + 4 + 3 * j + 2)) ec.toNat).2 (gi a) (gi (32 + x9))) else gi (v + 2) x9) (v_all (fun b => gi (32 + b)) (gi a) (gi (a + 1)) (gi nb) (gi (v + 1)) (fun j => if 0 ≤ j ∧ j < 16 then 0 else gi (v + 4 + 3 * j) 2, fun j => gi (v + 4 + 3 * j + 1), fun j => gi (v + 4 + 3 * j + 2)) ec.toNat).2) gl sh) := by
  show Go mdX7_judgeAll 0 0 0 [some (vR v), some (vR a), some (vR nb), some (vR 27), none] [] gi gl sh _
  have k0 := hV.1
  refine g_aload_n dX7_judgeAll_0 rfl ?_
  refine g_cVv [] dX7_judgeAll_1 mlX7_30 mvX7_closeAll (by decide) (by assumption) (by decide) rfl rfl (Nat.le_of_ble_eq_true rfl) rfl (Nat.le_of_ble_eq_true rfl) (c_closeAll hV) ?_
  refine g_iconst dX7_judgeAll_4 (by decide) ?_
  refine n_istore (lN := [_, _, _, _, _]) dX7_judgeAll_5 (by decide) rfl ?_
  exact l_judge2 (gl := gl) hV hF hP hav hv79 nb hn hnl hnv hna ec he hec hpo hbo (fun j => if 0 ≤ j ∧ j < 16 then 0 else gi (v + 4 + 3 * j) 2, fun j => gi (v + 4 + 3 * j + 1), fun j => gi (v + 4 + 3 * j + 2)) (fun j j0 j1 => ⟨⟨by dsimp only; rw [if_pos ⟨j0, j1⟩]; exact Int.le_refl _, by dsimp only; rw [if_pos ⟨j0, j1⟩]; exact Int.le_refl _⟩, fun k k0 k1 => by dsimp only at k1; rw [if_pos ⟨j0, j1⟩] at k1; omega⟩) ec.toNat 0 (by omega) (by omega)
end VERD2
