/-! SpeckValves: the best number -/
noncomputable def be_ans (gi : gF) (la k w : Int) : Int := if ¬ (0 ≤ k ∧ k < gi la 2) ∨ w < 0 ∨ 1 < w then -1 else if w = 0 then (bs (fun x9 => wv (fvE gi) (gi la) (gi (la + 1)) (r_up (gi 6) k x9) (gi 27 4).toNat) 98).1 else (bs (fun x9 => wv (fvE gi) (gi la) (gi (la + 1)) (r_up (gi 6) k x9) (gi 27 4).toNat) 98).2 + 10000
theorem bs_b {W : Int → Int} {B : Int} (h : ∀ x, -B ≤ W x ∧ W x ≤ B) : ∀ n : Nat, (-B ≤ (bs W n).2 ∧ (bs W n).2 ≤ B) ∧ 1 ≤ (bs W n).1 ∧ (bs W n).1 ≤ n + 1 := by
  intro n
  induction n with
  | zero => exact ⟨h 1, Int.le_refl 1, by show (1 : Int) ≤ ((0 : Nat) : Int) + 1; omega⟩
  | succ n ih =>
    unfold bs
    split
    · exact ⟨h _, by dsimp only; omega, by dsimp only; omega⟩
    · exact ⟨ih.1, ih.2.1, by omega⟩
theorem wv_er {er es : Int → gRw} {pl kn nu : gRw} (n : Nat) (h : ∀ b : Int, 0 ≤ b → b < n → er b = es b) : wv er pl kn nu n = wv es pl kn nu n := by
  have ej : jv er pl kn nu n = jv es pl kn nu n := v_all_er n h
  unfold wv
  rw [v_wsum_er n h]
  refine v_wsum_congr n (fun b b0 b1 => ?_)
  unfold jb
  rw [ej, h b b0 b1]
section COMP10
variable {gi gl : gF} {sh : gSh} {la oa : Int}
set_option maxRecDepth 20000 in
set_option maxHeartbeats 1000000 in
theorem l_best (hc : CI gi gl sh la oa) (k w : Int) (hk : 0 ≤ k ∧ k < gi la 2) (hw : 0 ≤ w ∧ w ≤ 1) (W : Int → Int) (hWd : (fun x9 => wv (fvE gi) (gi la) (gi (la + 1)) (r_up (gi 6) k x9) (gi 27 4).toNat) = W) : ∀ (n : Nat) (x : Int), x + n = 100 → ∀ m : Nat, x = (m : Int) + 2 → ∀ g : gF, (∀ b : Int, b < 131 ∨ 184 ≤ b → g b = gi b) → (∀ i : Int, 0 ≤ i → i < 4 → i ≠ k → g 183 i = gi 6 i) → ∀ l6 : Option gV, (∀ y, l6 ≠ some (vL y)) → ∀ be mo : Int, be = (bs W m).1 → mo = (bs W m).2 →
    Go mdX8_best 0 0 49 [some (vR 0), some (vI k), some (vI w), some (vI be), some (vI mo), some (vI x), l6] [] g gl sh (fun r gi' gl' sh' => r = some (vI (be_ans gi la k w)) ∧ gl' = gl ∧ sh' = sh ∧ CI gi' gl sh la oa ∧ ∀ b : Int, b < 131 ∨ 184 ≤ b → gi' b = gi b) := by
  obtain ⟨⟨k0, r0, r1, r2, r3, r4, r5, r6, r7, r8, hla⟩, hTx, hSt, hHi, hFo, hV1, hV2, ⟨k183, l183⟩, hP1, hP2⟩ := id hc.1.1
  obtain ⟨ks0, sr0, sr1, ks1, ls1, ks2, ls2⟩ := id hSt
  obtain ⟨⟨hs, hct, hcs, hch, hcf⟩, hvd⟩ := id hc
  have hT := hcs.2.1
  have hpk := hcs.1
  have hW := hpk.1
  have hrc := hpk.2.2.2.2.2.2.2.1
  have hh := hch.1
  have hn := hch.2.1
  have hec := hcf.2.2.2
  have ho := hFo.2.2.2.2.2.1
  obtain ⟨v0, vr0, vr1, vr2, vkb, vlb, vkw, vlw, vkv, vlv, hJ⟩ := id hV1
  obtain ⟨kt0, tr0, tr1, kt1, lt1, kt2, lt2⟩ := id hTx
  obtain ⟨f0, fr0, fr1, -, -, -, f1, fl1, f2, fl2, -, -, hE, hL⟩ := id hFo
  obtain ⟨kp0, pr0, pr1, kp1, lp1, kp2, lp2⟩ := id hs.pl.1
  have hv4 := hpk.v4
  have hv1 := hpk.2.1.1
  have hbo : ∀ b : Int, 0 ≤ b → b < gi 27 4 → bl_ok (gi (32 + b)) := fun b b0 b1 => (hcf.bok (clo_b _ _) hT (gi la) b b0 b1).1
  have hWb := bs_b (W := W) (B := 10000000) (fun x => by have e0 : W x = v_wsum (jb (fvE gi) (gi la) (gi (la + 1)) (r_up (gi 6) k x) (gi 27 4).toNat) (fvE gi) (gi 27 4).toNat := (congrFun hWd x).symm; have := v_wsum_b (bw := jb (fvE gi) (gi la) (gi (la + 1)) (r_up (gi 6) k x) (gi 27 4).toNat) (er := fvE gi) (gi 27 4).toNat (fun b b0 b1 => hbo b b0 (by omega)); rw [e0]; omega)
  intro n
  induction n with
  | zero =>
    intro x h1 m hm g hg h183 l6 h6 be mo hbe hmo
    subst hWd
    have hm98 : m = 98 := by omega
    subst hm98
    refine g_iload dX8_best_49 rfl ?_
    refine g_bipush dX8_best_51 (by decide) (by decide) ?_
    refine g_icmp_gt 108 dX8_best_53 (by decide) (fun h53 => ?_) (fun h53 => ?_)
    · skip
      refine g_iload_n dX8_best_108 rfl ?_
      refine g_if_ne 116 dX8_best_109 (by decide) (fun h109 => ?_) (fun h109 => ?_)
      · skip
        refine g_iload dX8_best_116 rfl ?_
        refine g_sipush dX8_best_118 (by decide) (by decide) ?_
        have hwb := hWb 98
        refine g_iadd dX8_best_121 (by (rw [hmo]; omega)) (by (rw [hmo]; omega)) ?_
        refine g_ireturn dX8_best_122 rfl ?_
        refine ⟨?_, rfl, rfl, hc.keep (fun b hb => hg b (by omega)) ⟨by rw [hg 1 (by omega)]; exact hct.1, by rw [hg 1 (by omega), hg 2 (by omega)]; exact hct.2⟩, hg⟩
        unfold be_ans
        rw [if_neg (by omega), if_neg (by omega), hmo]
      · skip
        refine g_iload_n dX8_best_112 rfl ?_
        refine g_goto 122 dX8_best_113 (by decide) ?_
        refine g_ireturn dX8_best_122 rfl ?_
        refine ⟨?_, rfl, rfl, hc.keep (fun b hb => hg b (by omega)) ⟨by rw [hg 1 (by omega)]; exact hct.1, by rw [hg 1 (by omega), hg 2 (by omega)]; exact hct.2⟩, hg⟩
        unfold be_ans
        rw [if_neg (by omega), if_pos (by omega), hbe]
    · exfalso; omega
  | succ n ih =>
    intro x h1 m hm g hg h183 l6 h6 be mo hbe hmo
    refine g_iload dX8_best_49 rfl ?_
    refine g_bipush dX8_best_51 (by decide) (by decide) ?_
    refine g_icmp_gt 108 dX8_best_53 (by decide) (fun h53 => ?_) (fun h53 => ?_)
    · exfalso; omega
    · skip
      refine g_aload_n dX8_best_56 rfl ?_
      refine g_getR 3 dX8_best_57 flX8_33 rfl (by assumption) (by assumption) ?_
      refine g_aload_n dX8_best_60 rfl ?_
      refine g_getR 7 dX8_best_61 flX8_54 rfl (by assumption) (by assumption) ?_
      refine g_getRN 0 dX8_best_64 fnX8_216 rfl (by assumption) (by assumption) ?_
      refine g_iload_n dX8_best_67 rfl ?_
      refine g_iaload dX8_best_68 (by assumption) (by omega) (by omega) ?_
      refine g_iload dX8_best_69 rfl ?_
      refine g_iconst dX8_best_71 (by decide) ?_
      refine g_isub dX8_best_72 (by omega) (by omega) ?_
      rw [hg (la + 1) (by omega)]
      have hz := zb_q (∃ b : Int, 0 ≤ b ∧ b < gi 27 4 ∧ bl_meas (gi (32 + b)) (gi (la + 1) k) = x - 1)
      generalize zb (∃ b : Int, 0 ≤ b ∧ b < gi 27 4 ∧ bl_meas (gi (32 + b)) (gi (la + 1) k) = x - 1) = z9 at hz
      have hE9 : ∀ b : Int, b < gi 27 4 → g (32 + b) = gi (32 + b) := fun b hb => hg _ (by omega)
      refine g_cVi [_, _] dX8_best_73 mlX8_219 mvX1_hasEndedWith (by decide) (by exact hFo.1) (by decide) rfl rfl (Nat.le_of_ble_eq_true rfl) rfl (Nat.le_of_ble_eq_true rfl) (c_hasEnded hFo (gi (la + 1) k) (x - 1) z9 (by rw [hg 27 (by omega)]; omega) (fun b b0 b1 => by rw [hg 27 (by omega)] at b1; rw [hE9 b b1]; exact hbo b b0 b1) (by rw [hg 27 (by omega)]; exact ⟨fun ⟨b, b0, b1, b2⟩ => hz.1 ⟨b, b0, b1, by rw [← hE9 b b1]; exact b2⟩, fun q => hz.2 (fun ⟨b, b0, b1, b2⟩ => q ⟨b, b0, b1, by rw [hE9 b b1]; exact b2⟩)⟩)) ?_
      refine g_if_eq 102 dX8_best_76 (by decide) (fun h76 => ?_) (fun h76 => ?_)
      · skip
        refine n_iinc (lN := [_, _, _, _, _, _, _]) dX8_best_102 rfl (by decide) (by omega) (by omega) rfl ?_
        refine g_goto 49 dX8_best_105 (by decide) ?_
        have hnb : ¬ ∃ b : Int, 0 ≤ b ∧ b < ((gi 27 4).toNat : Int) ∧ bl_meas (fvE gi b) (gi (la + 1) k) = x - 1 := fun ⟨b, b0, b1, b2⟩ => hz.no (by assumption) ⟨b, b0, by omega, b2⟩
        have hsk := wv_skip (pl := gi la) (nu := gi 6) (gi 27 4).toNat hnb
        have hge := bs_ge W m
        have hbs : bs W (m + 1) = bs W m := by
          have e1 : W ((m : Int) + 2) = W ((m : Int) + 1) := by
            rw [← hWd, show (m : Int) + 2 = x by omega, show (m : Int) + 1 = x - 1 by omega]; exact hsk
          have hn9 : ¬ (bs W m).2 < W ((m : Int) + 2) := by omega
          exact if_neg hn9
        exact ih (x + 1) (by omega) (m + 1) (by omega) g hg h183 l6 h6 be mo (by rw [hbs]; exact hbe) (by rw [hbs]; exact hmo)
      · skip
        refine g_aload_n dX8_best_79 rfl ?_
        refine g_iload_n dX8_best_80 rfl ?_
        refine g_iload dX8_best_81 rfl ?_
        refine g_callV_i [_, _] dX8_best_83 mlX8_212 mvX8_worthByNumber (by decide) (by assumption) (by decide) rfl rfl (Nat.le_of_ble_eq_true rfl) rfl (Nat.le_of_ble_eq_true rfl) (c_wbn hs (by rw [hg la (by omega)]; exact hpk.p) (by rw [hg 4 (by omega)]; exact hT) (hcf.fr ho (fun b b0 b1 => hg b (by omega)) (by rw [hg 4 (by omega)]) (hg la (by omega))) k x (by omega)) (fun _ _ _ _ q => ⟨_, q.1⟩) (fun x2 g2 l2 s2 p w3 w4 => ?_)
        obtain ⟨p1, p2, p3, p4, p5⟩ := p
        subst p2 p3
        have hx2 : x2 = W x := by injection p1 with p1; injection p1 with p1; rw [p1, ← hWd, hg la (by omega), hg (la + 1) (by omega), hg 27 (by omega), wv_er (er := fvE g) (es := fvE gi) _ (fun b b0 b1 => hg (32 + b) (by omega))]; exact wv_nu _ hrc.1 (fun i i0 i1 => by unfold r_up; split; rfl; rename_i hi; exact h183 i i0 (by omega) hi)
        refine n_istore (lN := [_, _, _, _, _, _, _]) dX8_best_86 (by decide) rfl ?_
        refine g_iload dX8_best_88 rfl ?_
        refine g_iload dX8_best_90 rfl ?_
        refine g_icmp_le 102 dX8_best_92 (by decide) (fun h92 => ?_) (fun h92 => ?_)
        · skip
          refine n_iinc (lN := [_, _, _, _, _, _, _]) dX8_best_102 rfl (by decide) (by omega) (by omega) rfl ?_
          refine g_goto 49 dX8_best_105 (by decide) ?_
          have hbs : bs W (m + 1) = bs W m := by
            have hn9 : ¬ (bs W m).2 < W ((m : Int) + 2) := by
              rw [show (m : Int) + 2 = x by omega, ← hx2, ← hmo]; omega
            exact if_neg hn9
          exact ih (x + 1) (by omega) (m + 1) (by omega) g2 (fun b hb => by rw [p4 b hb]; exact hg b hb) (fun i i0 i1 i2 => by rw [p5, r_up_ne i2]; exact h183 i i0 i1 i2) _ (fun y e => by cases e) be mo (by rw [hbs]; exact hbe) (by rw [hbs]; exact hmo)
        · skip
          refine g_iload dX8_best_95 rfl ?_
          refine n_istore (lN := [_, _, _, _, _, _, _]) dX8_best_97 (by decide) rfl ?_
          refine g_iload dX8_best_99 rfl ?_
          refine n_istore_n (lN := [_, _, _, _, _, _, _]) dX8_best_101 (by decide) rfl ?_
          refine n_iinc (lN := [_, _, _, _, _, _, _]) dX8_best_102 rfl (by decide) (by omega) (by omega) rfl ?_
          refine g_goto 49 dX8_best_105 (by decide) ?_
          have hbs : bs W (m + 1) = (x, x2) := by
            unfold bs
            rw [show (m : Int) + 2 = x by omega, ← hx2, if_pos (by rw [← hmo]; omega)]
          exact ih (x + 1) (by omega) (m + 1) (by omega) g2 (fun b hb => by rw [p4 b hb]; exact hg b hb) (fun i i0 i1 i2 => by rw [p5, r_up_ne i2]; exact h183 i i0 i1 i2) _ (fun y e => by cases e) x x2 (by rw [hbs]) (by rw [hbs])

end COMP10
