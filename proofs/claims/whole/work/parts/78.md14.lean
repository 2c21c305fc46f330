/-! the model asked: best, openings, air -/
theorem r_up_up {f : gRw} {k a b : Int} : r_up (r_up f k a) k b = r_up f k b := by
  funext i; unfold r_up; split <;> rfl
theorem FA.lim {g g' : gF} {k v : Int} (h : FA g g') : FA g (g_up g' 211 k v) := ⟨fun b hb => by rw [g_up_row (by omega)]; exact h.1 b hb, fun i hi => by rw [g_up_row (by decide)]; exact h.2 i hi⟩
section MD14
variable {gi gl : gF} {sh : gSh} {pl kn nu nm ln : gRw} {er : Int → gRw} {ec T : Int} {S : fS}
noncomputable def pe_ans (er : Int → gRw) (pl kn nm : gRw) (ec k w : Int) : Int := if ¬ (0 ≤ k ∧ k < pl 2) ∨ w < 0 ∨ 1 < w then -1 else if w = 0 then (bs (fun x9 => wv er pl kn (r_up nm k x9) ec.toNat) 98).1 else (bs (fun x9 => wv er pl kn (r_up nm k x9) ec.toNat) 98).2 + 10000

set_option maxRecDepth 20000 in
set_option maxHeartbeats 1000000 in
theorem l_be (hM : isMd sh) (g0 : gF) (k w : Int) (hk : 0 ≤ k ∧ k < pl 2) (h4 : pl 2 ≤ 4) (hw : 0 ≤ w ∧ w ≤ 1) (W : Int → Int) (hWd : (fun x9 => wv er pl kn (r_up nm k x9) ec.toNat) = W) : ∀ (n : Nat) (x : Int), x + n = 100 → 1 ≤ x → ∀ (g : gF) (nu : gRw), JH g er pl kn nu ec → (∀ y, r_up nu k y = r_up nm k y) → FA g0 g → ∀ l6 : Option gV, (∀ y, l6 ≠ some (vL y)) → ∀ be mo : Int, ((x = 1 ∧ be = 0 ∧ mo = 0) ∨ ∃ m : Nat, x = (m : Int) + 2 ∧ be = (bs W m).1 ∧ mo = (bs W m).2) → Go mdX9_best 0 0 32 [some (vR 190), some (vI k), some (vI w), some (vI be), some (vI mo), some (vI x), l6] [] g gl sh (AK (pe_ans er pl kn nm ec k w) g0 gl sh) := by
  intro n
  induction n with
  | zero =>
    intro x h1 h2 g nu H hnu f0 l6 h6 be mo hst
    have wb : ∀ y, -9300000 ≤ W y ∧ W y ≤ 9300000 := fun y => by rw [← hWd]; have := wv_b H (r_up nm k y); dsimp only; omega
    obtain ⟨m, hm, hbe, hmo⟩ : ∃ m : Nat, x = (m : Int) + 2 ∧ be = (bs W m).1 ∧ mo = (bs W m).2 := hst.elim (fun v => by omega) id
    have hm8 : m = 98 := by omega
    subst hm8
    have bb := (bs_b wb 98).1
    refine g_iload dX9_best_32 rfl ?_
    refine g_bipush dX9_best_34 (by decide) (by decide) ?_
    refine g_icmp_ge 107 dX9_best_36 (by decide) (fun h36 => ?_) (fun h36 => ?_)
    · skip
      refine g_iload_n dX9_best_107 rfl ?_
      refine g_if_ne 115 dX9_best_108 (by decide) (fun h108 => ?_) (fun h108 => ?_)
      · skip
        refine g_iload dX9_best_115 rfl ?_
        refine g_sipush dX9_best_117 (by decide) (by decide) ?_
        refine g_iadd dX9_best_120 (by omega) (by omega) ?_
        refine g_ireturn dX9_best_121 rfl ?_
        refine ⟨?_, rfl, rfl, f0⟩
        unfold pe_ans
        rw [if_neg (fun v => v.elim (fun v => v hk) (fun v => by omega)), if_neg (by omega), hWd, ← hmo]
      · skip
        refine g_iload_n dX9_best_111 rfl ?_
        refine g_goto 121 dX9_best_112 (by decide) ?_
        refine g_ireturn dX9_best_121 rfl ?_
        refine ⟨?_, rfl, rfl, f0⟩
        unfold pe_ans
        rw [if_neg (fun v => v.elim (fun v => v hk) (fun v => by omega)), if_pos (by omega), hWd, ← hbe]
    · exfalso; omega
  | succ n ih =>
    intro x h1 h2 g nu H hnu f0 l6 h6 be mo hst
    have H0 : JH (g_up g 211 k x) er pl kn (r_up nm k x) ec := by rw [← hnu x]; exact H.nu
    have eW : wv er pl kn (r_up nm k x) ec.toNat = W x := by rw [← hWd]
    refine g_iload dX9_best_32 rfl ?_
    refine g_bipush dX9_best_34 (by decide) (by decide) ?_
    refine g_icmp_ge 107 dX9_best_36 (by decide) (fun h36 => ?_) (fun h36 => ?_)
    · exfalso; omega
    · skip
      refine g_aload_n dX9_best_39 rfl ?_
      refine g_getR 28 dX9_best_40 flX9_71 rfl hM.o hM.r28 ?_
      refine g_iload_n dX9_best_43 rfl ?_
      refine g_iload dX9_best_44 rfl ?_
      refine g_iastore dX9_best_46 hM.k211 (by omega) (hM.b211 (by omega)) ?_
      refine g_aload_n dX9_best_47 rfl ?_
      refine g_callV_v [] dX9_best_48 mlX9_227 mvX9_judges (by decide) hM.o (by decide) rfl rfl (Nat.le_of_ble_eq_true rfl) rfl (Nat.le_of_ble_eq_true rfl) (m_judges hM H0) (fun _ _ _ _ q => q.1) (fun g1 l1 s1 q w1 w2 => ?_)
      obtain ⟨-, q2, q3, q4, J⟩ := q
      subst q2 q3
      have H1 := H0.fr q4
      refine g_iload dX9_best_51 rfl ?_
      refine g_iconst dX9_best_53 (by decide) ?_
      refine g_icmp_eq 66 dX9_best_54 (by decide) (fun h54 => ?_) (fun h54 => ?_)
      · skip
        refine g_iconst dX9_best_66 (by decide) ?_
        refine g_goto 71 dX9_best_67 (by decide) ?_
        refine n_istore (lN := [_, _, _, _, _, _, _]) dX9_best_71 (by decide) rfl ?_
        refine g_iload dX9_best_73 rfl ?_
        refine g_if_eq 83 dX9_best_75 (by decide) (fun h75 => ?_) (fun h75 => ?_)
        · exact absurd h75 (by decide)
        · skip
          refine g_iload dX9_best_78 rfl ?_
          refine g_goto 84 dX9_best_80 (by decide) ?_
          refine n_istore_n (lN := [_, _, _, _, _, _, _]) dX9_best_84 (by decide) rfl ?_
          refine g_iload dX9_best_85 rfl ?_
          refine g_if_eq 97 dX9_best_87 (by decide) (fun h87 => ?_) (fun h87 => ?_)
          · exact absurd h87 (by decide)
          · skip
            refine g_aload_n dX9_best_90 rfl ?_
            refine g_cVi [] dX9_best_91 mlX9_244 mvX9_gained (by decide) hM.o (by decide) rfl rfl (Nat.le_of_ble_eq_true rfl) rfl (Nat.le_of_ble_eq_true rfl) (m_gainedJ hM H1 J) ?_
            rw [eW]
            refine g_goto 99 dX9_best_94 (by decide) ?_
            refine n_istore (lN := [_, _, _, _, _, _, _]) dX9_best_99 (by decide) rfl ?_
            refine n_iinc (lN := [_, _, _, _, _, some (vI (x + 1)), _]) dX9_best_101 rfl (by decide) (by omega) (by omega) rfl ?_
            refine g_goto 32 dX9_best_104 (by decide) ?_
            refine ih (x + 1) (by omega) (by omega) g1 (r_up nm k x) H1 (fun y => r_up_up) (f0.lim.tr q4.fa) _ (fun y h9 => by cases h9) _ _ ?_
            exact Or.inr ⟨0, by omega, by rw [show x = 1 by omega]; rfl, by rw [show x = 1 by omega]; rfl⟩
      · skip
        refine g_aload_n dX9_best_57 rfl ?_
        refine g_cVi [] dX9_best_58 mlX9_244 mvX9_gained (by decide) hM.o (by decide) rfl rfl (Nat.le_of_ble_eq_true rfl) rfl (Nat.le_of_ble_eq_true rfl) (m_gainedJ hM H1 J) ?_
        rw [eW]
        refine g_iload dX9_best_61 rfl ?_
        refine g_icmp_le 70 dX9_best_63 (by decide) (fun h63 => ?_) (fun h63 => ?_)
        · skip
          refine g_iconst dX9_best_70 (by decide) ?_
          refine n_istore (lN := [_, _, _, _, _, _, _]) dX9_best_71 (by decide) rfl ?_
          refine g_iload dX9_best_73 rfl ?_
          refine g_if_eq 83 dX9_best_75 (by decide) (fun h75 => ?_) (fun h75 => ?_)
          · skip
            refine g_iload_n dX9_best_83 rfl ?_
            refine n_istore_n (lN := [_, _, _, _, _, _, _]) dX9_best_84 (by decide) rfl ?_
            refine g_iload dX9_best_85 rfl ?_
            refine g_if_eq 97 dX9_best_87 (by decide) (fun h87 => ?_) (fun h87 => ?_)
            · skip
              refine g_iload dX9_best_97 rfl ?_
              refine n_istore (lN := [_, _, _, _, _, _, _]) dX9_best_99 (by decide) rfl ?_
              refine n_iinc (lN := [_, _, _, _, _, some (vI (x + 1)), _]) dX9_best_101 rfl (by decide) (by omega) (by omega) rfl ?_
              refine g_goto 32 dX9_best_104 (by decide) ?_
              refine ih (x + 1) (by omega) (by omega) g1 (r_up nm k x) H1 (fun y => r_up_up) (f0.lim.tr q4.fa) _ (fun y h9 => by cases h9) _ _ ?_
              obtain ⟨m, hm, hbe, hmo⟩ : ∃ m : Nat, x = (m : Int) + 2 ∧ be = (bs W m).1 ∧ mo = (bs W m).2 := hst.elim (fun v => by omega) id
              refine Or.inr ⟨m + 1, by omega, ?_, ?_⟩
              · rw [bs, if_neg (by rw [← hm, ← hmo]; omega)]; exact hbe
              · rw [bs, if_neg (by rw [← hm, ← hmo]; omega)]; exact hmo
            · exact absurd h87 (by decide)
          · exact absurd h75 (by decide)
        · skip
          refine g_iconst dX9_best_66 (by decide) ?_
          refine g_goto 71 dX9_best_67 (by decide) ?_
          refine n_istore (lN := [_, _, _, _, _, _, _]) dX9_best_71 (by decide) rfl ?_
          refine g_iload dX9_best_73 rfl ?_
          refine g_if_eq 83 dX9_best_75 (by decide) (fun h75 => ?_) (fun h75 => ?_)
          · exact absurd h75 (by decide)
          · skip
            refine g_iload dX9_best_78 rfl ?_
            refine g_goto 84 dX9_best_80 (by decide) ?_
            refine n_istore_n (lN := [_, _, _, _, _, _, _]) dX9_best_84 (by decide) rfl ?_
            refine g_iload dX9_best_85 rfl ?_
            refine g_if_eq 97 dX9_best_87 (by decide) (fun h87 => ?_) (fun h87 => ?_)
            · exact absurd h87 (by decide)
            · skip
              refine g_aload_n dX9_best_90 rfl ?_
              refine g_cVi [] dX9_best_91 mlX9_244 mvX9_gained (by decide) hM.o (by decide) rfl rfl (Nat.le_of_ble_eq_true rfl) rfl (Nat.le_of_ble_eq_true rfl) (m_gainedJ hM H1 J) ?_
              rw [eW]
              refine g_goto 99 dX9_best_94 (by decide) ?_
              refine n_istore (lN := [_, _, _, _, _, _, _]) dX9_best_99 (by decide) rfl ?_
              refine n_iinc (lN := [_, _, _, _, _, some (vI (x + 1)), _]) dX9_best_101 rfl (by decide) (by omega) (by omega) rfl ?_
              refine g_goto 32 dX9_best_104 (by decide) ?_
              refine ih (x + 1) (by omega) (by omega) g1 (r_up nm k x) H1 (fun y => r_up_up) (f0.lim.tr q4.fa) _ (fun y h9 => by cases h9) _ _ ?_
              obtain ⟨m, hm, hbe, hmo⟩ : ∃ m : Nat, x = (m : Int) + 2 ∧ be = (bs W m).1 ∧ mo = (bs W m).2 := hst.elim (fun v => by omega) id
              refine Or.inr ⟨m + 1, by omega, ?_, ?_⟩
              · rw [bs, if_pos (by rw [← hm, ← hmo]; omega)]; exact hm
              · rw [bs, if_pos (by rw [← hm, ← hmo]; omega), hm]
set_option maxRecDepth 20000 in
set_option maxHeartbeats 1000000 in
theorem m_best (hM : isMd sh) (hN : MN gi gl pl kn T ln nm) (hFS : FS (clo (pl 3) ln) (pl 8) T S er ec) (k w : Int) : Ct mdX9_best 0 0 [vR 190, vI k, vI w] gi gl sh (AK (pe_ans er pl kn nm ec k w) gi gl sh) := by
  show Go mdX9_best 0 0 0 [some (vR 190), some (vI k), some (vI w), none, none, none, none] [] gi gl sh _
  have pr := hN.1.1
  have h4 := hN.2.1.2.2.2.2.2.2.2.1
  refine g_aload_n dX9_best_0 rfl ?_
  refine g_iload_n dX9_best_1 rfl ?_
  refine g_cVi [_] dX9_best_2 mlX9_163 mvX9_isRuleThere (by decide) hM.o (by decide) rfl rfl (Nat.le_of_ble_eq_true rfl) rfl (Nat.le_of_ble_eq_true rfl) (m_isRuleThere hM k (pl 2) _ pr h4 (zb_q _)) ?_
  refine g_if_eq 18 dX9_best_5 (by decide) (fun h5 => ?_) (fun h5 => ?_)
  · skip
    have c1 := (zb_q _).no h5
    refine g_iconst dX9_best_18 (by decide) ?_
    refine g_ireturn dX9_best_19 rfl ?_
    refine ⟨?_, rfl, rfl, FA.rf⟩
    unfold pe_ans
    rw [if_pos (Or.inl c1)]
  · skip
    have c1 := (zb_q _).yes h5
    refine g_iload_n dX9_best_8 rfl ?_
    refine g_i2l dX9_best_9 ?_
    refine g_lconst 0 dX9_best_10 (by decide) (by decide) ?_
    refine g_lconst 1 dX9_best_11 (by decide) (by decide) ?_
    refine g_cSi [_, _, _] dX9_best_12 mlX9_106 msX9_within (by decide) rfl rfl (Nat.le_of_ble_eq_true rfl) rfl (Nat.le_of_ble_eq_true rfl) (m_within _ _ _ _ (zb_q _)) ?_
    refine g_if_ne 20 dX9_best_15 (by decide) (fun h15 => ?_) (fun h15 => ?_)
    · skip
      have c2 := (zb_q _).yes h15
      refine g_aload_n dX9_best_20 rfl ?_
      refine g_callV_v [] dX9_best_21 mlX9_233 mvX9_judgesNow (by decide) hM.o (by decide) rfl rfl (Nat.le_of_ble_eq_true rfl) rfl (Nat.le_of_ble_eq_true rfl) (m_judgesNow hM hN hFS) (fun _ _ _ _ q => q.1) (fun g1 l1 s1 q w1 w2 => ?_)
      obtain ⟨-, q2, q3, f1, H, J⟩ := q
      subst q2 q3
      refine g_iconst dX9_best_24 (by decide) ?_
      refine n_istore_n (lN := [_, _, _, _, _, _, _]) dX9_best_25 (by decide) rfl ?_
      refine g_iconst dX9_best_26 (by decide) ?_
      refine n_istore (lN := [_, _, _, _, _, _, _]) dX9_best_27 (by decide) rfl ?_
      refine g_iconst dX9_best_29 (by decide) ?_
      refine n_istore (lN := [_, _, _, _, _, _, _]) dX9_best_30 (by decide) rfl ?_
      exact l_be hM gi k w c1 h4.2 c2 _ rfl 99 1 (by omega) (by omega) g1 nm H (fun _ => rfl) f1 none (fun y h9 => by cases h9) 0 0 (Or.inl ⟨rfl, rfl, rfl⟩)
    · skip
      have c2 := zb_nn h15
      refine g_iconst dX9_best_18 (by decide) ?_
      refine g_ireturn dX9_best_19 rfl ?_
      refine ⟨?_, rfl, rfl, FA.rf⟩
      unfold pe_ans
      rw [if_pos (Or.inr (by omega))]

/-- intervals as a valve has them, told by ticks -/
def TK (O : Int → Prop) (N : Int) (fs ls : gRw) : Prop := (0 ≤ N ∧ N ≤ 31) ∧ (∀ i : Int, 0 ≤ i → i < N → 0 ≤ fs i ∧ fs i ≤ ls i ∧ ls i ≤ 95) ∧ (∀ i j : Int, 0 ≤ i → i < j → j < N → ls i + 1 < fs j) ∧ ∀ t : Int, 0 ≤ t → t < 96 → (O t ↔ ∃ i : Int, (0 ≤ i ∧ i < N) ∧ fs i ≤ t ∧ t ≤ ls i)
theorem TK.bg {O : Int → Prop} {N : Int} {fs ls : gRw} (h : TK O N fs ls) {t : Int} (t0 : 0 ≤ t) (t1 : t < 96) : (O t ∧ (t = 0 ∨ ¬ O (t - 1))) ↔ ∃ i : Int, (0 ≤ i ∧ i < N) ∧ fs i = t := by
  obtain ⟨hN, h1, h2, h3⟩ := h
  constructor
  · intro ⟨o, w⟩
    obtain ⟨i, hi, a, b⟩ := (h3 t t0 t1).mp o
    refine ⟨i, hi, Classical.byContradiction (fun c => ?_)⟩
    have k := h1 i hi.1 hi.2
    rcases w with w | w
    · omega
    · exact w ((h3 (t - 1) (by omega) (by omega)).mpr ⟨i, hi, by omega, by omega⟩)
  · intro ⟨i, hi, e⟩
    have k := h1 i hi.1 hi.2
    refine ⟨(h3 t t0 t1).mpr ⟨i, hi, by omega, by omega⟩, ?_⟩
    by_cases c : t = 0
    · exact Or.inl c
    · refine Or.inr (fun o => ?_)
      obtain ⟨j, hj, a, b⟩ := (h3 (t - 1) (by omega) (by omega)).mp o
      rcases (show j = i ∨ j < i ∨ i < j by omega) with v | v | v
      · subst v; omega
      · have := h2 j i hj.1 v hi.2; omega
      · have := h2 i j hi.1 v hj.2; omega
theorem TK.en {O : Int → Prop} {N : Int} {fs ls : gRw} (h : TK O N fs ls) {t : Int} (t0 : 0 ≤ t) (t1 : t < 96) : (O t ∧ (t = 95 ∨ ¬ O (t + 1))) ↔ ∃ i : Int, (0 ≤ i ∧ i < N) ∧ ls i = t := by
  obtain ⟨hN, h1, h2, h3⟩ := h
  constructor
  · intro ⟨o, w⟩
    obtain ⟨i, hi, a, b⟩ := (h3 t t0 t1).mp o
    refine ⟨i, hi, Classical.byContradiction (fun c => ?_)⟩
    have k := h1 i hi.1 hi.2
    rcases w with w | w
    · omega
    · exact w ((h3 (t + 1) (by omega) (by omega)).mpr ⟨i, hi, by omega, by omega⟩)
  · intro ⟨i, hi, e⟩
    have k := h1 i hi.1 hi.2
    refine ⟨(h3 t t0 t1).mpr ⟨i, hi, by omega, by omega⟩, ?_⟩
    by_cases c : t = 95
    · exact Or.inl c
    · refine Or.inr (fun o => ?_)
      obtain ⟨j, hj, a, b⟩ := (h3 (t + 1) (by omega) (by omega)).mp o
      rcases (show j = i ∨ j < i ∨ i < j by omega) with v | v | v
      · subst v; omega
      · have := h2 j i hj.1 v hi.2; omega
      · have := h2 i j hi.1 v hj.2; omega
/-- n intervals are over ahead of t -/
def CN (N : Int) (ls : gRw) (n t : Int) : Prop := (0 ≤ n ∧ n ≤ N) ∧ (∀ i : Int, 0 ≤ i → i < n → ls i < t) ∧ ∀ i : Int, n ≤ i → i < N → t ≤ ls i
theorem CN.f {O : Int → Prop} {N : Int} {fs ls : gRw} {n t i : Int} (h : TK O N fs ls) (c : CN N ls n t) (hi : 0 ≤ i ∧ i < N) (a : fs i ≤ t) (b : t ≤ ls i) : i = n := by
  obtain ⟨c0, c1, c2⟩ := c
  rcases (show i = n ∨ i < n ∨ n < i by omega) with v | v | v
  · exact v
  · have := c1 i hi.1 v; omega
  · have := h.2.2.1 n i c0.1 v hi.2; have := c2 n (Int.le_refl _) (by omega); omega
theorem CN.end_ {O : Int → Prop} {N : Int} {fs ls : gRw} {n t : Int} (h : TK O N fs ls) (c : CN N ls n t) (e : ∃ i : Int, (0 ≤ i ∧ i < N) ∧ ls i = t) : (n < N ∧ ls n = t) ∧ CN N ls (n + 1) (t + 1) := by
  obtain ⟨i, hi, e⟩ := e
  have k := h.2.1 i hi.1 hi.2
  have ei := c.f h hi (by omega) (by omega)
  subst ei
  refine ⟨⟨hi.2, e⟩, by omega, fun j j0 j1 => ?_, fun j j0 j1 => ?_⟩
  · by_cases v : j = i
    · rw [v]; omega
    · have := c.2.1 j j0 (by omega); omega
  · have := h.2.2.1 i j hi.1 (by omega) j1; have := h.2.1 j (by omega) j1; omega
theorem CN.stay {N : Int} {ls : gRw} {n t : Int} (c : CN N ls n t) (e : ¬ ∃ i : Int, (0 ≤ i ∧ i < N) ∧ ls i = t) : CN N ls n (t + 1) := by
  refine ⟨c.1, fun i i0 i1 => by have := c.2.1 i i0 i1; omega, fun i i0 i1 => ?_⟩
  have := c.2.2 i i0 i1
  have : ls i ≠ t := fun v => e ⟨i, ⟨by have := c.1; omega, i1⟩, v⟩
  omega
/-- valves of the judgement, told by ticks -/
theorem JD.tk {g : gF} (H : JH g er pl kn nu ec) (J : JD g er pl kn nu ec) {j : Int} (hj : 0 ≤ j ∧ j < pl 4) : TK (On g j) ((jv er pl kn nu ec.toNat).2.1 j) ((jv er pl kn nu ec.toNat).2.2.1 j) ((jv er pl kn nu ec.toNat).2.2.2 j) := by
  have q4 := H.2.2.2.2.1.2.2
  have hec := H.1.2.1
  have hbk : ∀ b : Int, 0 ≤ b → b < (ec.toNat : Int) → v_bok pl (er b) := fun b b0 b1 => H.2.2.2.2.2.2.2.2 b b0 (by omega)
  obtain ⟨v0, hv⟩ := (jv_iv (kn := kn) (nu := nu) H.2.2.2.1 ec.toNat H.2.2.2.2.2.2.2.1 hbk).2 j hj.1 (by omega)
  have vk := (jv_ok (kn := kn) (nu := nu) H.2.2.2.1 ec.toNat hbk j hj.1 (by omega)).1
  have vk2 : (jv er pl kn nu ec.toNat).2.1 j ≤ (ec.toNat : Int) := vk.2
  generalize (jv er pl kn nu ec.toNat).2.1 j = N at *
  generalize (jv er pl kn nu ec.toNat).2.2.1 j = fs at *
  generalize (jv er pl kn nu ec.toNat).2.2.2 j = ls at *
  refine ⟨⟨v0, by omega⟩, fun i i0 i1 => ?_, fun i k i0 ik k1 => (hv.lt i0 ik k1).1, fun t t0 t1 => ?_⟩
  · obtain ⟨a, b, c, -⟩ := hv.1 i i0 i1
    have w1 := H.w (n := ec.toNat) (by omega) b
    have w2 := H.w (n := ec.toNat) (by omega) c
    omega
  · rw [J.2 j t hj.1 hj.2 t0 t1]
    exact hv.opn t

noncomputable def pp_ans (pl : gRw) (V : vV) (j k w : Int) : Int := if ¬ (0 ≤ j ∧ j < pl 4) ∨ k < -1 ∨ w < 0 ∨ 1 < w then -1 else if k = -1 then V.1 j else if V.1 j ≤ k then -4 else if w = 0 then V.2.1 j k else V.2.2 j k
set_option maxRecDepth 20000 in
set_option maxHeartbeats 1000000 in
theorem l_og (hM : isMd sh) (g0 : gF) (f0 : FA g0 gi) (j k w N : Int) (fs ls : gRw) (hj : 0 ≤ j ∧ j < 16) (hk : -1 ≤ k) (hw : 0 ≤ w ∧ w ≤ 1) (h : TK (On gi j) N fs ls) (ans : Int) (hans : ans = if k = -1 then N else if N ≤ k then -4 else if w = 0 then fs k else ls k) :
  ∀ (m : Nat) (t n : Int), t + m = 96 → 0 ≤ t → CN N ls n t → (0 ≤ k → k < N → t ≤ (if w = 0 then fs k else ls k)) → ∀ l6 l7 : Option gV, (∀ y, l6 ≠ some (vL y)) → Go mdX9_opening 0 0 35 [some (vR 190), some (vI j), some (vI k), some (vI w), some (vI n), some (vI t), l6, l7] [] gi gl sh (AK ans g0 gl sh) := by
  have hN := h.1
  intro m
  induction m with
  | zero =>
    intro t n h1 h2 hc hkt l6 l7 h6
    have hc0 := hc.1
    have en : n = N := Classical.byContradiction (fun v => by have a := hc.2.2 n (Int.le_refl _) (by omega); have b := (h.2.1 n (by omega) (by omega)).2.2; omega)
    refine g_iload dX9_opening_35 rfl ?_
    refine g_bipush dX9_opening_37 (by decide) (by decide) ?_
    refine g_icmp_ge 179 dX9_opening_39 (by decide) (fun h39 => ?_) (fun h39 => ?_)
    · skip
      refine g_iload_n dX9_opening_179 rfl ?_
      refine g_iconst dX9_opening_180 (by decide) ?_
      refine g_icmp_ne 189 dX9_opening_181 (by decide) (fun h181 => ?_) (fun h181 => ?_)
      · skip
        refine g_bipush dX9_opening_189 (by decide) (by decide) ?_
        refine g_ireturn dX9_opening_191 rfl ?_
        refine ⟨?_, rfl, rfl, f0⟩
        rw [hans, if_neg (by omega), if_pos (Classical.byContradiction (fun v => ?_))]
        have a := hkt (by omega) (by omega)
        have b := h.2.1 k (by omega) (by omega)
        split at a <;> omega
      · skip
        refine g_iload dX9_opening_184 rfl ?_
        refine g_goto 191 dX9_opening_186 (by decide) ?_
        refine g_ireturn dX9_opening_191 rfl ?_
        refine ⟨?_, rfl, rfl, f0⟩
        rw [hans, if_pos (by omega), en]
    · exfalso; omega
  | succ m ih =>
    intro t n h1 h2 hc hkt l6 l7 h6
    have hc0 := hc.1
    have nx158 : ∀ (bg en : Int), Zq (∃ i : Int, (0 ≤ i ∧ i < N) ∧ ls i = t) en → (0 ≤ k → k < N → t ≠ (if w = 0 then fs k else ls k)) → Go mdX9_opening 0 0 158 [some (vR 190), some (vI j), some (vI k), some (vI w), some (vI n), some (vI t), some (vI bg), some (vI en)] [] gi gl sh (AK ans g0 gl sh) := fun bg en he hne => by
      refine g_iload dX9_opening_158 rfl ?_
      refine g_iload dX9_opening_160 rfl ?_
      refine g_if_eq 169 dX9_opening_162 (by decide) (fun h162 => ?_) (fun h162 => ?_)
      · skip
        refine g_iconst dX9_opening_169 (by decide) ?_
        refine g_iadd dX9_opening_170 (by omega) (by omega) ?_
        refine n_istore (lN := [_, _, _, _, _, _, _, _]) dX9_opening_171 (by decide) rfl ?_
        refine n_iinc (lN := [_, _, _, _, _, some (vI (t + 1)), _, _]) dX9_opening_173 rfl (by decide) (by omega) (by omega) rfl ?_
        refine g_goto 35 dX9_opening_176 (by decide) ?_
        rw [show n + 0 = n by omega]
        exact ih (t + 1) n (by omega) (by omega) (hc.stay (he.no h162)) (fun a b => by have u := hkt a b; have v := hne a b; omega) _ _ (fun y h9 => by cases h9)
      · skip
        refine g_iconst dX9_opening_165 (by decide) ?_
        refine g_goto 170 dX9_opening_166 (by decide) ?_
        refine g_iadd dX9_opening_170 (by omega) (by omega) ?_
        refine n_istore (lN := [_, _, _, _, _, _, _, _]) dX9_opening_171 (by decide) rfl ?_
        refine n_iinc (lN := [_, _, _, _, _, some (vI (t + 1)), _, _]) dX9_opening_173 rfl (by decide) (by omega) (by omega) rfl ?_
        refine g_goto 35 dX9_opening_176 (by decide) ?_
        exact ih (t + 1) (n + 1) (by omega) (by omega) (hc.end_ h (he.yes h162)).2 (fun a b => by have u := hkt a b; have v := hne a b; omega) _ _ (fun y h9 => by cases h9)
    have nx132 : ∀ (bg en : Int), Zq (∃ i : Int, (0 ≤ i ∧ i < N) ∧ fs i = t) bg → Zq (∃ i : Int, (0 ≤ i ∧ i < N) ∧ ls i = t) en → Go mdX9_opening 0 0 132 [some (vR 190), some (vI j), some (vI k), some (vI w), some (vI n), some (vI t), some (vI bg), some (vI en)] [] gi gl sh (AK ans g0 gl sh) := fun bg en hb he => by
      have isK : 0 ≤ k → k < N → t = (if w = 0 then fs k else ls k) → k = n := fun a b e => by
        have u := h.2.1 k a b
        by_cases cw : w = 0
        · rw [if_pos cw] at e; exact hc.f h ⟨a, b⟩ (by omega) (by omega)
        · rw [if_neg cw] at e; exact hc.f h ⟨a, b⟩ (by omega) (by omega)
      refine g_iload dX9_opening_132 rfl ?_
      refine g_iload_n dX9_opening_134 rfl ?_
      refine g_icmp_ne 158 dX9_opening_135 (by decide) (fun h135 => ?_) (fun h135 => ?_)
      · skip
        exact nx158 bg en he (fun a b e => h135 (isK a b e).symm)
      · skip
        refine g_iload_n dX9_opening_138 rfl ?_
        refine g_if_ne 150 dX9_opening_139 (by decide) (fun h139 => ?_) (fun h139 => ?_)
        · skip
          refine g_iload dX9_opening_150 rfl ?_
          refine g_if_eq 158 dX9_opening_152 (by decide) (fun h152 => ?_) (fun h152 => ?_)
          · skip
            refine nx158 bg en he (fun a b e => he.no h152 ⟨k, ⟨a, b⟩, ?_⟩)
            rw [if_neg (by omega)] at e
            exact e.symm
          · skip
            refine g_iload dX9_opening_155 rfl ?_
            refine g_ireturn dX9_opening_157 rfl ?_
            refine ⟨?_, rfl, rfl, f0⟩
            have u := hc.end_ h (he.yes h152)
            rw [hans, if_neg (by omega), if_neg (by omega), if_neg (by omega), show k = n by omega, u.1.2]
        · skip
          refine g_iload dX9_opening_142 rfl ?_
          refine g_if_eq 158 dX9_opening_144 (by decide) (fun h144 => ?_) (fun h144 => ?_)
          · skip
            refine nx158 bg en he (fun a b e => hb.no h144 ⟨k, ⟨a, b⟩, ?_⟩)
            rw [if_pos (by omega)] at e
            exact e.symm
          · skip
            refine g_goto 155 dX9_opening_147 (by decide) ?_
            refine g_iload dX9_opening_155 rfl ?_
            refine g_ireturn dX9_opening_157 rfl ?_
            refine ⟨?_, rfl, rfl, f0⟩
            obtain ⟨i, hi, e⟩ := hb.yes h144
            have u := h.2.1 i hi.1 hi.2
            have ei := hc.f h hi (by omega) (by omega)
            rw [hans, if_neg (by omega), if_neg (by omega), if_pos (by omega), show k = i by omega, e]
    have nx86 : ∀ (bg : Int) (l7 : Option gV), Zq (∃ i : Int, (0 ≤ i ∧ i < N) ∧ fs i = t) bg → Go mdX9_opening 0 0 86 [some (vR 190), some (vI j), some (vI k), some (vI w), some (vI n), some (vI t), some (vI bg), l7] [] gi gl sh (AK ans g0 gl sh) := fun bg l7 hb => by
      refine g_aload_n dX9_opening_86 rfl ?_
      refine g_getR 30 dX9_opening_87 flX9_77 rfl hM.o hM.r30 ?_
      refine g_bipush dX9_opening_90 (by decide) (by decide) ?_
      refine g_iload_n dX9_opening_92 rfl ?_
      refine g_imul dX9_opening_93 (by omega) (by omega) ?_
      refine g_iload dX9_opening_94 rfl ?_
      refine g_iadd dX9_opening_96 (by omega) (by omega) ?_
      refine g_baload dX9_opening_97 hM.k213 (by omega) (hM.b213 (by omega)) ?_
      refine g_if_eq 129 dX9_opening_98 (by decide) (fun h98 => ?_) (fun h98 => ?_)
      · skip
        refine g_iconst dX9_opening_129 (by decide) ?_
        refine n_istore (lN := [_, _, _, _, _, _, _, _]) dX9_opening_130 (by decide) rfl ?_
        exact nx132 bg 0 hb ⟨fun v => absurd ((h.en h2 (by omega)).mpr v).1 (fun u => u h98), fun _ => rfl⟩
      · skip
        refine g_iload dX9_opening_101 rfl ?_
        refine g_bipush dX9_opening_103 (by decide) (by decide) ?_
        refine g_icmp_eq 125 dX9_opening_105 (by decide) (fun h105 => ?_) (fun h105 => ?_)
        · skip
          refine g_iconst dX9_opening_125 (by decide) ?_
          refine g_goto 130 dX9_opening_126 (by decide) ?_
          refine n_istore (lN := [_, _, _, _, _, _, _, _]) dX9_opening_130 (by decide) rfl ?_
          exact nx132 bg 1 hb ⟨fun _ => rfl, fun v => absurd ((h.en h2 (by omega)).mp ⟨h98, Or.inl (by omega)⟩) v⟩
        · skip
          refine g_aload_n dX9_opening_108 rfl ?_
          refine g_getR 30 dX9_opening_109 flX9_77 rfl hM.o hM.r30 ?_
          refine g_bipush dX9_opening_112 (by decide) (by decide) ?_
          refine g_iload_n dX9_opening_114 rfl ?_
          refine g_imul dX9_opening_115 (by omega) (by omega) ?_
          refine g_iload dX9_opening_116 rfl ?_
          refine g_iadd dX9_opening_118 (by omega) (by omega) ?_
          refine g_iconst dX9_opening_119 (by decide) ?_
          refine g_iadd dX9_opening_120 (by omega) (by omega) ?_
          refine g_baload dX9_opening_121 hM.k213 (by omega) (hM.b213 (by omega)) ?_
          refine g_if_ne 129 dX9_opening_122 (by decide) (fun h122 => ?_) (fun h122 => ?_)
          · skip
            refine g_iconst dX9_opening_129 (by decide) ?_
            refine n_istore (lN := [_, _, _, _, _, _, _, _]) dX9_opening_130 (by decide) rfl ?_
            refine nx132 bg 0 hb ⟨fun v => ?_, fun _ => rfl⟩
            rcases ((h.en h2 (by omega)).mpr v).2 with u | u
            · exact absurd u h105
            · refine absurd (show On gi j (t + 1) from ?_) u
              unfold On
              rw [show 96 * j + (t + 1) = 96 * j + t + 1 by omega]
              exact h122
          · skip
            refine g_iconst dX9_opening_125 (by decide) ?_
            refine g_goto 130 dX9_opening_126 (by decide) ?_
            refine n_istore (lN := [_, _, _, _, _, _, _, _]) dX9_opening_130 (by decide) rfl ?_
            refine nx132 bg 1 hb ⟨fun _ => rfl, fun v => absurd ((h.en h2 (by omega)).mp ⟨h98, Or.inr (fun u => ?_)⟩) v⟩
            unfold On at u
            rw [show 96 * j + (t + 1) = 96 * j + t + 1 by omega] at u
            exact h122 u
    refine g_iload dX9_opening_35 rfl ?_
    refine g_bipush dX9_opening_37 (by decide) (by decide) ?_
    refine g_icmp_ge 179 dX9_opening_39 (by decide) (fun h39 => ?_) (fun h39 => ?_)
    · exfalso; omega
    · skip
      refine g_aload_n dX9_opening_42 rfl ?_
      refine g_getR 30 dX9_opening_43 flX9_77 rfl hM.o hM.r30 ?_
      refine g_bipush dX9_opening_46 (by decide) (by decide) ?_
      refine g_iload_n dX9_opening_48 rfl ?_
      refine g_imul dX9_opening_49 (by omega) (by omega) ?_
      refine g_iload dX9_opening_50 rfl ?_
      refine g_iadd dX9_opening_52 (by omega) (by omega) ?_
      refine g_baload dX9_opening_53 hM.k213 (by omega) (hM.b213 (by omega)) ?_
      refine g_if_eq 83 dX9_opening_54 (by decide) (fun h54 => ?_) (fun h54 => ?_)
      · skip
        refine g_iconst dX9_opening_83 (by decide) ?_
        refine n_istore (lN := [_, _, _, _, _, _, _, _]) dX9_opening_84 (by decide) rfl ?_
        exact nx86 0 _ ⟨fun v => absurd ((h.bg h2 (by omega)).mpr v).1 (fun u => u h54), fun _ => rfl⟩
      · skip
        refine g_iload dX9_opening_57 rfl ?_
        refine g_if_eq 79 dX9_opening_59 (by decide) (fun h59 => ?_) (fun h59 => ?_)
        · skip
          refine g_iconst dX9_opening_79 (by decide) ?_
          refine g_goto 84 dX9_opening_80 (by decide) ?_
          refine n_istore (lN := [_, _, _, _, _, _, _, _]) dX9_opening_84 (by decide) rfl ?_
          exact nx86 1 _ ⟨fun _ => rfl, fun v => absurd ((h.bg h2 (by omega)).mp ⟨h54, Or.inl h59⟩) v⟩
        · skip
          refine g_aload_n dX9_opening_62 rfl ?_
          refine g_getR 30 dX9_opening_63 flX9_77 rfl hM.o hM.r30 ?_
          refine g_bipush dX9_opening_66 (by decide) (by decide) ?_
          refine g_iload_n dX9_opening_68 rfl ?_
          refine g_imul dX9_opening_69 (by omega) (by omega) ?_
          refine g_iload dX9_opening_70 rfl ?_
          refine g_iadd dX9_opening_72 (by omega) (by omega) ?_
          refine g_iconst dX9_opening_73 (by decide) ?_
          refine g_isub dX9_opening_74 (by omega) (by omega) ?_
          refine g_baload dX9_opening_75 hM.k213 (by omega) (hM.b213 (by omega)) ?_
          refine g_if_ne 83 dX9_opening_76 (by decide) (fun h76 => ?_) (fun h76 => ?_)
          · skip
            refine g_iconst dX9_opening_83 (by decide) ?_
            refine n_istore (lN := [_, _, _, _, _, _, _, _]) dX9_opening_84 (by decide) rfl ?_
            refine nx86 0 _ ⟨fun v => ?_, fun _ => rfl⟩
            rcases ((h.bg h2 (by omega)).mpr v).2 with u | u
            · exact absurd u h59
            · refine absurd (show On gi j (t - 1) from ?_) u
              unfold On
              rw [show 96 * j + (t - 1) = 96 * j + t - 1 by omega]
              exact h76
          · skip
            refine g_iconst dX9_opening_79 (by decide) ?_
            refine g_goto 84 dX9_opening_80 (by decide) ?_
            refine n_istore (lN := [_, _, _, _, _, _, _, _]) dX9_opening_84 (by decide) rfl ?_
            refine nx86 1 _ ⟨fun _ => rfl, fun v => absurd ((h.bg h2 (by omega)).mp ⟨h54, Or.inr (fun u => ?_)⟩) v⟩
            unfold On at u
            rw [show 96 * j + (t - 1) = 96 * j + t - 1 by omega] at u
            exact h76 u
set_option maxRecDepth 20000 in
set_option maxHeartbeats 1000000 in
theorem m_opening (hM : isMd sh) (hN : MN gi gl pl kn T ln nm) (hFS : FS (clo (pl 3) ln) (pl 8) T S er ec) (j k w : Int) : Ct mdX9_opening 0 0 [vR 190, vI j, vI k, vI w] gi gl sh (AK (pp_ans pl (jv er pl kn nm ec.toNat).2 j k w) gi gl sh) := by
  show Go mdX9_opening 0 0 0 [some (vR 190), some (vI j), some (vI k), some (vI w), none, none, none, none] [] gi gl sh _
  have p1 := hN.1.p.2.1
  have v4 := hN.2.1.v4
  have v41 := hN.2.1.2.1.1
  refine g_aload_n dX9_opening_0 rfl ?_
  refine g_iload_n dX9_opening_1 rfl ?_
  refine g_cVi [_] dX9_opening_2 mlX9_241 mvX9_isValve (by decide) hM.o (by decide) rfl rfl (Nat.le_of_ble_eq_true rfl) rfl (Nat.le_of_ble_eq_true rfl) (m_isValve hM j (pl 4) _ p1 (by omega) (zb_q _)) ?_
  refine g_if_eq 23 dX9_opening_5 (by decide) (fun h5 => ?_) (fun h5 => ?_)
  · skip
    have c1 := (zb_q _).no h5
    refine g_iconst dX9_opening_23 (by decide) ?_
    refine g_ireturn dX9_opening_24 rfl ?_
    refine ⟨?_, rfl, rfl, FA.rf⟩
    unfold pp_ans
    rw [if_pos (Or.inl c1)]
  · skip
    have c1 := (zb_q _).yes h5
    refine g_iload_n dX9_opening_8 rfl ?_
    refine g_iconst dX9_opening_9 (by decide) ?_
    refine g_icmp_lt 23 dX9_opening_10 (by decide) (fun h10 => ?_) (fun h10 => ?_)
    · skip
      refine g_iconst dX9_opening_23 (by decide) ?_
      refine g_ireturn dX9_opening_24 rfl ?_
      refine ⟨?_, rfl, rfl, FA.rf⟩
      unfold pp_ans
      rw [if_pos (Or.inr (by omega))]
    · skip
      refine g_iload_n dX9_opening_13 rfl ?_
      refine g_i2l dX9_opening_14 ?_
      refine g_lconst 0 dX9_opening_15 (by decide) (by decide) ?_
      refine g_lconst 1 dX9_opening_16 (by decide) (by decide) ?_
      refine g_cSi [_, _, _] dX9_opening_17 mlX9_106 msX9_within (by decide) rfl rfl (Nat.le_of_ble_eq_true rfl) rfl (Nat.le_of_ble_eq_true rfl) (m_within _ _ _ _ (zb_q _)) ?_
      refine g_if_ne 25 dX9_opening_20 (by decide) (fun h20 => ?_) (fun h20 => ?_)
      · skip
        have c2 := (zb_q _).yes h20
        refine g_aload_n dX9_opening_25 rfl ?_
        refine g_callV_v [] dX9_opening_26 mlX9_233 mvX9_judgesNow (by decide) hM.o (by decide) rfl rfl (Nat.le_of_ble_eq_true rfl) rfl (Nat.le_of_ble_eq_true rfl) (m_judgesNow hM hN hFS) (fun _ _ _ _ q => q.1) (fun g1 l1 s1 q w1 w2 => ?_)
        obtain ⟨-, q2, q3, f1, H, J⟩ := q
        subst q2 q3
        refine g_iconst dX9_opening_29 (by decide) ?_
        refine n_istore (lN := [_, _, _, _, _, _, _, _]) dX9_opening_30 (by decide) rfl ?_
        refine g_iconst dX9_opening_32 (by decide) ?_
        refine n_istore (lN := [_, _, _, _, _, _, _, _]) dX9_opening_33 (by decide) rfl ?_
        refine l_og hM gi f1 j k w _ _ _ (by omega) (by omega) c2 (JD.tk H J c1) _ ?_ 96 0 0 (by omega) (Int.le_refl _) ⟨⟨Int.le_refl _, (JD.tk H J c1).1.1⟩, fun i i0 i1 => by omega, fun i i0 i1 => ?_⟩ (fun a b => ?_) none none (fun y h9 => by cases h9)
        · unfold pp_ans
          rw [if_neg (fun v => v.elim (fun v => v c1) (fun v => by omega))]
        · have := (JD.tk H J c1).2.1 i i0 i1; omega
        · have := (JD.tk H J c1).2.1 k a b
          split <;> omega
      · skip
        have c2 := zb_nn h20
        refine g_iconst dX9_opening_23 (by decide) ?_
        refine g_ireturn dX9_opening_24 rfl ?_
        refine ⟨?_, rfl, rfl, FA.rf⟩
        unfold pp_ans
        rw [if_pos (Or.inr (by omega))]

noncomputable def pa_ans (pl : gRw) (V : vV) (j : Int) : Int := if 0 ≤ j ∧ j < pl 4 then vl_sum (V.2.1 j) (V.2.2 j) (V.1 j).toNat else -1
set_option maxRecDepth 20000 in
set_option maxHeartbeats 1000000 in
theorem l_ar (hM : isMd sh) (g0 : gF) (f0 : FA g0 gi) (j N : Int) (fs ls : gRw) (hj : 0 ≤ j ∧ j < 16) (h : TK (On gi j) N fs ls) :
  ∀ (m : Nat) (t c x : Int), t + m = 96 → 0 ≤ t → CN N ls c t → ((c < N ∧ fs c < t ∧ x = vl_sum fs ls c.toNat + (t - fs c)) ∨ (¬ (c < N ∧ fs c < t) ∧ x = vl_sum fs ls c.toNat)) → (0 ≤ x ∧ x ≤ t) → Go mdX9_air 0 0 18 [some (vR 190), some (vI j), some (vI x), some (vI t)] [] gi gl sh (AK (vl_sum fs ls N.toNat) g0 gl sh) := by
  have hN := h.1
  intro m
  induction m with
  | zero =>
    intro t c x h1 h2 hc hx hx0
    have hc0 := hc.1
    have en : c = N := Classical.byContradiction (fun v => by have a := hc.2.2 c (Int.le_refl _) (by omega); have b := (h.2.1 c (by omega) (by omega)).2.2; omega)
    refine g_iload_n dX9_air_18 rfl ?_
    refine g_bipush dX9_air_19 (by decide) (by decide) ?_
    refine g_icmp_ge 52 dX9_air_21 (by decide) (fun h21 => ?_) (fun h21 => ?_)
    · skip
      refine g_iload_n dX9_air_52 rfl ?_
      refine g_ireturn dX9_air_53 rfl ?_
      refine ⟨?_, rfl, rfl, f0⟩
      rcases hx with v | v
      · omega
      · rw [v.2, en]
    · exfalso; omega
  | succ m ih =>
    intro t c x h1 h2 hc hx hx0
    have hc0 := hc.1
    have hO := h.2.2.2 t h2 (by omega)
    have hO2 : On gi j t ↔ c < N ∧ fs c ≤ t := by
      rw [hO]
      constructor
      · intro ⟨i, hi, a, b⟩
        have ei := hc.f h hi a b
        rw [← ei]; exact ⟨hi.2, a⟩
      · intro ⟨a, b⟩
        exact ⟨c, ⟨hc0.1, a⟩, b, hc.2.2 c (Int.le_refl _) a⟩
    have hl : c < N → t ≤ ls c ∧ fs c ≤ ls c := fun a => ⟨hc.2.2 c (Int.le_refl _) a, (h.2.1 c hc0.1 a).2.1⟩
    have hsu : vl_sum fs ls (c + 1).toNat = vl_sum fs ls c.toNat + (ls c - fs c + 1) := by
      rw [show (c + 1).toNat = c.toNat + 1 by omega, vl_sum, show ((c.toNat : Nat) : Int) = c by omega]
    refine g_iload_n dX9_air_18 rfl ?_
    refine g_bipush dX9_air_19 (by decide) (by decide) ?_
    refine g_icmp_ge 52 dX9_air_21 (by decide) (fun h21 => ?_) (fun h21 => ?_)
    · exfalso; omega
    · skip
      refine g_iload_n dX9_air_24 rfl ?_
      refine g_aload_n dX9_air_25 rfl ?_
      refine g_getR 30 dX9_air_26 flX9_77 rfl hM.o hM.r30 ?_
      refine g_bipush dX9_air_29 (by decide) (by decide) ?_
      refine g_iload_n dX9_air_31 rfl ?_
      refine g_imul dX9_air_32 (by omega) (by omega) ?_
      refine g_iload_n dX9_air_33 rfl ?_
      refine g_iadd dX9_air_34 (by omega) (by omega) ?_
      refine g_baload dX9_air_35 hM.k213 (by omega) (hM.b213 (by omega)) ?_
      refine g_if_eq 43 dX9_air_36 (by decide) (fun h36 => ?_) (fun h36 => ?_)
      · skip
        refine g_iconst dX9_air_43 (by decide) ?_
        refine g_iadd dX9_air_44 (by omega) (by omega) ?_
        refine n_istore_n (lN := [_, _, _, _]) dX9_air_45 (by decide) rfl ?_
        refine n_iinc (lN := [_, _, _, some (vI (t + 1))]) dX9_air_46 rfl (by decide) (by omega) (by omega) rfl ?_
        refine g_goto 18 dX9_air_49 (by decide) ?_
        have ho : ¬ (c < N ∧ fs c ≤ t) := fun v => (hO2.mpr v) h36
        have hne : ¬ ∃ i : Int, (0 ≤ i ∧ i < N) ∧ ls i = t := fun v => by
          have u := (hc.end_ h v).1
          have u2 := hl u.1
          exact ho ⟨u.1, by omega⟩
        refine ih (t + 1) c _ (by omega) (by omega) (hc.stay hne) (Or.inr ⟨fun v => ho ⟨v.1, by omega⟩, ?_⟩) (by omega)
        rcases hx with v | v
        · exact absurd ⟨v.1, by omega⟩ ho
        · omega
      · skip
        refine g_iconst dX9_air_39 (by decide) ?_
        refine g_goto 44 dX9_air_40 (by decide) ?_
        refine g_iadd dX9_air_44 (by omega) (by omega) ?_
        refine n_istore_n (lN := [_, _, _, _]) dX9_air_45 (by decide) rfl ?_
        refine n_iinc (lN := [_, _, _, some (vI (t + 1))]) dX9_air_46 rfl (by decide) (by omega) (by omega) rfl ?_
        refine g_goto 18 dX9_air_49 (by decide) ?_
        have ho : c < N ∧ fs c ≤ t := hO2.mp h36
        have u2 := hl ho.1
        have hx2 : x = vl_sum fs ls c.toNat + (t - fs c) := by
          rcases hx with v | v
          · exact v.2.2
          · have : fs c = t := Classical.byContradiction (fun w => v.1 ⟨ho.1, by omega⟩)
            omega
        by_cases e : ls c = t
        · have u := (hc.end_ h ⟨c, ⟨hc0.1, ho.1⟩, e⟩).2
          refine ih (t + 1) (c + 1) _ (by omega) (by omega) u (Or.inr ⟨fun v => ?_, ?_⟩) (by omega)
          · have := h.2.2.1 c (c + 1) hc0.1 (by omega) v.1; omega
          · rw [hsu]; omega
        · refine ih (t + 1) c _ (by omega) (by omega) (hc.stay (fun v => ?_)) (Or.inl ⟨ho.1, by omega, by omega⟩) (by omega)
          exact e (hc.end_ h v).1.2
set_option maxRecDepth 20000 in
set_option maxHeartbeats 1000000 in
theorem m_air (hM : isMd sh) (hN : MN gi gl pl kn T ln nm) (hFS : FS (clo (pl 3) ln) (pl 8) T S er ec) (j : Int) : Ct mdX9_air 0 0 [vR 190, vI j] gi gl sh (AK (pa_ans pl (jv er pl kn nm ec.toNat).2 j) gi gl sh) := by
  show Go mdX9_air 0 0 0 [some (vR 190), some (vI j), none, none] [] gi gl sh _
  have p1 := hN.1.p.2.1
  have v4 := hN.2.1.v4
  have v41 := hN.2.1.2.1.1
  refine g_aload_n dX9_air_0 rfl ?_
  refine g_iload_n dX9_air_1 rfl ?_
  refine g_cVi [_] dX9_air_2 mlX9_241 mvX9_isValve (by decide) hM.o (by decide) rfl rfl (Nat.le_of_ble_eq_true rfl) rfl (Nat.le_of_ble_eq_true rfl) (m_isValve hM j (pl 4) _ p1 (by omega) (zb_q _)) ?_
  refine g_if_ne 10 dX9_air_5 (by decide) (fun h5 => ?_) (fun h5 => ?_)
  · skip
    have c1 := (zb_q _).yes h5
    refine g_aload_n dX9_air_10 rfl ?_
    refine g_callV_v [] dX9_air_11 mlX9_233 mvX9_judgesNow (by decide) hM.o (by decide) rfl rfl (Nat.le_of_ble_eq_true rfl) rfl (Nat.le_of_ble_eq_true rfl) (m_judgesNow hM hN hFS) (fun _ _ _ _ q => q.1) (fun g1 l1 s1 q w1 w2 => ?_)
    obtain ⟨-, q2, q3, f1, H, J⟩ := q
    subst q2 q3
    refine g_iconst dX9_air_14 (by decide) ?_
    refine n_istore_n (lN := [_, _, _, _]) dX9_air_15 (by decide) rfl ?_
    refine g_iconst dX9_air_16 (by decide) ?_
    refine n_istore_n (lN := [_, _, _, _]) dX9_air_17 (by decide) rfl ?_
    have tk := JD.tk H J c1
    have key := l_ar (gl := l1) hM gi f1 j _ _ _ (by omega) tk 96 0 0 0 (by omega) (Int.le_refl _) ⟨⟨Int.le_refl _, tk.1.1⟩, fun i i0 i1 => by omega, fun i i0 i1 => by have := tk.2.1 i i0 i1; omega⟩ (Or.inr ⟨fun v => by have := tk.2.1 0 (Int.le_refl _) v.1; omega, rfl⟩) (by omega)
    unfold pa_ans
    rw [if_pos c1]
    exact key
  · skip
    have c1 := zb_nn h5
    refine g_iconst dX9_air_8 (by decide) ?_
    refine g_ireturn dX9_air_9 rfl ?_
    refine ⟨?_, rfl, rfl, FA.rf⟩
    unfold pa_ans
    rw [if_neg c1]

end MD14
