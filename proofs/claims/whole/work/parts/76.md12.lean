/-! the model judges: all of it -/
def FJ (g g' : gF) : Prop := ∀ b : Int, b ≠ 212 → b ≠ 213 → b ≠ 214 → g' b = g b
theorem FJ.rf {g : gF} : FJ g g := fun _ _ _ _ => rfl
theorem FJ.tr {g g' g2 : gF} (h : FJ g g') (h' : FJ g' g2) : FJ g g2 := fun b h1 h2 h3 => (h' b h1 h2 h3).trans (h b h1 h2 h3)
theorem FJ.up {g g' : gF} {a i v : Int} (h : FJ g g') (ha : a = 212 ∨ a = 213 ∨ a = 214) : FJ g (g_up g' a i v) := fun b h1 h2 h3 => by rw [g_up_row (by omega)]; exact h b h1 h2 h3
theorem FO.fj {g g' : gF} (h : FO g g') : FJ g g' := fun b _ h2 _ => h b h2
/-- all that judging rests on -/
def JH (gi : gF) (er : Int → gRw) (pl kn nu : gRw) (ec : Int) : Prop := ME gi er ec ∧ (∀ i : Int, 0 ≤ i → i < ec → rwB gi (gi 210 i) (er i)) ∧ MP gi pl kn ∧ v_pok pl ∧ ((pl 5 ≤ 20 ∧ pl 7 ≤ 5) ∧ (0 ≤ pl 9 ∧ pl 9 ≤ 9) ∧ pl 4 ≤ 16) ∧ (∀ k : Int, 0 ≤ k → k < pl 2 → gi 211 k = nu k) ∧ (∀ i : Int, 0 ≤ i → i < ec → v_hi pl (er i) < pl 4) ∧ erS er ec.toNat ∧ ∀ b : Int, 0 ≤ b → b < ec → v_bok pl (er b)
theorem ME.fr {g g' : gF} {er : Int → gRw} {ec : Int} (h : ME g er ec) (e : ∀ b : Int, 201 ≤ b → b ≤ 210 → g' b = g b) (e1 : g' 190 16 = g 190 16) : ME g' er ec := by
  have em : ∀ b : Int, bl_eq (mrow g b) (mrow g' b) := fun b => by
    unfold bl_eq
    simp only [mrow_0, mrow_1, mrow_2, mrow_3, mrow_4, mrow_5, mrow_6, mrow_7]
    rw [e 202 (by decide) (by decide), e 203 (by decide) (by decide), e 204 (by decide) (by decide), e 205 (by decide) (by decide), e 206 (by decide) (by decide), e 207 (by decide) (by decide), e 208 (by decide) (by decide), e 209 (by decide) (by decide)]
    exact ⟨rfl, rfl, rfl, rfl, rfl, rfl, rfl, rfl⟩
  unfold ME
  rw [e 210 (by decide) (by decide), e1]
  exact ⟨h.1, h.2.1, fun i i0 i1 => ⟨(h.2.2.1 i i0 i1).1, (h.2.2.1 i i0 i1).2.tr (em _)⟩, h.2.2.2⟩
theorem JH.fr {g g' : gF} {er : Int → gRw} {pl kn nu : gRw} {ec : Int} (h : JH g er pl kn nu ec) (f : FJ g g') : JH g' er pl kn nu ec := by
  obtain ⟨h1, h2, h3, h4, h5, h6, h7⟩ := h
  refine ⟨h1.fr (fun b b0 b1 => f b (by omega) (by omega) (by omega)) (by rw [f 190 (by decide) (by decide) (by decide)]), fun i i0 i1 => ?_, h3.fr (by rw [f 190 (by decide) (by decide) (by decide)]) (f 191 (by decide) (by decide) (by decide)) (f 192 (by decide) (by decide) (by decide)), h4, h5, fun k k0 k1 => by rw [f 211 (by decide) (by decide) (by decide)]; exact h6 k k0 k1, h7⟩
  rw [f 210 (by decide) (by decide) (by decide)]
  exact (h2 i i0 i1).fr (fun a a0 a1 => f a (by omega) (by omega) (by omega))
theorem JH.nu {g : gF} {er : Int → gRw} {pl kn nu : gRw} {ec k v : Int} (h : JH g er pl kn nu ec) : JH (g_up g 211 k v) er pl kn (r_up nu k v) ec := by
  obtain ⟨h1, h2, h3, h4, h5, h6, h7⟩ := h
  refine ⟨h1.fr (fun b b0 b1 => g_up_row (by omega)) (by rw [g_up_row (by decide)]), fun i i0 i1 => ?_, h3.fr (by rw [g_up_row (by decide)]) (g_up_row (by decide)) (g_up_row (by decide)), h4, h5, fun i i0 i1 => ?_, h7⟩
  · rw [g_up_row (by decide)]; exact (h2 i i0 i1).fr (fun a a0 a1 => g_up_row (by omega))
  · rw [g_up_r]
    by_cases c : i = k
    · rw [c, r_up_at, r_up_at]
    · rw [r_up_ne c, r_up_ne c]; exact h6 i i0 i1
theorem JH.w {g : gF} {er : Int → gRw} {pl kn nu : gRw} {ec : Int} (h : JH g er pl kn nu ec) {n : Nat} (hn : (n : Int) ≤ ec) {j t : Int} (w : wnt er pl kn nu n j t) : 0 ≤ t ∧ t < 96 := by
  obtain ⟨b, hb, -, -, w1, w2⟩ := w
  have k1 := (h.2.1 b hb.1 (by omega)).2.2.2.2.1
  have e1 : v_fr pl (er b) = max (er b 0 + pl 5 - pl 6) (er b 1 + 1) := rfl
  have e2 : v_to pl (er b) = er b 1 + pl 5 + pl 7 := rfl
  have := h.2.2.2.2.1.1
  omega
/-- judged by the model -/
def JD (g : gF) (er : Int → gRw) (pl kn nu : gRw) (ec : Int) : Prop := (∀ i : Int, 0 ≤ i → i < ec → g 212 (g 210 i) = v_rule pl kn nu (er i) ∧ g 214 (g 210 i) = jb er pl kn nu ec.toNat i) ∧ ∀ j t : Int, 0 ≤ j → j < pl 4 → 0 ≤ t → t < 96 → (On g j t ↔ opn (pl 9) (wnt er pl kn nu ec.toNat j) t)
section MD12
variable {gi gl : gF} {sh : gSh} {pl kn nu : gRw} {er : Int → gRw} {ec : Int}
def JQ2 (gi gl : gF) (sh : gSh) (er : Int → gRw) (pl kn nu : gRw) (ec : Int) : gQ := fun x g' gl' sh' => x = none ∧ gl' = gl ∧ sh' = sh ∧ FJ gi g' ∧ JD g' er pl kn nu ec
theorem jb_b (n : Nat) (i : Int) : jb er pl kn nu n i = 0 ∨ jb er pl kn nu n i = 1 := (zb_q _).b
set_option maxRecDepth 20000 in
set_option maxHeartbeats 1000000 in
theorem l_j4 (hM : isMd sh) (H : JH gi er pl kn nu ec) : ∀ (n : Nat) (i : Int), i + n = ec → 0 ≤ i → ∀ g : gF, FJ gi g → (∀ k : Int, 0 ≤ k → k < ec → g 212 (gi 210 k) = v_rule pl kn nu (er k)) → (∀ k : Int, 0 ≤ k → k < i → g 214 (gi 210 k) = jb er pl kn nu ec.toNat k) → (∀ j t : Int, 0 ≤ j → j < pl 4 → 0 ≤ t → t < 96 → (On g j t ↔ opn (pl 9) (wnt er pl kn nu ec.toNat j) t)) → ∀ l2 : Option gV, Go mdX9_judges 0 0 103 [some (vR 190), some (vI i), l2] [] g gl sh (JQ2 gi gl sh er pl kn nu ec) := by
  have hE := H.1
  intro n
  induction n with
  | zero =>
    intro i h1 h2 g hf hr hb hO l2
    have hi : i = ec := by omega
    subst hi
    have e16 : g 190 16 = i := by rw [hf 190 (by decide) (by decide) (by decide)]; exact hE.1
    have e10 : g 210 = gi 210 := hf 210 (by decide) (by decide) (by decide)

    refine g_iload_n dX9_judges_103 rfl ?_
    refine g_aload_n dX9_judges_104 rfl ?_
    refine g_getI 16 dX9_judges_105 flX9_157 rfl hM.o ?_
    refine g_icmp_ge 138 dX9_judges_108 (by decide) (fun h108 => ?_) (fun h108 => ?_)
    · skip
      refine g_return dX9_judges_138 rfl ?_
      exact ⟨rfl, rfl, rfl, hf, fun k k0 k1 => by rw [e10]; exact ⟨hr k k0 k1, hb k k0 k1⟩, hO⟩
    · exfalso; omega
  | succ n ih =>
    intro i h1 h2 g hf hr hb hO l2
    have e16 : g 190 16 = ec := by rw [hf 190 (by decide) (by decide) (by decide)]; exact hE.1
    have e10 : g 210 = gi 210 := hf 210 (by decide) (by decide) (by decide)
    have hec := hE.2.1
    have hnum := (hE.2.2.1 i h2 (by omega)).1
    have Hg := H.fr hf
    have rw1 := Hg.2.1 i h2 (by omega)
    rw [e10] at rw1
    have hz : Zq (∃ j : Int, (v_lo pl (er i) ≤ j ∧ j ≤ v_hi pl (er i)) ∧ ∃ s : Int, (er i 0 + pl 5 ≤ s ∧ s ≤ er i 1 + pl 5) ∧ On g j s) (jb er pl kn nu ec.toNat i) := by
      have hv := v_bl_opn (kn := kn) (nu := nu) H.2.2.2.1 H.2.2.2.2.2.2.2.1 (fun b b0 b1 => H.2.2.2.2.2.2.2.2 b b0 (by omega)) (r := er i) rw1.2.2.2.2.2.2.2.2.1
      have hhi := H.2.2.2.2.2.2.1 i h2 (by omega)
      have k0 := rw1.2.2.2.1
      have k1 := rw1.2.2.2.2.1
      have q5 := H.2.2.2.2.1.1
      have q50 := H.2.2.2.1.2.1
      have key : (∃ j : Int, (v_lo pl (er i) ≤ j ∧ j ≤ v_hi pl (er i)) ∧ ∃ s : Int, (er i 0 + pl 5 ≤ s ∧ s ≤ er i 1 + pl 5) ∧ On g j s) ↔ v_bl (jv er pl kn nu ec.toNat).2 pl (er i) := by
        rw [hv]
        constructor
        · intro ⟨j, hj, s, hs, o⟩
          exact ⟨j, hj, s, hs, (hO j s (by unfold v_lo at hj; omega) (by omega) (by omega) (by omega)).mp o⟩
        · intro ⟨j, hj, s, hs, o⟩
          exact ⟨j, hj, s, hs, (hO j s (by unfold v_lo at hj; omega) (by omega) (by omega) (by omega)).mpr o⟩
      have zq : Zq (v_bl (jv er pl kn nu ec.toNat).2 pl (er i)) (jb er pl kn nu ec.toNat i) := zb_q _
      exact ⟨fun w => zq.1 (key.mp w), fun w => zq.2 (fun v => w (key.mpr v))⟩
    have hzb := hz.b
    refine g_iload_n dX9_judges_103 rfl ?_
    refine g_aload_n dX9_judges_104 rfl ?_
    refine g_getI 16 dX9_judges_105 flX9_157 rfl hM.o ?_
    refine g_icmp_ge 138 dX9_judges_108 (by decide) (fun h108 => ?_) (fun h108 => ?_)
    · exfalso; omega
    · skip
      refine g_aload_n dX9_judges_111 rfl ?_
      refine g_getR 31 dX9_judges_112 flX9_81 rfl hM.o hM.r31 ?_
      refine g_aload_n dX9_judges_115 rfl ?_
      refine g_getR 27 dX9_judges_116 flX9_68 rfl hM.o hM.r27 ?_
      refine g_iload_n dX9_judges_119 rfl ?_
      refine g_iaload dX9_judges_120 hM.k210 (by omega) (hM.b210 (by omega)) ?_
      rw [e10]
      refine g_aload_n dX9_judges_121 rfl ?_
      refine g_aload_n dX9_judges_122 rfl ?_
      refine g_getR 27 dX9_judges_123 flX9_68 rfl hM.o hM.r27 ?_
      refine g_iload_n dX9_judges_126 rfl ?_
      refine g_iaload dX9_judges_127 hM.k210 (by omega) (hM.b210 (by omega)) ?_
      rw [e10]
      refine g_cVi [_] dX9_judges_128 mlX9_224 mvX9_isBlownNow (by decide) hM.o (by decide) rfl rfl (Nat.le_of_ble_eq_true rfl) rfl (Nat.le_of_ble_eq_true rfl) (m_isBlownNow hM rw1 Hg.2.2.1 Hg.2.2.2.1 Hg.2.2.2.2.1.1.1 _ hz) ?_
      refine g_bastore dX9_judges_131 hM.k214 (by omega) (hM.b214 (by omega)) (by exact hzb) ?_
      refine n_iinc (lN := [_, some (vI (i + 1)), _]) dX9_judges_132 rfl (by decide) (by omega) (by omega) rfl ?_
      refine g_goto 103 dX9_judges_135 (by decide) ?_
      refine ih (i + 1) (by omega) (by omega) _ (hf.up (by omega)) (fun k k0 k1 => by rw [g_up_row (by decide)]; exact hr k k0 k1) (fun k k0 k1 => ?_) (fun j t j0 j1 t0 t1 => by rw [On.eq (g_up_row (by decide))]; exact hO j t j0 j1 t0 t1) _
      rw [g_up_r]
      by_cases c : k = i
      · rw [c, r_up_at]
      · rw [r_up_ne (fun w => c (hE.2.2.2 k i k0 (by omega) h2 (by omega) w))]
        exact hb k k0 (by omega)
set_option maxRecDepth 20000 in
set_option maxHeartbeats 1000000 in
theorem l_j3 (hM : isMd sh) (H : JH gi er pl kn nu ec) : ∀ (n : Nat) (j : Int), j + n = pl 4 → 0 ≤ j → ∀ g : gF, FJ gi g → (∀ k : Int, 0 ≤ k → k < ec → g 212 (gi 210 k) = v_rule pl kn nu (er k)) → (∀ i t : Int, 0 ≤ i → i < pl 4 → 0 ≤ t → t < 96 → (i < j → (On g i t ↔ opn (pl 9) (wnt er pl kn nu ec.toNat i) t)) ∧ (j ≤ i → (On g i t ↔ wnt er pl kn nu ec.toNat i t))) → ∀ l2 : Option gV, Go mdX9_judges 0 0 80 [some (vR 190), some (vI j), l2] [] g gl sh (JQ2 gi gl sh er pl kn nu ec) := by
  have hE := H.1
  have hec := hE.2.1
  intro n
  induction n with
  | zero =>
    intro j h1 h2 g hf hr hO l2
    have e1 : g 191 1 = pl 4 := by rw [hf 191 (by decide) (by decide) (by decide)]; exact H.2.2.1.p.2.1
    refine g_iload_n dX9_judges_80 rfl ?_
    refine g_aload_n dX9_judges_81 rfl ?_
    refine g_getR 0 dX9_judges_82 flX9_7 rfl hM.o hM.r0 ?_
    refine g_iconst dX9_judges_85 (by decide) ?_
    refine g_iaload dX9_judges_86 hM.k191 (by omega) (hM.b191 (by omega)) ?_
    refine g_icmp_ge 101 dX9_judges_87 (by decide) (fun h87 => ?_) (fun h87 => ?_)
    · skip
      refine g_iconst dX9_judges_101 (by decide) ?_
      refine n_istore_n (lN := [_, _, _]) dX9_judges_102 (by decide) rfl ?_
      exact l_j4 hM H ec.toNat 0 (by omega) (Int.le_refl _) g hf hr (fun k k0 k1 => by omega) (fun i t i0 i1 t0 t1 => (hO i t i0 i1 t0 t1).1 (by omega)) _
    · exfalso; omega
  | succ n ih =>
    intro j h1 h2 g hf hr hO l2
    have e1 : g 191 1 = pl 4 := by rw [hf 191 (by decide) (by decide) (by decide)]; exact H.2.2.1.p.2.1
    have e6 : g 191 6 = pl 9 := by rw [hf 191 (by decide) (by decide) (by decide)]; exact H.2.2.1.p.2.2.2.2.2.2
    have q4 := H.2.2.2.2.1.2.2
    refine g_iload_n dX9_judges_80 rfl ?_
    refine g_aload_n dX9_judges_81 rfl ?_
    refine g_getR 0 dX9_judges_82 flX9_7 rfl hM.o hM.r0 ?_
    refine g_iconst dX9_judges_85 (by decide) ?_
    refine g_iaload dX9_judges_86 hM.k191 (by omega) (hM.b191 (by omega)) ?_
    refine g_icmp_ge 101 dX9_judges_87 (by decide) (fun h87 => ?_) (fun h87 => ?_)
    · exfalso; omega
    · skip
      refine g_aload_n dX9_judges_90 rfl ?_
      refine g_iload_n dX9_judges_91 rfl ?_
      refine g_callV_v [_] dX9_judges_92 mlX9_221 mvX9_rests (by decide) hM.o (by decide) rfl rfl (Nat.le_of_ble_eq_true rfl) rfl (Nat.le_of_ble_eq_true rfl) (m_rests hM j (pl 9) (by omega) e6 H.2.2.2.2.1.2.1) (fun _ _ _ _ q => q.1) (fun g1 l1 s1 q w1 w2 => ?_)
      obtain ⟨-, q2, q3, f1, q5⟩ := q
      subst q2 q3
      refine n_iinc (lN := [_, some (vI (j + 1)), _]) dX9_judges_95 rfl (by decide) (by omega) (by omega) rfl ?_
      refine g_goto 80 dX9_judges_98 (by decide) ?_
      refine ih (j + 1) (by omega) (by omega) g1 (hf.tr f1.fj) (fun k k0 k1 => by rw [f1 212 (by decide)]; exact hr k k0 k1) (fun i t i0 i1 t0 t1 => ⟨fun c => ?_, fun c => ?_⟩) _
      · by_cases e : i = j
        · subst e
          rw [(q5 i t i0 (by omega) t0 t1).2 rfl]
          refine opn.congr (fun s => ?_) t
          constructor
          · intro v; exact ((hO i s i0 i1 v.1.1 v.1.2).2 (Int.le_refl _)).mp v.2
          · intro v
            have r := H.w (n := ec.toNat) (by omega) v
            exact ⟨r, ((hO i s i0 i1 r.1 r.2).2 (Int.le_refl _)).mpr v⟩
        · rw [(q5 i t i0 (by omega) t0 t1).1 e]
          exact (hO i t i0 i1 t0 t1).1 (by omega)
      · rw [(q5 i t i0 (by omega) t0 t1).1 (by omega)]
        exact (hO i t i0 i1 t0 t1).2 (by omega)
set_option maxRecDepth 20000 in
set_option maxHeartbeats 1000000 in
theorem l_j2 (hM : isMd sh) (H : JH gi er pl kn nu ec) : ∀ (n : Nat) (i : Int), i + n = ec → 0 ≤ i → ∀ g : gF, FJ gi g → (∀ k : Int, 0 ≤ k → k < i → g 212 (gi 210 k) = v_rule pl kn nu (er k)) → (∀ j t : Int, 0 ≤ j → j < pl 4 → 0 ≤ t → t < 96 → (On g j t ↔ wnt er pl kn nu i.toNat j t)) → ∀ l2 : Option gV, Go mdX9_judges 0 0 30 [some (vR 190), some (vI i), l2] [] g gl sh (JQ2 gi gl sh er pl kn nu ec) := by
  have hE := H.1
  have hec := hE.2.1
  have q41 := H.2.2.2.1.1.1
  have q4 := H.2.2.2.2.1.2.2
  intro n
  induction n with
  | zero =>
    intro i h1 h2 g hf hr hO l2
    have hi : i = ec := by omega
    subst hi
    have e16 : g 190 16 = i := by rw [hf 190 (by decide) (by decide) (by decide)]; exact hE.1
    refine g_iload_n dX9_judges_30 rfl ?_
    refine g_aload_n dX9_judges_31 rfl ?_
    refine g_getI 16 dX9_judges_32 flX9_157 rfl hM.o ?_
    refine g_icmp_ge 78 dX9_judges_35 (by decide) (fun h35 => ?_) (fun h35 => ?_)
    · skip
      refine g_iconst dX9_judges_78 (by decide) ?_
      refine n_istore_n (lN := [_, _, _]) dX9_judges_79 (by decide) rfl ?_
      exact l_j3 hM H (pl 4).toNat 0 (by omega) (Int.le_refl _) g hf hr (fun j t j0 j1 t0 t1 => ⟨fun c => by omega, fun _ => hO j t j0 j1 t0 t1⟩) _
    · exfalso; omega
  | succ n ih =>
    intro i h1 h2 g hf hr hO l2
    have e16 : g 190 16 = ec := by rw [hf 190 (by decide) (by decide) (by decide)]; exact hE.1
    have e10 : g 210 = gi 210 := hf 210 (by decide) (by decide) (by decide)
    have hnum := (hE.2.2.1 i h2 (by omega)).1
    have Hg := H.fr hf
    have rw1 := Hg.2.1 i h2 (by omega)
    rw [e10] at rw1
    have ei : (((i.toNat : Nat) : Int)) = i := by omega
    have hsu : ∀ j t, wnt er pl kn nu (i + 1).toNat j t ↔ wnt er pl kn nu i.toNat j t ∨ (v_rule pl kn nu (er i) ≠ -4 ∧ (v_lo pl (er i) ≤ j ∧ j ≤ v_hi pl (er i)) ∧ v_fr pl (er i) ≤ t ∧ t ≤ v_to pl (er i)) := fun j t => by
      rw [show (i + 1).toNat = i.toNat + 1 by omega, wnt_succ, ei]
    have hr2 : ∀ g2 : gF, g2 212 = r_up (g 212) (gi 210 i) (v_rule pl kn nu (er i)) → ∀ k : Int, 0 ≤ k → k < i + 1 → g2 212 (gi 210 k) = v_rule pl kn nu (er k) := fun g2 e2 k k0 k1 => by
      rw [e2]
      by_cases c : k = i
      · rw [c, r_up_at]
      · rw [r_up_ne (fun w => c (hE.2.2.2 k i k0 (by omega) h2 (by omega) w))]
        exact hr k k0 (by omega)
    refine g_iload_n dX9_judges_30 rfl ?_
    refine g_aload_n dX9_judges_31 rfl ?_
    refine g_getI 16 dX9_judges_32 flX9_157 rfl hM.o ?_
    refine g_icmp_ge 78 dX9_judges_35 (by decide) (fun h35 => ?_) (fun h35 => ?_)
    · exfalso; omega
    · skip
      refine g_aload_n dX9_judges_38 rfl ?_
      refine g_getR 27 dX9_judges_39 flX9_68 rfl hM.o hM.r27 ?_
      refine g_iload_n dX9_judges_42 rfl ?_
      refine g_iaload dX9_judges_43 hM.k210 (by omega) (hM.b210 (by omega)) ?_
      rw [e10]
      refine n_istore_n (lN := [_, _, _]) dX9_judges_44 (by decide) rfl ?_
      refine g_aload_n dX9_judges_45 rfl ?_
      refine g_getR 29 dX9_judges_46 flX9_74 rfl hM.o hM.r29 ?_
      refine g_iload_n dX9_judges_49 rfl ?_
      refine g_aload_n dX9_judges_50 rfl ?_
      refine g_iload_n dX9_judges_51 rfl ?_
      refine g_cVi [_] dX9_judges_52 mlX9_214 mvX9_ruleOf (by decide) hM.o (by decide) rfl rfl (Nat.le_of_ble_eq_true rfl) rfl (Nat.le_of_ble_eq_true rfl) (m_ruleOf (nu := nu) hM rw1 Hg.2.2.1 Hg.2.2.2.1.2.2.2.2 Hg.2.2.2.2.2.1) ?_
      refine g_iastore dX9_judges_55 hM.k212 (by omega) (hM.b212 (by omega)) ?_
      have f1 : FJ gi (g_up g 212 (gi 210 i) (v_rule pl kn nu (er i))) := hf.up (by omega)
      have e12 : g_up g 212 (gi 210 i) (v_rule pl kn nu (er i)) 212 = r_up (g 212) (gi 210 i) (v_rule pl kn nu (er i)) := g_up_r
      have eo : ∀ j t, On (g_up g 212 (gi 210 i) (v_rule pl kn nu (er i))) j t ↔ On g j t := fun j t => On.eq (g_up_row (by decide))
      generalize g_up g 212 (gi 210 i) (v_rule pl kn nu (er i)) = g2 at f1 e12 eo ⊢
      have Hg2 := H.fr f1
      have rw2 := Hg2.2.1 i h2 (by omega)
      rw [f1 210 (by decide) (by decide) (by decide)] at rw2
      refine g_aload_n dX9_judges_56 rfl ?_
      refine g_getR 29 dX9_judges_57 flX9_74 rfl hM.o hM.r29 ?_
      refine g_iload_n dX9_judges_60 rfl ?_
      refine g_iaload dX9_judges_61 hM.k212 (by omega) (hM.b212 (by omega)) ?_
      rw [e12, r_up_at]
      refine g_bipush dX9_judges_62 (by decide) (by decide) ?_
      refine g_icmp_eq 72 dX9_judges_64 (by decide) (fun h64 => ?_) (fun h64 => ?_)
      · skip
        refine n_iinc (lN := [_, some (vI (i + 1)), _]) dX9_judges_72 rfl (by decide) (by omega) (by omega) rfl ?_
        refine g_goto 30 dX9_judges_75 (by decide) ?_
        refine ih (i + 1) (by omega) (by omega) g2 f1 (hr2 g2 e12) (fun j t j0 j1 t0 t1 => ?_) _
        rw [eo, hO j t j0 j1 t0 t1, hsu]
        constructor
        · intro w; exact Or.inl w
        · intro w; rcases w with w | w
          · exact w
          · exact absurd h64 w.1
      · skip
        refine g_aload_n dX9_judges_67 rfl ?_
        refine g_iload_n dX9_judges_68 rfl ?_
        refine g_callV_v [_] dX9_judges_69 mlX9_217 mvX9_wants (by decide) hM.o (by decide) rfl rfl (Nat.le_of_ble_eq_true rfl) rfl (Nat.le_of_ble_eq_true rfl) (m_wants hM rw2 Hg2.2.2.1 Hg2.2.2.2.1 Hg2.2.2.2.2.1.1) (fun _ _ _ _ q => q.1) (fun g3 l3 s3 q w1 w2 => ?_)
        obtain ⟨-, q2, q3, f3, q5⟩ := q
        subst q2 q3
        refine n_iinc (lN := [_, some (vI (i + 1)), _]) dX9_judges_72 rfl (by decide) (by omega) (by omega) rfl ?_
        refine g_goto 30 dX9_judges_75 (by decide) ?_
        refine ih (i + 1) (by omega) (by omega) g3 (f1.tr f3.fj) (hr2 g3 (by rw [f3 212 (by decide)]; exact e12)) (fun j t j0 j1 t0 t1 => ?_) _
        rw [q5 j t j0 (by omega) t0 t1, eo, hO j t j0 j1 t0 t1, hsu]
        constructor
        · intro w; rcases w with w | w
          · exact Or.inl w
          · exact Or.inr ⟨h64, w⟩
        · intro w; rcases w with w | w
          · exact Or.inl w
          · exact Or.inr w.2
set_option maxRecDepth 20000 in
set_option maxHeartbeats 1000000 in
theorem l_j1 (hM : isMd sh) (H : JH gi er pl kn nu ec) : ∀ (n : Nat) (k : Int), k + n = 96 * pl 4 → 0 ≤ k → ∀ g : gF, FJ gi g → (∀ q : Int, 0 ≤ q → q < k → g 213 q = 0) → ∀ l2 : Option gV, Go mdX9_judges 0 0 2 [some (vR 190), some (vI k), l2] [] g gl sh (JQ2 gi gl sh er pl kn nu ec) := by
  have hE := H.1
  have hec := hE.2.1
  have q41 := H.2.2.2.1.1.1
  have q4 := H.2.2.2.2.1.2.2
  intro n
  induction n with
  | zero =>
    intro k h1 h2 g hf hO l2
    have e1 : g 191 1 = pl 4 := by rw [hf 191 (by decide) (by decide) (by decide)]; exact H.2.2.1.p.2.1
    refine g_iload_n dX9_judges_2 rfl ?_
    refine g_bipush dX9_judges_3 (by decide) (by decide) ?_
    refine g_aload_n dX9_judges_5 rfl ?_
    refine g_getR 0 dX9_judges_6 flX9_7 rfl hM.o hM.r0 ?_
    refine g_iconst dX9_judges_9 (by decide) ?_
    refine g_iaload dX9_judges_10 hM.k191 (by omega) (hM.b191 (by omega)) ?_
    refine g_imul dX9_judges_11 (by omega) (by omega) ?_
    refine g_icmp_ge 28 dX9_judges_12 (by decide) (fun h12 => ?_) (fun h12 => ?_)
    · skip
      refine g_iconst dX9_judges_28 (by decide) ?_
      refine n_istore_n (lN := [_, _, _]) dX9_judges_29 (by decide) rfl ?_
      refine l_j2 hM H ec.toNat 0 (by omega) (Int.le_refl _) g hf (fun k k0 k1 => by omega) (fun j t j0 j1 t0 t1 => ?_) _
      constructor
      · intro w; exact absurd (hO (96 * j + t) (by omega) (by omega)) w
      · intro ⟨b, hb, _⟩
        have hb2 : b < ((0 : Int).toNat : Int) := hb.2
        simp at hb2
        omega
    · exfalso; omega
  | succ n ih =>
    intro k h1 h2 g hf hO l2
    have e1 : g 191 1 = pl 4 := by rw [hf 191 (by decide) (by decide) (by decide)]; exact H.2.2.1.p.2.1
    refine g_iload_n dX9_judges_2 rfl ?_
    refine g_bipush dX9_judges_3 (by decide) (by decide) ?_
    refine g_aload_n dX9_judges_5 rfl ?_
    refine g_getR 0 dX9_judges_6 flX9_7 rfl hM.o hM.r0 ?_
    refine g_iconst dX9_judges_9 (by decide) ?_
    refine g_iaload dX9_judges_10 hM.k191 (by omega) (hM.b191 (by omega)) ?_
    refine g_imul dX9_judges_11 (by omega) (by omega) ?_
    refine g_icmp_ge 28 dX9_judges_12 (by decide) (fun h12 => ?_) (fun h12 => ?_)
    · exfalso; omega
    · skip
      refine g_aload_n dX9_judges_15 rfl ?_
      refine g_getR 30 dX9_judges_16 flX9_77 rfl hM.o hM.r30 ?_
      refine g_iload_n dX9_judges_19 rfl ?_
      refine g_iconst dX9_judges_20 (by decide) ?_
      refine g_bastore dX9_judges_21 hM.k213 (by omega) (hM.b213 (by omega)) (by decide) ?_
      refine n_iinc (lN := [_, some (vI (k + 1)), _]) dX9_judges_22 rfl (by decide) (by omega) (by omega) rfl ?_
      refine g_goto 2 dX9_judges_25 (by decide) ?_
      refine ih (k + 1) (by omega) (by omega) _ (hf.up (by omega)) (fun q q0 q1 => ?_) _
      rw [g_up_r]
      by_cases c : q = k
      · rw [c, r_up_at]
      · rw [r_up_ne c]; exact hO q q0 (by omega)
set_option maxRecDepth 20000 in
set_option maxHeartbeats 1000000 in
theorem m_judges (hM : isMd sh) (H : JH gi er pl kn nu ec) : Ct mdX9_judges 0 0 [vR 190] gi gl sh (JQ2 gi gl sh er pl kn nu ec) := by
  show Go mdX9_judges 0 0 0 [some (vR 190), none, none] [] gi gl sh _
  have q41 := H.2.2.2.1.1.1
  refine g_iconst dX9_judges_0 (by decide) ?_
  refine n_istore_n (lN := [_, _, _]) dX9_judges_1 (by decide) rfl ?_
  exact l_j1 hM H (96 * pl 4).toNat 0 (by omega) (Int.le_refl _) gi FJ.rf (fun q q0 q1 => by omega) none

theorem FS.jh {W D T : Int} {ln : gRw} {S : fS} (h : FS (clo W ln) D T S er ec) (hT : 0 ≤ T ∧ T ≤ 60) : (∀ i : Int, 0 ≤ i → i < ec → (bl_ok (er i) ∧ (0 ≤ er i 0 ∧ er i 0 < 60) ∧ (0 ≤ er i 1 ∧ er i 1 < 60) ∧ (0 ≤ er i 3 ∧ er i 3 < 16) ∧ (0 ≤ er i 4 ∧ er i 4 < 16) ∧ 1 ≤ er i 5 ∧ er i 0 ≤ er i 1 ∧ er i 3 ≤ er i 4) ∧ er i 4 < W) ∧ erS er ec.toNat := by
  have hes := h.2.2.1
  have key : ∀ i : Int, 0 ≤ i → i < ec → (bl_ok (er i) ∧ (0 ≤ er i 0 ∧ er i 0 < 60) ∧ (0 ≤ er i 1 ∧ er i 1 < 60) ∧ (0 ≤ er i 3 ∧ er i 3 < 16) ∧ (0 ≤ er i 4 ∧ er i 4 < 16) ∧ 1 ≤ er i 5 ∧ er i 0 ≤ er i 1 ∧ er i 3 ≤ er i 4) ∧ er i 4 < W := fun i i0 i1 => by
    obtain ⟨hs, hr, hl⟩ := hes.1 i i0 i1
    have hm : mm (clo W ln) (j_all (clo W ln) T.toNat) (rlab (er i)) (rlab (er i)) = true := mm_t.mpr ⟨hr.2.1, hr.2.2⟩
    have hok := hs.ok (clo_b W ln) (by omega) (by have := hr.1.2; omega) ⟨rlab (er i), by have := hr.1; omega, hm⟩
    obtain ⟨o1, o2, o3, o4, o5, o6, o7, o8⟩ := hok
    have hge := k_max_ge (m := mm (clo W ln) (j_all (clo W ln) T.toNat) (rlab (er i))) (f := fun q => q / 16) (16 * T).toNat (rlab (er i)) hr.1.1 (by have := hr.1.2; omega) hm
    have hge' : rlab (er i) / 16 ≤ er i 1 := by rw [hs.2.1]; exact hge
    have h0 := hs.1
    refine ⟨⟨o1, o2, o3, o4, o5, o6, by omega, o8⟩, ?_⟩
    rcases k_max_ex (m := mm (clo W ln) (j_all (clo W ln) T.toNat) (rlab (er i))) (f := fun q => q % 16) (fun q q0 => by omega) (16 * T).toNat with ⟨h9, -⟩ | ⟨q, hq, hmq, h9⟩
    · have := hs.2.2.2.1; omega
    · have hc := (mm_t.mp hmq).1
      have h9' : q % 16 = er i 4 := by rw [hs.2.2.2.1]; exact h9
      have : q % 16 < W := Classical.byContradiction (fun w => by
        have hz : clo W ln q = 0 := by unfold clo; rw [if_neg (fun v => w v.2)]
        omega)
      omega
  refine ⟨key, fun b b0 b1 => (key b b0 (by omega)).1.2.2.2.2.2.2.1, fun a b a0 ab b1 => ?_⟩
  by_cases c : a = b
  · rw [c]; exact Int.le_refl _
  · rcases hes.2.1 a b a0 (by omega) (by omega) with w | w <;> omega
/-- what asking leaves as it is -/
def FA (g g' : gF) : Prop := (∀ b : Int, b < 190 ∨ (190 < b ∧ b < 199) → g' b = g b) ∧ ∀ k : Int, k < 15 → g' 190 k = g 190 k
theorem FA.rf {g : gF} : FA g g := ⟨fun _ _ => rfl, fun _ _ => rfl⟩
theorem FA.tr {g g' g2 : gF} (h : FA g g') (h' : FA g' g2) : FA g g2 := ⟨fun b hb => (h'.1 b hb).trans (h.1 b hb), fun k hk => (h'.2 k hk).trans (h.2 k hk)⟩
theorem FL.fa {g g' : gF} (h : FL g g') : FA g g' := ⟨fun b hb => h.1 b (by omega), fun k hk => h.2 k (by omega)⟩
theorem FJ.fa {g g' : gF} (h : FJ g g') : FA g g' := ⟨fun b hb => h b (by omega) (by omega) (by omega), fun k hk => by rw [h 190 (by decide) (by decide) (by decide)]⟩
/-- the same with limits told anew -/
def FK (g g' : gF) : Prop := (∀ b : Int, b < 190 ∨ (190 < b ∧ b < 199) → g' b = g b) ∧ ∀ k : Int, k < 15 ∨ 17 < k → g' 190 k = g 190 k
theorem FL.fk {g g' : gF} (h : FL g g') : FK g g' := ⟨fun b hb => h.1 b (by omega), h.2⟩
theorem FK.fa {g g' : gF} (h : FK g g') : FA g g' := ⟨h.1, fun k hk => h.2 k (by omega)⟩
def AQ (gi gl : gF) (sh : gSh) (er : Int → gRw) (pl kn nu : gRw) (ec : Int) : gQ := fun x g' gl' sh' => x = none ∧ gl' = gl ∧ sh' = sh ∧ FA gi g' ∧ JH g' er pl kn nu ec ∧ JD g' er pl kn nu ec
/-- what the model's lines and numbers are -/
def MN (gi gl : gF) (pl kn : gRw) (T : Int) (ln nm : gRw) : Prop := MP gi pl kn ∧ pl_ok pl kn nm ∧ gl 193 0 = T ∧ (0 ≤ T ∧ T ≤ 60) ∧ (∀ t : Int, 0 ≤ t → t < T → gl 193 (1 + t) = ln t ∧ 0 ≤ ln t) ∧ ∀ k : Int, 0 ≤ k → k < pl 2 → gl 193 (61 + k) = nm k
theorem m_laysB {T : Int} {ln nm : gRw} {S : fS} (hM : isMd sh) (hN : MN gi gl pl kn T ln nm) (hFS : FS (clo (pl 3) ln) (pl 8) T S er ec) : Ct mdX9_laysBlobs 0 0 [vR 190] gi gl sh (LQ gi gl sh S er ec) :=
  m_laysBlobs hM hN.1.p.1 (by have := hN.2.1.1; omega) hN.2.2.1 hN.2.2.2.1 hN.2.2.2.2.1 hN.1.p.2.2.2.2.2.1 hFS
theorem JH.mk {T : Int} {ln nm : gRw} {S : fS} {g : gF} (hN : MN gi gl pl kn T ln nm) (hFS : FS (clo (pl 3) ln) (pl 8) T S er ec) (hf : FK gi g) (hE : ME g er ec) (hlim : ∀ k : Int, 0 ≤ k → k < pl 2 → g 211 k = nm k) : JH g er pl kn nm ec := by
  obtain ⟨j1, j2⟩ := hFS.jh hN.2.2.2.1
  obtain ⟨hP, hok, -, hT, -⟩ := hN
  have hmo := hok.2.1.2
  have hp := hok.p
  have hcp := hp.1.2.2
  refine ⟨hE, fun i i0 i1 => ⟨(hE.2.2.1 i i0 i1).1, (hE.2.2.1 i i0 i1).2, (j1 i i0 i1).1⟩, hP.fr (by rw [hf.2 1 (by omega)]) (hf.1 191 (by omega)) (hf.1 192 (by omega)), hp, ⟨⟨by have := hok.2.2.1; omega, by have := hok.2.2.2.2.1; omega⟩, by have := hok.2.2.2.2.2.2.1; omega, hok.v4⟩, hlim, fun i i0 i1 => ?_, j2, fun b b0 b1 => hFS.bok (clo_b _ _) hT pl b b0 b1⟩
  have k4 := (j1 i i0 i1).1.2.2.2.2.1
  have kW := (j1 i i0 i1).2
  rw [v_hi_e hcp k4]
  refine Int.ediv_lt_of_lt_mul hcp ?_
  have hd : v_cpv pl * pl 4 = pl 3 := by
    have := Int.mul_ediv_add_emod (pl 3) (pl 4)
    unfold v_cpv
    rw [Int.mul_comm]
    omega
  rw [Int.mul_comm, hd]
  exact kW

set_option maxRecDepth 20000 in
set_option maxHeartbeats 1000000 in
theorem l_jn {T : Int} {ln nm : gRw} {S : fS} (hM : isMd sh) (hN : MN gi gl pl kn T ln nm) (hFS : FS (clo (pl 3) ln) (pl 8) T S er ec) : ∀ (n : Nat) (k : Int), k + n = pl 2 → 0 ≤ k → ∀ g : gF, FK gi g → ME g er ec → (∀ i : Int, 0 ≤ i → i < k → g 211 i = nm i) → Go mdX9_judgesNow 0 0 6 [some (vR 190), some (vI k)] [] g gl sh (AQ gi gl sh er pl kn nm ec) := by
  have h4 := hN.2.1.2.2.2.2.2.2.2.1
  intro n
  induction n with
  | zero =>
    intro k h1 h2 g hf hE hl
    have hk : k = pl 2 := by omega
    have e1 : g 190 1 = pl 2 := by rw [hf.2 1 (by omega)]; exact hN.1.1
    have H : JH g er pl kn nm ec := JH.mk hN hFS hf hE (by rw [← hk]; exact hl)
    refine g_iload_n dX9_judgesNow_6 rfl ?_
    refine g_aload_n dX9_judgesNow_7 rfl ?_
    refine g_getI 1 dX9_judgesNow_8 flX9_88 rfl hM.o ?_
    refine g_icmp_ge 36 dX9_judgesNow_11 (by decide) (fun h11 => ?_) (fun h11 => ?_)
    · skip
      refine g_aload_n dX9_judgesNow_36 rfl ?_
      refine g_callV_v [] dX9_judgesNow_37 mlX9_227 mvX9_judges (by decide) hM.o (by decide) rfl rfl (Nat.le_of_ble_eq_true rfl) rfl (Nat.le_of_ble_eq_true rfl) (m_judges hM H) (fun _ _ _ _ q => q.1) (fun g1 l1 s1 q w1 w2 => ?_)
      obtain ⟨-, q2, q3, q4, q5⟩ := q
      subst q2 q3
      refine g_return dX9_judgesNow_40 rfl ?_
      exact ⟨rfl, rfl, rfl, hf.fa.tr q4.fa, H.fr q4, q5⟩
    · exfalso; omega
  | succ n ih =>
    intro k h1 h2 g hf hE hl
    have e1 : g 190 1 = pl 2 := by rw [hf.2 1 (by omega)]; exact hN.1.1
    have en := hN.2.2.2.2.2 k h2 (by omega)
    have en2 := (hN.2.1.2.2.2.2.2.2.2.2 k h2 (by omega)).2
    refine g_iload_n dX9_judgesNow_6 rfl ?_
    refine g_aload_n dX9_judgesNow_7 rfl ?_
    refine g_getI 1 dX9_judgesNow_8 flX9_88 rfl hM.o ?_
    refine g_icmp_ge 36 dX9_judgesNow_11 (by decide) (fun h11 => ?_) (fun h11 => ?_)
    · exfalso; omega
    · skip
      refine g_aload_n dX9_judgesNow_14 rfl ?_
      refine g_getR 28 dX9_judgesNow_15 flX9_71 rfl hM.o hM.r28 ?_
      refine g_iload_n dX9_judgesNow_18 rfl ?_
      refine g_aload_n dX9_judgesNow_19 rfl ?_
      refine g_getR 3 dX9_judgesNow_20 flX9_16 rfl hM.o hM.r3 ?_
      refine g_bipush dX9_judgesNow_23 (by decide) (by decide) ?_
      refine g_iload_n dX9_judgesNow_25 rfl ?_
      refine g_iadd dX9_judgesNow_26 (by omega) (by omega) ?_
      refine g_laload dX9_judgesNow_27 hM.k193 (by omega) (hM.b193 (by omega)) ?_
      rw [en]
      refine g_l2i dX9_judgesNow_28 (by omega) (by omega) ?_
      refine g_iastore dX9_judgesNow_29 hM.k211 (by omega) (hM.b211 (by omega)) ?_
      refine n_iinc (lN := [_, some (vI (k + 1))]) dX9_judgesNow_30 rfl (by decide) (by omega) (by omega) rfl ?_
      refine g_goto 6 dX9_judgesNow_33 (by decide) ?_
      refine ih (k + 1) (by omega) (by omega) _ ⟨fun b hb => ?_, fun i hi => ?_⟩ (hE.fr (fun b b0 b1 => g_up_row (by omega)) (by rw [g_up_row (by decide)])) (fun i i0 i1 => ?_)
      · rw [g_up_row (by omega)]; exact hf.1 b hb
      · rw [g_up_row (by decide)]; exact hf.2 i hi
      · rw [g_up_r]
        by_cases c : i = k
        · rw [c, r_up_at]
        · rw [r_up_ne c]; exact hl i i0 (by omega)
set_option maxRecDepth 20000 in
set_option maxHeartbeats 1000000 in
theorem m_judgesNow {T : Int} {ln nm : gRw} {S : fS} (hM : isMd sh) (hN : MN gi gl pl kn T ln nm) (hFS : FS (clo (pl 3) ln) (pl 8) T S er ec) : Ct mdX9_judgesNow 0 0 [vR 190] gi gl sh (AQ gi gl sh er pl kn nm ec) := by
  show Go mdX9_judgesNow 0 0 0 [some (vR 190), none] [] gi gl sh _
  have h4 := hN.2.1.2.2.2.2.2.2.2.1
  refine g_aload_n dX9_judgesNow_0 rfl ?_
  refine g_callV_v [] dX9_judgesNow_1 mlX9_151 mvX9_laysBlobs (by decide) hM.o (by decide) rfl rfl (Nat.le_of_ble_eq_true rfl) rfl (Nat.le_of_ble_eq_true rfl) (m_laysB hM hN hFS) (fun _ _ _ _ q => q.1) (fun g1 l1 s1 q w1 w2 => ?_)
  obtain ⟨-, q2, q3, q4, q5, -⟩ := q
  subst q2 q3
  refine g_iconst dX9_judgesNow_4 (by decide) ?_
  refine n_istore_n (lN := [_, _]) dX9_judgesNow_5 (by decide) rfl ?_
  exact l_jn hM hN hFS (pl 2).toNat 0 (by omega) (Int.le_refl _) g1 q4.fk q5 (fun i i0 i1 => by omega)

end MD12
