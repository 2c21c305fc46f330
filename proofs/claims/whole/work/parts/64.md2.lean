/-! the model's text -/
def m_num (tx : gRw) (n p : Int) : Option (Int × Int) := if 48 ≤ t_at tx n p ∧ t_at tx n p ≤ 57 then (if 48 ≤ t_at tx n (p + 1) ∧ t_at tx n (p + 1) ≤ 57 then some (10 * (t_at tx n p - 48) + t_at tx n (p + 1) - 48, p + 2) else some (t_at tx n p - 48, p + 1)) else none
def m_rn (tx : gRw) (n p lo hi : Int) : Option (Int × Int) := (m_num tx n p).bind fun a => if lo ≤ a.1 ∧ a.1 ≤ hi then some a else none
theorem m_num_b {tx : gRw} {n p : Int} {a : Int × Int} (h : m_num tx n p = some a) : 0 ≤ a.1 ∧ a.1 ≤ 99 ∧ p < a.2 ∧ a.2 ≤ p + 2 := by
  unfold m_num at h
  split at h
  · split at h
    · cases h; dsimp only; omega
    · cases h; dsimp only; omega
  · cases h
theorem m_rn_num {tx : gRw} {n p lo hi : Int} {a : Int × Int} : m_rn tx n p lo hi = some a ↔ m_num tx n p = some a ∧ lo ≤ a.1 ∧ a.1 ≤ hi := by
  unfold m_rn
  cases hm : m_num tx n p with
  | none => simp
  | some b =>
    simp only [Option.bind_some, Option.some.injEq]
    constructor
    · intro h
      split at h
      · cases h; exact ⟨rfl, by assumption⟩
      · cases h
    · intro h
      obtain ⟨rfl, h⟩ := h
      rw [if_pos h]
theorem m_rn_none {tx : gRw} {n p lo hi : Int} (h : m_rn tx n p lo hi = none) {a : Int × Int} (g : m_num tx n p = some a) : ¬ (lo ≤ a.1 ∧ a.1 ≤ hi) := fun w => by
  rw [m_rn_num.mpr ⟨g, w⟩] at h; cases h
theorem t_num_m (tx : gRw) (n p ch : Int) : t_num tx n p ch = (m_num tx n p).bind fun a => if t_at tx n a.2 = ch then some (a.1, a.2 + 1) else none := by
  unfold t_num m_num
  split
  · split
    · rename_i h1 h2
      simp only [Option.bind_some]
      rw [show p + 2 + 1 = p + 3 by omega, show (t_at tx n p - 48) * 10 + (t_at tx n (p + 1) - 48) = 10 * (t_at tx n p - 48) + t_at tx n (p + 1) - 48 by omega]
    · simp only [Option.bind_some]
      rw [show p + 1 + 1 = p + 2 by omega]
  · rfl
def m_gate (tx : gRw) (n p : Int) : Option (Int × Int × Int × Int × Int × Int) :=
  (m_rn tx n p 4 16).bind fun w => if t_at tx n w.2 = 44 then (m_rn tx n (w.2 + 1) 1 w.1).bind fun v => if w.1 % v.1 = 0 then if t_at tx n v.2 = 44 then (m_rn tx n (v.2 + 1) 0 20).bind fun f => if t_at tx n f.2 = 44 then (m_rn tx n (f.2 + 1) 0 5).bind fun a => if t_at tx n a.2 = 44 then (m_rn tx n (a.2 + 1) 0 5).bind fun b => some (w.1, v.1, f.1, a.1, b.1, b.2) else none else none else none else none else none
theorem t_at_lt {tx : gRw} {n p : Int} (h : t_at tx n p ≠ 0) : (0 ≤ p ∧ p < n) ∧ t_at tx n p = tx p := by
  unfold t_at at h ⊢
  split
  · exact ⟨by assumption, rfl⟩
  · rename_i w; rw [if_neg w] at h; exact absurd rfl h
section MD2
variable {gi gl : gF} {sh : gSh} {tx : gRw} {n p : Int}
theorem m_a5 {g : gF} {q : Int} : g_up g 190 12 q 195 = g 195 := g_up_row (by decide)
theorem m_a7 {g : gF} {q : Int} : g_up g 190 12 q 190 7 = g 190 7 := g_up_ne (by decide)
theorem m_a9 {g : gF} {q : Int} : g_up g 190 12 q 190 9 = g 190 9 := g_up_ne (by decide)

set_option maxRecDepth 20000 in
set_option maxHeartbeats 1000000 in
theorem m_number (hM : isMd sh) (lo hi : Int) (hx : gi 195 = tx) (hp : gi 190 12 = p) (hn : gi 190 7 = n) (hp0 : 0 ≤ p ∧ p ≤ 900) (hn0 : n ≤ 200) : Ct mdX9_number 0 0 [vR 190, vI lo, vI hi] gi gl sh (fun r gi' gl' sh' => ∃ x q : Int, r = some (vI x) ∧ gi' = g_up gi 190 12 q ∧ gl' = gl ∧ sh' = sh ∧ (p ≤ q ∧ q ≤ p + 2) ∧ (m_rn tx n p lo hi = some (x, q) ∨ m_rn tx n p lo hi = none ∧ x = -1)) := by
  show Go mdX9_number 0 0 0 [some (vR 190), some (vI lo), some (vI hi), none] [] gi gl sh _
  obtain ⟨z1, hz1⟩ := Zq.ex (48 ≤ t_at tx n p ∧ t_at tx n p ≤ 57)
  obtain ⟨z2, hz2⟩ := Zq.ex (48 ≤ t_at tx n (p + 1) ∧ t_at tx n (p + 1) ≤ 57)
  refine g_aload_n dX9_number_0 rfl ?_
  refine g_cVi [] dX9_number_1 mlX9_110 mvX9_isFigure (by decide) hM.o (by decide) rfl rfl (Nat.le_of_ble_eq_true rfl) rfl (Nat.le_of_ble_eq_true rfl) (m_isFigure hM p n z1 hp hn (by omega) hn0 (by rw [hx]; exact hz1)) ?_
  refine g_if_ne 9 dX9_number_4 (by decide) (fun h4 => ?_) (fun h4 => ?_)
  · skip
    have f1 := hz1.yes h4
    have l1 := t_at_lt (tx := tx) (n := n) (p := p) (by omega)
    have v1 : gi 195 (gi 190 12) = t_at tx n p := by rw [hx, hp, l1.2]
    refine g_aload_n dX9_number_9 rfl ?_
    refine g_getR 6 dX9_number_10 flX9_23 rfl hM.o hM.r6 ?_
    refine g_aload_n dX9_number_13 rfl ?_
    refine g_getI 12 dX9_number_14 flX9_96 rfl hM.o ?_
    refine g_iaload dX9_number_17 hM.k195 (by omega) (hM.b195 (by omega)) ?_
    refine g_bipush dX9_number_18 (by decide) (by decide) ?_
    refine g_isub dX9_number_20 (by omega) (by omega) ?_
    refine n_istore_n (lN := [_, _, _, _]) dX9_number_21 (by decide) rfl ?_
    refine g_aload_n dX9_number_22 rfl ?_
    refine g_dup dX9_number_23 (fun _ h9 => by cases h9) ?_
    refine g_getI 12 dX9_number_24 flX9_96 rfl hM.o ?_
    refine g_iconst dX9_number_27 (by decide) ?_
    refine g_iadd dX9_number_28 (by omega) (by omega) ?_
    refine g_putI 12 dX9_number_29 flX9_96 rfl hM.o ?_
    generalize hG : g_up gi 190 12 (gi 190 12 + 1) = G
    have eG12 : G 190 12 = p + 1 := by rw [← hG, g_up_at, hp]
    have eG7 : G 190 7 = n := by rw [← hG, m_a7, hn]
    have eG5 : G 195 = tx := by rw [← hG, m_a5, hx]
    refine g_aload_n dX9_number_32 rfl ?_
    refine g_cVi [] dX9_number_33 mlX9_110 mvX9_isFigure (by decide) hM.o (by decide) rfl rfl (Nat.le_of_ble_eq_true rfl) rfl (Nat.le_of_ble_eq_true rfl) (m_isFigure hM (p + 1) n z2 eG12 eG7 (by omega) hn0 (by rw [eG5]; exact hz2)) ?_
    refine g_if_eq 67 dX9_number_36 (by decide) (fun h36 => ?_) (fun h36 => ?_)
    · skip
      have f2 := hz2.no h36
      have mn : m_num tx n p = some (t_at tx n p - 48, p + 1) := by unfold m_num; rw [if_pos f1, if_neg f2]
      refine g_iload_n dX9_number_67 rfl ?_
      refine g_i2l dX9_number_68 ?_
      refine g_iload_n dX9_number_69 rfl ?_
      refine g_i2l dX9_number_70 ?_
      refine g_iload_n dX9_number_71 rfl ?_
      refine g_i2l dX9_number_72 ?_
      refine g_cSi [_, _, _] dX9_number_73 mlX9_106 msX9_within (by decide) rfl rfl (Nat.le_of_ble_eq_true rfl) rfl (Nat.le_of_ble_eq_true rfl) (m_within _ _ _ _ (zb_q _)) ?_
      refine g_if_eq 83 dX9_number_76 (by decide) (fun h76 => ?_) (fun h76 => ?_)
      · skip
        refine g_iconst dX9_number_83 (by decide) ?_
        refine g_ireturn dX9_number_84 rfl ?_
        refine ⟨-1, p + 1, rfl, ?_, rfl, rfl, by omega, Or.inr ⟨?_, rfl⟩⟩
        · first | (rw [← hG, hp]; done) | (rw [eG12, ← hG, g_up_up, show p + 1 + 1 = p + 2 by omega]; done)
        · cases hr : m_rn tx n p lo hi with
          | none => rfl
          | some a =>
            obtain ⟨r1, r2⟩ := m_rn_num.mp hr
            rw [mn] at r1
            cases r1
            exact absurd (show lo ≤ _ ∧ _ ≤ hi from ⟨by have := r2.1; dsimp only at this; omega, by have := r2.2; dsimp only at this; omega⟩) ((zb_q _).no h76)
      · skip
        refine g_iload_n dX9_number_79 rfl ?_
        refine g_goto 84 dX9_number_80 (by decide) ?_
        refine g_ireturn dX9_number_84 rfl ?_
        refine ⟨_, p + 1, rfl, ?_, rfl, rfl, by omega, Or.inl ?_⟩
        · first | (rw [← hG, hp]; done) | (rw [eG12, ← hG, g_up_up, show p + 1 + 1 = p + 2 by omega]; done)
        · refine m_rn_num.mpr ⟨?_, (zb_q _).yes h76⟩
          rw [mn]; congr 2; omega
    · skip
      have f2 := hz2.yes h36
      have l2 := t_at_lt (tx := tx) (n := n) (p := p + 1) (by omega)
      have v2 : G 195 (G 190 12) = t_at tx n (p + 1) := by rw [eG5, eG12, l2.2]
      have mn : m_num tx n p = some (10 * (t_at tx n p - 48) + t_at tx n (p + 1) - 48, p + 2) := by unfold m_num; rw [if_pos f1, if_pos f2]
      refine g_bipush dX9_number_39 (by decide) (by decide) ?_
      refine g_iload_n dX9_number_41 rfl ?_
      refine g_imul dX9_number_42 (by omega) (by omega) ?_
      refine g_aload_n dX9_number_43 rfl ?_
      refine g_getR 6 dX9_number_44 flX9_23 rfl hM.o hM.r6 ?_
      refine g_aload_n dX9_number_47 rfl ?_
      refine g_getI 12 dX9_number_48 flX9_96 rfl hM.o ?_
      refine g_iaload dX9_number_51 hM.k195 (by omega) (hM.b195 (by omega)) ?_
      refine g_iadd dX9_number_52 (by omega) (by omega) ?_
      refine g_bipush dX9_number_53 (by decide) (by decide) ?_
      refine g_isub dX9_number_55 (by omega) (by omega) ?_
      refine n_istore_n (lN := [_, _, _, _]) dX9_number_56 (by decide) rfl ?_
      refine g_aload_n dX9_number_57 rfl ?_
      refine g_dup dX9_number_58 (fun _ h9 => by cases h9) ?_
      refine g_getI 12 dX9_number_59 flX9_96 rfl hM.o ?_
      refine g_iconst dX9_number_62 (by decide) ?_
      refine g_iadd dX9_number_63 (by omega) (by omega) ?_
      refine g_putI 12 dX9_number_64 flX9_96 rfl hM.o ?_
      refine g_iload_n dX9_number_67 rfl ?_
      refine g_i2l dX9_number_68 ?_
      refine g_iload_n dX9_number_69 rfl ?_
      refine g_i2l dX9_number_70 ?_
      refine g_iload_n dX9_number_71 rfl ?_
      refine g_i2l dX9_number_72 ?_
      refine g_cSi [_, _, _] dX9_number_73 mlX9_106 msX9_within (by decide) rfl rfl (Nat.le_of_ble_eq_true rfl) rfl (Nat.le_of_ble_eq_true rfl) (m_within _ _ _ _ (zb_q _)) ?_
      refine g_if_eq 83 dX9_number_76 (by decide) (fun h76 => ?_) (fun h76 => ?_)
      · skip
        refine g_iconst dX9_number_83 (by decide) ?_
        refine g_ireturn dX9_number_84 rfl ?_
        refine ⟨-1, p + 2, rfl, ?_, rfl, rfl, by omega, Or.inr ⟨?_, rfl⟩⟩
        · first | (rw [← hG, hp]; done) | (rw [eG12, ← hG, g_up_up, show p + 1 + 1 = p + 2 by omega]; done)
        · cases hr : m_rn tx n p lo hi with
          | none => rfl
          | some a =>
            obtain ⟨r1, r2⟩ := m_rn_num.mp hr
            rw [mn] at r1
            cases r1
            exact absurd (show lo ≤ _ ∧ _ ≤ hi from ⟨by have := r2.1; dsimp only at this; omega, by have := r2.2; dsimp only at this; omega⟩) ((zb_q _).no h76)
      · skip
        refine g_iload_n dX9_number_79 rfl ?_
        refine g_goto 84 dX9_number_80 (by decide) ?_
        refine g_ireturn dX9_number_84 rfl ?_
        refine ⟨_, p + 2, rfl, ?_, rfl, rfl, by omega, Or.inl ?_⟩
        · first | (rw [← hG, hp]; done) | (rw [eG12, ← hG, g_up_up, show p + 1 + 1 = p + 2 by omega]; done)
        · refine m_rn_num.mpr ⟨?_, (zb_q _).yes h76⟩
          rw [mn]; congr 2; omega
  · skip
    refine g_iconst dX9_number_7 (by decide) ?_
    refine g_ireturn dX9_number_8 rfl ?_
    exact ⟨-1, p, rfl, by rw [← hp, g_up_self'], rfl, rfl, by omega, Or.inr ⟨by unfold m_rn m_num; rw [if_neg (hz1.no (by omega))]; rfl, rfl⟩⟩

theorem m_numberA (hM : isMd sh) (lo hi : Int) (hx : gi 195 = tx) (hn : gi 190 7 = n) (hp0 : 0 ≤ p ∧ p ≤ 900) (hn0 : n ≤ 200) : Ct mdX9_number 0 0 [vR 190, vI lo, vI hi] (g_up gi 190 12 p) gl sh (fun r gi' gl' sh' => ∃ x q : Int, r = some (vI x) ∧ gi' = g_up gi 190 12 q ∧ gl' = gl ∧ sh' = sh ∧ (p ≤ q ∧ q ≤ p + 2) ∧ (m_rn tx n p lo hi = some (x, q) ∨ m_rn tx n p lo hi = none ∧ x = -1)) := by
  refine Go.imp (m_number (gi := g_up gi 190 12 p) (tx := tx) (n := n) (p := p) hM lo hi (by rw [m_a5]; exact hx) g_up_at (by rw [m_a7]; exact hn) hp0 hn0) (fun r gi' gl' sh' q => ?_)
  obtain ⟨x, q, e1, e2, e3⟩ := q
  exact ⟨x, q, e1, by rw [e2, g_up_up], e3⟩
theorem m_passesA (hM : isMd sh) (ch : Int) (hx : gi 195 = tx) (hn : gi 190 7 = n) (hp0 : 0 ≤ p ∧ p ≤ 1000) (hn0 : n ≤ 200) (hc : ch ≠ 0) : Ct mdX9_passes 0 0 [vR 190, vI ch] (g_up gi 190 12 p) gl sh (Rt (some (vI (zb (t_at tx n p = ch)))) (g_up gi 190 12 (p + zb (t_at tx n p = ch))) gl sh) := by
  refine Go.imp (m_passes (gi := g_up gi 190 12 p) hM p n ch (zb (t_at tx n p = ch)) g_up_at (by rw [m_a7]; exact hn) hp0 hn0 hc (by rw [m_a5, hx]; exact zb_q _)) (fun r gi' gl' sh' q => ?_)
  rw [g_up_up] at q
  exact q
/-- what a text's reading leaves as it is -/
def TF (g g' : gF) : Prop := (∀ b : Int, b ≠ 190 → b ≠ 196 → b ≠ 197 → b ≠ 198 → g' b = g b) ∧ ∀ k : Int, k ≠ 9 → k ≠ 12 → g' 190 k = g 190 k
theorem TF.rf {g : gF} : TF g g := ⟨fun _ _ _ _ _ => rfl, fun _ _ _ => rfl⟩
theorem TF.tr {g g' g'' : gF} (h : TF g g') (h' : TF g' g'') : TF g g'' := ⟨fun b h1 h2 h3 h4 => (h'.1 b h1 h2 h3 h4).trans (h.1 b h1 h2 h3 h4), fun k h1 h2 => (h'.2 k h1 h2).trans (h.2 k h1 h2)⟩
theorem TF.up {g g' : gF} {a i v : Int} (h : TF g g') (ha : (a = 190 ∧ (i = 9 ∨ i = 12)) ∨ a = 196 ∨ a = 197 ∨ a = 198) : TF g (g_up g' a i v) := by
  refine ⟨fun b h1 h2 h3 h4 => ?_, fun k h1 h2 => ?_⟩
  · rw [g_up_row (by omega)]; exact h.1 b h1 h2 h3 h4
  · unfold g_up; rw [if_neg (by omega)]; exact h.2 k h1 h2
def m_gtQ (tx : gRw) (n p : Int) (gi gl : gF) (sh : gSh) : gQ := fun r gi' gl' sh' => ∃ z : Int, r = some (vI z) ∧ gl' = gl ∧ sh' = sh ∧ TF gi gi' ∧ (z = 0 ∧ m_gate tx n p = none ∨ z = 1 ∧ ∃ w v f a b q : Int, m_gate tx n p = some (w, v, f, a, b, q) ∧ (p ≤ q ∧ q ≤ p + 20) ∧ gi' = g_up (g_up (g_up (g_up (g_up (g_up gi 190 12 q) 196 0 w) 196 1 v) 196 2 f) 196 3 a) 196 4 b)

set_option maxRecDepth 20000 in
theorem l_gt114 (hM : isMd sh) (w v f a b q : Int) (h : (0 ≤ b ∧ m_gate tx n p = some (w, v, f, a, b, q) ∧ (p ≤ q ∧ q ≤ p + 20)) ∨ b < 0 ∧ m_gate tx n p = none) : Go mdX9_isGate 0 0 114 [some (vR 190), some (vI w), some (vI v), some (vI f), some (vI a), some (vI b)] [] (g_up gi 190 12 q) gl sh (m_gtQ tx n p gi gl sh) := by
  have tf : TF gi (g_up (g_up (g_up (g_up (g_up (g_up gi 190 12 q) 196 0 w) 196 1 v) 196 2 f) 196 3 a) 196 4 b) := (((((TF.rf.up (by omega)).up (by omega)).up (by omega)).up (by omega)).up (by omega)).up (by omega)
  refine g_aload_n dX9_isGate_114 rfl ?_
  refine g_getR 8 dX9_isGate_115 flX9_26 rfl hM.o hM.r8 ?_
  refine g_iconst dX9_isGate_118 (by decide) ?_
  refine g_iload_n dX9_isGate_119 rfl ?_
  refine g_iastore dX9_isGate_120 hM.k196 (by omega) (hM.b196 (by omega)) ?_
  refine g_aload_n dX9_isGate_121 rfl ?_
  refine g_getR 8 dX9_isGate_122 flX9_26 rfl hM.o hM.r8 ?_
  refine g_iconst dX9_isGate_125 (by decide) ?_
  refine g_iload_n dX9_isGate_126 rfl ?_
  refine g_iastore dX9_isGate_127 hM.k196 (by omega) (hM.b196 (by omega)) ?_
  refine g_aload_n dX9_isGate_128 rfl ?_
  refine g_getR 8 dX9_isGate_129 flX9_26 rfl hM.o hM.r8 ?_
  refine g_iconst dX9_isGate_132 (by decide) ?_
  refine g_iload_n dX9_isGate_133 rfl ?_
  refine g_iastore dX9_isGate_134 hM.k196 (by omega) (hM.b196 (by omega)) ?_
  refine g_aload_n dX9_isGate_135 rfl ?_
  refine g_getR 8 dX9_isGate_136 flX9_26 rfl hM.o hM.r8 ?_
  refine g_iconst dX9_isGate_139 (by decide) ?_
  refine g_iload dX9_isGate_140 rfl ?_
  refine g_iastore dX9_isGate_142 hM.k196 (by omega) (hM.b196 (by omega)) ?_
  refine g_aload_n dX9_isGate_143 rfl ?_
  refine g_getR 8 dX9_isGate_144 flX9_26 rfl hM.o hM.r8 ?_
  refine g_iconst dX9_isGate_147 (by decide) ?_
  refine g_iload dX9_isGate_148 rfl ?_
  refine g_iastore dX9_isGate_150 hM.k196 (by omega) (hM.b196 (by omega)) ?_
  refine g_iload dX9_isGate_151 rfl ?_
  refine g_if_lt 160 dX9_isGate_153 (by decide) (fun h153 => ?_) (fun h153 => ?_)
  · skip
    refine g_iconst dX9_isGate_160 (by decide) ?_
    refine g_zreturn dX9_isGate_161 rfl (by decide) ?_
    refine ⟨0, rfl, rfl, rfl, tf, Or.inl ⟨rfl, ?_⟩⟩
    rcases h with h | h
    · omega
    · exact h.2
  · skip
    refine g_iconst dX9_isGate_156 (by decide) ?_
    refine g_goto 161 dX9_isGate_157 (by decide) ?_
    refine g_zreturn dX9_isGate_161 rfl (by decide) ?_
    refine ⟨1, rfl, rfl, rfl, tf, Or.inr ⟨rfl, w, v, f, a, b, q, ?_, ?_, rfl⟩⟩
    · rcases h with h | h
      · exact h.2.1
      · omega
    · rcases h with h | h
      · exact h.2.2
      · omega
set_option maxRecDepth 20000 in
theorem l_gtF88 (hM : isMd sh) (w v f q : Int) (h : m_gate tx n p = none) : Go mdX9_isGate 0 0 88 [some (vR 190), some (vI w), some (vI v), some (vI f), some (vI (-1)), none] [] (g_up gi 190 12 q) gl sh (m_gtQ tx n p gi gl sh) := by
  refine g_iload dX9_isGate_88 rfl ?_
  refine g_if_lt 111 dX9_isGate_90 (by decide) (fun h90 => ?_) (fun h90 => ?_)
  · skip
    refine g_iconst dX9_isGate_111 (by decide) ?_
    refine n_istore (lN := [_, _, _, _, _, _]) dX9_isGate_112 (by decide) rfl ?_
    exact l_gt114 hM w v f (-1) (-1) q (Or.inr ⟨by decide, h⟩)
  · exact absurd h90 (by decide)
set_option maxRecDepth 20000 in
theorem l_gtF63 (hM : isMd sh) (w v q : Int) (h : m_gate tx n p = none) : Go mdX9_isGate 0 0 63 [some (vR 190), some (vI w), some (vI v), some (vI (-1)), none, none] [] (g_up gi 190 12 q) gl sh (m_gtQ tx n p gi gl sh) := by
  refine g_iload_n dX9_isGate_63 rfl ?_
  refine g_if_lt 85 dX9_isGate_64 (by decide) (fun h64 => ?_) (fun h64 => ?_)
  · skip
    refine g_iconst dX9_isGate_85 (by decide) ?_
    refine n_istore (lN := [_, _, _, _, _, _]) dX9_isGate_86 (by decide) rfl ?_
    exact l_gtF88 hM w v (-1) q h
  · exact absurd h64 (by decide)
set_option maxRecDepth 20000 in
theorem l_gtF32 (hM : isMd sh) (w q : Int) (h : m_gate tx n p = none) : Go mdX9_isGate 0 0 32 [some (vR 190), some (vI w), some (vI (-1)), none, none, none] [] (g_up gi 190 12 q) gl sh (m_gtQ tx n p gi gl sh) := by
  refine g_iload_n dX9_isGate_32 rfl ?_
  refine g_if_le 61 dX9_isGate_33 (by decide) (fun h33 => ?_) (fun h33 => ?_)
  · skip
    refine g_iconst dX9_isGate_61 (by decide) ?_
    refine n_istore_n (lN := [_, _, _, _, _, _]) dX9_isGate_62 (by decide) rfl ?_
    exact l_gtF63 hM w (-1) q h
  · exact absurd h33 (by decide)
set_option maxRecDepth 20000 in
set_option maxHeartbeats 4000000 in
theorem m_isGate (hM : isMd sh) (hx : gi 195 = tx) (hn : gi 190 7 = n) (hp0 : 0 ≤ p ∧ p ≤ 600) (hn0 : n ≤ 200) : Ct mdX9_isGate 0 0 [vR 190] (g_up gi 190 12 p) gl sh (m_gtQ tx n p gi gl sh) := by
  show Go mdX9_isGate 0 0 0 [some (vR 190), none, none, none, none, none] [] (g_up gi 190 12 p) gl sh _
  refine g_aload_n dX9_isGate_0 rfl ?_
  refine g_iconst dX9_isGate_1 (by decide) ?_
  refine g_bipush dX9_isGate_2 (by decide) (by decide) ?_
  refine g_callV_i [_, _] dX9_isGate_4 mlX9_114 mvX9_number (by decide) hM.o (by decide) rfl rfl (Nat.le_of_ble_eq_true rfl) rfl (Nat.le_of_ble_eq_true rfl) (m_numberA (tx := tx) (n := n) (p := p) hM 4 16 hx hn (by omega) hn0) (fun _ _ _ _ q => q.elim fun x q => q.elim fun _ q => ⟨x, q.1⟩) (fun w g1 l1 s1 c u1 u2 => ?_)
  obtain ⟨w1, wq, c1, rfl, rfl, rfl, wb, wh⟩ := c
  cases c1
  refine n_istore_n (lN := [_, _, _, _, _, _]) dX9_isGate_7 (by decide) rfl ?_
  refine g_iload_n dX9_isGate_8 rfl ?_
  refine g_if_le 30 dX9_isGate_9 (by decide) (fun h9 => ?_) (fun h9 => ?_)
  · skip
    have ws : m_rn tx n p 4 16 = none := wh.elim (fun c => by have c1 := (m_rn_num.mp c).2.1; dsimp only at c1; omega) (fun c => c.1)
    refine g_iconst dX9_isGate_30 (by decide) ?_
    refine n_istore_n (lN := [_, _, _, _, _, _]) dX9_isGate_31 (by decide) rfl ?_
    exact l_gtF32 hM w _ (by simp [m_gate, ws])
  · skip
    have ws : m_rn tx n p 4 16 = some (w, wq) := wh.elim id (fun c => by have := c.2; omega)
    have wr := m_rn_num.mp ws
    have w1 := wr.2.1
    have w2 := wr.2.2
    dsimp only at w1 w2
    refine g_aload_n dX9_isGate_12 rfl ?_
    refine g_bipush dX9_isGate_13 (by decide) (by decide) ?_
    refine g_cVi [_] dX9_isGate_15 mlX9_118 mvX9_passes (by decide) hM.o (by decide) rfl rfl (Nat.le_of_ble_eq_true rfl) rfl (Nat.le_of_ble_eq_true rfl) (m_passesA (tx := tx) (n := n) (p := wq) hM 44 hx hn (by omega) hn0 (by decide)) ?_
    refine g_if_eq 30 dX9_isGate_18 (by decide) (fun h18 => ?_) (fun h18 => ?_)
    · skip
      have wc := (zb_q _).no h18
      refine g_iconst dX9_isGate_30 (by decide) ?_
      refine n_istore_n (lN := [_, _, _, _, _, _]) dX9_isGate_31 (by decide) rfl ?_
      exact l_gtF32 hM w _ (by simp [m_gate, ws, wc])
    · skip
      have wc := (zb_q _).yes h18
      rw [(zb_q (t_at tx n wq = 44)).1 wc]
      refine g_aload_n dX9_isGate_21 rfl ?_
      refine g_iconst dX9_isGate_22 (by decide) ?_
      refine g_iload_n dX9_isGate_23 rfl ?_
      refine g_callV_i [_, _] dX9_isGate_24 mlX9_114 mvX9_number (by decide) hM.o (by decide) rfl rfl (Nat.le_of_ble_eq_true rfl) rfl (Nat.le_of_ble_eq_true rfl) (m_numberA (tx := tx) (n := n) (p := wq + 1) hM 1 w hx hn (by omega) hn0) (fun _ _ _ _ q => q.elim fun x q => q.elim fun _ q => ⟨x, q.1⟩) (fun v g1 l1 s1 c u1 u2 => ?_)
      obtain ⟨v1, vq, c1, rfl, rfl, rfl, vb, vh⟩ := c
      cases c1
      refine g_goto 31 dX9_isGate_27 (by decide) ?_
      refine n_istore_n (lN := [_, _, _, _, _, _]) dX9_isGate_31 (by decide) rfl ?_
      refine g_iload_n dX9_isGate_32 rfl ?_
      refine g_if_le 61 dX9_isGate_33 (by decide) (fun h33 => ?_) (fun h33 => ?_)
      · skip
        have vs : m_rn tx n (wq + 1) 1 w = none := vh.elim (fun c => by have c1 := (m_rn_num.mp c).2.1; dsimp only at c1; omega) (fun c => c.1)
        have vm : v = -1 := vh.elim (fun c => by have c1 := (m_rn_num.mp c).2.1; dsimp only at c1; omega) (fun c => c.2)
        subst vm
        refine g_iconst dX9_isGate_61 (by decide) ?_
        refine n_istore_n (lN := [_, _, _, _, _, _]) dX9_isGate_62 (by decide) rfl ?_
        exact l_gtF63 hM w (-1) _ (by simp [m_gate, ws, wc, vs])
      · skip
        have vs : m_rn tx n (wq + 1) 1 w = some (v, vq) := vh.elim id (fun c => by have := c.2; omega)
        have vr := m_rn_num.mp vs
        have v1 := vr.2.1
        have v2 := vr.2.2
        dsimp only at v1 v2
        refine g_iload_n dX9_isGate_36 rfl ?_
        refine g_iload_n dX9_isGate_37 rfl ?_
        refine g_irem dX9_isGate_38 (by omega) (by omega) ?_
        refine g_if_ne 61 dX9_isGate_39 (by decide) (fun h39 => ?_) (fun h39 => ?_)
        · skip
          refine g_iconst dX9_isGate_61 (by decide) ?_
          refine n_istore_n (lN := [_, _, _, _, _, _]) dX9_isGate_62 (by decide) rfl ?_
          exact l_gtF63 hM w v _ (by simp [m_gate, ws, wc, vs, h39])
        · skip
          have h39 : w % v = 0 := by omega
          refine g_aload_n dX9_isGate_42 rfl ?_
          refine g_bipush dX9_isGate_43 (by decide) (by decide) ?_
          refine g_cVi [_] dX9_isGate_45 mlX9_118 mvX9_passes (by decide) hM.o (by decide) rfl rfl (Nat.le_of_ble_eq_true rfl) rfl (Nat.le_of_ble_eq_true rfl) (m_passesA (tx := tx) (n := n) (p := vq) hM 44 hx hn (by omega) hn0 (by decide)) ?_
          refine g_if_eq 61 dX9_isGate_48 (by decide) (fun h48 => ?_) (fun h48 => ?_)
          · skip
            have vc := (zb_q _).no h48
            refine g_iconst dX9_isGate_61 (by decide) ?_
            refine n_istore_n (lN := [_, _, _, _, _, _]) dX9_isGate_62 (by decide) rfl ?_
            exact l_gtF63 hM w v _ (by simp [m_gate, ws, wc, vs, h39, vc])
          · skip
            have vc := (zb_q _).yes h48
            rw [(zb_q (t_at tx n vq = 44)).1 vc]
            refine g_aload_n dX9_isGate_51 rfl ?_
            refine g_iconst dX9_isGate_52 (by decide) ?_
            refine g_bipush dX9_isGate_53 (by decide) (by decide) ?_
            refine g_callV_i [_, _] dX9_isGate_55 mlX9_114 mvX9_number (by decide) hM.o (by decide) rfl rfl (Nat.le_of_ble_eq_true rfl) rfl (Nat.le_of_ble_eq_true rfl) (m_numberA (tx := tx) (n := n) (p := vq + 1) hM 0 20 hx hn (by omega) hn0) (fun _ _ _ _ q => q.elim fun x q => q.elim fun _ q => ⟨x, q.1⟩) (fun f g1 l1 s1 c u1 u2 => ?_)
            obtain ⟨f1, fq, c1, rfl, rfl, rfl, fb, fh⟩ := c
            cases c1
            refine g_goto 62 dX9_isGate_58 (by decide) ?_
            refine n_istore_n (lN := [_, _, _, _, _, _]) dX9_isGate_62 (by decide) rfl ?_
            refine g_iload_n dX9_isGate_63 rfl ?_
            refine g_if_lt 85 dX9_isGate_64 (by decide) (fun h64 => ?_) (fun h64 => ?_)
            · skip
              have fs : m_rn tx n (vq + 1) 0 20 = none := fh.elim (fun c => by have c1 := (m_rn_num.mp c).2.1; dsimp only at c1; omega) (fun c => c.1)
              have fm : f = -1 := fh.elim (fun c => by have c1 := (m_rn_num.mp c).2.1; dsimp only at c1; omega) (fun c => c.2)
              subst fm
              refine g_iconst dX9_isGate_85 (by decide) ?_
              refine n_istore (lN := [_, _, _, _, _, _]) dX9_isGate_86 (by decide) rfl ?_
              exact l_gtF88 hM w v (-1) _ (by simp [m_gate, ws, wc, vs, h39, vc, fs])
            · skip
              have fs : m_rn tx n (vq + 1) 0 20 = some (f, fq) := fh.elim id (fun c => by have := c.2; omega)
              have fr := m_rn_num.mp fs
              have f1 := fr.2.1
              have f2 := fr.2.2
              dsimp only at f1 f2
              refine g_aload_n dX9_isGate_67 rfl ?_
              refine g_bipush dX9_isGate_68 (by decide) (by decide) ?_
              refine g_cVi [_] dX9_isGate_70 mlX9_118 mvX9_passes (by decide) hM.o (by decide) rfl rfl (Nat.le_of_ble_eq_true rfl) rfl (Nat.le_of_ble_eq_true rfl) (m_passesA (tx := tx) (n := n) (p := fq) hM 44 hx hn (by omega) hn0 (by decide)) ?_
              refine g_if_eq 85 dX9_isGate_73 (by decide) (fun h73 => ?_) (fun h73 => ?_)
              · skip
                have fc := (zb_q _).no h73
                refine g_iconst dX9_isGate_85 (by decide) ?_
                refine n_istore (lN := [_, _, _, _, _, _]) dX9_isGate_86 (by decide) rfl ?_
                exact l_gtF88 hM w v f _ (by simp [m_gate, ws, wc, vs, h39, vc, fs, fc])
              · skip
                have fc := (zb_q _).yes h73
                rw [(zb_q (t_at tx n fq = 44)).1 fc]
                refine g_aload_n dX9_isGate_76 rfl ?_
                refine g_iconst dX9_isGate_77 (by decide) ?_
                refine g_iconst dX9_isGate_78 (by decide) ?_
                refine g_callV_i [_, _] dX9_isGate_79 mlX9_114 mvX9_number (by decide) hM.o (by decide) rfl rfl (Nat.le_of_ble_eq_true rfl) rfl (Nat.le_of_ble_eq_true rfl) (m_numberA (tx := tx) (n := n) (p := fq + 1) hM 0 5 hx hn (by omega) hn0) (fun _ _ _ _ q => q.elim fun x q => q.elim fun _ q => ⟨x, q.1⟩) (fun a g1 l1 s1 c u1 u2 => ?_)
                obtain ⟨a1, aq, c1, rfl, rfl, rfl, ab, ah⟩ := c
                cases c1
                refine g_goto 86 dX9_isGate_82 (by decide) ?_
                refine n_istore (lN := [_, _, _, _, _, _]) dX9_isGate_86 (by decide) rfl ?_
                refine g_iload dX9_isGate_88 rfl ?_
                refine g_if_lt 111 dX9_isGate_90 (by decide) (fun h90 => ?_) (fun h90 => ?_)
                · skip
                  have as : m_rn tx n (fq + 1) 0 5 = none := ah.elim (fun c => by have c1 := (m_rn_num.mp c).2.1; dsimp only at c1; omega) (fun c => c.1)
                  have am : a = -1 := ah.elim (fun c => by have c1 := (m_rn_num.mp c).2.1; dsimp only at c1; omega) (fun c => c.2)
                  subst am
                  refine g_iconst dX9_isGate_111 (by decide) ?_
                  refine n_istore (lN := [_, _, _, _, _, _]) dX9_isGate_112 (by decide) rfl ?_
                  exact l_gt114 hM w v f (-1) (-1) _ (Or.inr ⟨by decide, by simp [m_gate, ws, wc, vs, h39, vc, fs, fc, as]⟩)
                · skip
                  have as : m_rn tx n (fq + 1) 0 5 = some (a, aq) := ah.elim id (fun c => by have := c.2; omega)
                  have ar := m_rn_num.mp as
                  have a1 := ar.2.1
                  have a2 := ar.2.2
                  dsimp only at a1 a2
                  refine g_aload_n dX9_isGate_93 rfl ?_
                  refine g_bipush dX9_isGate_94 (by decide) (by decide) ?_
                  refine g_cVi [_] dX9_isGate_96 mlX9_118 mvX9_passes (by decide) hM.o (by decide) rfl rfl (Nat.le_of_ble_eq_true rfl) rfl (Nat.le_of_ble_eq_true rfl) (m_passesA (tx := tx) (n := n) (p := aq) hM 44 hx hn (by omega) hn0 (by decide)) ?_
                  refine g_if_eq 111 dX9_isGate_99 (by decide) (fun h99 => ?_) (fun h99 => ?_)
                  · skip
                    have ac := (zb_q _).no h99
                    refine g_iconst dX9_isGate_111 (by decide) ?_
                    refine n_istore (lN := [_, _, _, _, _, _]) dX9_isGate_112 (by decide) rfl ?_
                    exact l_gt114 hM w v f a (-1) _ (Or.inr ⟨by decide, by simp [m_gate, ws, wc, vs, h39, vc, fs, fc, as, ac]⟩)
                  · skip
                    have ac := (zb_q _).yes h99
                    rw [(zb_q (t_at tx n aq = 44)).1 ac]
                    refine g_aload_n dX9_isGate_102 rfl ?_
                    refine g_iconst dX9_isGate_103 (by decide) ?_
                    refine g_iconst dX9_isGate_104 (by decide) ?_
                    refine g_callV_i [_, _] dX9_isGate_105 mlX9_114 mvX9_number (by decide) hM.o (by decide) rfl rfl (Nat.le_of_ble_eq_true rfl) rfl (Nat.le_of_ble_eq_true rfl) (m_numberA (tx := tx) (n := n) (p := aq + 1) hM 0 5 hx hn (by omega) hn0) (fun _ _ _ _ q => q.elim fun x q => q.elim fun _ q => ⟨x, q.1⟩) (fun b g1 l1 s1 c u1 u2 => ?_)
                    obtain ⟨b1, bq, c1, rfl, rfl, rfl, bb, bh⟩ := c
                    cases c1
                    refine g_goto 112 dX9_isGate_108 (by decide) ?_
                    refine n_istore (lN := [_, _, _, _, _, _]) dX9_isGate_112 (by decide) rfl ?_
                    rcases bh with bs | ⟨bs, rfl⟩
                    · have b0 := (m_rn_num.mp bs).2.1
                      exact l_gt114 hM w v f a b _ (Or.inl ⟨b0, by simp [m_gate, ws, wc, vs, h39, vc, fs, fc, as, ac, bs], by omega⟩)
                    · exact l_gt114 hM w v f a (-1) _ (Or.inr ⟨by decide, by simp [m_gate, ws, wc, vs, h39, vc, fs, fc, as, ac, bs]⟩)

end MD2
