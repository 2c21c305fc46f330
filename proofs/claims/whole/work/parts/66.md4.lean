/-! the model's text: an item, the first fault -/
def PM (g : gF) (p : Int) (pl kn nu : gRw) : Prop := g 190 12 = p ∧ g 190 9 = pl 2 ∧ (∀ k : Int, 0 ≤ k → k < 7 → g 196 k = pl (3 + k)) ∧ ∀ k : Int, 0 ≤ k → k < pl 2 → g 197 k = kn k ∧ g 198 k = nu k
theorem k7 {P : Int → Prop} (h0 : P 0) (h1 : P 1) (h2 : P 2) (h3 : P 3) (h4 : P 4) (h5 : P 5) (h6 : P 6) : ∀ k : Int, 0 ≤ k → k < 7 → P k := fun k a b => by
  rcases (show k = 0 ∨ k = 1 ∨ k = 2 ∨ k = 3 ∨ k = 4 ∨ k = 5 ∨ k = 6 by omega) with rfl | rfl | rfl | rfl | rfl | rfl | rfl <;> assumption
theorem PM.gate {g : gF} {p : Int} {pl kn nu : gRw} (h : PM g p pl kn nu) (q q' w v f a b : Int) : PM (g_up (g_up (g_up (g_up (g_up (g_up (g_up g 190 12 q) 196 0 w) 196 1 v) 196 2 f) 196 3 a) 196 4 b) 190 12 q') q' (r_up (r_up (r_up (r_up (r_up pl 3 w) 4 v) 5 f) 6 a) 7 b) kn nu := by
  obtain ⟨h1, h2, h3, h4⟩ := h
  have e5 := h3 5 (by decide) (by decide)
  have e6 := h3 6 (by decide) (by decide)
  refine ⟨g_up_at, ?_, ?_, ?_⟩
  · simp only [g_up_row, g_up_r, r_up_at, r_up_ne, ne_eq, Int.reduceEq, not_false_eq_true]; exact h2
  · simp only [g_up_row, g_up_r, r_up_at, r_up_ne, ne_eq, Int.reduceEq, not_false_eq_true]
    apply k7 <;> simp only [r_up, Int.reduceAdd, Int.reduceEq, if_true, if_false] <;> first | rfl | exact e5 | exact e6
  · intro k k0 k1
    have k2 : k < pl 2 := by simpa [r_up] using k1
    simp only [g_up_row, g_up_r, r_up_at, r_up_ne, ne_eq, Int.reduceEq, not_false_eq_true]
    exact h4 k k0 k2
theorem PM.one {g : gF} {p : Int} {pl kn nu : gRw} (h : PM g p pl kn nu) (i : Int) (hi : i = 5 ∨ i = 6) (q q' x : Int) : PM (g_up (g_up (g_up g 190 12 q) 196 i x) 190 12 q') q' (r_up pl (3 + i) x) kn nu := by
  obtain ⟨h1, h2, h3, h4⟩ := h
  refine ⟨g_up_at, ?_, ?_, ?_⟩
  · simp only [g_up_row, g_up_r, r_up_at, r_up_ne, ne_eq, Int.reduceEq, not_false_eq_true]; rw [h2, r_up_ne (by omega)]
  · simp only [g_up_row, g_up_r, r_up_at, r_up_ne, ne_eq, Int.reduceEq, not_false_eq_true]
    intro k k0 k1
    by_cases e : k = i
    · rw [e, r_up_at, r_up_at]
    · rw [r_up_ne e, r_up_ne (by omega)]; exact h3 k k0 k1
  · intro k k0 k1
    rw [r_up_ne (by omega)] at k1
    simp only [g_up_row, g_up_r, r_up_at, r_up_ne, ne_eq, Int.reduceEq, not_false_eq_true]
    exact h4 k k0 k1
theorem PM.rul {g g' : gF} {p : Int} {pl kn nu : gRw} (h : PM g p pl kn nu) {q k9 v9 : Int} (e1 : g' 190 12 = q) (e2 : g' 190 9 = pl 2 + 1) (e3 : g' 196 = g 196) (e4 : g' 197 = r_up (g 197) (pl 2) k9) (e5 : g' 198 = r_up (g 198) (pl 2) v9) (q' : Int) : PM (g_up g' 190 12 q') q' (r_up pl 2 (pl 2 + 1)) (r_up kn (pl 2) k9) (r_up nu (pl 2) v9) := by
  obtain ⟨h1, h2, h3, h4⟩ := h
  refine ⟨g_up_at, ?_, ?_, ?_⟩
  · rw [g_up_ne (by decide), e2, r_up_at]
  · intro k k0 k1
    rw [g_up_row (by decide), e3, r_up_ne (by omega)]
    exact h3 k k0 k1
  · intro k k0 k1
    rw [r_up_at] at k1
    rw [g_up_row (by decide), g_up_row (by decide), e4, e5]
    by_cases e : k = pl 2
    · rw [e]; simp only [r_up_at]; exact ⟨trivial, trivial⟩
    · simp only [r_up_ne e]; exact h4 k k0 (by omega)
def ITQ (tx : gRw) (n p : Int) (pl kn nu : gRw) (gi gl : gF) (sh : gSh) : gQ := fun r gi' gl' sh' => ∃ z : Int, r = some (vI z) ∧ gl' = gl ∧ sh' = sh ∧ TF gi gi' ∧ (z = 0 ∧ t_item tx n p pl kn nu = none ∨ z = 1 ∧ ∃ (p' : Int) (pl' kn' nu' : gRw), t_item tx n p pl kn nu = some (p', pl', kn', nu') ∧ PM gi' p' pl' kn' nu')
section MD4
variable {gi gl : gF} {sh : gSh} {tx : gRw} {n p : Int} {pl kn nu : gRw}
theorem psN {g : gF} {q ch : Int} (h : g 190 12 = q) (c : ¬ t_at tx n q = ch) : g_up g 190 12 (q + zb (t_at tx n q = ch)) = g := by
  rw [(zb_q (t_at tx n q = ch)).2 c, show q + 0 = q by omega, ← h, g_up_self']
theorem psY {g : gF} {q ch : Int} (c : t_at tx n q = ch) : g_up g 190 12 (q + zb (t_at tx n q = ch)) = g_up g 190 12 (q + 1) := by
  rw [(zb_q (t_at tx n q = ch)).1 c]

set_option maxRecDepth 20000 in
set_option maxHeartbeats 4000000 in
theorem m_isItem (hM : isMd sh) (hx : gi 195 = tx) (hn : gi 190 7 = n) (hP : PM gi p pl kn nu) (hp0 : 0 ≤ p ∧ p ≤ 500) (hn0 : n ≤ 200) (h2 : 0 ≤ pl 2 ∧ pl 2 ≤ 4) : Ct mdX9_isItem 0 0 [vR 190] gi gl sh (ITQ tx n p pl kn nu gi gl sh) := by
  show Go mdX9_isItem 0 0 0 [some (vR 190), none] [] gi gl sh _
  refine g_aload_n dX9_isItem_0 rfl ?_
  refine g_bipush dX9_isItem_1 (by decide) (by decide) ?_
  refine g_cVi [_] dX9_isItem_3 mlX9_118 mvX9_passes (by decide) hM.o (by decide) rfl rfl (Nat.le_of_ble_eq_true rfl) rfl (Nat.le_of_ble_eq_true rfl) (m_passes hM p n 103 (zb (t_at tx n p = 103)) hP.1 hn (by omega) hn0 (by decide) (by rw [hx]; exact zb_q _)) ?_
  refine g_if_eq 31 dX9_isItem_6 (by decide) (fun h6 => ?_) (fun h6 => ?_)
  · skip
    have c1 := (zb_q _).no h6
    rw [psN hP.1 c1]
    refine g_aload_n dX9_isItem_31 rfl ?_
    refine g_bipush dX9_isItem_32 (by decide) (by decide) ?_
    refine g_cVi [_] dX9_isItem_34 mlX9_118 mvX9_passes (by decide) hM.o (by decide) rfl rfl (Nat.le_of_ble_eq_true rfl) rfl (Nat.le_of_ble_eq_true rfl) (m_passes hM p n 114 (zb (t_at tx n p = 114)) hP.1 hn (by omega) hn0 (by decide) (by rw [hx]; exact zb_q _)) ?_
    refine g_if_eq 62 dX9_isItem_37 (by decide) (fun h37 => ?_) (fun h37 => ?_)
    · skip
      have c2 := (zb_q _).no h37
      rw [psN hP.1 c2]
      refine g_aload_n dX9_isItem_62 rfl ?_
      refine g_bipush dX9_isItem_63 (by decide) (by decide) ?_
      refine g_cVi [_] dX9_isItem_65 mlX9_118 mvX9_passes (by decide) hM.o (by decide) rfl rfl (Nat.le_of_ble_eq_true rfl) rfl (Nat.le_of_ble_eq_true rfl) (m_passes hM p n 100 (zb (t_at tx n p = 100)) hP.1 hn (by omega) hn0 (by decide) (by rw [hx]; exact zb_q _)) ?_
      refine g_if_eq 75 dX9_isItem_68 (by decide) (fun h68 => ?_) (fun h68 => ?_)
      · skip
        have c3 := (zb_q _).no h68
        rw [psN hP.1 c3]
        refine g_aload_n dX9_isItem_75 rfl ?_
        refine g_bipush dX9_isItem_76 (by decide) (by decide) ?_
        refine g_cVi [_] dX9_isItem_78 mlX9_118 mvX9_passes (by decide) hM.o (by decide) rfl rfl (Nat.le_of_ble_eq_true rfl) rfl (Nat.le_of_ble_eq_true rfl) (m_passes hM p n 113 (zb (t_at tx n p = 113)) hP.1 hn (by omega) hn0 (by decide) (by rw [hx]; exact zb_q _)) ?_
        refine g_if_eq 89 dX9_isItem_81 (by decide) (fun h81 => ?_) (fun h81 => ?_)
        · skip
          have c4 := (zb_q _).no h81
          rw [psN hP.1 c4]
          refine g_iconst dX9_isItem_89 (by decide) ?_
          refine n_istore_n (lN := [_, _]) dX9_isItem_90 (by decide) rfl ?_
          refine g_iload_n dX9_isItem_91 rfl ?_
          refine g_if_ge 97 dX9_isItem_92 (by decide) (fun h92 => ?_) (fun h92 => ?_)
          · exact absurd h92 (by decide)
          · skip
            refine g_iconst dX9_isItem_95 (by decide) ?_
            refine g_zreturn dX9_isItem_96 rfl (by decide) ?_
            refine ⟨0, rfl, rfl, rfl, TF.rf, Or.inl ⟨rfl, ?_⟩⟩
            exact t_item_x c1 c2 c3 c4
        · skip
          have c4 := (zb_q _).yes h81
          rw [psY c4]
          refine g_bipush dX9_isItem_84 (by decide) (by decide) ?_
          refine g_goto 90 dX9_isItem_86 (by decide) ?_
          refine n_istore_n (lN := [_, _]) dX9_isItem_90 (by decide) rfl ?_
          refine g_iload_n dX9_isItem_91 rfl ?_
          refine g_if_ge 97 dX9_isItem_92 (by decide) (fun h92 => ?_) (fun h92 => ?_)
          · skip
            refine g_aload_n dX9_isItem_97 rfl ?_
            refine g_getR 8 dX9_isItem_98 flX9_26 rfl hM.o hM.r8 ?_
            refine g_iload_n dX9_isItem_101 rfl ?_
            refine g_aload_n dX9_isItem_102 rfl ?_
            refine g_iload_n dX9_isItem_103 rfl ?_
            refine g_iconst dX9_isItem_104 (by decide) ?_
            refine g_icmp_ne 112 dX9_isItem_105 (by decide) (fun h105 => ?_) (fun h105 => ?_)
            · skip
              refine g_iconst dX9_isItem_112 (by decide) ?_
              refine g_bipush dX9_isItem_113 (by decide) (by decide) ?_
              refine g_callV_i [_, _] dX9_isItem_115 mlX9_114 mvX9_number (by decide) hM.o (by decide) rfl rfl (Nat.le_of_ble_eq_true rfl) rfl (Nat.le_of_ble_eq_true rfl) (m_numberA (tx := tx) (n := n) (p := p + 1) hM 0 9 hx hn (by omega) hn0) (fun _ _ _ _ q => q.elim fun x q => q.elim fun _ q => ⟨x, q.1⟩) (fun x g1 l1 s1 c u1 u2 => ?_)
              obtain ⟨x1, q, c9, rfl, rfl, rfl, xb, xh⟩ := c
              cases c9
              refine g_iastore dX9_isItem_118 hM.k196 (by omega) (hM.b196 (by omega)) ?_
              generalize hG : g_up (g_up gi 190 12 q) 196 6 x = G
              have g12 : G 190 12 = q := by rw [← hG]; simp only [g_up_row, g_up_r, r_up_at, r_up_ne, ne_eq, Int.reduceEq, not_false_eq_true]
              have g7 : G 190 7 = n := by rw [← hG]; simp only [g_up_row, g_up_r, r_up_at, r_up_ne, ne_eq, Int.reduceEq, not_false_eq_true]; exact hn
              have g5 : G 195 = tx := by rw [← hG]; simp only [g_up_row, g_up_r, r_up_at, r_up_ne, ne_eq, Int.reduceEq, not_false_eq_true]; exact hx
              have gx : G 196 6 = x := by rw [← hG, g_up_at]
              have tf : TF gi G := by rw [← hG]; exact (TF.rf.up (by omega)).up (by omega)
              refine g_aload_n dX9_isItem_119 rfl ?_
              refine g_getR 8 dX9_isItem_120 flX9_26 rfl hM.o hM.r8 ?_
              refine g_iload_n dX9_isItem_123 rfl ?_
              refine g_iaload dX9_isItem_124 hM.k196 (by omega) (hM.b196 (by omega)) ?_
              rw [gx]
              refine g_if_lt 141 dX9_isItem_125 (by decide) (fun h125 => ?_) (fun h125 => ?_)
              · skip
                have xs : m_rn tx n (p + 1) 0 9 = none := xh.elim (fun c => by have c1 := (m_rn_num.mp c).2.1; dsimp only at c1; omega) (fun c => c.1)
                refine g_iconst dX9_isItem_141 (by decide) ?_
                refine g_zreturn dX9_isItem_142 rfl (by decide) ?_
                refine ⟨0, rfl, rfl, rfl, tf, Or.inl ⟨rfl, ?_⟩⟩
                rw [t_item_q c4, xs]; rfl
              · skip
                have xs : m_rn tx n (p + 1) 0 9 = some (x, q) := xh.elim id (fun c => by have := c.2; omega)
                refine g_aload_n dX9_isItem_128 rfl ?_
                refine g_bipush dX9_isItem_129 (by decide) (by decide) ?_
                refine g_cVi [_] dX9_isItem_131 mlX9_118 mvX9_passes (by decide) hM.o (by decide) rfl rfl (Nat.le_of_ble_eq_true rfl) rfl (Nat.le_of_ble_eq_true rfl) (m_passes hM q n 59 (zb (t_at tx n q = 59)) g12 g7 (by omega) hn0 (by decide) (by rw [g5]; exact zb_q _)) ?_
                refine g_if_eq 141 dX9_isItem_134 (by decide) (fun h134 => ?_) (fun h134 => ?_)
                · skip
                  have c5 := (zb_q _).no h134
                  refine g_iconst dX9_isItem_141 (by decide) ?_
                  refine g_zreturn dX9_isItem_142 rfl (by decide) ?_
                  refine ⟨0, rfl, rfl, rfl, tf.up (by omega), Or.inl ⟨rfl, ?_⟩⟩
                  rw [t_item_q c4, xs]
                  simp [c5]
                · skip
                  have c5 := (zb_q _).yes h134
                  rw [psY c5]
                  refine g_iconst dX9_isItem_137 (by decide) ?_
                  refine g_goto 142 dX9_isItem_138 (by decide) ?_
                  refine g_zreturn dX9_isItem_142 rfl (by decide) ?_
                  have pm := hP.one 6 (by omega) q (q + 1) x
                  rw [hG] at pm
                  refine ⟨1, rfl, rfl, rfl, tf.up (by omega), Or.inr ⟨rfl, _, _, _, _, ?_, pm⟩⟩
                  rw [t_item_q c4, xs]; simp only [Option.bind_some]; exact if_pos c5
            · exact absurd h105 (by decide)
          · exact absurd h92 (by decide)
      · skip
        have c3 := (zb_q _).yes h68
        rw [psY c3]
        refine g_iconst dX9_isItem_71 (by decide) ?_
        refine g_goto 90 dX9_isItem_72 (by decide) ?_
        refine n_istore_n (lN := [_, _]) dX9_isItem_90 (by decide) rfl ?_
        refine g_iload_n dX9_isItem_91 rfl ?_
        refine g_if_ge 97 dX9_isItem_92 (by decide) (fun h92 => ?_) (fun h92 => ?_)
        · skip
          refine g_aload_n dX9_isItem_97 rfl ?_
          refine g_getR 8 dX9_isItem_98 flX9_26 rfl hM.o hM.r8 ?_
          refine g_iload_n dX9_isItem_101 rfl ?_
          refine g_aload_n dX9_isItem_102 rfl ?_
          refine g_iload_n dX9_isItem_103 rfl ?_
          refine g_iconst dX9_isItem_104 (by decide) ?_
          refine g_icmp_ne 112 dX9_isItem_105 (by decide) (fun h105 => ?_) (fun h105 => ?_)
          · exact absurd h105 (by decide)
          · skip
            refine g_iconst dX9_isItem_108 (by decide) ?_
            refine g_goto 113 dX9_isItem_109 (by decide) ?_
            refine g_bipush dX9_isItem_113 (by decide) (by decide) ?_
            refine g_callV_i [_, _] dX9_isItem_115 mlX9_114 mvX9_number (by decide) hM.o (by decide) rfl rfl (Nat.le_of_ble_eq_true rfl) rfl (Nat.le_of_ble_eq_true rfl) (m_numberA (tx := tx) (n := n) (p := p + 1) hM 1 9 hx hn (by omega) hn0) (fun _ _ _ _ q => q.elim fun x q => q.elim fun _ q => ⟨x, q.1⟩) (fun x g1 l1 s1 c u1 u2 => ?_)
            obtain ⟨x1, q, c9, rfl, rfl, rfl, xb, xh⟩ := c
            cases c9
            refine g_iastore dX9_isItem_118 hM.k196 (by omega) (hM.b196 (by omega)) ?_
            generalize hG : g_up (g_up gi 190 12 q) 196 5 x = G
            have g12 : G 190 12 = q := by rw [← hG]; simp only [g_up_row, g_up_r, r_up_at, r_up_ne, ne_eq, Int.reduceEq, not_false_eq_true]
            have g7 : G 190 7 = n := by rw [← hG]; simp only [g_up_row, g_up_r, r_up_at, r_up_ne, ne_eq, Int.reduceEq, not_false_eq_true]; exact hn
            have g5 : G 195 = tx := by rw [← hG]; simp only [g_up_row, g_up_r, r_up_at, r_up_ne, ne_eq, Int.reduceEq, not_false_eq_true]; exact hx
            have gx : G 196 5 = x := by rw [← hG, g_up_at]
            have tf : TF gi G := by rw [← hG]; exact (TF.rf.up (by omega)).up (by omega)
            refine g_aload_n dX9_isItem_119 rfl ?_
            refine g_getR 8 dX9_isItem_120 flX9_26 rfl hM.o hM.r8 ?_
            refine g_iload_n dX9_isItem_123 rfl ?_
            refine g_iaload dX9_isItem_124 hM.k196 (by omega) (hM.b196 (by omega)) ?_
            rw [gx]
            refine g_if_lt 141 dX9_isItem_125 (by decide) (fun h125 => ?_) (fun h125 => ?_)
            · skip
              have xs : m_rn tx n (p + 1) 1 9 = none := xh.elim (fun c => by have c1 := (m_rn_num.mp c).2.1; dsimp only at c1; omega) (fun c => c.1)
              refine g_iconst dX9_isItem_141 (by decide) ?_
              refine g_zreturn dX9_isItem_142 rfl (by decide) ?_
              refine ⟨0, rfl, rfl, rfl, tf, Or.inl ⟨rfl, ?_⟩⟩
              rw [t_item_d c3, xs]; rfl
            · skip
              have xs : m_rn tx n (p + 1) 1 9 = some (x, q) := xh.elim id (fun c => by have := c.2; omega)
              refine g_aload_n dX9_isItem_128 rfl ?_
              refine g_bipush dX9_isItem_129 (by decide) (by decide) ?_
              refine g_cVi [_] dX9_isItem_131 mlX9_118 mvX9_passes (by decide) hM.o (by decide) rfl rfl (Nat.le_of_ble_eq_true rfl) rfl (Nat.le_of_ble_eq_true rfl) (m_passes hM q n 59 (zb (t_at tx n q = 59)) g12 g7 (by omega) hn0 (by decide) (by rw [g5]; exact zb_q _)) ?_
              refine g_if_eq 141 dX9_isItem_134 (by decide) (fun h134 => ?_) (fun h134 => ?_)
              · skip
                have c5 := (zb_q _).no h134
                refine g_iconst dX9_isItem_141 (by decide) ?_
                refine g_zreturn dX9_isItem_142 rfl (by decide) ?_
                refine ⟨0, rfl, rfl, rfl, tf.up (by omega), Or.inl ⟨rfl, ?_⟩⟩
                rw [t_item_d c3, xs]
                simp [c5]
              · skip
                have c5 := (zb_q _).yes h134
                rw [psY c5]
                refine g_iconst dX9_isItem_137 (by decide) ?_
                refine g_goto 142 dX9_isItem_138 (by decide) ?_
                refine g_zreturn dX9_isItem_142 rfl (by decide) ?_
                have pm := hP.one 5 (by omega) q (q + 1) x
                rw [hG] at pm
                refine ⟨1, rfl, rfl, rfl, tf.up (by omega), Or.inr ⟨rfl, _, _, _, _, ?_, pm⟩⟩
                rw [t_item_d c3, xs]; simp only [Option.bind_some]; exact if_pos c5
        · exact absurd h92 (by decide)
    · skip
      have c2 := (zb_q _).yes h37
      rw [psY c2]
      refine g_aload_n dX9_isItem_40 rfl ?_
      refine g_callV_i [] dX9_isItem_41 mlX9_128 mvX9_isRule (by decide) hM.o (by decide) rfl rfl (Nat.le_of_ble_eq_true rfl) rfl (Nat.le_of_ble_eq_true rfl) (m_isRuleM (tx := tx) (n := n) (p := p + 1) (R := pl 2) hM hx hn hP.2.1 h2 (by omega) hn0) (fun _ _ _ _ q => q.elim fun z q => ⟨z, q.1⟩) (fun zg g1 l1 s1 c u1 u2 => ?_)
      obtain ⟨z9, c9, rfl, rfl, tf, chh⟩ := c
      cases c9
      refine g_if_eq 60 dX9_isItem_44 (by decide) (fun h44 => ?_) (fun h44 => ?_)
      · skip
        refine g_iconst dX9_isItem_60 (by decide) ?_
        refine g_zreturn dX9_isItem_61 rfl (by decide) ?_
        refine ⟨0, rfl, rfl, rfl, tf, Or.inl ⟨rfl, ?_⟩⟩
        rw [t_item_r c2 h2.2]
        rcases chh with ⟨-, chh | chh⟩ | chh
        · rw [if_pos chh]
        · rw [chh]; split <;> rfl
        · omega
      · skip
        rcases chh with chh | ⟨-, hr4, k9, v9, q, hg, hq, g12, g9, g6, gk, gv⟩
        · omega
        have g7 : g1 190 7 = n := by rw [tf.2 7 (by decide) (by decide)]; exact hn
        have g5 : g1 195 = tx := by rw [tf.1 195 (by decide) (by decide) (by decide) (by decide)]; exact hx
        refine g_aload_n dX9_isItem_47 rfl ?_
        refine g_bipush dX9_isItem_48 (by decide) (by decide) ?_
        refine g_cVi [_] dX9_isItem_50 mlX9_118 mvX9_passes (by decide) hM.o (by decide) rfl rfl (Nat.le_of_ble_eq_true rfl) rfl (Nat.le_of_ble_eq_true rfl) (m_passes hM q n 59 (zb (t_at tx n q = 59)) g12 g7 (by omega) hn0 (by decide) (by rw [g5]; exact zb_q _)) ?_
        refine g_if_eq 60 dX9_isItem_53 (by decide) (fun h53 => ?_) (fun h53 => ?_)
        · skip
          have c5 := (zb_q _).no h53
          refine g_iconst dX9_isItem_60 (by decide) ?_
          refine g_zreturn dX9_isItem_61 rfl (by decide) ?_
          refine ⟨0, rfl, rfl, rfl, tf.up (by omega), Or.inl ⟨rfl, ?_⟩⟩
          rw [t_item_r c2 h2.2, if_neg hr4, hg]
          simp [c5]
        · skip
          have c5 := (zb_q _).yes h53
          rw [psY c5]
          refine g_iconst dX9_isItem_56 (by decide) ?_
          refine g_goto 61 dX9_isItem_57 (by decide) ?_
          refine g_zreturn dX9_isItem_61 rfl (by decide) ?_
          have pm := hP.rul g12 g9 g6 gk gv (q + 1)
          refine ⟨1, rfl, rfl, rfl, tf.up (by omega), Or.inr ⟨rfl, _, _, _, _, ?_, pm⟩⟩
          rw [t_item_r c2 h2.2, if_neg hr4, hg]; simp only [Option.bind_some]; exact if_pos c5
  · skip
    have c1 := (zb_q _).yes h6
    rw [psY c1]
    refine g_aload_n dX9_isItem_9 rfl ?_
    refine g_callV_i [] dX9_isItem_10 mlX9_125 mvX9_isGate (by decide) hM.o (by decide) rfl rfl (Nat.le_of_ble_eq_true rfl) rfl (Nat.le_of_ble_eq_true rfl) (m_isGate (tx := tx) (n := n) (p := p + 1) hM hx hn (by omega) hn0) (fun _ _ _ _ q => q.elim fun z q => ⟨z, q.1⟩) (fun zg g1 l1 s1 c u1 u2 => ?_)
    obtain ⟨z9, c9, rfl, rfl, tf, chh⟩ := c
    cases c9
    refine g_if_eq 29 dX9_isItem_13 (by decide) (fun h13 => ?_) (fun h13 => ?_)
    · skip
      refine g_iconst dX9_isItem_29 (by decide) ?_
      refine g_zreturn dX9_isItem_30 rfl (by decide) ?_
      refine ⟨0, rfl, rfl, rfl, tf, Or.inl ⟨rfl, ?_⟩⟩
      rw [t_item_g c1]
      rcases chh with chh | chh
      · rw [chh.2]; rfl
      · omega
    · skip
      rcases chh with chh | ⟨-, w, v, f, a, b, q, hg, hq, e⟩
      · omega
      subst e
      generalize hG : g_up (g_up (g_up (g_up (g_up (g_up gi 190 12 q) 196 0 w) 196 1 v) 196 2 f) 196 3 a) 196 4 b = G
      have g12 : G 190 12 = q := by rw [← hG]; simp only [g_up_row, g_up_r, r_up_at, r_up_ne, ne_eq, Int.reduceEq, not_false_eq_true]
      have g7 : G 190 7 = n := by rw [← hG]; simp only [g_up_row, g_up_r, r_up_at, r_up_ne, ne_eq, Int.reduceEq, not_false_eq_true]; exact hn
      have g5 : G 195 = tx := by rw [← hG]; simp only [g_up_row, g_up_r, r_up_at, r_up_ne, ne_eq, Int.reduceEq, not_false_eq_true]; exact hx
      rw [hG] at tf
      refine g_aload_n dX9_isItem_16 rfl ?_
      refine g_bipush dX9_isItem_17 (by decide) (by decide) ?_
      refine g_cVi [_] dX9_isItem_19 mlX9_118 mvX9_passes (by decide) hM.o (by decide) rfl rfl (Nat.le_of_ble_eq_true rfl) rfl (Nat.le_of_ble_eq_true rfl) (m_passes hM q n 59 (zb (t_at tx n q = 59)) g12 g7 (by omega) hn0 (by decide) (by rw [g5]; exact zb_q _)) ?_
      refine g_if_eq 29 dX9_isItem_22 (by decide) (fun h22 => ?_) (fun h22 => ?_)
      · skip
        have c5 := (zb_q _).no h22
        refine g_iconst dX9_isItem_29 (by decide) ?_
        refine g_zreturn dX9_isItem_30 rfl (by decide) ?_
        refine ⟨0, rfl, rfl, rfl, tf.up (by omega), Or.inl ⟨rfl, ?_⟩⟩
        rw [t_item_g c1, hg]
        simp [c5]
      · skip
        have c5 := (zb_q _).yes h22
        rw [psY c5]
        refine g_iconst dX9_isItem_25 (by decide) ?_
        refine g_goto 30 dX9_isItem_26 (by decide) ?_
        refine g_zreturn dX9_isItem_30 rfl (by decide) ?_
        have pm := hP.gate q (q + 1) w v f a b
        rw [hG] at pm
        refine ⟨1, rfl, rfl, rfl, tf.up (by omega), Or.inr ⟨rfl, _, _, _, _, ?_, pm⟩⟩
        rw [t_item_g c1, hg]; simp only [Option.bind_some]; exact if_pos c5

/-- the text read: where the first fault is, and what it lays -/
def FQ (res : Int × gRw × gRw × gRw) (gi gl : gF) (sh : gSh) : gQ := fun r gi' gl' sh' => r = some (vI res.1) ∧ gl' = gl ∧ sh' = sh ∧ TF gi gi' ∧ (res.1 = -4 → ∃ p', PM gi' p' res.2.1 res.2.2.1 res.2.2.2)
set_option maxRecDepth 20000 in
theorem l_fault (hM : isMd sh) (hx : gi 195 = tx) (hn : gi 190 7 = n) (hn0 : n ≤ 200) : ∀ (m : Nat) (g : gF) (p : Int) (pl kn nu : gRw), PM g p pl kn nu → pl_ok pl kn nu → TF gi g → 0 ≤ p ∧ p ≤ 200 → n - p ≤ m → ∀ l1 : Option gV, Go mdX9_faultAt 0 0 17 [some (vR 190), l1] [] g gl sh (FQ (t_parse tx n m p pl kn nu) gi gl sh) := by
  intro m
  induction m with
  | zero =>
    intro g p pl kn nu hP hok tf hp hm l1
    have e7 : g 190 7 = n := by rw [tf.2 7 (by decide) (by decide)]; exact hn
    have e12 := hP.1
    refine g_aload_n dX9_faultAt_17 rfl ?_
    refine g_getI 12 dX9_faultAt_18 flX9_96 rfl hM.o ?_
    refine g_aload_n dX9_faultAt_21 rfl ?_
    refine g_getI 7 dX9_faultAt_22 flX9_99 rfl hM.o ?_
    refine g_icmp_ge 45 dX9_faultAt_25 (by decide) (fun h25 => ?_) (fun h25 => ?_)
    · skip
      refine g_bipush dX9_faultAt_45 (by decide) (by decide) ?_
      refine g_ireturn dX9_faultAt_47 rfl ?_
      exact ⟨rfl, rfl, rfl, tf, fun _ => ⟨p, hP⟩⟩
    · exfalso; omega
  | succ m ih =>
    intro g p pl kn nu hP hok tf hp hm l1
    have e7 : g 190 7 = n := by rw [tf.2 7 (by decide) (by decide)]; exact hn
    have e5 : g 195 = tx := by rw [tf.1 195 (by decide) (by decide) (by decide) (by decide)]; exact hx
    have e12 := hP.1
    refine g_aload_n dX9_faultAt_17 rfl ?_
    refine g_getI 12 dX9_faultAt_18 flX9_96 rfl hM.o ?_
    refine g_aload_n dX9_faultAt_21 rfl ?_
    refine g_getI 7 dX9_faultAt_22 flX9_99 rfl hM.o ?_
    refine g_icmp_ge 45 dX9_faultAt_25 (by decide) (fun h25 => ?_) (fun h25 => ?_)
    · skip
      have ep : t_parse tx n (m + 1) p pl kn nu = (-4, pl, kn, nu) := by unfold t_parse; rw [if_neg (by omega)]
      refine g_bipush dX9_faultAt_45 (by decide) (by decide) ?_
      refine g_ireturn dX9_faultAt_47 rfl ?_
      rw [ep]
      exact ⟨rfl, rfl, rfl, tf, fun _ => ⟨p, hP⟩⟩
    · skip
      refine g_aload_n dX9_faultAt_28 rfl ?_
      refine g_getI 12 dX9_faultAt_29 flX9_96 rfl hM.o ?_
      refine n_istore_n (lN := [_, _]) dX9_faultAt_32 (by decide) rfl ?_
      refine g_aload_n dX9_faultAt_33 rfl ?_
      refine g_callV_i [] dX9_faultAt_34 mlX9_131 mvX9_isItem (by decide) hM.o (by decide) rfl rfl (Nat.le_of_ble_eq_true rfl) rfl (Nat.le_of_ble_eq_true rfl) (m_isItem (tx := tx) (n := n) (p := p) hM e5 e7 hP (by omega) hn0 hok.2.2.2.2.2.2.2.1) (fun _ _ _ _ q => q.elim fun z q => ⟨z, q.1⟩) (fun zi g1 l1 s1 c u1 u2 => ?_)
      obtain ⟨z9, c9, rfl, rfl, tf2, chh⟩ := c
      cases c9
      refine g_if_ne 42 dX9_faultAt_37 (by decide) (fun h37 => ?_) (fun h37 => ?_)
      · skip
        rcases chh with chh | ⟨-, p', pl', kn', nu', hi, hP'⟩
        · omega
        refine g_goto 17 dX9_faultAt_42 (by decide) ?_
        have ep : t_parse tx n (m + 1) p pl kn nu = t_parse tx n m p' pl' kn' nu' := by
          conv => lhs; unfold t_parse
          rw [if_pos (by omega), hi]
        rw [ep]
        obtain ⟨i1, i2, i3⟩ := t_item_ok hi
        exact ih g1 p' pl' kn' nu' hP' (i3 hok) (tf.tr tf2) (by omega) (by omega) _
      · skip
        refine g_iload_n dX9_faultAt_40 rfl ?_
        refine g_ireturn dX9_faultAt_41 rfl ?_
        rcases chh with chh | chh
        · have ep : t_parse tx n (m + 1) p pl kn nu = (p, pl, kn, nu) := by unfold t_parse; rw [if_pos (by omega), chh.2]
          rw [ep]
          exact ⟨by rw [e12], rfl, rfl, tf.tr tf2, fun w => by have w2 : p = -4 := w; omega⟩
        · omega
theorem PM.start (r kn nu : gRw) (g : gF) : PM (g_up (g_up (m_pl0 g 196) 190 9 0) 190 12 0) 0 (t_pl0 r) kn nu := by
  refine ⟨g_up_at, ?_, ?_, fun k k0 k1 => ?_⟩
  · rw [g_up_ne (by decide), g_up_at]; simp [t_pl0, r_up]
  · unfold m_pl0 t_pl0
    simp only [g_up_row, g_up_r, r_up_at, r_up_ne, ne_eq, Int.reduceEq, not_false_eq_true]
    apply k7 <;> simp only [r_up, Int.reduceAdd, Int.reduceEq, if_true, if_false]
  · have : k < 0 := by simpa [t_pl0, r_up] using k1
    omega
theorem TF.start {g : gF} : TF g (g_up (g_up (m_pl0 g 196) 190 9 0) 190 12 0) := by
  unfold m_pl0
  exact ((((((((TF.rf.up (by omega)).up (by omega)).up (by omega)).up (by omega)).up (by omega)).up (by omega)).up (by omega)).up (by omega)).up (by omega)

set_option maxRecDepth 20000 in
set_option maxHeartbeats 1000000 in
theorem m_faultAt (hM : isMd sh) (hx : gi 195 = tx) (hn : gi 190 7 = n) (hn0 : 0 ≤ n ∧ n ≤ 200) (r0 kn nu : gRw) : Ct mdX9_faultAt 0 0 [vR 190] gi gl sh (FQ (t_parse tx n 200 0 (t_pl0 r0) kn nu) gi gl sh) := by
  show Go mdX9_faultAt 0 0 0 [some (vR 190), none] [] gi gl sh _
  refine g_aload_n dX9_faultAt_0 rfl ?_
  refine g_getR 8 dX9_faultAt_1 flX9_26 rfl hM.o hM.r8 ?_
  refine g_cSv [_] dX9_faultAt_4 mlX9_84 msX9_plans (by decide) rfl rfl (Nat.le_of_ble_eq_true rfl) rfl (Nat.le_of_ble_eq_true rfl) (m_plans 196 hM.k196 hM.l196) ?_
  refine g_aload_n dX9_faultAt_7 rfl ?_
  refine g_iconst dX9_faultAt_8 (by decide) ?_
  refine g_putI 9 dX9_faultAt_9 flX9_122 rfl hM.o ?_
  refine g_aload_n dX9_faultAt_12 rfl ?_
  refine g_iconst dX9_faultAt_13 (by decide) ?_
  refine g_putI 12 dX9_faultAt_14 flX9_96 rfl hM.o ?_
  exact l_fault hM hx hn hn0.2 200 _ 0 _ _ _ (PM.start r0 kn nu gi) (t_pl0_ok _ _ _) TF.start (by omega) (by omega) none

set_option maxRecDepth 20000 in
set_option maxHeartbeats 1000000 in
theorem m_fault (hM : isMd sh) (hx : gi 195 = tx) (hn : gi 190 7 = n) (hn0 : 0 ≤ n ∧ n ≤ 200) (r0 kn nu : gRw) : Ct mdX9_fault 0 0 [vR 190] gi gl sh (FQ (t_parse tx n 200 0 (t_pl0 r0) kn nu) gi gl sh) := by
  show Go mdX9_fault 0 0 0 [some (vR 190)] [] gi gl sh _
  refine g_aload_n dX9_fault_0 rfl ?_
  refine g_callV_i [] dX9_fault_1 mlX9_138 mvX9_faultAt (by decide) hM.o (by decide) rfl rfl (Nat.le_of_ble_eq_true rfl) rfl (Nat.le_of_ble_eq_true rfl) (m_faultAt hM hx hn hn0 r0 kn nu) (fun _ _ _ _ q => ⟨_, q.1⟩) (fun x g1 l1 s1 c u1 u2 => ?_)
  refine g_ireturn dX9_fault_4 rfl ?_
  exact c

end MD4
