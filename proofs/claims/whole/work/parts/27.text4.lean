/-- a plan as the document has it -/
def pl_ok (pl kn nu : gRw) : Prop := (4 ≤ pl 3 ∧ pl 3 ≤ 16) ∧ (1 ≤ pl 4 ∧ pl 3 % pl 4 = 0) ∧ (0 ≤ pl 5 ∧ pl 5 ≤ 20) ∧ (0 ≤ pl 6 ∧ pl 6 ≤ 5) ∧ (0 ≤ pl 7 ∧ pl 7 ≤ 5) ∧ (1 ≤ pl 8 ∧ pl 8 ≤ 9) ∧ (0 ≤ pl 9 ∧ pl 9 ≤ 9) ∧ (0 ≤ pl 2 ∧ pl 2 ≤ 4) ∧ ∀ k : Int, 0 ≤ k → k < pl 2 → (0 ≤ kn k ∧ kn k ≤ 3) ∧ (1 ≤ nu k ∧ nu k ≤ 99)
theorem t_pl0_ok (r kn nu : gRw) : pl_ok (t_pl0 r) kn nu := by
  refine ⟨?_, ?_, ?_, ?_, ?_, ?_, ?_, ?_, fun k h0 h1 => ?_⟩
  all_goals simp only [t_pl0, r_up_at, r_up_ne, ne_eq, Int.reduceEq, not_false_eq_true] at *
  all_goals first | omega | decide
theorem t_item_ok {tx : gRw} {n p p' : Int} {pl kn nu pl' kn' nu' : gRw} (h : t_item tx n p pl kn nu = some (p', pl', kn', nu')) : p + 2 ≤ p' ∧ p' ≤ n ∧ (pl_ok pl kn nu → pl_ok pl' kn' nu') := by
  unfold t_item at h
  split at h
  · obtain ⟨a1, e1, h⟩ := Option.bind_eq_some_iff.mp h
    obtain ⟨a2, e2, h⟩ := Option.bind_eq_some_iff.mp h
    obtain ⟨a3, e3, h⟩ := Option.bind_eq_some_iff.mp h
    obtain ⟨a4, e4, h⟩ := Option.bind_eq_some_iff.mp h
    obtain ⟨a5, e5, h⟩ := Option.bind_eq_some_iff.mp h
    have f1 := t_num_b e1
    have f2 := t_num_b e2
    have f3 := t_num_b e3
    have f4 := t_num_b e4
    have f5 := t_num_b e5
    have g5 := t_num_n e5 (by decide)
    split at h
    · rename_i hg
      cases h
      refine ⟨by omega, by omega, fun hp => ?_⟩
      obtain ⟨q1, q2, q3, q4, q5, q6, q7, q8, q9⟩ := hp
      obtain ⟨w1, w2, w3, w4, w5⟩ := hg
      refine ⟨?_, ?_, ?_, ?_, ?_, ?_, ?_, ?_, fun k h0 h1 => ?_⟩
      all_goals simp only [r_up_at, r_up_ne, ne_eq, Int.reduceEq, not_false_eq_true] at *
      all_goals first | assumption | exact q9 k h0 h1
    · cases h
  · split at h
    · obtain ⟨a1, e1, h⟩ := Option.bind_eq_some_iff.mp h
      obtain ⟨a2, e2, h⟩ := Option.bind_eq_some_iff.mp h
      have f1 := t_num_b e1
      have f2 := t_num_b e2
      have g5 := t_num_n e2 (by decide)
      split at h
      · rename_i hg
        cases h
        refine ⟨by omega, by omega, fun hp => ?_⟩
        obtain ⟨q1, q2, q3, q4, q5, q6, q7, q8, q9⟩ := hp
        obtain ⟨w1, w2, w3⟩ := hg
        refine ⟨?_, ?_, ?_, ?_, ?_, ?_, ?_, ?_, fun k h0 h1 => ?_⟩
        all_goals simp only [r_up_at, r_up_ne, ne_eq, Int.reduceEq, not_false_eq_true] at *
        all_goals first | assumption | omega | skip
        by_cases hk : k = pl 2
        · subst hk; simp only [r_up_at]; exact ⟨w2, w3⟩
        · simp only [r_up_ne hk]; exact q9 k h0 (by omega)
      · cases h
    · split at h
      · obtain ⟨a1, e1, h⟩ := Option.bind_eq_some_iff.mp h
        have f1 := t_num_b e1
        have g5 := t_num_n e1 (by decide)
        split at h
        · rename_i hg
          cases h
          refine ⟨by omega, by omega, fun hp => ?_⟩
          obtain ⟨q1, q2, q3, q4, q5, q6, q7, q8, q9⟩ := hp
          refine ⟨?_, ?_, ?_, ?_, ?_, ?_, ?_, ?_, fun k h0 h1 => ?_⟩
          all_goals simp only [r_up_at, r_up_ne, ne_eq, Int.reduceEq, not_false_eq_true] at *
          all_goals first | assumption | exact q9 k h0 h1
        · cases h
      · split at h
        · obtain ⟨a1, e1, h⟩ := Option.bind_eq_some_iff.mp h
          have f1 := t_num_b e1
          have g5 := t_num_n e1 (by decide)
          split at h
          · rename_i hg
            cases h
            refine ⟨by omega, by omega, fun hp => ?_⟩
            obtain ⟨q1, q2, q3, q4, q5, q6, q7, q8, q9⟩ := hp
            refine ⟨?_, ?_, ?_, ?_, ?_, ?_, ?_, ?_, fun k h0 h1 => ?_⟩
            all_goals simp only [r_up_at, r_up_ne, ne_eq, Int.reduceEq, not_false_eq_true] at *
            all_goals first | assumption | exact q9 k h0 h1
          · cases h
        · cases h
theorem t_parse_ok {tx : gRw} {n : Int} : ∀ (m : Nat) (p : Int) (pl kn nu : gRw), pl_ok pl kn nu → pl_ok (t_parse tx n m p pl kn nu).2.1 (t_parse tx n m p pl kn nu).2.2.1 (t_parse tx n m p pl kn nu).2.2.2 := by
  intro m
  induction m with
  | zero => intro p pl kn nu h; exact h
  | succ m ih =>
    intro p pl kn nu h
    unfold t_parse
    split
    · split
      · exact h
      · rename_i q hq
        exact ih _ _ _ _ ((t_item_ok hq).2.2 h)
    · exact h
/-- what reading leaves: the answer and the plan are res; nothing else but the text's own places -/
def t_rR (res : Int × gRw × gRw × gRw) (g0 gl : gF) (sh : gSh) (a : Int) : gQ := fun r gi' gl' sh' => gl' = gl ∧ sh' = sh ∧ (∀ b : Int, b ≠ 1 → b ≠ 3 → b ≠ a → b ≠ a + 1 → b ≠ a + 2 → gi' b = g0 b) ∧ gi' 1 2 = g0 1 2 ∧ r = some (vI res.1) ∧ gi' a = res.2.1 ∧ gi' (a + 1) = res.2.2.1 ∧ gi' (a + 2) = res.2.2.2
section TEXT4
variable {gl : gF} {sh : gSh} {a : Int}
theorem t_rI_i {tx : gRw} {n p a : Int} {gi gl0 : gF} {sh0 : gSh} : ∀ r gi' gl' sh', t_rI tx n p gi gl0 sh0 a r gi' gl' sh' → ∃ x, r = some (vI x) := by
  intro r gi' gl' sh' q
  rcases q.2.2.2.2 with q | ⟨_, _, _, _, -, q, -⟩
  · exact ⟨0, q.2.1⟩
  · exact ⟨1, q⟩
set_option maxRecDepth 20000 in
set_option maxHeartbeats 1000000 in
theorem l_readInto (hV : isText sh) (hP : isPlan sh a) (ha : 100 ≤ a) (tx : gRw) (n : Int) (g0 : gF) (hx : g0 2 = tx) (hn : g0 1 2 = n) (hn2 : n ≤ 200) (ht : t_tx tx n) (res : Int × gRw × gRw × gRw) :
    ∀ (m : Nat) (gi : gF) (p items : Int), gi 1 3 = p → (0 ≤ p ∧ p ≤ 200) → items = 200 - m ∧ 0 ≤ items → t_parse tx n m p (gi a) (gi (a + 1)) (gi (a + 2)) = res → (∀ b : Int, b ≠ 1 → b ≠ 3 → b ≠ a → b ≠ a + 1 → b ≠ a + 2 → gi b = g0 b) → gi 1 2 = g0 1 2 → pl_ok (gi a) (gi (a + 1)) (gi (a + 2)) → ∀ l3 : Option gV,
      Go mdX5_readInto 0 0 11 [some (vR 1), some (vR a), some (vI items), l3] [] gi gl sh (t_rR res g0 gl sh a) := by
  obtain ⟨k0, r0, r1, k1, l1, k2, l2⟩ := id hV
  intro m
  induction m with
  | zero =>
    intro gi p items hp hp0 hi hR hfr hl hok l3
    refine g_iload_n dX5_readInto_11 rfl ?_
    refine g_sipush dX5_readInto_12 (by decide) (by decide) ?_
    refine g_icmp_ge 50 dX5_readInto_15 (by decide) (fun h15 => ?_) (fun h15 => ?_)
    · skip
      refine g_bipush dX5_readInto_50 (by decide) (by decide) ?_
      refine g_ireturn dX5_readInto_52 rfl ?_
      rw [← hR]
      exact ⟨rfl, rfl, hfr, hl, rfl, rfl, rfl, rfl⟩
    · exfalso; omega
  | succ m ih =>
    intro gi p items hp hp0 hi hR hfr hl hok l3
    have hl' : gi 1 2 = n := hl.trans hn
    refine g_iload_n dX5_readInto_11 rfl ?_
    refine g_sipush dX5_readInto_12 (by decide) (by decide) ?_
    refine g_icmp_ge 50 dX5_readInto_15 (by decide) (fun h15 => ?_) (fun h15 => ?_)
    · exfalso; omega
    · skip
      refine g_aload_n dX5_readInto_18 rfl ?_
      refine g_getI 3 dX5_readInto_19 flX5_28 rfl (by assumption) ?_
      refine g_aload_n dX5_readInto_22 rfl ?_
      refine g_getI 2 dX5_readInto_23 flX5_19 rfl (by assumption) ?_
      refine g_icmp_ge 50 dX5_readInto_26 (by decide) (fun h26 => ?_) (fun h26 => ?_)
      · skip
        refine g_bipush dX5_readInto_50 (by decide) (by decide) ?_
        refine g_ireturn dX5_readInto_52 rfl ?_
        have hres : t_parse tx n (m + 1) p (gi a) (gi (a + 1)) (gi (a + 2)) = (-4, gi a, gi (a + 1), gi (a + 2)) := by rw [t_parse, if_neg (by omega)]
        rw [hres] at hR
        rw [← hR]
        exact ⟨rfl, rfl, hfr, hl, rfl, rfl, rfl, rfl⟩
      · skip
        refine g_aload_n dX5_readInto_29 rfl ?_
        refine g_getI 3 dX5_readInto_30 flX5_28 rfl (by assumption) ?_
        refine n_istore_n (lN := [_, _, _, _]) dX5_readInto_33 (by decide) rfl ?_
        refine g_aload_n dX5_readInto_34 rfl ?_
        refine g_aload_n dX5_readInto_35 rfl ?_
        refine g_callV_i [_] dX5_readInto_36 mlX5_31 mvX5_readItem (by decide) (by assumption) (by decide) rfl rfl (Nat.le_of_ble_eq_true rfl) rfl (Nat.le_of_ble_eq_true rfl) (c_readItem hV tx n p (by rw [hfr 2 (by decide) (by decide) (by omega) (by omega) (by omega)]; exact hx) (by rw [hl]; exact hn) hp (by omega) hn2 ht hP ha hok.2.2.2.2.2.2.2.1.1) t_rI_i (fun z g1 l1 s1 hq hw1 hw2 => ?_)
        obtain ⟨rfl, rfl, f1, f2, f3⟩ := hq
        refine g_if_ne 44 dX5_readInto_39 (by decide) (fun h39 => ?_) (fun h39 => ?_)
        · skip
          refine n_iinc (lN := [_, _, _, _]) dX5_readInto_44 rfl (by decide) (by omega) (by omega) rfl ?_
          refine g_goto 11 dX5_readInto_47 (by decide) ?_
          rcases f3 with ⟨e1, e2, e3, e4, e5⟩ | ⟨p', pl, kn, nu, e1, e2, e3, e4, e5, e6⟩
          · cases e2; exact absurd rfl h39
          · have hi := t_item_ok e1
            have hres : t_parse tx n (m + 1) p (gi a) (gi (a + 1)) (gi (a + 2)) = t_parse tx n m p' pl kn nu := by rw [t_parse, if_pos (by omega), e1]
            refine ih g1 p' (items + 1) e3 (by omega) (by omega) (by rw [e4, e5, e6, ← hres]; exact hR) (fun b z1 z3 za zb zc => (f1 b z1 z3 za zb zc).trans (hfr b z1 z3 za zb zc)) (f2.trans hl) (by rw [e4, e5, e6]; exact hi.2.2 hok) _
        · skip
          refine g_iload_n dX5_readInto_42 rfl ?_
          refine g_ireturn dX5_readInto_43 rfl ?_
          rcases f3 with ⟨e1, e2, e3, e4, e5⟩ | ⟨p', pl, kn, nu, e1, e2, e3⟩
          · have hres : t_parse tx n (m + 1) p (gi a) (gi (a + 1)) (gi (a + 2)) = (p, gi a, gi (a + 1), gi (a + 2)) := by rw [t_parse, if_pos (by omega), e1]
            rw [hres] at hR
            rw [← hR]
            exact ⟨rfl, rfl, fun b z1 z3 za zb zc => (f1 b z1 z3 za zb zc).trans (hfr b z1 z3 za zb zc), f2.trans hl, by rw [hp], e3, e4, e5⟩
          · cases e2; exact absurd (by decide) h39
set_option maxRecDepth 20000 in
theorem c_readInto {gi : gF} (hV : isText sh) (hP : isPlan sh a) (ha : 100 ≤ a) (tx : gRw) (n : Int) (hx : gi 2 = tx) (hn : gi 1 2 = n) (hn2 : n ≤ 200) (ht : t_tx tx n) : Ct mdX5_readInto 0 0 [vR 1, vR a] gi gl sh (t_rR (t_parse tx n 200 0 (t_pl0 (gi a)) (gi (a + 1)) (gi (a + 2))) gi gl sh a) := by
  show Go mdX5_readInto 0 0 0 [some (vR 1), some (vR a), none, none] [] gi gl sh _
  obtain ⟨k0, r0, r1, k1, l1, k2, l2⟩ := id hV
  refine g_aload_n dX5_readInto_0 rfl ?_
  refine g_cVv [] dX5_readInto_1 mlX5_23 mvX3_reset (by decide) (by exact hP.1) (by decide) rfl rfl (Nat.le_of_ble_eq_true rfl) rfl (Nat.le_of_ble_eq_true rfl) (c_reset hP.1) ?_
  refine g_aload_n dX5_readInto_4 rfl ?_
  refine g_iconst dX5_readInto_5 (by decide) ?_
  refine g_putI 3 dX5_readInto_6 flX5_28 rfl (by assumption) ?_
  refine g_iconst dX5_readInto_9 (by decide) ?_
  refine n_istore_n (lN := [_, _, _, _]) dX5_readInto_10 (by decide) rfl ?_
  refine l_readInto hV hP ha tx n gi hx hn hn2 ht _ 200 (g_up (pn_reset gi a) 1 3 0) 0 0 g_up_at (by omega) ⟨by decide, by decide⟩ ?_ (fun b z1 z3 za zb zc => ?_) ?_ ?_ none
  · simp only [g_up_row (show a ≠ 1 by omega), g_up_row (show a + 1 ≠ 1 by omega), g_up_row (show a + 2 ≠ 1 by omega), pn_reset, g_up_row (show a + 1 ≠ a by omega), g_up_row (show a + 2 ≠ a by omega), g_up_r]
    rfl
  · simp only [g_up_row z1, pn_reset, g_up_row za]
  · simp only [g_up_ne (show (2 : Int) ≠ 3 by decide), pn_reset, g_up_row (show (1 : Int) ≠ a by omega)]
  · simp only [g_up_row (show a ≠ 1 by omega), g_up_row (show a + 1 ≠ 1 by omega), g_up_row (show a + 2 ≠ 1 by omega), pn_reset, g_up_row (show a + 1 ≠ a by omega), g_up_row (show a + 2 ≠ a by omega), g_up_r]
    exact t_pl0_ok _ _ _
end TEXT4
