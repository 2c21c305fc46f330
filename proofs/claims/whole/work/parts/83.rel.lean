/-! component and model side by side -/
def stR (row : gRw) (s : Int × gRw × gRw) (R : Int) : Prop := row 0 = s.1 ∧ (∀ t : Int, 0 ≤ t → t < s.1 → row (1 + t) = s.2.1 t) ∧ ∀ k : Int, 0 ≤ k → k < R → row (61 + k) = s.2.2 k
theorem stR.eq {row : gRw} {s s' : Int × gRw × gRw} {R : Int} (h : stR row s R) (e : stEq s' s) (h60 : s.1 ≤ 60) (h4 : R ≤ 4) : stR row s' R := by
  obtain ⟨h1, h2, h3⟩ := h
  obtain ⟨e1, e2, e3⟩ := e
  exact ⟨by rw [h1, e1], fun t t0 t1 => by rw [h2 t t0 (by omega), e2 t t0 (by omega)], fun k k0 k1 => by rw [h3 k k0 k1, e3 k k0 (by omega)]⟩
theorem stR.row {row row' : gRw} {s : Int × gRw × gRw} {R : Int} (h : stR row s R) (e : ∀ k : Int, 0 ≤ k → k < 65 → row' k = row k) (h0 : 0 ≤ s.1 ∧ s.1 ≤ 60) (h4 : R ≤ 4) : stR row' s R :=
  ⟨by rw [e 0 (by decide) (by decide)]; exact h.1, fun t t0 t1 => by rw [e (1 + t) (by omega) (by omega)]; exact h.2.1 t t0 t1, fun k k0 k1 => by rw [e (61 + k) (by omega) (by omega)]; exact h.2.2 k k0 k1⟩
def RS (gi gl : gF) (la : Int) : Prop := MP gi (gi la) (gi (la + 1)) ∧ stR (gl 193) (gi 4 2, gl 5, gi 6) (gi la 2) ∧ gi 190 5 = gi 7 1 ∧ ∀ u : Int, 1 ≤ u → u ≤ gi 7 1 → stR (fun k => gl 194 (65 * (gi 7 1 - u) + k)) (pst gi gl u) (gi la 2)
def RT (gi : gF) : Prop := gi 190 7 = gi 1 2 ∧ ∀ i : Int, 0 ≤ i → i < gi 1 2 → gi 195 i = gi 2 i
def LI (gi gl : gF) (sh : gSh) (la oa : Int) : Prop := CI gi gl sh la oa ∧ isMd sh ∧ RT gi ∧ RS gi gl la
theorem RS.fr {gi g' gl : gF} {la : Int} (h : RS gi gl la) (e : ∀ b : Int, (4 ≤ b ∧ b < 27) ∨ b = la ∨ b = la + 1 ∨ b = 191 ∨ b = 192 → g' b = gi b) (e1 : g' 190 1 = gi 190 1) (e5 : g' 190 5 = gi 190 5) : RS g' gl la := by
  obtain ⟨h1, h2, h3, h4⟩ := h
  have ep : ∀ u, pst g' gl u = pst gi gl u := fun u => by
    have hm : 0 ≤ (gi 7 2 - u) % 6 ∧ (gi 7 2 - u) % 6 < 6 := by omega
    unfold pst hsp
    rw [e 7 (by omega), e (9 + 3 * ((gi 7 2 - u) % 6)) (by omega), e (9 + 3 * ((gi 7 2 - u) % 6) + 2) (by omega)]
  unfold RS
  rw [e la (by omega), e (la + 1) (by omega), e 4 (by omega), e 6 (by omega), e 7 (by omega), e5]
  refine ⟨h1.fr e1 (e 191 (by omega)) (e 192 (by omega)), h2, h3, fun u u0 u1 => ?_⟩
  rw [ep]
  exact h4 u u0 u1
theorem CI.hi {gi g' gl : gF} {sh : gSh} {la oa : Int} (h : CI gi gl sh la oa) (e : ∀ b : Int, b < 190 → g' b = gi b) : CI g' gl sh la oa := by
  have hla := h.1.1.1.2.2.2.2.2.2.2.2.2.2
  refine h.keep (fun b hb => e b (by omega)) ?_
  have := h.1.2.1
  unfold CT0 at this ⊢
  rw [e 1 (by decide), e 2 (by decide)]
  exact this
theorem LI.fa {gi g' gl : gF} {sh : gSh} {la oa : Int} (h : LI gi gl sh la oa) (f : FA gi g') : LI g' gl sh la oa := by
  obtain ⟨hc, hM, ht, hr⟩ := h
  have hla := hc.1.1.1.2.2.2.2.2.2.2.2.2.2
  refine ⟨hc.hi (fun b hb => f.1 b (by omega)), hM, ?_, hr.fr (fun b hb => f.1 b (by omega)) (f.2 1 (by decide)) (f.2 5 (by decide))⟩
  unfold RT
  rw [f.2 7 (by decide), f.1 1 (by omega), f.1 195 (by omega), f.1 2 (by omega)]
  exact ht
theorem LI.mn {gi gl : gF} {sh : gSh} {la oa : Int} (h : LI gi gl sh la oa) : MN gi gl (gi la) (gi (la + 1)) (gi 4 2) (gl 5) (gi 6) := by
  obtain ⟨hc, hM, ht, hr⟩ := h
  have hs := hc.1.2.2.1
  exact ⟨hr.1, hs.1, hr.2.1.1, hs.2.1, fun t t0 t1 => ⟨hr.2.1.2.1 t t0 t1, (hs.2.2.1 t t0 t1).1⟩, hr.2.1.2.2⟩
theorem LI.fs {gi gl : gF} {sh : gSh} {la oa : Int} (h : LI gi gl sh la oa) : FS (clo (gi la 3) (gl 5)) (gi la 8) (gi 4 2) (fvS gi oa) (fvE gi) (gi 27 4) := h.1.1.2.2.2.2
/-! the verdict's rows are the judgement's -/
theorem CI.vd {gi gl : gF} {sh : gSh} {la oa : Int} (hc : CI gi gl sh la oa) : (∀ b : Int, 0 ≤ b → b < gi 27 4 → gi (79 + 1) b = v_rule (gi la) (gi (la + 1)) (gi 6) (fvE gi b) ∧ gi (79 + 2) b = jb (fvE gi) (gi la) (gi (la + 1)) (gi 6) (gi 27 4).toNat b) ∧ ∀ j : Int, 0 ≤ j → j < 16 → gi (79 + 4 + 3 * j) 2 = (jv (fvE gi) (gi la) (gi (la + 1)) (gi 6) (gi 27 4).toNat).2.1 j ∧ 0 ≤ gi (79 + 4 + 3 * j) 2 ∧ ∀ k : Int, 0 ≤ k → k < gi (79 + 4 + 3 * j) 2 → gi (79 + 4 + 3 * j + 1) k = (jv (fvE gi) (gi la) (gi (la + 1)) (gi 6) (gi 27 4).toNat).2.2.1 j k ∧ gi (79 + 4 + 3 * j + 2) k = (jv (fvE gi) (gi la) (gi (la + 1)) (gi 6) (gi 27 4).toNat).2.2.2 j k := by
  obtain ⟨⟨hs, hct, hcs, hch, hcf⟩, hvd⟩ := hc
  have hbk : ∀ b : Int, 0 ≤ b → b < ((gi 27 4).toNat : Int) → v_bok (gi la) (fvE gi b) := fun b b0 b1 => hcf.bok (clo_b _ _) hcs.2.1 _ b b0 (by omega)
  obtain ⟨i1, i2⟩ := jv_iv (kn := gi (la + 1)) (nu := gi 6) hcs.1.p (gi 27 4).toNat (hcf.jh hcs.2.1).2 hbk
  refine ⟨fun b b0 b1 => ⟨by rw [(hvd.1 b b0 b1).1]; exact i1 b b0 (by omega), (hvd.1 b b0 b1).2⟩, fun j j0 j1 => ?_⟩
  obtain ⟨a, b⟩ := hvd.2 j j0 j1
  exact ⟨a, by rw [a]; exact (i2 j j0 j1).1, fun k k0 k1 => b k k0 (by omega)⟩
section ANS
variable {gi gl : gF} {sh : gSh} {la oa : Int}
theorem bo_eq (hc : CI gi gl sh la oa) (b w : Int) : bo_ans gi la b w = pb_ans (fvE gi) (gi la) (gi (la + 1)) (gi 6) (gi 27 4) b w := by
  unfold bo_ans pb_ans
  by_cases hb : 0 ≤ b ∧ b < gi 27 4
  · obtain ⟨e1, e2⟩ := hc.vd.1 b hb.1 hb.2
    rw [if_neg (fun v => v hb), e1, e2]
    by_cases hw : 0 ≤ w ∧ w ≤ 9
    · refine Eq.trans ?_ (if_pos ⟨hb, hw⟩).symm
      unfold tb_ans
      rcases (show w = 0 ∨ w = 1 ∨ w = 2 ∨ w = 3 ∨ w = 4 ∨ w = 5 ∨ w = 6 ∨ w = 7 ∨ w = 8 ∨ w = 9 by omega) with rfl | rfl | rfl | rfl | rfl | rfl | rfl | rfl | rfl | rfl <;> (simp only [Int.reduceEq, if_false, if_true]; try rfl)
    · refine Eq.trans ?_ (if_neg (fun v => hw v.2)).symm
      rw [if_neg (by omega), if_neg (by omega), if_neg (by omega), if_neg (by omega), if_neg (by omega), if_neg (by omega), if_neg (by omega), if_neg (by omega), if_neg (by omega), if_neg (by omega)]
  · rw [if_pos hb, if_neg (fun v => hb v.1)]
theorem op_eq (hc : CI gi gl sh la oa) (j k w : Int) : op_ans gi la j k w = pp_ans (gi la) (jv (fvE gi) (gi la) (gi (la + 1)) (gi 6) (gi 27 4).toNat).2 j k w := by
  have v4 := hc.1.2.2.1.1.v4
  unfold op_ans pp_ans
  by_cases hg : ¬ (0 ≤ j ∧ j < gi la 4) ∨ k < -1 ∨ w < 0 ∨ 1 < w
  · rw [if_pos hg, if_pos hg]
  · rw [if_neg hg, if_neg hg]
    have hj : 0 ≤ j ∧ j < gi la 4 := Classical.byContradiction (fun v => hg (Or.inl v))
    obtain ⟨e1, e0, e2⟩ := hc.vd.2 j hj.1 (by omega)
    by_cases h1 : k = -1
    · rw [if_pos h1, if_pos h1, e1]
    · rw [if_neg h1, if_neg h1]
      by_cases h2 : gi (79 + 4 + 3 * j) 2 ≤ k
      · rw [if_pos h2, if_pos (by omega)]
      · rw [if_neg h2, if_neg (show ¬ ((jv (fvE gi) (gi la) (gi (la + 1)) (gi 6) (gi 27 4).toNat).2.1 j ≤ k) by omega)]
        obtain ⟨a, b⟩ := e2 k (by omega) (by omega)
        rw [a, b]
theorem vl_sum_congr {fs ls fs' ls' : gRw} : ∀ n : Nat, (∀ k : Int, 0 ≤ k → k < n → fs k = fs' k ∧ ls k = ls' k) → vl_sum fs ls n = vl_sum fs' ls' n := by
  intro n
  induction n with
  | zero => intro _; rfl
  | succ n ih =>
    intro h
    unfold vl_sum
    rw [ih (fun k k0 k1 => h k k0 (by omega)), (h n (by omega) (by omega)).1, (h n (by omega) (by omega)).2]
theorem ai_eq (hc : CI gi gl sh la oa) (j : Int) : ai_ans gi la j = pa_ans (gi la) (jv (fvE gi) (gi la) (gi (la + 1)) (gi 6) (gi 27 4).toNat).2 j := by
  have v4 := hc.1.2.2.1.1.v4
  unfold ai_ans pa_ans
  by_cases hj : 0 ≤ j ∧ j < gi la 4
  · rw [if_pos hj, if_pos hj]
    obtain ⟨e1, e0, e2⟩ := hc.vd.2 j hj.1 (by omega)
    rw [← e1]
    exact vl_sum_congr _ (fun k k0 k1 => e2 k k0 (by omega))
  · rw [if_neg hj, if_neg hj]
theorem ga_eq (hc : CI gi gl sh la oa) : v_wsum (gi (79 + 2)) (fun b => gi (32 + b)) (gi 27 4).toNat = wv (fvE gi) (gi la) (gi (la + 1)) (gi 6) (gi 27 4).toNat := by
  unfold wv
  exact v_wsum_congr _ (fun b b0 b1 => (hc.vd.1 b b0 (by have := hc.1.2.2.2.2.2.2.2; omega)).2)
theorem v_csum_congr {pl bb bw bb' bw' : gRw} {er : Int → gRw} {w : Int} : ∀ n : Nat, (∀ b : Int, 0 ≤ b → b < n → bb b = bb' b ∧ bw b = bw' b) → v_csum pl bb bw er w n = v_csum pl bb' bw' er w n := by
  intro n
  induction n with
  | zero => intro _; rfl
  | succ n ih =>
    intro h
    unfold v_csum v_is
    rw [ih (fun b b0 b1 => h b b0 (by omega)), (h n (by omega) (by omega)).1, (h n (by omega) (by omega)).2]
theorem v_ksum_congr {bb bb' : gRw} {k : Int} : ∀ n : Nat, (∀ b : Int, 0 ≤ b → b < n → bb b = bb' b) → v_ksum bb k n = v_ksum bb' k n := by
  intro n
  induction n with
  | zero => intro _; rfl
  | succ n ih =>
    intro h
    unfold v_ksum
    rw [ih (fun b b0 b1 => h b b0 (by omega)), h n (by omega) (by omega)]
theorem co_eq (hc : CI gi gl sh la oa) (w : Int) : co_ans gi la w = pc_ans (fvE gi) (gi la) (gi (la + 1)) (gi 6) (gi 27 4) (gi 4 2) (gi 7 1) (gi 1 2) w := by
  have hec := hc.1.2.2.2.2.2.2.2
  unfold co_ans pc_ans
  rw [v_csum_congr (pl := gi la) (bb := gi (79 + 1)) (bw := gi (79 + 2)) (bb' := fun i => v_rule (gi la) (gi (la + 1)) (gi 6) (fvE gi i)) (bw' := jb (fvE gi) (gi la) (gi (la + 1)) (gi 6) (gi 27 4).toNat) (er := fun b => gi (32 + b)) (w := w) (gi 27 4).toNat (fun b b0 b1 => hc.vd.1 b b0 (by omega))]
  rfl
theorem to_eq (hc : CI gi gl sh la oa) (k w : Int) : to_ans gi la k w = pt_ans (fvE gi) (gi la) (gi (la + 1)) (gi 6) (gi 27 4) k w := by
  have hec := hc.1.2.2.2.2.2.2.2
  unfold to_ans pt_ans
  rw [v_ksum_congr (bb := gi (79 + 1)) (bb' := fun i => v_rule (gi la) (gi (la + 1)) (gi 6) (fvE gi i)) (k := k) (gi 27 4).toNat (fun b b0 b1 => (hc.vd.1 b b0 (by omega)).1)]
end ANS
/-! a text is what its letters are -/
theorem t_at_c {tx tx' : gRw} {n : Int} (h : ∀ i : Int, 0 ≤ i → i < n → tx i = tx' i) : t_at tx n = t_at tx' n := by
  funext p
  unfold t_at
  by_cases c : 0 ≤ p ∧ p < n
  · rw [if_pos c, if_pos c, h p c.1 c.2]
  · rw [if_neg c, if_neg c]
theorem t_num_c {tx tx' : gRw} {n : Int} (h : t_at tx n = t_at tx' n) : t_num tx n = t_num tx' n := by
  funext p ch
  unfold t_num
  rw [h]
theorem t_item_c {tx tx' : gRw} {n : Int} (h : t_at tx n = t_at tx' n) : t_item tx n = t_item tx' n := by
  funext p pl kn nu
  unfold t_item
  rw [h, t_num_c h]
theorem t_parse_c {tx tx' : gRw} {n : Int} (h : t_at tx n = t_at tx' n) : ∀ (m : Nat) (p : Int) (pl kn nu : gRw), t_parse tx n m p pl kn nu = t_parse tx' n m p pl kn nu := by
  intro m
  induction m with
  | zero => intro p pl kn nu; rfl
  | succ m ih =>
    intro p pl kn nu
    unfold t_parse
    rw [t_item_c h]
    by_cases c : p < n
    · rw [if_pos c, if_pos c]
      cases t_item tx' n p pl kn nu with
      | none => rfl
      | some q => exact ih _ _ _ _
    · rw [if_neg c, if_neg c]
/-! history, kept and given back -/
theorem RS.keep {gi gl gi' gl' gm : gF} {la oa T' : Int} {sh : gSh} {ln' nm' : gRw} (hc : CI gi gl sh la oa) (h : RS gi gl la) (kp : KP gi gl gi' gl') (ela : gi' la = gi la) (elb : gi' (la + 1) = gi (la + 1)) (hT : gi' 4 2 = T') (hl : gl' 5 = ln') (hnm : gi' 6 = nm') {gl2 : gF} (kl : KL gl' gm (gi 7 1)) (e193 : gl' 193 = gl 193) (e194 : gl' 194 = gl 194) (em : ∀ b : Int, b ≠ 193 → gl2 b = gm b) {g2 : gF} (eg : ∀ b : Int, b < 190 → g2 b = gi' b) (e1 : g2 190 1 = gi 190 1) (e191 : g2 191 = gi 191) (e192 : g2 192 = gi 192) (e5 : g2 190 5 = min (gi 7 1 + 1) 6) (hnow : stR (gl2 193) (T', ln', nm') (gi la 2)) : RS g2 gl2 la := by
  obtain ⟨h1, h2, h3, h4⟩ := h
  obtain ⟨k1, k2, k3, k4⟩ := kp
  obtain ⟨l1, l2, l3⟩ := kl
  have hla := hc.1.1.1.2.2.2.2.2.2.2.2.2.2
  have hcs := hc.1.2.2.1
  have hch := hc.1.2.2.2.1
  have hR := hcs.1.2.2.2.2.2.2.2.1
  have g5 : gl2 5 = gl' 5 := by rw [em 5 (by decide)]; exact l1 5 (by decide)
  have ep : ∀ u, pst g2 gl2 u = pst gi' gl' u := fun u => by
    have hm : 0 ≤ (gi' 7 2 - u) % 6 ∧ (gi' 7 2 - u) % 6 < 6 := by omega
    unfold pst hsp
    rw [eg 7 (by decide), eg (9 + 3 * ((gi' 7 2 - u) % 6)) (by omega), eg (9 + 3 * ((gi' 7 2 - u) % 6) + 2) (by omega), em (9 + 3 * ((gi' 7 2 - u) % 6) + 1) (by omega), l1 (9 + 3 * ((gi' 7 2 - u) % 6) + 1) (by omega)]
  unfold RS
  rw [eg la (by omega), eg (la + 1) (by omega), eg 4 (by decide), eg 6 (by decide), eg 7 (by decide), ela, elb, hT, hnm, g5, hl, k1, e5]
  refine ⟨h1.fr e1 e191 e192, hnow, rfl, fun u u0 u1 => ?_⟩
  rw [ep]
  by_cases c : u = 1
  · subst c
    refine (h2.eq k3 hcs.2.1.2 hR.2).row (fun k k0 k9 => ?_) ?_ hR.2
    · rw [em 194 (by decide), l2 k k0 k9, e193]
    · rw [k3.1]; exact hcs.2.1
  · have hu := h4 (u - 1) (by omega) (by omega)
    have hst := hch.2.2 (u - 1) (by omega) (by omega)
    have kk := k4 (u - 1) (by omega) (by omega)
    rw [show u - 1 + 1 = u by omega] at kk
    refine (hu.eq kk hst.2.1.2 hR.2).row (fun k k0 k9 => ?_) ?_ hR.2
    · have := l3 (u - 1) (by omega) (by omega) (by omega) k k0 k9
      rw [show u - 1 + 1 = u by omega, e194] at this
      rw [em 194 (by decide)]
      exact this
    · rw [kk.1]; exact hst.2.1
theorem RS.back {gi gl gi' gl' gl2 g2 : gF} {la oa : Int} {sh : gSh} (hc : CI gi gl sh la oa) (h : RS gi gl la) (bk : BK gi gl gi' gl') (h0 : gi 7 1 ≠ 0) (ela : gi' la = gi la) (elb : gi' (la + 1) = gi (la + 1)) (e194 : gl' 194 = gl 194) (em : ∀ b : Int, b ≠ 193 → gl2 b = gl' b) (er : ∀ i : Int, 0 ≤ i → i < 65 → gl2 193 i = gl' 194 (65 * (gi 7 1 - 1) + i)) (eg : ∀ b : Int, b < 190 → g2 b = gi' b) (e1 : g2 190 1 = gi 190 1) (e191 : g2 191 = gi 191) (e192 : g2 192 = gi 192) (e5 : g2 190 5 = gi 7 1 - 1) : RS g2 gl2 la := by
  obtain ⟨h1, h2, h3, h4⟩ := h
  obtain ⟨k1, k2, k3, k4⟩ := bk
  have hla := hc.1.1.1.2.2.2.2.2.2.2.2.2.2
  have hcs := hc.1.2.2.1
  have hch := hc.1.2.2.2.1
  have hR := hcs.1.2.2.2.2.2.2.2.1
  have hh := hch.1
  have ep : ∀ u, pst g2 gl2 u = pst gi' gl' u := fun u => by
    have hm : 0 ≤ (gi' 7 2 - u) % 6 ∧ (gi' 7 2 - u) % 6 < 6 := by omega
    unfold pst hsp
    rw [eg 7 (by decide), eg (9 + 3 * ((gi' 7 2 - u) % 6)) (by omega), eg (9 + 3 * ((gi' 7 2 - u) % 6) + 2) (by omega), em (9 + 3 * ((gi' 7 2 - u) % 6) + 1) (by omega)]
  unfold RS
  rw [eg la (by omega), eg (la + 1) (by omega), eg 4 (by decide), eg 6 (by decide), eg 7 (by decide), ela, elb, em 5 (by decide), k1, e5]
  refine ⟨h1.fr e1 e191 e192, ?_, rfl, fun u u0 u1 => ?_⟩
  · have hst := hch.2.2 1 (by omega) (by omega)
    refine ((h4 1 (by omega) (by omega)).eq k3 hst.2.1.2 hR.2).row (fun k k0 k9 => ?_) ?_ hR.2
    · rw [er k k0 k9, e194]
    · rw [k3.1]; exact hst.2.1
  · rw [ep]
    have hst := hch.2.2 (u + 1) (by omega) (by omega)
    have kk := k4 u (by omega) (by omega)
    refine ((h4 (u + 1) (by omega) (by omega)).eq kk hst.2.1.2 hR.2).row (fun k k0 k9 => ?_) ?_ hR.2
    · rw [em 194 (by decide), e194]
      show gl 194 (65 * (gi 7 1 - 1 - u) + k) = gl 194 (65 * (gi 7 1 - (u + 1)) + k)
      rw [show gi 7 1 - 1 - u = gi 7 1 - (u + 1) by omega]
    · rw [kk.1]; exact hst.2.1
