/-! THE TEXT, and how it is read: letters at 2, values at 3, length (1, 2), at (1, 3) -/
def isText (sh : gSh) : Prop := sh.2.1 1 = 5 ∧ sh.1 1 0 = some 2 ∧ sh.1 1 1 = some 3 ∧ sh.2.1 2 = 10 ∧ (sh.2.2.1 2 : Int) = 200 ∧ sh.2.1 3 = 11 ∧ (sh.2.2.1 3 : Int) = 5
def r_up (r : gRw) (k v : Int) : gRw := fun j => if j = k then v else r j
theorem g_up_r {gi : gF} {a k v : Int} : g_up gi a k v a = r_up (gi a) k v := by
  funext j; simp [g_up, r_up]
theorem r_up_at {r : gRw} {k v : Int} : r_up r k v k = v := by simp [r_up]
theorem r_up_ne {r : gRw} {k v j : Int} (h : j ≠ k) : r_up r k v j = r j := by simp [r_up, h]
def t_at (tx : gRw) (n p : Int) : Int := if 0 ≤ p ∧ p < n then tx p else 0
def t_tx (tx : gRw) (n : Int) : Prop := ∀ i : Int, 0 ≤ i → i < n → 32 ≤ tx i ∧ tx i ≤ 126
theorem t_at_b {tx : gRw} {n : Int} (h : t_tx tx n) (p : Int) : 0 ≤ t_at tx n p ∧ t_at tx n p ≤ 126 := by
  unfold t_at
  split
  · rename_i q; have := h p q.1 q.2; omega
  · omega
/-- a number of one or two figures with ch behind it: the number, and the place behind -/
def t_num (tx : gRw) (n p ch : Int) : Option (Int × Int) :=
  if 48 ≤ t_at tx n p ∧ t_at tx n p ≤ 57 then
    if 48 ≤ t_at tx n (p + 1) ∧ t_at tx n (p + 1) ≤ 57 then
      if t_at tx n (p + 2) = ch then some ((t_at tx n p - 48) * 10 + (t_at tx n (p + 1) - 48), p + 3) else none
    else if t_at tx n (p + 1) = ch then some (t_at tx n p - 48, p + 2) else none
  else none
/-- an item at p: the place behind it, the plan then -/
def t_item (tx : gRw) (n p : Int) (pl kn nu : gRw) : Option (Int × gRw × gRw × gRw) :=
  if t_at tx n p = 103 then
    (t_num tx n (p + 1) 44).bind fun a1 => (t_num tx n a1.2 44).bind fun a2 => (t_num tx n a2.2 44).bind fun a3 => (t_num tx n a3.2 44).bind fun a4 => (t_num tx n a4.2 59).bind fun a5 =>
      if (4 ≤ a1.1 ∧ a1.1 ≤ 16) ∧ (1 ≤ a2.1 ∧ a1.1 % a2.1 = 0) ∧ (0 ≤ a3.1 ∧ a3.1 ≤ 20) ∧ (0 ≤ a4.1 ∧ a4.1 ≤ 5) ∧ (0 ≤ a5.1 ∧ a5.1 ≤ 5) then some (a5.2, r_up (r_up (r_up (r_up (r_up pl 3 a1.1) 4 a2.1) 5 a3.1) 6 a4.1) 7 a5.1, kn, nu) else none
  else if t_at tx n p = 114 then
    (t_num tx n (p + 1) 44).bind fun a1 => (t_num tx n a1.2 59).bind fun a2 =>
      if pl 2 < 4 ∧ (0 ≤ a1.1 ∧ a1.1 ≤ 3) ∧ (1 ≤ a2.1 ∧ a2.1 ≤ 99) then some (a2.2, r_up pl 2 (pl 2 + 1), r_up kn (pl 2) a1.1, r_up nu (pl 2) a2.1) else none
  else if t_at tx n p = 100 then (t_num tx n (p + 1) 59).bind fun a1 => if 1 ≤ a1.1 ∧ a1.1 ≤ 9 then some (a1.2, r_up pl 8 a1.1, kn, nu) else none
  else if t_at tx n p = 113 then (t_num tx n (p + 1) 59).bind fun a1 => if 0 ≤ a1.1 ∧ a1.1 ≤ 9 then some (a1.2, r_up pl 9 a1.1, kn, nu) else none
  else none
def t_parse (tx : gRw) (n : Int) : Nat → Int → gRw → gRw → gRw → Int × gRw × gRw × gRw
  | 0, _, pl, kn, nu => (-4, pl, kn, nu)
  | m + 1, p, pl, kn, nu => if p < n then (match t_item tx n p pl kn nu with
      | none => (p, pl, kn, nu)
      | some q => t_parse tx n m q.1 q.2.1 q.2.2.1 q.2.2.2) else (-4, pl, kn, nu)
def t_pl0 (r : gRw) : gRw := r_up (r_up (r_up (r_up (r_up (r_up (r_up (r_up r 2 0) 3 8) 4 4) 5 6) 6 1) 7 1) 8 7) 9 2
theorem t_num_b {tx : gRw} {n p ch x q : Int} (h : t_num tx n p ch = some (x, q)) : 0 ≤ x ∧ x ≤ 99 ∧ p + 2 ≤ q ∧ q ≤ p + 3 := by
  unfold t_num at h
  split at h
  · split at h
    · split at h
      · cases h; omega
      · cases h
    · split at h
      · cases h; omega
      · cases h
  · cases h
theorem t_num_n {tx : gRw} {n p ch x q : Int} (h : t_num tx n p ch = some (x, q)) (hc : ch ≠ 0) : q ≤ n := by
  have ha : ∀ z : Int, t_at tx n z = ch → z < n := fun z hz => Classical.byContradiction (fun hn => hc (by rw [← hz, t_at, if_neg (by omega)]))
  unfold t_num at h
  split at h
  · split at h
    · split at h
      · rename_i h3; cases h; have := ha _ h3; omega
      · cases h
    · split at h
      · rename_i h3; cases h; have := ha _ h3; omega
      · cases h
  · cases h
section TEXT
variable {gi gl gi1 : gF} {sh : gSh} {a : Int}
set_option maxRecDepth 20000 in
set_option maxHeartbeats 1000000 in
theorem c_append (hV : isText sh) (x : Int) (hn : 0 ≤ gi 1 2 ∧ gi 1 2 < 200) (hx : 0 ≤ x ∧ x ≤ 126) : Ct mdX5_append 0 0 [vR 1, vI x] gi gl sh (Rt none (g_up (g_up gi 2 (gi 1 2) x) 1 2 (gi 1 2 + 1)) gl sh) := by
  show Go mdX5_append 0 0 0 [some (vR 1), some (vI x)] [] gi gl sh _
  obtain ⟨k0, r0, r1, k1, l1, k2, l2⟩ := id hV
  refine g_aload_n dX5_append_0 rfl ?_
  refine g_getI 2 dX5_append_1 flX5_19 rfl (by assumption) ?_
  refine g_aload_n dX5_append_4 rfl ?_
  refine g_getR 0 dX5_append_5 flX5_9 rfl (by assumption) (by assumption) ?_
  refine g_alen _ dX5_append_8 (by omega) (by assumption) (by decide) ?_
  refine g_icmp_ge 32 dX5_append_9 (by decide) (fun h9 => ?_) (fun h9 => ?_)
  · exfalso; omega
  · skip
    refine g_aload_n dX5_append_12 rfl ?_
    refine g_getR 0 dX5_append_13 flX5_9 rfl (by assumption) (by assumption) ?_
    refine g_aload_n dX5_append_16 rfl ?_
    refine g_getI 2 dX5_append_17 flX5_19 rfl (by assumption) ?_
    refine g_iload_n dX5_append_20 rfl ?_
    refine g_castore dX5_append_21 (by assumption) (by omega) (by omega) (by omega) (by omega) ?_
    refine g_aload_n dX5_append_22 rfl ?_
    refine g_dup dX5_append_23 (fun _ h9 => by cases h9) ?_
    refine g_getI 2 dX5_append_24 flX5_19 rfl (by assumption) ?_
    refine g_iconst dX5_append_27 (by decide) ?_
    refine g_iadd dX5_append_28 (by simp only [g_up_row (show (1 : Int) ≠ 2 by decide)] <;> omega) (by simp only [g_up_row (show (1 : Int) ≠ 2 by decide)] <;> omega) ?_
    refine g_putI 2 dX5_append_29 flX5_19 rfl (by assumption) ?_
    refine g_return dX5_append_32 rfl ?_
    exact ⟨rfl, by simp only [g_up_row (show (1 : Int) ≠ 2 by decide)], rfl, rfl⟩

set_option maxRecDepth 20000 in
set_option maxHeartbeats 1000000 in
theorem c_letterHere (hV : isText sh) (tx : gRw) (n p : Int) (hx : gi 2 = tx) (hn : gi 1 2 = n) (hp : gi 1 3 = p) (hp0 : 0 ≤ p) (hn2 : n ≤ 200) (ht : t_tx tx n) : Ct mdX5_letterHere 0 0 [vR 1] gi gl sh (Rt (some (vI (t_at tx n p))) gi gl sh) := by
  show Go mdX5_letterHere 0 0 0 [some (vR 1)] [] gi gl sh _
  obtain ⟨k0, r0, r1, k1, l1, k2, l2⟩ := id hV
  have hb := t_at_b ht p
  refine g_aload_n dX5_letterHere_0 rfl ?_
  refine g_getI 3 dX5_letterHere_1 flX5_28 rfl (by assumption) ?_
  refine g_if_lt 42 dX5_letterHere_4 (by decide) (fun h4 => ?_) (fun h4 => ?_)
  · exfalso; omega
  · skip
    refine g_aload_n dX5_letterHere_7 rfl ?_
    refine g_getI 3 dX5_letterHere_8 flX5_28 rfl (by assumption) ?_
    refine g_aload_n dX5_letterHere_11 rfl ?_
    refine g_getI 2 dX5_letterHere_12 flX5_19 rfl (by assumption) ?_
    refine g_icmp_ge 42 dX5_letterHere_15 (by decide) (fun h15 => ?_) (fun h15 => ?_)
    · skip
      refine g_iconst dX5_letterHere_42 (by decide) ?_
      refine g_creturn dX5_letterHere_43 rfl (by omega) (by omega) ?_
      first | exact ⟨rfl, rfl, rfl, rfl⟩ | exact ⟨by rw [t_at, if_neg (by omega)], rfl, rfl, rfl⟩
    · skip
      refine g_aload_n dX5_letterHere_18 rfl ?_
      refine g_getI 3 dX5_letterHere_19 flX5_28 rfl (by assumption) ?_
      refine g_aload_n dX5_letterHere_22 rfl ?_
      refine g_getR 0 dX5_letterHere_23 flX5_9 rfl (by assumption) (by assumption) ?_
      refine g_alen _ dX5_letterHere_26 (by omega) (by assumption) (by decide) ?_
      refine g_icmp_ge 42 dX5_letterHere_27 (by decide) (fun h27 => ?_) (fun h27 => ?_)
      · exfalso; omega
      · skip
        refine g_aload_n dX5_letterHere_30 rfl ?_
        refine g_getR 0 dX5_letterHere_31 flX5_9 rfl (by assumption) (by assumption) ?_
        refine g_aload_n dX5_letterHere_34 rfl ?_
        refine g_getI 3 dX5_letterHere_35 flX5_28 rfl (by assumption) ?_
        refine g_caload dX5_letterHere_38 (by assumption) (by omega) (by omega) ?_
        rw [show gi 2 (gi 1 3) = t_at tx n p by rw [t_at, if_pos (by omega), hx, hp]]
        refine g_goto 43 dX5_letterHere_39 (by decide) ?_
        refine g_creturn dX5_letterHere_43 rfl (by omega) (by omega) ?_
        first | exact ⟨rfl, rfl, rfl, rfl⟩ | exact ⟨by rw [t_at, if_neg (by omega)], rfl, rfl, rfl⟩

set_option maxRecDepth 20000 in
set_option maxHeartbeats 1000000 in
theorem c_isFigure (x z : Int) (h1 : 48 ≤ x ∧ x ≤ 57 → z = 1) (h0 : ¬ (48 ≤ x ∧ x ≤ 57) → z = 0) : Ct mdX5_isFigure 0 0 [vI x] gi gl sh (Rt (some (vI z)) gi gl sh) := by
  show Go mdX5_isFigure 0 0 0 [some (vI x)] [] gi gl sh _
  refine g_iload_n dX5_isFigure_0 rfl ?_
  refine g_bipush dX5_isFigure_1 (by decide) (by decide) ?_
  refine g_icmp_lt 16 dX5_isFigure_3 (by decide) (fun h3 => ?_) (fun h3 => ?_)
  · skip
    refine g_iconst dX5_isFigure_16 (by decide) ?_
    refine g_zreturn dX5_isFigure_17 rfl (by omega) ?_
    exact ⟨by first | (rw [h1 (by omega)]; done) | (rw [h0 (by omega)]; done), rfl, rfl, rfl⟩
  · skip
    refine g_iload_n dX5_isFigure_6 rfl ?_
    refine g_bipush dX5_isFigure_7 (by decide) (by decide) ?_
    refine g_icmp_gt 16 dX5_isFigure_9 (by decide) (fun h9 => ?_) (fun h9 => ?_)
    · skip
      refine g_iconst dX5_isFigure_16 (by decide) ?_
      refine g_zreturn dX5_isFigure_17 rfl (by omega) ?_
      exact ⟨by first | (rw [h1 (by omega)]; done) | (rw [h0 (by omega)]; done), rfl, rfl, rfl⟩
    · skip
      refine g_iconst dX5_isFigure_12 (by decide) ?_
      refine g_goto 17 dX5_isFigure_13 (by decide) ?_
      refine g_zreturn dX5_isFigure_17 rfl (by omega) ?_
      exact ⟨by first | (rw [h1 (by omega)]; done) | (rw [h0 (by omega)]; done), rfl, rfl, rfl⟩

def t_nb (x : Int) : Int := if x = 103 then 5 else if x = 114 then 2 else if x = 100 then 1 else if x = 113 then 1 else 0
set_option maxRecDepth 20000 in
set_option maxHeartbeats 1000000 in
theorem c_numbersBehind (x : Int) : Ct mdX5_numbersBehind 0 0 [vI x] gi gl sh (Rt (some (vI (t_nb x))) gi gl sh) := by
  show Go mdX5_numbersBehind 0 0 0 [some (vI x)] [] gi gl sh _
  refine g_iload_n dX5_numbersBehind_0 rfl ?_
  rcases (show (x ≠ 100 ∧ x ≠ 103 ∧ x ≠ 113 ∧ x ≠ 114) ∨ x = 100 ∨ x = 103 ∨ x = 113 ∨ x = 114 by omega) with hsw | hsw | hsw | hsw | hsw
  · skip
    refine g_lookup (off := 49) 50 dX5_numbersBehind_1 (by decide) (by simp [Op.lookupswitch.offset, Ne.symm, hsw, Ne.symm hsw.1, Ne.symm hsw.2.1, Ne.symm hsw.2.2.1, Ne.symm hsw.2.2.2]) (by decide) ?_
    refine g_iconst dX5_numbersBehind_50 (by decide) ?_
    refine g_ireturn dX5_numbersBehind_51 rfl ?_
    exact ⟨by simp [t_nb, hsw], rfl, rfl, rfl⟩
  · skip
    refine g_lookup (off := 47) 48 dX5_numbersBehind_1 (by decide) (by rw [hsw]; rfl) (by decide) ?_
    refine g_iconst dX5_numbersBehind_48 (by decide) ?_
    refine g_ireturn dX5_numbersBehind_49 rfl ?_
    exact ⟨by simp [t_nb, hsw], rfl, rfl, rfl⟩
  · skip
    refine g_lookup (off := 43) 44 dX5_numbersBehind_1 (by decide) (by rw [hsw]; rfl) (by decide) ?_
    refine g_iconst dX5_numbersBehind_44 (by decide) ?_
    refine g_ireturn dX5_numbersBehind_45 rfl ?_
    exact ⟨by simp [t_nb, hsw], rfl, rfl, rfl⟩
  · skip
    refine g_lookup (off := 47) 48 dX5_numbersBehind_1 (by decide) (by rw [hsw]; rfl) (by decide) ?_
    refine g_iconst dX5_numbersBehind_48 (by decide) ?_
    refine g_ireturn dX5_numbersBehind_49 rfl ?_
    exact ⟨by simp [t_nb, hsw], rfl, rfl, rfl⟩
  · skip
    refine g_lookup (off := 45) 46 dX5_numbersBehind_1 (by decide) (by rw [hsw]; rfl) (by decide) ?_
    refine g_iconst dX5_numbersBehind_46 (by decide) ?_
    refine g_ireturn dX5_numbersBehind_47 rfl ?_
    exact ⟨by simp [t_nb, hsw], rfl, rfl, rfl⟩

theorem g_up_self' {gi : gF} {a k : Int} : g_up gi a k (gi a k) = gi := by
  funext b j; simp only [g_up]; split
  · rename_i h; rw [h.1, h.2]
  · rfl
set_option maxRecDepth 20000 in
set_option maxHeartbeats 1000000 in
theorem c_readNumber (hV : isText sh) (tx : gRw) (n p ch : Int) (hx : gi 2 = tx) (hn : gi 1 2 = n) (hp : gi 1 3 = p) (hp0 : 0 ≤ p ∧ p ≤ 1000) (hn2 : n ≤ 200) (ht : t_tx tx n) : Ct mdX5_readNumber 0 0 [vR 1, vI ch] gi gl sh (fun r gi' gl' sh' => ∃ x q : Int, r = some (vI x) ∧ gi' = g_up gi 1 3 q ∧ gl' = gl ∧ sh' = sh ∧ (0 ≤ q ∧ q ≤ p + 3) ∧ (t_num tx n p ch = some (x, q) ∨ t_num tx n p ch = none ∧ x = -1)) := by
  show Go mdX5_readNumber 0 0 0 [some (vR 1), some (vI ch), none, none] [] gi gl sh _
  obtain ⟨k0, r0, r1, k1, l1, k2, l2⟩ := id hV
  have b0 := t_at_b ht p
  have b1 := t_at_b ht (p + 1)
  obtain ⟨y0, y1, y2, -⟩ := z_ex (48 ≤ t_at tx n p ∧ t_at tx n p ≤ 57)
  obtain ⟨z0, z1, z2, -⟩ := z_ex (48 ≤ t_at tx n (p + 1) ∧ t_at tx n (p + 1) ≤ 57)
  have f0 : (1 : Int) ≠ 2 := by decide
  have f1 : (2 : Int) ≠ 1 := by decide
  refine g_iconst dX5_readNumber_0 (by decide) ?_
  refine n_istore_n (lN := [_, _, _, _]) dX5_readNumber_1 (by decide) rfl ?_
  refine g_iconst dX5_readNumber_2 (by decide) ?_
  refine n_istore_n (lN := [_, _, _, _]) dX5_readNumber_3 (by decide) rfl ?_
  refine g_iload_n dX5_readNumber_4 rfl ?_
  refine g_iconst dX5_readNumber_5 (by decide) ?_
  refine g_icmp_ge 48 dX5_readNumber_6 (by decide) (fun h6 => ?_) (fun h6 => ?_)
  · exfalso; omega
  · skip
    refine g_aload_n dX5_readNumber_9 rfl ?_
    refine g_cVi [] dX5_readNumber_10 mlX5_35 mvX5_letterHere (by decide) (by assumption) (by decide) rfl rfl (Nat.le_of_ble_eq_true rfl) rfl (Nat.le_of_ble_eq_true rfl) (c_letterHere hV tx n (p) (by first | exact hx | (rw [g_up_row (by decide)]; exact hx)) (by first | exact hn | (rw [g_up_ne (by decide)]; exact hn)) (by first | exact hp | exact g_up_at) (by omega) hn2 ht) ?_
    refine g_cSi [_] dX5_readNumber_13 mlX5_50 msX5_isFigure (by decide) rfl rfl (Nat.le_of_ble_eq_true rfl) rfl (Nat.le_of_ble_eq_true rfl) (c_isFigure _ y0 y1 y2) ?_
    refine g_if_eq 48 dX5_readNumber_16 (by decide) (fun h16b => ?_) (fun h16b => ?_)
    · skip
      refine g_iload_n dX5_readNumber_48 rfl ?_
      refine g_if_eq 60 dX5_readNumber_49 (by decide) (fun h49 => ?_) (fun h49 => ?_)
      · skip
        refine g_iconst dX5_readNumber_60 (by decide) ?_
        refine g_ireturn dX5_readNumber_61 rfl ?_
        exact ⟨-1, p, rfl, by rw [← hp]; exact (g_up_self' (gi := gi)).symm, rfl, rfl, by omega, Or.inr ⟨by rw [t_num, if_neg (fun q => by have := y1 q; omega)], rfl⟩⟩
      · exfalso; omega
    · skip
      refine g_iload_n dX5_readNumber_19 rfl ?_
      refine g_bipush dX5_readNumber_20 (by decide) (by decide) ?_
      refine g_imul dX5_readNumber_22 (by omega) (by omega) ?_
      refine g_aload_n dX5_readNumber_23 rfl ?_
      refine g_cVi [] dX5_readNumber_24 mlX5_35 mvX5_letterHere (by decide) (by assumption) (by decide) rfl rfl (Nat.le_of_ble_eq_true rfl) rfl (Nat.le_of_ble_eq_true rfl) (c_letterHere hV tx n (p) (by first | exact hx | (rw [g_up_row (by decide)]; exact hx)) (by first | exact hn | (rw [g_up_ne (by decide)]; exact hn)) (by first | exact hp | exact g_up_at) (by omega) hn2 ht) ?_
      refine g_bipush dX5_readNumber_27 (by decide) (by decide) ?_
      refine g_isub dX5_readNumber_29 (by omega) (by omega) ?_
      refine g_iadd dX5_readNumber_30 (by omega) (by omega) ?_
      refine n_istore_n (lN := [_, _, _, _]) dX5_readNumber_31 (by decide) rfl ?_
      refine g_aload_n dX5_readNumber_32 rfl ?_
      refine g_dup dX5_readNumber_33 (fun _ h9 => by cases h9) ?_
      refine g_getI 3 dX5_readNumber_34 flX5_28 rfl (by assumption) ?_
      refine g_iconst dX5_readNumber_37 (by decide) ?_
      refine g_iadd dX5_readNumber_38 (by rw [hp]; omega) (by rw [hp]; omega) ?_
      refine g_putI 3 dX5_readNumber_39 flX5_28 rfl (by assumption) ?_
      rw [hp]
      refine n_iinc (lN := [_, _, _, _]) dX5_readNumber_42 rfl (by decide) (by omega) (by omega) rfl ?_
      refine g_goto 4 dX5_readNumber_45 (by decide) ?_
      refine g_iload_n dX5_readNumber_4 rfl ?_
      refine g_iconst dX5_readNumber_5 (by decide) ?_
      refine g_icmp_ge 48 dX5_readNumber_6 (by decide) (fun h6 => ?_) (fun h6 => ?_)
      · exfalso; omega
      · skip
        refine g_aload_n dX5_readNumber_9 rfl ?_
        refine g_cVi [] dX5_readNumber_10 mlX5_35 mvX5_letterHere (by decide) (by assumption) (by decide) rfl rfl (Nat.le_of_ble_eq_true rfl) rfl (Nat.le_of_ble_eq_true rfl) (c_letterHere hV tx n (p + 1) (by first | exact hx | (rw [g_up_row (by decide)]; exact hx)) (by first | exact hn | (rw [g_up_ne (by decide)]; exact hn)) (by first | exact hp | exact g_up_at) (by omega) hn2 ht) ?_
        refine g_cSi [_] dX5_readNumber_13 mlX5_50 msX5_isFigure (by decide) rfl rfl (Nat.le_of_ble_eq_true rfl) rfl (Nat.le_of_ble_eq_true rfl) (c_isFigure _ z0 z1 z2) ?_
        refine g_if_eq 48 dX5_readNumber_16 (by decide) (fun h16c => ?_) (fun h16c => ?_)
        · skip
          refine g_iload_n dX5_readNumber_48 rfl ?_
          refine g_if_eq 60 dX5_readNumber_49 (by decide) (fun h49 => ?_) (fun h49 => ?_)
          · exfalso; omega
          · skip
            refine g_aload_n dX5_readNumber_52 rfl ?_
            refine g_cVi [] dX5_readNumber_53 mlX5_35 mvX5_letterHere (by decide) (by assumption) (by decide) rfl rfl (Nat.le_of_ble_eq_true rfl) rfl (Nat.le_of_ble_eq_true rfl) (c_letterHere hV tx n (p + 1) (by first | exact hx | (rw [g_up_row (by decide)]; exact hx)) (by first | exact hn | (rw [g_up_ne (by decide)]; exact hn)) (by first | exact hp | exact g_up_at) (by omega) hn2 ht) ?_
            refine g_iload_n dX5_readNumber_56 rfl ?_
            refine g_icmp_eq 62 dX5_readNumber_57 (by decide) (fun h57 => ?_) (fun h57 => ?_)
            · skip
              refine g_aload_n dX5_readNumber_62 rfl ?_
              refine g_dup dX5_readNumber_63 (fun _ h9 => by cases h9) ?_
              refine g_getI 3 dX5_readNumber_64 flX5_28 rfl (by assumption) ?_
              refine g_iconst dX5_readNumber_67 (by decide) ?_
              refine g_iadd dX5_readNumber_68 (by rw [g_up_at]; omega) (by rw [g_up_at]; omega) ?_
              refine g_putI 3 dX5_readNumber_69 flX5_28 rfl (by assumption) ?_
              rw [g_up_at, g_up_up, show p + 1 + 1 = p + 2 by omega]
              refine g_iload_n dX5_readNumber_72 rfl ?_
              refine g_ireturn dX5_readNumber_73 rfl ?_
              exact ⟨_, _, rfl, rfl, rfl, rfl, by omega, Or.inl (by rw [t_num, if_pos (Classical.byContradiction (fun q => h16b (y2 q))), if_neg (fun q => by have := z1 q; omega), if_pos h57]; congr 2; omega)⟩
            · skip
              refine g_iconst dX5_readNumber_60 (by decide) ?_
              refine g_ireturn dX5_readNumber_61 rfl ?_
              exact ⟨-1, p + 1, rfl, rfl, rfl, rfl, by omega, Or.inr ⟨by rw [t_num, if_pos (Classical.byContradiction (fun q => h16b (y2 q))), if_neg (fun q => by have := z1 q; omega), if_neg h57], rfl⟩⟩
        · skip
          refine g_iload_n dX5_readNumber_19 rfl ?_
          refine g_bipush dX5_readNumber_20 (by decide) (by decide) ?_
          refine g_imul dX5_readNumber_22 (by omega) (by omega) ?_
          refine g_aload_n dX5_readNumber_23 rfl ?_
          refine g_cVi [] dX5_readNumber_24 mlX5_35 mvX5_letterHere (by decide) (by assumption) (by decide) rfl rfl (Nat.le_of_ble_eq_true rfl) rfl (Nat.le_of_ble_eq_true rfl) (c_letterHere hV tx n (p + 1) (by first | exact hx | (rw [g_up_row (by decide)]; exact hx)) (by first | exact hn | (rw [g_up_ne (by decide)]; exact hn)) (by first | exact hp | exact g_up_at) (by omega) hn2 ht) ?_
          refine g_bipush dX5_readNumber_27 (by decide) (by decide) ?_
          refine g_isub dX5_readNumber_29 (by omega) (by omega) ?_
          refine g_iadd dX5_readNumber_30 (by omega) (by omega) ?_
          refine n_istore_n (lN := [_, _, _, _]) dX5_readNumber_31 (by decide) rfl ?_
          refine g_aload_n dX5_readNumber_32 rfl ?_
          refine g_dup dX5_readNumber_33 (fun _ h9 => by cases h9) ?_
          refine g_getI 3 dX5_readNumber_34 flX5_28 rfl (by assumption) ?_
          refine g_iconst dX5_readNumber_37 (by decide) ?_
          refine g_iadd dX5_readNumber_38 (by rw [g_up_at]; omega) (by rw [g_up_at]; omega) ?_
          refine g_putI 3 dX5_readNumber_39 flX5_28 rfl (by assumption) ?_
          rw [g_up_at, g_up_up, show p + 1 + 1 = p + 2 by omega]
          refine n_iinc (lN := [_, _, _, _]) dX5_readNumber_42 rfl (by decide) (by omega) (by omega) rfl ?_
          refine g_goto 4 dX5_readNumber_45 (by decide) ?_
          refine g_iload_n dX5_readNumber_4 rfl ?_
          refine g_iconst dX5_readNumber_5 (by decide) ?_
          refine g_icmp_ge 48 dX5_readNumber_6 (by decide) (fun h6 => ?_) (fun h6 => ?_)
          · skip
            refine g_iload_n dX5_readNumber_48 rfl ?_
            refine g_if_eq 60 dX5_readNumber_49 (by decide) (fun h49 => ?_) (fun h49 => ?_)
            · exfalso; omega
            · skip
              refine g_aload_n dX5_readNumber_52 rfl ?_
              refine g_cVi [] dX5_readNumber_53 mlX5_35 mvX5_letterHere (by decide) (by assumption) (by decide) rfl rfl (Nat.le_of_ble_eq_true rfl) rfl (Nat.le_of_ble_eq_true rfl) (c_letterHere hV tx n (p + 2) (by first | exact hx | (rw [g_up_row (by decide)]; exact hx)) (by first | exact hn | (rw [g_up_ne (by decide)]; exact hn)) (by first | exact hp | exact g_up_at) (by omega) hn2 ht) ?_
              refine g_iload_n dX5_readNumber_56 rfl ?_
              refine g_icmp_eq 62 dX5_readNumber_57 (by decide) (fun h57 => ?_) (fun h57 => ?_)
              · skip
                refine g_aload_n dX5_readNumber_62 rfl ?_
                refine g_dup dX5_readNumber_63 (fun _ h9 => by cases h9) ?_
                refine g_getI 3 dX5_readNumber_64 flX5_28 rfl (by assumption) ?_
                refine g_iconst dX5_readNumber_67 (by decide) ?_
                refine g_iadd dX5_readNumber_68 (by rw [g_up_at]; omega) (by rw [g_up_at]; omega) ?_
                refine g_putI 3 dX5_readNumber_69 flX5_28 rfl (by assumption) ?_
                rw [g_up_at, g_up_up, show p + 2 + 1 = p + 3 by omega]
                refine g_iload_n dX5_readNumber_72 rfl ?_
                refine g_ireturn dX5_readNumber_73 rfl ?_
                exact ⟨_, _, rfl, rfl, rfl, rfl, by omega, Or.inl (by rw [t_num, if_pos (Classical.byContradiction (fun q => h16b (y2 q))), if_pos (Classical.byContradiction (fun q => h16c (z2 q))), if_pos h57]; congr 2; omega)⟩
              · skip
                refine g_iconst dX5_readNumber_60 (by decide) ?_
                refine g_ireturn dX5_readNumber_61 rfl ?_
                exact ⟨-1, p + 2, rfl, rfl, rfl, rfl, by omega, Or.inr ⟨by rw [t_num, if_pos (Classical.byContradiction (fun q => h16b (y2 q))), if_pos (Classical.byContradiction (fun q => h16c (z2 q))), if_neg h57], rfl⟩⟩
          · exfalso; omega
end TEXT
