/-! Fold, row by row: live blobs at 63+s, owners at oa (ahead) and 61-oa (now), ended blobs at 32+i -/
def isFold (sh : gSh) (oa : Int) : Prop := sh.2.1 27 = 1 ∧ sh.1 27 0 = some 28 ∧ sh.1 27 1 = some 29 ∧ sh.1 27 2 = some oa ∧ sh.1 27 3 = some (61 - oa) ∧ (oa = 30 ∨ oa = 31) ∧ sh.2.1 28 = 14 ∧ (sh.2.2.1 28 : Int) = 31 ∧ sh.2.1 29 = 14 ∧ (sh.2.2.1 29 : Int) = 16 ∧ (sh.2.1 30 = 11 ∧ (sh.2.2.1 30 : Int) = 16) ∧ (sh.2.1 31 = 11 ∧ (sh.2.2.1 31 : Int) = 16) ∧
  (∀ i : Int, 0 ≤ i → i < 31 → sh.1 28 i = some (32 + i) ∧ sh.2.1 (32 + i) = 0) ∧ ∀ i : Int, 0 ≤ i → i < 16 → sh.1 29 i = some (63 + i) ∧ sh.2.1 (63 + i) = 0
theorem isFold.own {sh : gSh} {oa : Int} (h : isFold sh oa) : sh.2.1 oa = 11 ∧ (sh.2.2.1 oa : Int) = 16 ∧ sh.2.1 (61 - oa) = 11 ∧ (sh.2.2.1 (61 - oa) : Int) = 16 := by
  obtain ⟨-, -, -, -, -, ho, -, -, -, -, h30, h31, -, -⟩ := h
  rcases ho with rfl | rfl
  · exact ⟨h30.1, h30.2, h31.1, h31.2⟩
  · exact ⟨h31.1, h31.2, h30.1, h30.2⟩
abbrev fS : Type := (Int → gRw) × gRw × gRw
def f_own (r : gRw) (c : Int) : Int := if 0 ≤ c ∧ c < 16 then r c else -1
def f_ho (r : gRw) (x y : Int) : gRw := fun c => if (0 ≤ c ∧ c < 16) ∧ r c = x then y else r c
def f_fill (r : gRw) (v : Int) : gRw := fun c => if 0 ≤ c ∧ c < 16 then v else r c
def f_join (S : fS) (s o : Int) : fS := if (0 ≤ o ∧ o < 16) ∧ o ≠ s then (g_row (g_row S.1 s (bl_abs (S.1 s) (S.1 o))) o (bl_off (S.1 o)), f_ho S.2.1 o s, f_ho S.2.2 o s) else S
def f_fr (lv : Int → gRw) : Nat → Int → Int
  | 0, _ => -1
  | n + 1, s => if lv s 5 = 0 then s else f_fr lv n (s + 1)
def f_slot (S : fS) (c : Int) : Int := if f_own S.2.2 (c - 1) = -1 then f_fr S.1 16 0 else f_own S.2.2 (c - 1)
def f_put (S : fS) (s t c col dk : Int) : fS := (g_row S.1 s (bl_add (S.1 s) t c col dk), S.2.1, r_up S.2.2 c s)
def f_c1 (S : fS) (t c col dk : Int) : fS := f_put S (f_slot S c) t c col dk
def f_c2 (S : fS) (t c col dk : Int) : fS := f_join (f_c1 S t c col dk) (f_slot S c) (f_own (f_c1 S t c col dk).2.1 (c - 1))
def f_c3 (S : fS) (t c col dk : Int) : fS := f_join (f_c2 S t c col dk) (f_slot S c) (f_own (f_c2 S t c col dk).2.1 c)
def f_cell (S : fS) (t c col dk : Int) : fS := f_join (f_c3 S t c col dk) (f_slot S c) (f_own (f_c3 S t c col dk).2.1 (c + 1))
def okS (S : fS) : Prop := ∀ s : Int, 0 ≤ s → s < 16 → bl_ok (S.1 s)
/-- the memory with a fold's state laid over it -/
def fmem (gi : gF) (oa : Int) (S : fS) : gF := fun b => if 63 ≤ b ∧ b < 79 then S.1 (b - 63) else if b = oa then S.2.1 else if b = 61 - oa then S.2.2 else gi b
theorem fmem_l {gi : gF} {oa : Int} {S : fS} {s : Int} (h0 : 0 ≤ s) (h1 : s < 16) : fmem gi oa S (63 + s) = S.1 s := by
  unfold fmem; rw [if_pos (by omega), show 63 + s - 63 = s by omega]
theorem fmem_a {gi : gF} {oa : Int} {S : fS} (ho : oa = 30 ∨ oa = 31) : fmem gi oa S oa = S.2.1 := by
  unfold fmem; rw [if_neg (by omega), if_pos rfl]
theorem fmem_n {gi : gF} {oa : Int} {S : fS} (ho : oa = 30 ∨ oa = 31) : fmem gi oa S (61 - oa) = S.2.2 := by
  unfold fmem; rw [if_neg (by omega), if_neg (by omega), if_pos rfl]
theorem fmem_o {gi : gF} {oa : Int} {S : fS} {b : Int} (h1 : ¬ (63 ≤ b ∧ b < 79)) (h2 : b ≠ 30) (h3 : b ≠ 31) (ho : oa = 30 ∨ oa = 31) : fmem gi oa S b = gi b := by
  unfold fmem; rw [if_neg h1, if_neg (by omega), if_neg (by omega)]
theorem fmem_rl {gi : gF} {oa : Int} {S : fS} {s : Int} {r : gRw} (h0 : 0 ≤ s) (h1 : s < 16) : g_row (fmem gi oa S) (63 + s) r = fmem gi oa (g_row S.1 s r, S.2.1, S.2.2) := by
  funext b
  by_cases hb : b = 63 + s
  · subst hb; rw [g_row_at, fmem_l h0 h1]; dsimp only; rw [g_row_at]
  · rw [g_row_ne hb]
    unfold fmem
    split
    · dsimp only; rw [g_row_ne (by omega)]
    · rfl
theorem fmem_ra {gi : gF} {oa : Int} {S : fS} {r : gRw} (ho : oa = 30 ∨ oa = 31) : g_row (fmem gi oa S) oa r = fmem gi oa (S.1, r, S.2.2) := by
  funext b
  by_cases hb : b = oa
  · subst hb; rw [g_row_at, fmem_a ho]
  · rw [g_row_ne hb]
    unfold fmem
    simp only [hb, if_false]
theorem fmem_rn {gi : gF} {oa : Int} {S : fS} {r : gRw} (ho : oa = 30 ∨ oa = 31) : g_row (fmem gi oa S) (61 - oa) r = fmem gi oa (S.1, S.2.1, r) := by
  funext b
  by_cases hb : b = 61 - oa
  · subst hb; rw [g_row_at, fmem_n ho]
  · rw [g_row_ne hb]
    unfold fmem
    simp only [hb, if_false]
theorem g_up_row_up {gi : gF} {a k v : Int} {r : gRw} : g_up (g_row gi a r) a k v = g_row gi a (r_up r k v) := by
  rw [g_up_as_row, g_row_row, g_row_at]; rfl
section FOLD1
variable {gi gl : gF} {sh : gSh} {oa a : Int}
set_option maxRecDepth 20000 in
theorem l_fill (hk : sh.2.1 a = 11) (hl : (sh.2.2.1 a : Int) = 16) (v : Int) : ∀ (n : Nat) (k : Int), 0 ≤ k → k + n = 16 → Go mdJ7_fill_53178 0 0 5 [some (vR a), some (vI v), some (vI k), some (vI 16)] [] (g_row gi a (fun c => if 0 ≤ c ∧ c < k then v else gi a c)) gl sh (Rt none (g_row gi a (f_fill (gi a) v)) gl sh) := by
  intro n
  induction n with
  | zero =>
    intro k h0 h1
    refine g_iload_n dJ7_fill_53178_5 rfl ?_
    refine g_iload_n dJ7_fill_53178_6 rfl ?_
    refine g_icmp_ge 20 dJ7_fill_53178_7 (by decide) (fun h7 => ?_) (fun h7 => ?_)
    · skip
      refine g_return dJ7_fill_53178_20 rfl ?_
      obtain rfl : k = 16 := by omega
      exact ⟨rfl, rfl, rfl, rfl⟩
    · exfalso; omega
  | succ n ih =>
    intro k h0 h1
    refine g_iload_n dJ7_fill_53178_5 rfl ?_
    refine g_iload_n dJ7_fill_53178_6 rfl ?_
    refine g_icmp_ge 20 dJ7_fill_53178_7 (by decide) (fun h7 => ?_) (fun h7 => ?_)
    · exfalso; omega
    · skip
      refine g_aload_n dJ7_fill_53178_10 rfl ?_
      refine g_iload_n dJ7_fill_53178_11 rfl ?_
      refine g_iload_n dJ7_fill_53178_12 rfl ?_
      refine g_iastore dJ7_fill_53178_13 (by assumption) (by omega) (by omega) ?_
      refine n_iinc (lN := [_, _, _, _]) dJ7_fill_53178_14 rfl (by decide) (by omega) (by omega) rfl ?_
      refine g_goto 5 dJ7_fill_53178_17 (by decide) ?_
      have e : g_up (g_row gi a (fun c => if 0 ≤ c ∧ c < k then v else gi a c)) a k v = g_row gi a (fun c => if 0 ≤ c ∧ c < k + 1 then v else gi a c) := by
        rw [g_up_row_up]
        congr 1
        funext c
        unfold r_up
        by_cases hc : c = k
        · subst hc; rw [if_pos rfl, if_pos (by omega)]
        · rw [if_neg hc]
          dsimp only
          by_cases h9 : 0 ≤ c ∧ c < k
          · rw [if_pos h9, if_pos (by omega)]
          · rw [if_neg h9, if_neg (by omega)]
      rw [e]
      exact ih (k + 1) (by omega) (by omega)
theorem c_fill (hk : sh.2.1 a = 11) (hl : (sh.2.2.1 a : Int) = 16) (v : Int) : Ct mdJ7_fill_53178 0 0 [vR a, vI v] gi gl sh (Rt none (g_row gi a (f_fill (gi a) v)) gl sh) := by
  show Go mdJ7_fill_53178 0 0 0 [some (vR a), some (vI v), none, none] [] gi gl sh _
  refine g_iconst dJ7_fill_53178_0 (by decide) ?_
  refine n_istore_n (lN := [_, _, _, _]) dJ7_fill_53178_1 (by decide) rfl ?_
  refine g_aload_n dJ7_fill_53178_2 rfl ?_
  refine g_alen _ dJ7_fill_53178_3 (by omega) (by assumption) (by decide) ?_
  refine n_istore_n (lN := [_, _, _, _]) dJ7_fill_53178_4 (by decide) rfl ?_
  have e : gi = g_row gi a (fun c => if 0 ≤ c ∧ c < 0 then v else gi a c) := by
    funext b
    by_cases hb : b = a
    · subst hb; rw [g_row_at]; funext c; rw [if_neg (by omega)]
    · rw [g_row_ne hb]
  have k := l_fill (gi := gi) (gl := gl) hk hl v 16 0 (by omega) (by omega)
  rw [← e] at k
  exact k
set_option maxRecDepth 20000 in
set_option maxHeartbeats 1000000 in
theorem c_ownerAt (hk : sh.2.1 a = 11) (hl : (sh.2.2.1 a : Int) = 16) (c : Int) : Ct mdX1_ownerAt 0 0 [vR a, vI c] gi gl sh (Rt (some (vI (f_own (gi a) c))) gi gl sh) := by
  show Go mdX1_ownerAt 0 0 0 [some (vR a), some (vI c)] [] gi gl sh _
  refine g_iload_n dX1_ownerAt_0 rfl ?_
  refine g_if_lt 16 dX1_ownerAt_1 (by decide) (fun h1 => ?_) (fun h1 => ?_)
  · skip
    refine g_iconst dX1_ownerAt_16 (by decide) ?_
    refine g_ireturn dX1_ownerAt_17 rfl ?_
    exact ⟨by first | (rw [f_own, if_pos (by omega)]; done) | (rw [f_own, if_neg (by omega)]; done), rfl, rfl, rfl⟩
  · skip
    refine g_iload_n dX1_ownerAt_4 rfl ?_
    refine g_aload_n dX1_ownerAt_5 rfl ?_
    refine g_alen _ dX1_ownerAt_6 (by omega) (by assumption) (by decide) ?_
    refine g_icmp_ge 16 dX1_ownerAt_7 (by decide) (fun h7 => ?_) (fun h7 => ?_)
    · skip
      refine g_iconst dX1_ownerAt_16 (by decide) ?_
      refine g_ireturn dX1_ownerAt_17 rfl ?_
      exact ⟨by first | (rw [f_own, if_pos (by omega)]; done) | (rw [f_own, if_neg (by omega)]; done), rfl, rfl, rfl⟩
    · skip
      refine g_aload_n dX1_ownerAt_10 rfl ?_
      refine g_iload_n dX1_ownerAt_11 rfl ?_
      refine g_iaload dX1_ownerAt_12 (by assumption) (by omega) (by omega) ?_
      refine g_goto 17 dX1_ownerAt_13 (by decide) ?_
      refine g_ireturn dX1_ownerAt_17 rfl ?_
      exact ⟨by first | (rw [f_own, if_pos (by omega)]; done) | (rw [f_own, if_neg (by omega)]; done), rfl, rfl, rfl⟩

set_option maxRecDepth 20000 in
theorem l_handOver (hk : sh.2.1 a = 11) (hl : (sh.2.2.1 a : Int) = 16) (x y : Int) : ∀ (n : Nat) (k : Int), 0 ≤ k → k + n = 16 → Go mdX1_handOver 0 0 2 [some (vR a), some (vI x), some (vI y), some (vI k)] [] (g_row gi a (fun c => if (0 ≤ c ∧ c < k) ∧ gi a c = x then y else gi a c)) gl sh (Rt none (g_row gi a (f_ho (gi a) x y)) gl sh) := by
  intro n
  induction n with
  | zero =>
    intro k h0 h1
    refine g_iload_n dX1_handOver_2 rfl ?_
    refine g_aload_n dX1_handOver_3 rfl ?_
    refine g_alen _ dX1_handOver_4 (by omega) (by assumption) (by decide) ?_
    refine g_icmp_ge 25 dX1_handOver_5 (by decide) (fun h5 => ?_) (fun h5 => ?_)
    · skip
      refine g_return dX1_handOver_25 rfl ?_
      obtain rfl : k = 16 := by omega
      exact ⟨rfl, rfl, rfl, rfl⟩
    · exfalso; omega
  | succ n ih =>
    intro k h0 h1
    have hv0 : g_row gi a (fun c => if (0 ≤ c ∧ c < k) ∧ gi a c = x then y else gi a c) a k = gi a k := by
      rw [g_row_at, if_neg (by omega)]
    refine g_iload_n dX1_handOver_2 rfl ?_
    refine g_aload_n dX1_handOver_3 rfl ?_
    refine g_alen _ dX1_handOver_4 (by omega) (by assumption) (by decide) ?_
    refine g_icmp_ge 25 dX1_handOver_5 (by decide) (fun h5 => ?_) (fun h5 => ?_)
    · exfalso; omega
    · skip
      refine g_aload_n dX1_handOver_8 rfl ?_
      refine g_iload_n dX1_handOver_9 rfl ?_
      refine g_iaload dX1_handOver_10 (by assumption) (by omega) (by omega) ?_
      rw [hv0]
      refine g_iload_n dX1_handOver_11 rfl ?_
      refine g_icmp_ne 19 dX1_handOver_12 (by decide) (fun hv => ?_) (fun hv => ?_)
      · skip
        refine n_iinc (lN := [_, _, _, _]) dX1_handOver_19 rfl (by decide) (by omega) (by omega) rfl ?_
        refine g_goto 2 dX1_handOver_22 (by decide) ?_
        refine Eq.mp (congrArg (fun g => Go mdX1_handOver 0 0 2 [some (vR a), some (vI x), some (vI y), some (vI (k + 1))] [] g gl sh (Rt none (g_row gi a (f_ho (gi a) x y)) gl sh)) ?_) (ih (k + 1) (by omega) (by omega))
        congr 1
        funext c
        by_cases hc : c = k
        · subst hc; rw [if_neg (fun q => hv q.2), if_neg (by omega)]
        · by_cases h9 : (0 ≤ c ∧ c < k) ∧ gi a c = x
          · rw [if_pos h9, if_pos ⟨by omega, h9.2⟩]
          · rw [if_neg h9, if_neg (fun q => h9 ⟨by omega, q.2⟩)]
      · skip
        refine g_aload_n dX1_handOver_15 rfl ?_
        refine g_iload_n dX1_handOver_16 rfl ?_
        refine g_iload_n dX1_handOver_17 rfl ?_
        refine g_iastore dX1_handOver_18 (by assumption) (by omega) (by omega) ?_
        refine n_iinc (lN := [_, _, _, _]) dX1_handOver_19 rfl (by decide) (by omega) (by omega) rfl ?_
        have hv : gi a k = x := Classical.byContradiction hv
        refine g_goto 2 dX1_handOver_22 (by decide) ?_
        refine Eq.mp (congrArg (fun g => Go mdX1_handOver 0 0 2 [some (vR a), some (vI x), some (vI y), some (vI (k + 1))] [] g gl sh (Rt none (g_row gi a (f_ho (gi a) x y)) gl sh)) ?_) (ih (k + 1) (by omega) (by omega))
        symm
        rw [g_up_row_up]
        congr 1
        funext c
        unfold r_up
        by_cases hc : c = k
        · subst hc; rw [if_pos rfl, if_pos ⟨by omega, hv⟩]
        · rw [if_neg hc]
          dsimp only
          by_cases h9 : (0 ≤ c ∧ c < k) ∧ gi a c = x
          · rw [if_pos h9, if_pos ⟨by omega, h9.2⟩]
          · rw [if_neg h9, if_neg (fun q => h9 ⟨by omega, q.2⟩)]
theorem c_handOver (hk : sh.2.1 a = 11) (hl : (sh.2.2.1 a : Int) = 16) (x y : Int) : Ct mdX1_handOver 0 0 [vR a, vI x, vI y] gi gl sh (Rt none (g_row gi a (f_ho (gi a) x y)) gl sh) := by
  show Go mdX1_handOver 0 0 0 [some (vR a), some (vI x), some (vI y), none] [] gi gl sh _
  refine g_iconst dX1_handOver_0 (by decide) ?_
  refine n_istore_n (lN := [_, _, _, _]) dX1_handOver_1 (by decide) rfl ?_
  have e : gi = g_row gi a (fun c => if (0 ≤ c ∧ c < 0) ∧ gi a c = x then y else gi a c) := by
    funext b
    by_cases hb : b = a
    · subst hb; rw [g_row_at]; funext c; rw [if_neg (by omega)]
    · rw [g_row_ne hb]
  have k := l_handOver (gi := gi) (gl := gl) hk hl x y 16 0 (by omega) (by omega)
  rw [← e] at k
  exact k
set_option maxRecDepth 20000 in
theorem l_freeSlot (hF : isFold sh oa) (S : fS) : ∀ (n : Nat) (s : Int), 0 ≤ s → s + n = 16 → Go mdX1_freeSlot 0 0 2 [some (vR 27), some (vI s)] [] (fmem gi oa S) gl sh (Rt (some (vI (f_fr S.1 n s))) (fmem gi oa S) gl sh) := by
  obtain ⟨k0, r0, r1, r2, r3, ho, k1, l1, k2, l2, -, -, hE, hL⟩ := id hF
  intro n
  induction n with
  | zero =>
    intro s h0 h1
    refine g_iload_n dX1_freeSlot_2 rfl ?_
    refine g_aload_n dX1_freeSlot_3 rfl ?_
    refine g_getR 1 dX1_freeSlot_4 flX1_17 rfl (by assumption) (by assumption) ?_
    refine g_alen _ dX1_freeSlot_7 (by omega) (by assumption) (by decide) ?_
    refine g_icmp_ge 31 dX1_freeSlot_8 (by decide) (fun h8 => ?_) (fun h8 => ?_)
    · skip
      refine g_iconst dX1_freeSlot_31 (by decide) ?_
      refine g_ireturn dX1_freeSlot_32 rfl ?_
      exact ⟨rfl, rfl, rfl, rfl⟩
    · exfalso; omega
  | succ n ih =>
    intro s h0 h1
    obtain ⟨hr, hk⟩ := hL s h0 (by omega)
    refine g_iload_n dX1_freeSlot_2 rfl ?_
    refine g_aload_n dX1_freeSlot_3 rfl ?_
    refine g_getR 1 dX1_freeSlot_4 flX1_17 rfl (by assumption) (by assumption) ?_
    refine g_alen _ dX1_freeSlot_7 (by omega) (by assumption) (by decide) ?_
    refine g_icmp_ge 31 dX1_freeSlot_8 (by decide) (fun h8 => ?_) (fun h8 => ?_)
    · exfalso; omega
    · skip
      refine g_aload_n dX1_freeSlot_11 rfl ?_
      refine g_getR 1 dX1_freeSlot_12 flX1_17 rfl (by assumption) (by assumption) ?_
      refine g_iload_n dX1_freeSlot_15 rfl ?_
      refine g_aaload dX1_freeSlot_16 (by assumption) (by decide) (by decide) (by omega) (by omega) (by assumption) ?_
      refine g_getIN 5 dX1_freeSlot_17 fnX1_32 rfl (by assumption) ?_
      rw [fmem_l h0 (by omega)]
      refine g_if_ne 25 dX1_freeSlot_20 (by decide) (fun h20 => ?_) (fun h20 => ?_)
      · skip
        refine n_iinc (lN := [_, _]) dX1_freeSlot_25 rfl (by decide) (by omega) (by omega) rfl ?_
        refine g_goto 2 dX1_freeSlot_28 (by decide) ?_
        rw [f_fr, if_neg (by omega)]
        exact ih (s + 1) (by omega) (by omega)
      · skip
        refine g_iload_n dX1_freeSlot_23 rfl ?_
        refine g_ireturn dX1_freeSlot_24 rfl ?_
        exact ⟨by rw [f_fr, if_pos (by omega)], rfl, rfl, rfl⟩
theorem c_freeSlot (hF : isFold sh oa) (S : fS) : Ct mdX1_freeSlot 0 0 [vR 27] (fmem gi oa S) gl sh (Rt (some (vI (f_fr S.1 16 0))) (fmem gi oa S) gl sh) := by
  show Go mdX1_freeSlot 0 0 0 [some (vR 27), none] [] (fmem gi oa S) gl sh _
  refine g_iconst dX1_freeSlot_0 (by decide) ?_
  refine n_istore_n (lN := [_, _]) dX1_freeSlot_1 (by decide) rfl ?_
  exact l_freeSlot hF S 16 0 (by omega) (by omega)
set_option maxRecDepth 20000 in
set_option maxHeartbeats 1000000 in
theorem c_joinTo (hF : isFold sh oa) (S : fS) (s x : Int) (hs : 0 ≤ s ∧ s < 16) (hok : okS S) : Ct mdX1_joinTo 0 0 [vR 27, vI s, vI x] (fmem gi oa S) gl sh (Rt none (fmem gi oa (f_join S s x)) gl sh) := by
  show Go mdX1_joinTo 0 0 0 [some (vR 27), some (vI s), some (vI x)] [] (fmem gi oa S) gl sh _
  obtain ⟨k0, r0, r1, r2, r3, ho, k1, l1, k2, l2, -, -, hE, hL⟩ := id hF
  obtain ⟨o1, o2, o3, o4⟩ := hF.own
  obtain ⟨hr, hk⟩ := hL s hs.1 hs.2
  refine g_iload_n dX1_joinTo_0 rfl ?_
  refine g_if_lt 31 dX1_joinTo_1 (by decide) (fun h1 => ?_) (fun h1 => ?_)
  · skip
    refine g_return dX1_joinTo_31 rfl ?_
    exact ⟨rfl, by rw [f_join, if_neg (by omega)], rfl, rfl⟩
  · skip
    refine g_iload_n dX1_joinTo_4 rfl ?_
    refine g_aload_n dX1_joinTo_5 rfl ?_
    refine g_getR 1 dX1_joinTo_6 flX1_17 rfl (by assumption) (by assumption) ?_
    refine g_alen _ dX1_joinTo_9 (by omega) (by assumption) (by decide) ?_
    refine g_icmp_ge 31 dX1_joinTo_10 (by decide) (fun h10 => ?_) (fun h10 => ?_)
    · skip
      refine g_return dX1_joinTo_31 rfl ?_
      exact ⟨rfl, by rw [f_join, if_neg (by omega)], rfl, rfl⟩
    · skip
      refine g_iload_n dX1_joinTo_13 rfl ?_
      refine g_iload_n dX1_joinTo_14 rfl ?_
      refine g_icmp_eq 31 dX1_joinTo_15 (by decide) (fun h15 => ?_) (fun h15 => ?_)
      · skip
        refine g_return dX1_joinTo_31 rfl ?_
        exact ⟨rfl, by rw [f_join, if_neg (by omega)], rfl, rfl⟩
      · skip
        refine g_iload_n dX1_joinTo_18 rfl ?_
        refine g_if_lt 31 dX1_joinTo_19 (by decide) (fun h19 => ?_) (fun h19 => ?_)
        · exfalso; omega
        · skip
          refine g_iload_n dX1_joinTo_22 rfl ?_
          refine g_aload_n dX1_joinTo_23 rfl ?_
          refine g_getR 1 dX1_joinTo_24 flX1_17 rfl (by assumption) (by assumption) ?_
          refine g_alen _ dX1_joinTo_27 (by omega) (by assumption) (by decide) ?_
          refine g_icmp_lt 32 dX1_joinTo_28 (by decide) (fun h28 => ?_) (fun h28 => ?_)
          · skip
            obtain ⟨hrx, hkx⟩ := hL x (by omega) (by omega)
            have fa : fmem gi oa S (63 + s) = S.1 s := fmem_l hs.1 hs.2
            have fb : fmem gi oa S (63 + x) = S.1 x := fmem_l (by omega) (by omega)
            refine g_aload_n dX1_joinTo_32 rfl ?_
            refine g_getR 1 dX1_joinTo_33 flX1_17 rfl (by assumption) (by assumption) ?_
            refine g_iload_n dX1_joinTo_36 rfl ?_
            refine g_aaload dX1_joinTo_37 (by assumption) (by decide) (by decide) (by omega) (by omega) (by assumption) ?_
            refine g_aload_n dX1_joinTo_38 rfl ?_
            refine g_getR 1 dX1_joinTo_39 flX1_17 rfl (by assumption) (by assumption) ?_
            refine g_iload_n dX1_joinTo_42 rfl ?_
            refine g_aaload dX1_joinTo_43 (by assumption) (by decide) (by decide) (by omega) (by omega) (by assumption) ?_
            refine g_cVv [_] dX1_joinTo_44 mlX1_76 mvX0_absorb (by decide) (by assumption) (by decide) rfl rfl (Nat.le_of_ble_eq_true rfl) rfl (Nat.le_of_ble_eq_true rfl) (c_absorb hk hkx (by omega) (by rw [fa]; exact hok s hs.1 hs.2) (by rw [fb]; exact hok x (by omega) (by omega))) ?_
            rw [fa, fb, fmem_rl hs.1 hs.2, fmem_rl (by omega) (by omega)]
            refine g_aload_n dX1_joinTo_47 rfl ?_
            refine g_getR 2 dX1_joinTo_48 flX1_20 rfl (by assumption) (by assumption) ?_
            refine g_iload_n dX1_joinTo_51 rfl ?_
            refine g_iload_n dX1_joinTo_52 rfl ?_
            refine g_cSv [_, _, _] dX1_joinTo_53 mlX1_80 msX1_handOver (by decide) rfl rfl (Nat.le_of_ble_eq_true rfl) rfl (Nat.le_of_ble_eq_true rfl) (c_handOver o1 o2 x s) ?_
            rw [fmem_a ho, fmem_ra ho]
            refine g_aload_n dX1_joinTo_56 rfl ?_
            refine g_getR 3 dX1_joinTo_57 flX1_24 rfl (by assumption) (by assumption) ?_
            refine g_iload_n dX1_joinTo_60 rfl ?_
            refine g_iload_n dX1_joinTo_61 rfl ?_
            refine g_cSv [_, _, _] dX1_joinTo_62 mlX1_80 msX1_handOver (by decide) rfl rfl (Nat.le_of_ble_eq_true rfl) rfl (Nat.le_of_ble_eq_true rfl) (c_handOver o3 o4 x s) ?_
            refine g_return dX1_joinTo_65 rfl ?_
            exact ⟨rfl, by rw [fmem_n ho, fmem_rn ho, f_join, if_pos (by omega)], rfl, rfl⟩
          · exfalso; omega
set_option maxRecDepth 20000 in
set_option maxHeartbeats 1000000 in
theorem l_fAddCell (hF : isFold sh oa) (S : fS) (t c col dk : Int) (hc : 0 ≤ c ∧ c < 16) (ht : 0 ≤ t ∧ t ≤ 100) (hcol : 0 ≤ col ∧ col ≤ 9) (hdk : dk = 0 ∨ dk = 1) (s : Int) (hsl : s = f_slot S c) (hs : 0 ≤ s ∧ s < 16) (hok : okS S) (hok1 : okS (f_c1 S t c col dk)) (hok2 : okS (f_c2 S t c col dk)) (hok3 : okS (f_c3 S t c col dk)) : Go mdX1_addCell 0 0 24 [some (vR 27), some (vI t), some (vI c), some (vI col), some (vI dk), some (vI s), none] [] (fmem gi oa S) gl sh (Rt none (fmem gi oa (f_cell S t c col dk)) gl sh) := by
  obtain ⟨k0, r0, r1, r2, r3, ho, k1, l1, k2, l2, -, -, hE, hL⟩ := id hF
  obtain ⟨o1, o2, o3, o4⟩ := hF.own
  obtain ⟨hr, hk⟩ := hL s hs.1 hs.2
  refine g_iload dX1_addCell_24 rfl ?_
  refine g_if_lt 52 dX1_addCell_26 (by decide) (fun h26 => ?_) (fun h26 => ?_)
  · exfalso; omega
  · skip
    refine g_iload dX1_addCell_29 rfl ?_
    refine g_aload_n dX1_addCell_31 rfl ?_
    refine g_getR 1 dX1_addCell_32 flX1_17 rfl (by assumption) (by assumption) ?_
    refine g_alen _ dX1_addCell_35 (by omega) (by assumption) (by decide) ?_
    refine g_icmp_ge 52 dX1_addCell_36 (by decide) (fun h36 => ?_) (fun h36 => ?_)
    · exfalso; omega
    · skip
      refine g_iload_n dX1_addCell_39 rfl ?_
      refine g_if_lt 52 dX1_addCell_40 (by decide) (fun h40 => ?_) (fun h40 => ?_)
      · exfalso; omega
      · skip
        refine g_iload_n dX1_addCell_43 rfl ?_
        refine g_aload_n dX1_addCell_44 rfl ?_
        refine g_getR 3 dX1_addCell_45 flX1_24 rfl (by assumption) (by assumption) ?_
        refine g_alen _ dX1_addCell_48 (by omega) (by assumption) (by decide) ?_
        refine g_icmp_lt 53 dX1_addCell_49 (by decide) (fun h49 => ?_) (fun h49 => ?_)
        · skip
          refine g_aload_n dX1_addCell_53 rfl ?_
          refine g_getR 3 dX1_addCell_54 flX1_24 rfl (by assumption) (by assumption) ?_
          refine g_iload_n dX1_addCell_57 rfl ?_
          refine g_iload dX1_addCell_58 rfl ?_
          refine g_iastore dX1_addCell_60 (by assumption) (by omega) (by omega) ?_
          rw [show g_up (fmem gi oa S) (61 - oa) c s = fmem gi oa (S.1, S.2.1, r_up S.2.2 c s) by rw [g_up_as_row, fmem_n ho, fmem_rn ho]; rfl]
          refine g_aload_n dX1_addCell_61 rfl ?_
          refine g_getR 1 dX1_addCell_62 flX1_17 rfl (by assumption) (by assumption) ?_
          refine g_iload dX1_addCell_65 rfl ?_
          refine g_aaload dX1_addCell_67 (by assumption) (by decide) (by decide) (by omega) (by omega) (by assumption) ?_
          refine g_iload_n dX1_addCell_68 rfl ?_
          refine g_iload_n dX1_addCell_69 rfl ?_
          refine g_iload_n dX1_addCell_70 rfl ?_
          refine g_iload dX1_addCell_71 rfl ?_
          refine g_cVv [_, _, _, _] dX1_addCell_73 mlX1_71 mvX0_addCell (by decide) (by assumption) (by decide) rfl rfl (Nat.le_of_ble_eq_true rfl) rfl (Nat.le_of_ble_eq_true rfl) (c_addCell hk t c col dk (by rw [fmem_l hs.1 hs.2]; exact hok s hs.1 hs.2) hcol hdk) ?_
          rw [fmem_l hs.1 hs.2, fmem_rl hs.1 hs.2]
          have e1 : ((g_row S.1 s (bl_add (S.1 s) t c col dk), S.2.1, r_up S.2.2 c s) : fS) = f_c1 S t c col dk := by rw [f_c1, f_put, ← hsl]
          dsimp only
          rw [e1]
          refine g_iload_n dX1_addCell_76 rfl ?_
          refine g_iconst dX1_addCell_77 (by decide) ?_
          refine g_isub dX1_addCell_78 (by omega) (by omega) ?_
          refine n_istore (lN := [_, _, _, _, _, _, _]) dX1_addCell_79 (by decide) rfl ?_
          refine g_iload dX1_addCell_81 rfl ?_
          refine g_iload_n dX1_addCell_83 rfl ?_
          refine g_iconst dX1_addCell_84 (by decide) ?_
          refine g_iadd dX1_addCell_85 (by omega) (by omega) ?_
          refine g_icmp_gt 110 dX1_addCell_86 (by decide) (fun h86 => ?_) (fun h86 => ?_)
          · exfalso; omega
          · skip
            refine g_aload_n dX1_addCell_89 rfl ?_
            refine g_iload dX1_addCell_90 rfl ?_
            refine g_aload_n dX1_addCell_92 rfl ?_
            refine g_getR 2 dX1_addCell_93 flX1_20 rfl (by assumption) (by assumption) ?_
            refine g_iload dX1_addCell_96 rfl ?_
            refine g_cSi [_, _] dX1_addCell_98 mlX1_63 msX1_ownerAt (by decide) rfl rfl (Nat.le_of_ble_eq_true rfl) rfl (Nat.le_of_ble_eq_true rfl) (c_ownerAt o1 o2 _) ?_
            rw [fmem_a ho]
            refine g_cVv [_, _] dX1_addCell_101 mlX1_72 mvX1_joinTo (by decide) (by assumption) (by decide) rfl rfl (Nat.le_of_ble_eq_true rfl) rfl (Nat.le_of_ble_eq_true rfl) (c_joinTo hF (f_c1 S t c col dk) s _ hs hok1) ?_
            rw [show f_join (f_c1 S t c col dk) s (f_own (f_c1 S t c col dk).2.1 (c - 1)) = f_c2 S t c col dk by rw [f_c2, ← hsl]]
            refine n_iinc (lN := [_, _, _, _, _, _, _]) dX1_addCell_104 rfl (by decide) (by omega) (by omega) rfl ?_
            refine g_goto 81 dX1_addCell_107 (by decide) ?_
            refine g_iload dX1_addCell_81 rfl ?_
            refine g_iload_n dX1_addCell_83 rfl ?_
            refine g_iconst dX1_addCell_84 (by decide) ?_
            refine g_iadd dX1_addCell_85 (by omega) (by omega) ?_
            refine g_icmp_gt 110 dX1_addCell_86 (by decide) (fun h86 => ?_) (fun h86 => ?_)
            · exfalso; omega
            · skip
              refine g_aload_n dX1_addCell_89 rfl ?_
              refine g_iload dX1_addCell_90 rfl ?_
              refine g_aload_n dX1_addCell_92 rfl ?_
              refine g_getR 2 dX1_addCell_93 flX1_20 rfl (by assumption) (by assumption) ?_
              refine g_iload dX1_addCell_96 rfl ?_
              refine g_cSi [_, _] dX1_addCell_98 mlX1_63 msX1_ownerAt (by decide) rfl rfl (Nat.le_of_ble_eq_true rfl) rfl (Nat.le_of_ble_eq_true rfl) (c_ownerAt o1 o2 _) ?_
              rw [fmem_a ho]
              refine g_cVv [_, _] dX1_addCell_101 mlX1_72 mvX1_joinTo (by decide) (by assumption) (by decide) rfl rfl (Nat.le_of_ble_eq_true rfl) rfl (Nat.le_of_ble_eq_true rfl) (c_joinTo hF (f_c2 S t c col dk) s _ hs hok2) ?_
              rw [show c - 1 + 1 = c by omega, show f_join (f_c2 S t c col dk) s (f_own (f_c2 S t c col dk).2.1 c) = f_c3 S t c col dk by rw [f_c3, ← hsl]]
              refine n_iinc (lN := [_, _, _, _, _, _, _]) dX1_addCell_104 rfl (by decide) (by omega) (by omega) rfl ?_
              refine g_goto 81 dX1_addCell_107 (by decide) ?_
              refine g_iload dX1_addCell_81 rfl ?_
              refine g_iload_n dX1_addCell_83 rfl ?_
              refine g_iconst dX1_addCell_84 (by decide) ?_
              refine g_iadd dX1_addCell_85 (by omega) (by omega) ?_
              refine g_icmp_gt 110 dX1_addCell_86 (by decide) (fun h86 => ?_) (fun h86 => ?_)
              · exfalso; omega
              · skip
                refine g_aload_n dX1_addCell_89 rfl ?_
                refine g_iload dX1_addCell_90 rfl ?_
                refine g_aload_n dX1_addCell_92 rfl ?_
                refine g_getR 2 dX1_addCell_93 flX1_20 rfl (by assumption) (by assumption) ?_
                refine g_iload dX1_addCell_96 rfl ?_
                refine g_cSi [_, _] dX1_addCell_98 mlX1_63 msX1_ownerAt (by decide) rfl rfl (Nat.le_of_ble_eq_true rfl) rfl (Nat.le_of_ble_eq_true rfl) (c_ownerAt o1 o2 _) ?_
                rw [fmem_a ho]
                refine g_cVv [_, _] dX1_addCell_101 mlX1_72 mvX1_joinTo (by decide) (by assumption) (by decide) rfl rfl (Nat.le_of_ble_eq_true rfl) rfl (Nat.le_of_ble_eq_true rfl) (c_joinTo hF (f_c3 S t c col dk) s _ hs hok3) ?_
                rw [show f_join (f_c3 S t c col dk) s (f_own (f_c3 S t c col dk).2.1 (c + 1)) = f_cell S t c col dk by rw [f_cell, ← hsl]]
                refine n_iinc (lN := [_, _, _, _, _, _, _]) dX1_addCell_104 rfl (by decide) (by omega) (by omega) rfl ?_
                refine g_goto 81 dX1_addCell_107 (by decide) ?_
                refine g_iload dX1_addCell_81 rfl ?_
                refine g_iload_n dX1_addCell_83 rfl ?_
                refine g_iconst dX1_addCell_84 (by decide) ?_
                refine g_iadd dX1_addCell_85 (by omega) (by omega) ?_
                refine g_icmp_gt 110 dX1_addCell_86 (by decide) (fun h86 => ?_) (fun h86 => ?_)
                · skip
                  refine g_return dX1_addCell_110 rfl ?_
                  exact ⟨rfl, rfl, rfl, rfl⟩
                · exfalso; omega
        · exfalso; omega
set_option maxRecDepth 20000 in
set_option maxHeartbeats 1000000 in
theorem c_fAddCell (hF : isFold sh oa) (S : fS) (t c col dk : Int) (hc : 0 ≤ c ∧ c < 16) (ht : 0 ≤ t ∧ t ≤ 100) (hcol : 0 ≤ col ∧ col ≤ 9) (hdk : dk = 0 ∨ dk = 1) (hs : 0 ≤ f_slot S c ∧ f_slot S c < 16) (hok : okS S) (hok1 : okS (f_c1 S t c col dk)) (hok2 : okS (f_c2 S t c col dk)) (hok3 : okS (f_c3 S t c col dk)) : Ct mdX1_addCell 0 0 [vR 27, vI t, vI c, vI col, vI dk] (fmem gi oa S) gl sh (Rt none (fmem gi oa (f_cell S t c col dk)) gl sh) := by
  show Go mdX1_addCell 0 0 0 [some (vR 27), some (vI t), some (vI c), some (vI col), some (vI dk), none, none] [] (fmem gi oa S) gl sh _
  obtain ⟨k0, r0, r1, r2, r3, ho, k1, l1, k2, l2, -, -, hE, hL⟩ := id hF
  obtain ⟨o1, o2, o3, o4⟩ := hF.own
  refine g_aload_n dX1_addCell_0 rfl ?_
  refine g_getR 3 dX1_addCell_1 flX1_24 rfl (by assumption) (by assumption) ?_
  refine g_iload_n dX1_addCell_4 rfl ?_
  refine g_iconst dX1_addCell_5 (by decide) ?_
  refine g_isub dX1_addCell_6 (by omega) (by omega) ?_
  refine g_cSi [_, _] dX1_addCell_7 mlX1_63 msX1_ownerAt (by decide) rfl rfl (Nat.le_of_ble_eq_true rfl) rfl (Nat.le_of_ble_eq_true rfl) (c_ownerAt o3 o4 (c - 1)) ?_
  rw [fmem_n ho]
  refine n_istore (lN := [_, _, _, _, _, _, _]) dX1_addCell_10 (by decide) rfl ?_
  refine g_iload dX1_addCell_12 rfl ?_
  refine g_iconst dX1_addCell_14 (by decide) ?_
  refine g_icmp_ne 24 dX1_addCell_15 (by decide) (fun h15 => ?_) (fun h15 => ?_)
  · skip
    have hz : f_own S.2.2 (c - 1) = f_slot S c := by rw [f_slot, if_neg h15]
    exact l_fAddCell hF S t c col dk hc ht hcol hdk _ hz (by rw [hz]; exact hs) hok hok1 hok2 hok3
  · skip
    refine g_aload_n dX1_addCell_18 rfl ?_
    refine g_cVi [] dX1_addCell_19 mlX1_67 mvX1_freeSlot (by decide) (by assumption) (by decide) rfl rfl (Nat.le_of_ble_eq_true rfl) rfl (Nat.le_of_ble_eq_true rfl) (c_freeSlot hF S) ?_
    refine n_istore (lN := [_, _, _, _, _, _, _]) dX1_addCell_22 (by decide) rfl ?_
    have hz : f_fr S.1 16 0 = f_slot S c := by rw [f_slot, if_pos (by omega)]
    exact l_fAddCell hF S t c col dk hc ht hcol hdk _ hz (by rw [hz]; exact hs) hok hok1 hok2 hok3
end FOLD1
