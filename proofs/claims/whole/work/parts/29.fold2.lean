/-! Fold: ended ones, counts -/
def emem (gi : gF) (er : Int → gRw) (ec : Int) : gF := fun b => if 32 ≤ b ∧ b < 63 then er (b - 32) else if b = 27 then r_up (gi 27) 4 ec else gi b
theorem fm_e {gi : gF} {oa : Int} {S : fS} {er : Int → gRw} {ec i : Int} (h0 : 0 ≤ i) (h1 : i < 31) (ho : oa = 30 ∨ oa = 31) : fmem (emem gi er ec) oa S (32 + i) = er i := by
  rw [fmem_o (by omega) (by omega) (by omega) ho]; unfold emem; rw [if_pos (by omega), show 32 + i - 32 = i by omega]
theorem fm_c {gi : gF} {oa : Int} {S : fS} {er : Int → gRw} {ec : Int} (ho : oa = 30 ∨ oa = 31) : fmem (emem gi er ec) oa S 27 4 = ec := by
  rw [fmem_o (by omega) (by omega) (by omega) ho]; unfold emem; rw [if_neg (by omega), if_pos rfl, r_up_at]
theorem fm_re {gi : gF} {oa : Int} {S : fS} {er : Int → gRw} {ec i : Int} {r : gRw} (h0 : 0 ≤ i) (h1 : i < 31) (ho : oa = 30 ∨ oa = 31) : g_row (fmem (emem gi er ec) oa S) (32 + i) r = fmem (emem gi (g_row er i r) ec) oa S := by
  funext b
  by_cases hb : b = 32 + i
  · subst hb; rw [g_row_at, fm_e h0 h1 ho, g_row_at]
  · rw [g_row_ne hb]
    unfold fmem emem
    split
    · rfl
    · split
      · rfl
      · split
        · rfl
        · split
          · rw [g_row_ne (by omega)]
          · rfl
theorem fm_rc {gi : gF} {oa : Int} {S : fS} {er : Int → gRw} {ec v : Int} (ho : oa = 30 ∨ oa = 31) : g_up (fmem (emem gi er ec) oa S) 27 4 v = fmem (emem gi er v) oa S := by
  rw [g_up_as_row]
  funext b
  by_cases hb : b = 27
  · subst hb
    rw [g_row_at, fmem_o (by omega) (by omega) (by omega) ho, fmem_o (by omega) (by omega) (by omega) ho]
    unfold emem
    rw [if_neg (by omega), if_pos rfl, if_neg (by omega), if_pos rfl]
    funext k
    simp only [r_up]
    split <;> rfl
  · rw [g_row_ne hb]
    unfold fmem emem
    simp only [hb, if_false]
def f_ear (lv : Int → gRw) (t : Int) : Nat → Int → Int → Int
  | 0, _, e => e
  | n + 1, s, e => f_ear lv t n (s + 1) (if (0 < lv s 5 ∧ lv s 1 < t) ∧ (e = -1 ∨ lv s 0 < lv e 0 ∨ lv s 0 = lv e 0 ∧ lv s 2 < lv e 2) then s else e)
def f_end (t : Int) : Nat → (Int → gRw) → (Int → gRw) → Int → (Int → gRw) × (Int → gRw) × Int
  | 0, lv, er, ec => (lv, er, ec)
  | n + 1, lv, er, ec => if f_ear lv t 16 0 (-1) < 0 then (lv, er, ec) else f_end t n (g_row lv (f_ear lv t 16 0 (-1)) (bl_off (lv (f_ear lv t 16 0 (-1))))) (g_row er ec (bl_cpy (er ec) (lv (f_ear lv t 16 0 (-1))))) (ec + 1)
theorem f_ear_b (lv : Int → gRw) (t : Int) : ∀ (n : Nat) (s e : Int), 0 ≤ s → s + n = 16 → (-1 ≤ e ∧ e < 16) → -1 ≤ f_ear lv t n s e ∧ f_ear lv t n s e < 16 := by
  intro n
  induction n with
  | zero => intro s e _ _ h; exact h
  | succ n ih =>
    intro s e h0 h1 h2
    unfold f_ear
    refine ih (s + 1) _ (by omega) (by omega) ?_
    split <;> omega
/-- how many more end never is more than there is room for -/
def f_room (t : Int) : Nat → (Int → gRw) → Int → Prop
  | 0, _, _ => True
  | n + 1, lv, ec => f_ear lv t 16 0 (-1) < 0 ∨ (ec < 31 ∧ f_room t n (g_row lv (f_ear lv t 16 0 (-1)) (bl_off (lv (f_ear lv t 16 0 (-1))))) (ec + 1))
def f_cnt (lv : Int → gRw) : Nat → Int
  | 0 => 0
  | n + 1 => f_cnt lv n + (if 0 < lv (n : Int) 5 then 1 else 0)
def f_sum (lv : Int → gRw) : Nat → Int
  | 0 => 0
  | n + 1 => f_sum lv n + lv (n : Int) 5
theorem f_cnt_b (lv : Int → gRw) : ∀ n : Nat, 0 ≤ f_cnt lv n ∧ f_cnt lv n ≤ n := by
  intro n
  induction n with
  | zero => simp [f_cnt]
  | succ n ih => simp only [f_cnt]; split <;> omega
theorem f_sum_b {lv : Int → gRw} (h : ∀ s : Int, 0 ≤ s → s < 16 → bl_ok (lv s)) : ∀ n : Nat, n ≤ 16 → 0 ≤ f_sum lv n ∧ f_sum lv n ≤ 100000 * n := by
  intro n
  induction n with
  | zero => intro _; simp [f_sum]
  | succ n ih =>
    intro hn
    have h1 := ih (by omega)
    have h2 := h n (by omega) (by omega) 5 (by decide) (by decide)
    simp only [f_sum]
    omega
section FOLD2
variable {gi gl : gF} {sh : gSh} {oa a : Int}
set_option maxRecDepth 20000 in
theorem l_ear (hF : isFold sh oa) (S : fS) (t : Int) : ∀ (n : Nat) (s e : Int), 0 ≤ s → s + n = 16 → (-1 ≤ e ∧ e < 16) → ∀ l4 : Option gV, (∀ y, l4 ≠ some (vL y)) → Go mdX1_earliestWithout 0 0 4 [some (vR 27), some (vI t), some (vI e), some (vI s), l4] [] (fmem gi oa S) gl sh (Rt (some (vI (f_ear S.1 t n s e))) (fmem gi oa S) gl sh) := by
  obtain ⟨k0, r0, r1, r2, r3, ho, k1, l1, k2, l2, -, -, hE, hL⟩ := id hF
  intro n
  induction n with
  | zero =>
    intro s e h0 h1 h2 l4 h4
    refine g_iload_n dX1_earliestWithout_4 rfl ?_
    refine g_aload_n dX1_earliestWithout_5 rfl ?_
    refine g_getR 1 dX1_earliestWithout_6 flX1_17 rfl (by assumption) (by assumption) ?_
    refine g_alen _ dX1_earliestWithout_9 (by omega) (by assumption) (by decide) ?_
    refine g_icmp_ge 81 dX1_earliestWithout_10 (by decide) (fun h10 => ?_) (fun h10 => ?_)
    · skip
      refine g_iload_n dX1_earliestWithout_81 rfl ?_
      refine g_ireturn dX1_earliestWithout_82 rfl ?_
      exact ⟨rfl, rfl, rfl, rfl⟩
    · exfalso; omega
  | succ n ih =>
    intro s e h0 h1 h2 l4 h4
    obtain ⟨hr, hk⟩ := hL s h0 (by omega)
    have fa : fmem gi oa S (63 + s) = S.1 s := fmem_l h0 (by omega)
    refine g_iload_n dX1_earliestWithout_4 rfl ?_
    refine g_aload_n dX1_earliestWithout_5 rfl ?_
    refine g_getR 1 dX1_earliestWithout_6 flX1_17 rfl (by assumption) (by assumption) ?_
    refine g_alen _ dX1_earliestWithout_9 (by omega) (by assumption) (by decide) ?_
    refine g_icmp_ge 81 dX1_earliestWithout_10 (by decide) (fun h10 => ?_) (fun h10 => ?_)
    · exfalso; omega
    · skip
      refine g_aload_n dX1_earliestWithout_13 rfl ?_
      refine g_getR 1 dX1_earliestWithout_14 flX1_17 rfl (by assumption) (by assumption) ?_
      refine g_iload_n dX1_earliestWithout_17 rfl ?_
      refine g_aaload dX1_earliestWithout_18 (by assumption) (by decide) (by decide) (by omega) (by omega) (by assumption) ?_
      refine g_getIN 5 dX1_earliestWithout_19 fnX1_32 rfl (by assumption) ?_
      rw [fa]
      refine g_if_le 42 dX1_earliestWithout_22 (by decide) (fun q1 => ?_) (fun q1 => ?_)
      · skip
        refine g_iconst dX1_earliestWithout_42 (by decide) ?_
        refine n_istore (lN := [_, _, _, _, _]) dX1_earliestWithout_43 (by decide) rfl ?_
        refine g_iload dX1_earliestWithout_45 rfl ?_
        refine g_if_eq 75 dX1_earliestWithout_47 (by decide) (fun h47 => ?_) (fun h47 => ?_)
        · skip
          refine n_iinc (lN := [_, _, _, _, _]) dX1_earliestWithout_75 rfl (by decide) (by omega) (by omega) rfl ?_
          refine g_goto 4 dX1_earliestWithout_78 (by decide) ?_
          rw [f_ear]
          rw [if_neg (fun q => by omega)]
          exact ih (s + 1) e (by omega) (by omega) h2 _ (fun y hy => by cases hy)
        · exfalso; omega
      · skip
        refine g_aload_n dX1_earliestWithout_25 rfl ?_
        refine g_getR 1 dX1_earliestWithout_26 flX1_17 rfl (by assumption) (by assumption) ?_
        refine g_iload_n dX1_earliestWithout_29 rfl ?_
        refine g_aaload dX1_earliestWithout_30 (by assumption) (by decide) (by decide) (by omega) (by omega) (by assumption) ?_
        refine g_getIN 1 dX1_earliestWithout_31 fnX1_90 rfl (by assumption) ?_
        rw [fa]
        refine g_iload_n dX1_earliestWithout_34 rfl ?_
        refine g_icmp_ge 42 dX1_earliestWithout_35 (by decide) (fun q2 => ?_) (fun q2 => ?_)
        · skip
          refine g_iconst dX1_earliestWithout_42 (by decide) ?_
          refine n_istore (lN := [_, _, _, _, _]) dX1_earliestWithout_43 (by decide) rfl ?_
          refine g_iload dX1_earliestWithout_45 rfl ?_
          refine g_if_eq 75 dX1_earliestWithout_47 (by decide) (fun h47 => ?_) (fun h47 => ?_)
          · skip
            refine n_iinc (lN := [_, _, _, _, _]) dX1_earliestWithout_75 rfl (by decide) (by omega) (by omega) rfl ?_
            refine g_goto 4 dX1_earliestWithout_78 (by decide) ?_
            rw [f_ear]
            rw [if_neg (fun q => by omega)]
            exact ih (s + 1) e (by omega) (by omega) h2 _ (fun y hy => by cases hy)
          · exfalso; omega
        · skip
          refine g_iconst dX1_earliestWithout_38 (by decide) ?_
          refine g_goto 43 dX1_earliestWithout_39 (by decide) ?_
          refine n_istore (lN := [_, _, _, _, _]) dX1_earliestWithout_43 (by decide) rfl ?_
          refine g_iload dX1_earliestWithout_45 rfl ?_
          refine g_if_eq 75 dX1_earliestWithout_47 (by decide) (fun h47 => ?_) (fun h47 => ?_)
          · exfalso; omega
          · skip
            refine g_iload_n dX1_earliestWithout_50 rfl ?_
            refine g_iconst dX1_earliestWithout_51 (by decide) ?_
            refine g_icmp_eq 73 dX1_earliestWithout_52 (by decide) (fun q3 => ?_) (fun q3 => ?_)
            · skip
              refine g_iload_n dX1_earliestWithout_73 rfl ?_
              refine n_istore_n (lN := [_, _, _, _, _]) dX1_earliestWithout_74 (by decide) rfl ?_
              refine n_iinc (lN := [_, _, _, _, _]) dX1_earliestWithout_75 rfl (by decide) (by omega) (by omega) rfl ?_
              refine g_goto 4 dX1_earliestWithout_78 (by decide) ?_
              rw [f_ear]
              rw [if_pos ⟨⟨by omega, by omega⟩, Or.inl (by omega)⟩]
              exact ih (s + 1) s (by omega) (by omega) (by omega) _ (fun y hy => by cases hy)
            · skip
              obtain ⟨hre, hke⟩ := hL e (by omega) (by omega)
              have fe : fmem gi oa S (63 + e) = S.1 e := fmem_l (by omega) (by omega)
              obtain ⟨z, hz⟩ := Zq.ex (bl_lt (S.1 s) (S.1 e))
              refine g_aload_n dX1_earliestWithout_55 rfl ?_
              refine g_getR 1 dX1_earliestWithout_56 flX1_17 rfl (by assumption) (by assumption) ?_
              refine g_iload_n dX1_earliestWithout_59 rfl ?_
              refine g_aaload dX1_earliestWithout_60 (by assumption) (by decide) (by decide) (by omega) (by omega) (by assumption) ?_
              refine g_aload_n dX1_earliestWithout_61 rfl ?_
              refine g_getR 1 dX1_earliestWithout_62 flX1_17 rfl (by assumption) (by assumption) ?_
              refine g_iload_n dX1_earliestWithout_65 rfl ?_
              refine g_aaload dX1_earliestWithout_66 (by assumption) (by decide) (by decide) (by omega) (by omega) (by assumption) ?_
              refine g_cVi [_] dX1_earliestWithout_67 mlX1_93 mvX0_beganBefore (by decide) (by assumption) (by decide) rfl rfl (Nat.le_of_ble_eq_true rfl) rfl (Nat.le_of_ble_eq_true rfl) (c_beganBefore hk hke z (by rw [fa, fe]; exact hz.1) (by rw [fa, fe]; exact hz.2)) ?_
              refine g_if_eq 75 dX1_earliestWithout_70 (by decide) (fun q4 => ?_) (fun q4 => ?_)
              · skip
                refine n_iinc (lN := [_, _, _, _, _]) dX1_earliestWithout_75 rfl (by decide) (by omega) (by omega) rfl ?_
                refine g_goto 4 dX1_earliestWithout_78 (by decide) ?_
                rw [f_ear]
                rw [if_neg (fun q => q.2.elim (fun q5 => q3 q5) (fun q5 => hz.no q4 q5))]
                exact ih (s + 1) e (by omega) (by omega) h2 _ (fun y hy => by cases hy)
              · skip
                refine g_iload_n dX1_earliestWithout_73 rfl ?_
                refine n_istore_n (lN := [_, _, _, _, _]) dX1_earliestWithout_74 (by decide) rfl ?_
                refine n_iinc (lN := [_, _, _, _, _]) dX1_earliestWithout_75 rfl (by decide) (by omega) (by omega) rfl ?_
                refine g_goto 4 dX1_earliestWithout_78 (by decide) ?_
                rw [f_ear]
                rw [if_pos ⟨⟨by omega, by omega⟩, Or.inr (hz.yes q4)⟩]
                exact ih (s + 1) s (by omega) (by omega) (by omega) _ (fun y hy => by cases hy)
theorem c_ear (hF : isFold sh oa) (S : fS) (t : Int) : Ct mdX1_earliestWithout 0 0 [vR 27, vI t] (fmem gi oa S) gl sh (Rt (some (vI (f_ear S.1 t 16 0 (-1)))) (fmem gi oa S) gl sh) := by
  show Go mdX1_earliestWithout 0 0 0 [some (vR 27), some (vI t), none, none, none] [] (fmem gi oa S) gl sh _
  refine g_iconst dX1_earliestWithout_0 (by decide) ?_
  refine n_istore_n (lN := [_, _, _, _, _]) dX1_earliestWithout_1 (by decide) rfl ?_
  refine g_iconst dX1_earliestWithout_2 (by decide) ?_
  refine n_istore_n (lN := [_, _, _, _, _]) dX1_earliestWithout_3 (by decide) rfl ?_
  exact l_ear hF S t 16 0 (-1) (by omega) (by omega) (by omega) _ (fun y hy => by cases hy)
set_option maxRecDepth 20000 in
set_option maxHeartbeats 1000000 in
theorem l_end (hF : isFold sh oa) (t e0 : Int) (S2 : gRw × gRw) : ∀ (n : Nat) (lv er : Int → gRw) (ec i : Int), i + n = 16 → 0 ≤ i → (0 ≤ e0 ∧ e0 ≤ ec ∧ ec ≤ 31) → f_room t n lv ec → ∀ l4 : Option gV, (∀ y, l4 ≠ some (vL y)) →
    Go mdX1_endAllWithout 0 0 7 [some (vR 27), some (vI t), some (vI e0), some (vI i), l4] [] (fmem (emem gi er ec) oa (lv, S2)) gl sh (Rt (some (vI ((f_end t n lv er ec).2.2 - e0))) (fmem (emem gi (f_end t n lv er ec).2.1 (f_end t n lv er ec).2.2) oa ((f_end t n lv er ec).1, S2)) gl sh) := by
  obtain ⟨k0, r0, r1, r2, r3, ho, k1, l1, k2, l2, -, -, hE, hL⟩ := id hF
  intro n
  induction n with
  | zero =>
    intro lv er ec i h0 h1 h2 hr l4 h4
    have fc : (fmem (emem gi er ec) oa (lv, S2)) 27 4 = ec := fm_c ho
    refine g_iload_n dX1_endAllWithout_7 rfl ?_
    refine g_aload_n dX1_endAllWithout_8 rfl ?_
    refine g_getR 1 dX1_endAllWithout_9 flX1_17 rfl (by assumption) (by assumption) ?_
    refine g_alen _ dX1_endAllWithout_12 (by omega) (by assumption) (by decide) ?_
    refine g_icmp_ge 99 dX1_endAllWithout_13 (by decide) (fun h13 => ?_) (fun h13 => ?_)
    · skip
      refine g_aload_n dX1_endAllWithout_99 rfl ?_
      refine g_getI 4 dX1_endAllWithout_100 flX1_28 rfl (by assumption) ?_
      refine g_iload_n dX1_endAllWithout_103 rfl ?_
      refine g_isub dX1_endAllWithout_104 (by rw [fc]; omega) (by rw [fc]; omega) ?_
      refine g_ireturn dX1_endAllWithout_105 rfl ?_
      exact ⟨by rw [fc]; rfl, rfl, rfl, rfl⟩
    · exfalso; omega
  | succ n ih =>
    intro lv er ec i h0 h1 h2 hr l4 h4
    have fc : (fmem (emem gi er ec) oa (lv, S2)) 27 4 = ec := fm_c ho
    have hb := f_ear_b lv t 16 0 (-1) (by omega) (by omega) (by omega)
    have hunf : f_end t (n + 1) lv er ec = (if f_ear lv t 16 0 (-1) < 0 then (lv, er, ec) else f_end t n (g_row lv (f_ear lv t 16 0 (-1)) (bl_off (lv (f_ear lv t 16 0 (-1))))) (g_row er ec (bl_cpy (er ec) (lv (f_ear lv t 16 0 (-1))))) (ec + 1)) := rfl
    have hroom : f_ear lv t 16 0 (-1) < 0 ∨ (ec < 31 ∧ f_room t n (g_row lv (f_ear lv t 16 0 (-1)) (bl_off (lv (f_ear lv t 16 0 (-1))))) (ec + 1)) := hr
    have hcall := c_ear (gi := emem gi er ec) (gl := gl) hF (lv, S2) t
    generalize hs : f_ear lv t 16 0 (-1) = s at hb hunf hroom hcall
    refine g_iload_n dX1_endAllWithout_7 rfl ?_
    refine g_aload_n dX1_endAllWithout_8 rfl ?_
    refine g_getR 1 dX1_endAllWithout_9 flX1_17 rfl (by assumption) (by assumption) ?_
    refine g_alen _ dX1_endAllWithout_12 (by omega) (by assumption) (by decide) ?_
    refine g_icmp_ge 99 dX1_endAllWithout_13 (by decide) (fun h13 => ?_) (fun h13 => ?_)
    · exfalso; omega
    · skip
      refine g_aload_n dX1_endAllWithout_16 rfl ?_
      refine g_iload_n dX1_endAllWithout_17 rfl ?_
      refine g_cVi [_] dX1_endAllWithout_18 mlX1_84 mvX1_earliestWithout (by decide) (by assumption) (by decide) rfl rfl (Nat.le_of_ble_eq_true rfl) rfl (Nat.le_of_ble_eq_true rfl) (hcall) ?_
      refine n_istore (lN := [_, _, _, _, _]) dX1_endAllWithout_21 (by decide) rfl ?_
      refine g_iload dX1_endAllWithout_23 rfl ?_
      refine g_if_lt 99 dX1_endAllWithout_25 (by decide) (fun q1 => ?_) (fun q1 => ?_)
      · skip
        refine g_aload_n dX1_endAllWithout_99 rfl ?_
        refine g_getI 4 dX1_endAllWithout_100 flX1_28 rfl (by assumption) ?_
        refine g_iload_n dX1_endAllWithout_103 rfl ?_
        refine g_isub dX1_endAllWithout_104 (by rw [fc]; omega) (by rw [fc]; omega) ?_
        refine g_ireturn dX1_endAllWithout_105 rfl ?_
        exact ⟨by rw [fc, hunf, if_pos (by omega)], by rw [hunf, if_pos (by omega)], rfl, rfl⟩
      · skip
        obtain ⟨hrs, hks⟩ := hL s (by omega) (by omega)
        have fa : (fmem (emem gi er ec) oa (lv, S2)) (63 + s) = lv s := fmem_l (by omega) (by omega)
        refine g_iload dX1_endAllWithout_28 rfl ?_
        refine g_aload_n dX1_endAllWithout_30 rfl ?_
        refine g_getR 1 dX1_endAllWithout_31 flX1_17 rfl (by assumption) (by assumption) ?_
        refine g_alen _ dX1_endAllWithout_34 (by omega) (by assumption) (by decide) ?_
        refine g_icmp_ge 99 dX1_endAllWithout_35 (by decide) (fun h35 => ?_) (fun h35 => ?_)
        · exfalso; omega
        · skip
          refine g_aload_n dX1_endAllWithout_38 rfl ?_
          refine g_getI 4 dX1_endAllWithout_39 flX1_28 rfl (by assumption) ?_
          refine g_aload_n dX1_endAllWithout_42 rfl ?_
          refine g_getR 0 dX1_endAllWithout_43 flX1_11 rfl (by assumption) (by assumption) ?_
          refine g_alen _ dX1_endAllWithout_46 (by omega) (by assumption) (by decide) ?_
          refine g_icmp_lt 53 dX1_endAllWithout_47 (by decide) (fun h47 => ?_) (fun h47 => ?_)
          · skip
            rw [fc] at h47
            obtain ⟨hre, hke⟩ := hE ec (by omega) (by omega)
            have fe : (fmem (emem gi er ec) oa (lv, S2)) (32 + ec) = er ec := fm_e (by omega) (by omega) ho
            refine g_aload_n dX1_endAllWithout_53 rfl ?_
            refine g_getR 0 dX1_endAllWithout_54 flX1_11 rfl (by assumption) (by assumption) ?_
            refine g_aload_n dX1_endAllWithout_57 rfl ?_
            refine g_getI 4 dX1_endAllWithout_58 flX1_28 rfl (by assumption) ?_
            rw [fc]
            refine g_aaload dX1_endAllWithout_61 (by assumption) (by decide) (by decide) (by omega) (by omega) (by assumption) ?_
            refine g_aload_n dX1_endAllWithout_62 rfl ?_
            refine g_getR 1 dX1_endAllWithout_63 flX1_17 rfl (by assumption) (by assumption) ?_
            refine g_iload dX1_endAllWithout_66 rfl ?_
            refine g_aaload dX1_endAllWithout_68 (by assumption) (by decide) (by decide) (by omega) (by omega) (by assumption) ?_
            refine g_cVv [_] dX1_endAllWithout_69 mlX1_87 mvX0_copyFrom (by decide) (by assumption) (by decide) rfl rfl (Nat.le_of_ble_eq_true rfl) rfl (Nat.le_of_ble_eq_true rfl) (c_copyFrom hke hks (by omega)) ?_
            rw [fa, fe, fm_re (by omega) (by omega) ho]
            refine g_aload_n dX1_endAllWithout_72 rfl ?_
            refine g_dup dX1_endAllWithout_73 (fun _ h9 => by cases h9) ?_
            refine g_getI 4 dX1_endAllWithout_74 flX1_28 rfl (by assumption) ?_
            refine g_iconst dX1_endAllWithout_77 (by decide) ?_
            refine g_iadd dX1_endAllWithout_78 (by rw [fm_c ho]; omega) (by rw [fm_c ho]; omega) ?_
            refine g_putI 4 dX1_endAllWithout_79 flX1_28 rfl (by assumption) ?_
            rw [fm_c ho, fm_rc ho]
            refine g_aload_n dX1_endAllWithout_82 rfl ?_
            refine g_getR 1 dX1_endAllWithout_83 flX1_17 rfl (by assumption) (by assumption) ?_
            refine g_iload dX1_endAllWithout_86 rfl ?_
            refine g_aaload dX1_endAllWithout_88 (by assumption) (by decide) (by decide) (by omega) (by omega) (by assumption) ?_
            refine g_iconst dX1_endAllWithout_89 (by decide) ?_
            refine g_putIN 5 dX1_endAllWithout_90 fnX1_32 rfl (by assumption) ?_
            rw [g_up_as_row, fmem_l (by omega) (by omega), fmem_rl (by omega) (by omega)]
            refine n_iinc (lN := [_, _, _, _, _]) dX1_endAllWithout_93 rfl (by decide) (by omega) (by omega) rfl ?_
            refine g_goto 7 dX1_endAllWithout_96 (by decide) ?_
            rw [hunf, if_neg (by omega)]
            have hrm := (hroom.resolve_left (by omega)).2
            exact ih _ _ (ec + 1) (i + 1) (by omega) (by omega) (by omega) hrm _ (fun y hy => by cases hy)
          · exfalso; rw [fc] at h47; omega
theorem c_endAll (hF : isFold sh oa) (t : Int) (S2 : gRw × gRw) (lv er : Int → gRw) (ec : Int) (hec : 0 ≤ ec ∧ ec ≤ 31) (hr : f_room t 16 lv ec) : Ct mdX1_endAllWithout 0 0 [vR 27, vI t] (fmem (emem gi er ec) oa (lv, S2)) gl sh (Rt (some (vI ((f_end t 16 lv er ec).2.2 - ec))) (fmem (emem gi (f_end t 16 lv er ec).2.1 (f_end t 16 lv er ec).2.2) oa ((f_end t 16 lv er ec).1, S2)) gl sh) := by
  show Go mdX1_endAllWithout 0 0 0 [some (vR 27), some (vI t), none, none, none] [] (fmem (emem gi er ec) oa (lv, S2)) gl sh _
  obtain ⟨k0, r0, r1, r2, r3, ho, k1, l1, k2, l2, -, -, hE, hL⟩ := id hF
  refine g_aload_n dX1_endAllWithout_0 rfl ?_
  refine g_getI 4 dX1_endAllWithout_1 flX1_28 rfl (by assumption) ?_
  rw [fm_c ho]
  refine n_istore_n (lN := [_, _, _, _, _]) dX1_endAllWithout_4 (by decide) rfl ?_
  refine g_iconst dX1_endAllWithout_5 (by decide) ?_
  refine n_istore_n (lN := [_, _, _, _, _]) dX1_endAllWithout_6 (by decide) rfl ?_
  exact l_end hF t ec S2 16 lv er ec 0 (by omega) (by omega) (by omega) hr _ (fun y hy => by cases hy)
set_option maxRecDepth 20000 in
theorem l_liveBlobs (hF : isFold sh oa) (S : fS) : ∀ (n : Nat) (s x : Int), 0 ≤ s → s + n = 16 → x = f_cnt S.1 s.toNat → Go mdX1_liveBlobs 0 0 4 [some (vR 27), some (vI x), some (vI s)] [] (fmem gi oa S) gl sh (Rt (some (vI (f_cnt S.1 16))) (fmem gi oa S) gl sh) := by
  obtain ⟨k0, r0, r1, r2, r3, ho, k1, l1, k2, l2, -, -, hE, hL⟩ := id hF
  intro n
  induction n with
  | zero =>
    intro s x h0 h1 hx
    refine g_iload_n dX1_liveBlobs_4 rfl ?_
    refine g_aload_n dX1_liveBlobs_5 rfl ?_
    refine g_getR 1 dX1_liveBlobs_6 flX1_17 rfl (by assumption) (by assumption) ?_
    refine g_alen _ dX1_liveBlobs_9 (by omega) (by assumption) (by decide) ?_
    refine g_icmp_ge 39 dX1_liveBlobs_10 (by decide) (fun h10 => ?_) (fun h10 => ?_)
    · skip
      refine g_iload_n dX1_liveBlobs_39 rfl ?_
      refine g_ireturn dX1_liveBlobs_40 rfl ?_
      exact ⟨by rw [hx, show s.toNat = 16 by omega], rfl, rfl, rfl⟩
    · exfalso; omega
  | succ n ih =>
    intro s x h0 h1 hx
    obtain ⟨hr, hk⟩ := hL s h0 (by omega)
    have fa : fmem gi oa S (63 + s) = S.1 s := fmem_l h0 (by omega)
    have hb := f_cnt_b S.1 s.toNat
    refine g_iload_n dX1_liveBlobs_4 rfl ?_
    refine g_aload_n dX1_liveBlobs_5 rfl ?_
    refine g_getR 1 dX1_liveBlobs_6 flX1_17 rfl (by assumption) (by assumption) ?_
    refine g_alen _ dX1_liveBlobs_9 (by omega) (by assumption) (by decide) ?_
    refine g_icmp_ge 39 dX1_liveBlobs_10 (by decide) (fun h10 => ?_) (fun h10 => ?_)
    · exfalso; omega
    · skip
      refine g_iload_n dX1_liveBlobs_13 rfl ?_
      refine g_aload_n dX1_liveBlobs_14 rfl ?_
      refine g_getR 1 dX1_liveBlobs_15 flX1_17 rfl (by assumption) (by assumption) ?_
      refine g_iload_n dX1_liveBlobs_18 rfl ?_
      refine g_aaload dX1_liveBlobs_19 (by assumption) (by decide) (by decide) (by omega) (by omega) (by assumption) ?_
      refine g_getIN 5 dX1_liveBlobs_20 fnX1_32 rfl (by assumption) ?_
      rw [fa]
      refine g_if_le 30 dX1_liveBlobs_23 (by decide) (fun h23 => ?_) (fun h23 => ?_)
      · skip
        refine g_iconst dX1_liveBlobs_30 (by decide) ?_
        refine g_iadd dX1_liveBlobs_31 (by omega) (by omega) ?_
        refine n_istore_n (lN := [_, _, _]) dX1_liveBlobs_32 (by decide) rfl ?_
        refine n_iinc (lN := [_, _, _]) dX1_liveBlobs_33 rfl (by decide) (by omega) (by omega) rfl ?_
        refine g_goto 4 dX1_liveBlobs_36 (by decide) ?_
        refine ih (s + 1) _ (by omega) (by omega) ?_
        rw [show (s + 1).toNat = s.toNat + 1 by omega, f_cnt, show ((s.toNat : Nat) : Int) = s by omega, if_neg (by omega), hx]
      · skip
        refine g_iconst dX1_liveBlobs_26 (by decide) ?_
        refine g_goto 31 dX1_liveBlobs_27 (by decide) ?_
        refine g_iadd dX1_liveBlobs_31 (by omega) (by omega) ?_
        refine n_istore_n (lN := [_, _, _]) dX1_liveBlobs_32 (by decide) rfl ?_
        refine n_iinc (lN := [_, _, _]) dX1_liveBlobs_33 rfl (by decide) (by omega) (by omega) rfl ?_
        refine g_goto 4 dX1_liveBlobs_36 (by decide) ?_
        refine ih (s + 1) _ (by omega) (by omega) ?_
        rw [show (s + 1).toNat = s.toNat + 1 by omega, f_cnt, show ((s.toNat : Nat) : Int) = s by omega, if_pos (by omega), hx]
theorem c_liveBlobs (hF : isFold sh oa) (S : fS) : Ct mdX1_liveBlobs 0 0 [vR 27] (fmem gi oa S) gl sh (Rt (some (vI (f_cnt S.1 16))) (fmem gi oa S) gl sh) := by
  show Go mdX1_liveBlobs 0 0 0 [some (vR 27), none, none] [] (fmem gi oa S) gl sh _
  refine g_iconst dX1_liveBlobs_0 (by decide) ?_
  refine n_istore_n (lN := [_, _, _]) dX1_liveBlobs_1 (by decide) rfl ?_
  refine g_iconst dX1_liveBlobs_2 (by decide) ?_
  refine n_istore_n (lN := [_, _, _]) dX1_liveBlobs_3 (by decide) rfl ?_
  exact l_liveBlobs hF S 16 0 0 (by omega) (by omega) rfl
set_option maxRecDepth 20000 in
theorem l_liveCells (hF : isFold sh oa) (S : fS) (hok : okS S) : ∀ (n : Nat) (s x : Int), 0 ≤ s → s + n = 16 → x = f_sum S.1 s.toNat → Go mdX1_liveCells 0 0 4 [some (vR 27), some (vI x), some (vI s)] [] (fmem gi oa S) gl sh (Rt (some (vI (f_sum S.1 16))) (fmem gi oa S) gl sh) := by
  obtain ⟨k0, r0, r1, r2, r3, ho, k1, l1, k2, l2, -, -, hE, hL⟩ := id hF
  intro n
  induction n with
  | zero =>
    intro s x h0 h1 hx
    refine g_iload_n dX1_liveCells_4 rfl ?_
    refine g_aload_n dX1_liveCells_5 rfl ?_
    refine g_getR 1 dX1_liveCells_6 flX1_17 rfl (by assumption) (by assumption) ?_
    refine g_alen _ dX1_liveCells_9 (by omega) (by assumption) (by decide) ?_
    refine g_icmp_ge 31 dX1_liveCells_10 (by decide) (fun h10 => ?_) (fun h10 => ?_)
    · skip
      refine g_iload_n dX1_liveCells_31 rfl ?_
      refine g_ireturn dX1_liveCells_32 rfl ?_
      exact ⟨by rw [hx, show s.toNat = 16 by omega], rfl, rfl, rfl⟩
    · exfalso; omega
  | succ n ih =>
    intro s x h0 h1 hx
    obtain ⟨hr, hk⟩ := hL s h0 (by omega)
    have fa : fmem gi oa S (63 + s) = S.1 s := fmem_l h0 (by omega)
    have hb := f_sum_b hok s.toNat (by omega)
    have hb5 := hok s h0 (by omega) 5 (by decide) (by decide)
    refine g_iload_n dX1_liveCells_4 rfl ?_
    refine g_aload_n dX1_liveCells_5 rfl ?_
    refine g_getR 1 dX1_liveCells_6 flX1_17 rfl (by assumption) (by assumption) ?_
    refine g_alen _ dX1_liveCells_9 (by omega) (by assumption) (by decide) ?_
    refine g_icmp_ge 31 dX1_liveCells_10 (by decide) (fun h10 => ?_) (fun h10 => ?_)
    · exfalso; omega
    · skip
      refine g_iload_n dX1_liveCells_13 rfl ?_
      refine g_aload_n dX1_liveCells_14 rfl ?_
      refine g_getR 1 dX1_liveCells_15 flX1_17 rfl (by assumption) (by assumption) ?_
      refine g_iload_n dX1_liveCells_18 rfl ?_
      refine g_aaload dX1_liveCells_19 (by assumption) (by decide) (by decide) (by omega) (by omega) (by assumption) ?_
      refine g_getIN 5 dX1_liveCells_20 fnX1_32 rfl (by assumption) ?_
      refine g_iadd dX1_liveCells_23 (by rw [fa]; omega) (by rw [fa]; omega) ?_
      refine n_istore_n (lN := [_, _, _]) dX1_liveCells_24 (by decide) rfl ?_
      refine n_iinc (lN := [_, _, _]) dX1_liveCells_25 rfl (by decide) (by omega) (by omega) rfl ?_
      refine g_goto 4 dX1_liveCells_28 (by decide) ?_
      refine ih (s + 1) _ (by omega) (by omega) ?_
      rw [fa, show (s + 1).toNat = s.toNat + 1 by omega, f_sum, show ((s.toNat : Nat) : Int) = s by omega, hx]
theorem c_liveCells (hF : isFold sh oa) (S : fS) (hok : okS S) : Ct mdX1_liveCells 0 0 [vR 27] (fmem gi oa S) gl sh (Rt (some (vI (f_sum S.1 16))) (fmem gi oa S) gl sh) := by
  show Go mdX1_liveCells 0 0 0 [some (vR 27), none, none] [] (fmem gi oa S) gl sh _
  refine g_iconst dX1_liveCells_0 (by decide) ?_
  refine n_istore_n (lN := [_, _, _]) dX1_liveCells_1 (by decide) rfl ?_
  refine g_iconst dX1_liveCells_2 (by decide) ?_
  refine n_istore_n (lN := [_, _, _]) dX1_liveCells_3 (by decide) rfl ?_
  exact l_liveCells hF S hok 16 0 0 (by omega) (by omega) rfl
end FOLD2
