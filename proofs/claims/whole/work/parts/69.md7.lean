/-! the model's blobs: each begins at its label -/
def mrow (g : gF) (b : Int) : gRw := fun k => g (202 + k) b
theorem mrow_0 {g : gF} {b : Int} : mrow g b 0 = g 202 b := rfl
theorem mrow_1 {g : gF} {b : Int} : mrow g b 1 = g 203 b := rfl
theorem mrow_2 {g : gF} {b : Int} : mrow g b 2 = g 204 b := rfl
theorem mrow_3 {g : gF} {b : Int} : mrow g b 3 = g 205 b := rfl
theorem mrow_4 {g : gF} {b : Int} : mrow g b 4 = g 206 b := rfl
theorem mrow_5 {g : gF} {b : Int} : mrow g b 5 = g 207 b := rfl
theorem mrow_6 {g : gF} {b : Int} : mrow g b 6 = g 208 b := rfl
theorem mrow_7 {g : gF} {b : Int} : mrow g b 7 = g 209 b := rfl
def BS (cl : gRw) (D : Int) (L : gRw) (K : Int) (g : gF) (nb : Int) : Prop :=
  0 ≤ nb ∧ (∀ b : Int, 0 ≤ b → b < nb → rtL cl L K (g 201 b) ∧ isSt cl D (mm cl L (g 201 b)) (g 201 b) K.toNat (mrow g b)) ∧
  (∀ a b : Int, 0 ≤ a → a < b → b < nb → g 201 a < g 201 b) ∧ ∀ x : Int, rtL cl L K x → ∃ b : Int, (0 ≤ b ∧ b < nb) ∧ g 201 b = x
theorem inc_inj {f : Int → Int} {n a b : Int} (h : ∀ a b : Int, 0 ≤ a → a < b → b < n → f a < f b) (a0 : 0 ≤ a) (a1 : a < n) (b0 : 0 ≤ b) (b1 : b < n) (e : f a = f b) : a = b := by
  rcases (show a = b ∨ a < b ∨ b < a by omega) with w | w | w
  · exact w
  · have := h a b a0 w b1; omega
  · have := h b a b0 w a1; omega
theorem BS.rows {cl : gRw} {D : Int} {L : gRw} {K : Int} {g g' : gF} {nb : Int} (h : BS cl D L K g nb) (e : ∀ b : Int, 201 ≤ b → b ≤ 209 → g' b = g b) : BS cl D L K g' nb := by
  have em : ∀ b : Int, bl_eq (mrow g' b) (mrow g b) := fun b => by
    unfold bl_eq
    simp only [mrow_0, mrow_1, mrow_2, mrow_3, mrow_4, mrow_5, mrow_6, mrow_7]
    rw [e 202 (by decide) (by decide), e 203 (by decide) (by decide), e 204 (by decide) (by decide), e 205 (by decide) (by decide), e 206 (by decide) (by decide), e 207 (by decide) (by decide), e 208 (by decide) (by decide), e 209 (by decide) (by decide)]
    exact ⟨rfl, rfl, rfl, rfl, rfl, rfl, rfl, rfl⟩
  unfold BS
  rw [e 201 (by decide) (by decide)]
  exact ⟨h.1, fun b b0 b1 => ⟨(h.2.1 b b0 b1).1, (h.2.1 b b0 b1).2.eq (em b)⟩, h.2.2⟩
theorem rtL.next {cl L : gRw} {K x : Int} (h : rtL cl L K x) : rtL cl L (K + 1) x := ⟨⟨h.1.1, by have := h.1.2; omega⟩, h.2⟩
theorem rtL.prev {cl L : gRw} {K x : Int} (h : rtL cl L (K + 1) x) (hx : x ≠ K) : rtL cl L K x := ⟨⟨h.1.1, by have := h.1.2; omega⟩, h.2⟩
theorem BS.start {cl : gRw} {D : Int} {L : gRw} {g : gF} : BS cl D L 0 g 0 := ⟨Int.le_refl _, fun b b0 b1 => by omega, fun a b a0 ab b1 => by omega, fun x hx => by have := hx.1; omega⟩
theorem BS.skip {cl : gRw} {D : Int} {L : gRw} {K : Int} {g : gF} {nb : Int} (h : BS cl D L K g nb) (hK : 0 ≤ K) (hz : ¬ 0 < cl K) : BS cl D L (K + 1) g nb := by
  obtain ⟨h0, h1, h2, h3⟩ := h
  have eK : ((K.toNat : Nat) : Int) = K := by omega
  refine ⟨h0, fun b b0 b1 => ⟨(h1 b b0 b1).1.next, ?_⟩, h2, fun x hx => h3 x (hx.prev (fun e => hz (by rw [← e]; exact hx.2.1)))⟩
  rw [show (K + 1).toNat = K.toNat + 1 by omega]
  exact (h1 b b0 b1).2.skip (fun w => hz (by rw [eK] at w; exact (mm_t.mp w).1))
def m_beg (gi : gF) (nb x t c : Int) : gF := g_up (g_up (g_up (g_up (g_up (g_up (g_up (g_up (g_up gi 201 nb x) 202 nb t) 204 nb c) 205 nb c) 206 nb c) 207 nb 0) 208 nb 0) 209 nb 0) 190 15 (nb + 1)
def m_cu (g : gF) (b t v1 v2 col dk : Int) : gF := g_up (g_up (g_up (g_up (g_up (g_up g 203 b t) 205 b v1) 206 b v2) 207 b (g 207 b + 1)) 208 b (g 208 b + col)) 209 b (g 209 b + dk)
theorem m_cu_r {g : gF} {b t v1 v2 col dk : Int} : m_cu g b t v1 v2 col dk 201 = g 201 ∧ m_cu g b t v1 v2 col dk 202 = g 202 ∧ m_cu g b t v1 v2 col dk 203 = r_up (g 203) b t ∧ m_cu g b t v1 v2 col dk 204 = g 204 ∧ m_cu g b t v1 v2 col dk 205 = r_up (g 205) b v1 ∧ m_cu g b t v1 v2 col dk 206 = r_up (g 206) b v2 ∧ m_cu g b t v1 v2 col dk 207 = r_up (g 207) b (g 207 b + 1) ∧ m_cu g b t v1 v2 col dk 208 = r_up (g 208) b (g 208 b + col) ∧ m_cu g b t v1 v2 col dk 209 = r_up (g 209) b (g 209 b + dk) := by
  unfold m_cu
  simp only [g_up_row, g_up_r, r_up_at, r_up_ne, ne_eq, Int.reduceEq, not_false_eq_true]
  exact ⟨trivial, trivial, trivial, trivial, trivial, trivial, trivial, trivial, trivial⟩
theorem m_beg_r {g : gF} {nb x t c : Int} : m_beg g nb x t c 201 = r_up (g 201) nb x ∧ m_beg g nb x t c 202 = r_up (g 202) nb t ∧ m_beg g nb x t c 203 = g 203 ∧ m_beg g nb x t c 204 = r_up (g 204) nb c ∧ m_beg g nb x t c 205 = r_up (g 205) nb c ∧ m_beg g nb x t c 206 = r_up (g 206) nb c ∧ m_beg g nb x t c 207 = r_up (g 207) nb 0 ∧ m_beg g nb x t c 208 = r_up (g 208) nb 0 ∧ m_beg g nb x t c 209 = r_up (g 209) nb 0 := by
  unfold m_beg
  simp only [g_up_row, g_up_r, r_up_at, r_up_ne, ne_eq, Int.reduceEq, not_false_eq_true]
  exact ⟨trivial, trivial, trivial, trivial, trivial, trivial, trivial, trivial, trivial⟩
/-- a place of a blob that began ahead of it -/
theorem BS.old {cl : gRw} {D : Int} {L : gRw} {g : gF} {nb t c b : Int} (h : BS cl D L (16 * t + c) g nb) (ht : 0 ≤ t) (hc : 0 ≤ c ∧ c < 16) (hp : 0 < cl (16 * t + c)) (hb : 0 ≤ b ∧ b < nb) (e : g 201 b = L (16 * t + c)) : BS cl D L (16 * t + c + 1) (m_cu g b t (min c (g 205 b)) (max c (g 206 b)) (cl (16 * t + c)) (f_dk D (cl (16 * t + c)))) nb := by
  obtain ⟨h0, h1, h2, h3⟩ := h
  obtain ⟨r1, r2, r3, r4, r5, r6, r7, r8, r9⟩ := m_cu_r (g := g) (b := b) (t := t) (v1 := min c (g 205 b)) (v2 := max c (g 206 b)) (col := cl (16 * t + c)) (dk := f_dk D (cl (16 * t + c)))
  generalize m_cu g b t (min c (g 205 b)) (max c (g 206 b)) (cl (16 * t + c)) (f_dk D (cl (16 * t + c))) = g' at *
  have hrt := (h1 b hb.1 hb.2).1
  have hlt : L (16 * t + c) < 16 * t + c := by rw [← e]; exact hrt.1.2
  have eK : (((16 * t + c).toNat : Nat) : Int) = 16 * t + c := by omega
  unfold BS
  rw [r1]
  refine ⟨h0, fun a a0 a1 => ⟨(h1 a a0 a1).1.next, ?_⟩, h2, fun x hx => h3 x (hx.prev (fun w => ?_))⟩
  · rw [show (16 * t + c + 1).toNat = (16 * t + c).toNat + 1 by omega]
    have hs := (h1 a a0 a1).2
    by_cases ea : a = b
    · subst ea
      have hm : mm cl L (g 201 a) (((16 * t + c).toNat : Nat) : Int) = true := by rw [eK]; exact mm_t.mpr ⟨hp, e.symm⟩
      have hi := hs.inc (t := t) (c := c) hm eK hc
      refine hi.eq ?_
      have k1 := (k_max_b (m := mm cl L (g 201 a)) (f := fun q => q / 16) ht (16 * t + c).toNat (fun q q0 q1 => by omega)).2
      have k2 := hs.2.1
      rw [mrow_1] at k2
      rw [eK]
      unfold bl_eq bl_inc
      simp only [mrow_0, mrow_1, mrow_2, mrow_3, mrow_4, mrow_5, mrow_6, mrow_7, r2, r3, r4, r5, r6, r7, r8, r9, r_up_at, Int.reduceEq, if_true, if_false]
      exact ⟨trivial, by first | trivial | omega, trivial, by first | trivial | omega, by first | trivial | omega, trivial, trivial, trivial⟩
    · have hm : ¬ mm cl L (g 201 a) (((16 * t + c).toNat : Nat) : Int) = true := by
        rw [eK]
        intro w
        have w2 := (mm_t.mp w).2
        rw [← e] at w2
        rcases (show a < b ∨ b < a by omega) with q | q
        · have := h2 a b a0 q hb.2; omega
        · have := h2 b a hb.1 q a1; omega
      refine (hs.skip hm).eq ?_
      unfold bl_eq
      simp only [mrow_0, mrow_1, mrow_2, mrow_3, mrow_4, mrow_5, mrow_6, mrow_7, r2, r3, r4, r5, r6, r7, r8, r9, r_up_ne ea]
      exact ⟨trivial, trivial, trivial, trivial, trivial, trivial, trivial, trivial⟩
  · have := hx.2.2
    rw [w] at this
    omega
/-- a place at which a blob begins -/
theorem BS.new {cl : gRw} {D : Int} {L : gRw} {g : gF} {nb t c : Int} (h : BS cl D L (16 * t + c) g nb) (hl : Lab cl L (16 * t + c) ∨ True) (ht : 0 ≤ t) (hc : 0 ≤ c ∧ c < 16) (hp : 0 < cl (16 * t + c)) (e : L (16 * t + c) = 16 * t + c) (hlow : ∀ q : Int, 0 ≤ q → 0 < cl q → q < 16 * t + c → L q ≤ q) : BS cl D L (16 * t + c + 1) (m_cu (m_beg g nb (16 * t + c) t c) nb t (min c (m_beg g nb (16 * t + c) t c 205 nb)) (max c (m_beg g nb (16 * t + c) t c 206 nb)) (cl (16 * t + c)) (f_dk D (cl (16 * t + c)))) (nb + 1) := by
  obtain ⟨h0, h1, h2, h3⟩ := h
  obtain ⟨b1, b2, b3, b4, b5, b6, b7, b8, b9⟩ := m_beg_r (g := g) (nb := nb) (x := 16 * t + c) (t := t) (c := c)
  generalize m_beg g nb (16 * t + c) t c = g1 at *
  obtain ⟨r1, r2, r3, r4, r5, r6, r7, r8, r9⟩ := m_cu_r (g := g1) (b := nb) (t := t) (v1 := min c (g1 205 nb)) (v2 := max c (g1 206 nb)) (col := cl (16 * t + c)) (dk := f_dk D (cl (16 * t + c)))
  generalize m_cu g1 nb t (min c (g1 205 nb)) (max c (g1 206 nb)) (cl (16 * t + c)) (f_dk D (cl (16 * t + c))) = g' at *
  have eK : (((16 * t + c).toNat : Nat) : Int) = 16 * t + c := by omega
  have er : g' 201 = r_up (g 201) nb (16 * t + c) := by rw [r1, b1]
  have hrt : rtL cl L (16 * t + c + 1) (16 * t + c) := ⟨by omega, hp, e⟩
  unfold BS
  rw [er]
  refine ⟨by omega, fun a a0 a1 => ?_, fun a b a0 ab hb => ?_, fun x hx => ?_⟩
  · rw [show (16 * t + c + 1).toNat = (16 * t + c).toNat + 1 by omega]
    by_cases ea : a = nb
    · subst ea
      rw [r_up_at]
      refine ⟨hrt, ?_⟩
      have hm : mm cl L (16 * t + c) (((16 * t + c).toNat : Nat) : Int) = true := by rw [eK]; exact mm_t.mpr ⟨hp, e⟩
      have hi := isSt.new (cl := cl) (D := D) (m := mm cl L (16 * t + c)) (n := (16 * t + c).toNat) (r := fun _ => 0) (t := t) (c := c) (fun q q0 q1 w => by
        have w2 := mm_t.mp w
        have := hlow q q0 w2.1 (by omega)
        omega) hm eK hc ht rfl
      refine hi.eq ?_
      rw [eK]
      unfold bl_eq bl_inc bl_new
      simp only [mrow_0, mrow_1, mrow_2, mrow_3, mrow_4, mrow_5, mrow_6, mrow_7, r2, r3, r4, r5, r6, r7, r8, r9, b2, b3, b4, b5, b6, b7, b8, b9, r_up_at, Int.reduceEq, if_true, if_false]
      exact ⟨trivial, by first | trivial | omega, trivial, by first | trivial | omega, by first | trivial | omega, trivial, trivial, trivial⟩
    · rw [r_up_ne ea]
      refine ⟨(h1 a a0 (by omega)).1.next, ?_⟩
      have hs := (h1 a a0 (by omega)).2
      have hm : ¬ mm cl L (g 201 a) (((16 * t + c).toNat : Nat) : Int) = true := by
        rw [eK]
        intro w
        have w2 := (mm_t.mp w).2
        have := (h1 a a0 (by omega)).1.1.2
        omega
      refine (hs.skip hm).eq ?_
      unfold bl_eq
      simp only [mrow_0, mrow_1, mrow_2, mrow_3, mrow_4, mrow_5, mrow_6, mrow_7, r2, r3, r4, r5, r6, r7, r8, r9, b2, b3, b4, b5, b6, b7, b8, b9, r_up_ne ea]
      exact ⟨trivial, trivial, trivial, trivial, trivial, trivial, trivial, trivial⟩
  · rw [r_up_ne (show a ≠ nb by omega)]
    by_cases eb : b = nb
    · rw [eb, r_up_at]; exact (h1 a a0 (by omega)).1.1.2
    · rw [r_up_ne eb]; exact h2 a b a0 ab (by omega)
  · by_cases ex : x = 16 * t + c
    · exact ⟨nb, by omega, by rw [r_up_at, ex]⟩
    · obtain ⟨b, hb, eb⟩ := h3 x (hx.prev ex)
      exact ⟨b, by omega, by rw [r_up_ne (by omega)]; exact eb⟩
section MD7
variable {gi gl : gF} {sh : gSh} {cl L : gRw} {D nb : Int} {Q : gQ}

def BQ (x nb : Int) (gi gl : gF) (sh : gSh) : gQ := fun r g' gl' sh' => ∃ y : Int, r = some (vI y) ∧ g' = gi ∧ gl' = gl ∧ sh' = sh ∧ ((0 ≤ y ∧ y < nb) ∧ gi 201 y = x ∨ y = -4 ∧ ∀ b : Int, 0 ≤ b → b < nb → gi 201 b ≠ x)
set_option maxRecDepth 20000 in
theorem l_bo (hM : isMd sh) (hnb : gi 190 15 = nb) (hn8 : nb ≤ 48) (x : Int) : ∀ (n : Nat) (k y : Int), k + n = nb → 0 ≤ k → ((0 ≤ y ∧ y < k) ∧ gi 201 y = x ∨ y = -4 ∧ ∀ b : Int, 0 ≤ b → b < k → gi 201 b ≠ x) → Go mdX9_blobOf 0 0 5 [some (vR 190), some (vI x), some (vI y), some (vI k)] [] gi gl sh (BQ x nb gi gl sh) := by
  intro n
  induction n with
  | zero =>
    intro k y h1 h2 h3
    refine g_iload_n dX9_blobOf_5 rfl ?_
    refine g_aload_n dX9_blobOf_6 rfl ?_
    refine g_getI 15 dX9_blobOf_7 flX9_176 rfl hM.o ?_
    refine g_icmp_ge 35 dX9_blobOf_10 (by decide) (fun h10 => ?_) (fun h10 => ?_)
    · skip
      refine g_iload_n dX9_blobOf_35 rfl ?_
      refine g_ireturn dX9_blobOf_36 rfl ?_
      exact ⟨y, rfl, rfl, rfl, rfl, by rw [show nb = k by omega]; exact h3⟩
    · exfalso; omega
  | succ n ih =>
    intro k y h1 h2 h3
    refine g_iload_n dX9_blobOf_5 rfl ?_
    refine g_aload_n dX9_blobOf_6 rfl ?_
    refine g_getI 15 dX9_blobOf_7 flX9_176 rfl hM.o ?_
    refine g_icmp_ge 35 dX9_blobOf_10 (by decide) (fun h10 => ?_) (fun h10 => ?_)
    · exfalso; omega
    · skip
      refine g_aload_n dX9_blobOf_13 rfl ?_
      refine g_getR 18 dX9_blobOf_14 flX9_41 rfl hM.o hM.r18 ?_
      refine g_iload_n dX9_blobOf_17 rfl ?_
      refine g_iaload dX9_blobOf_18 hM.k201 (by omega) (hM.b201 (by omega)) ?_
      refine g_iload_n dX9_blobOf_19 rfl ?_
      refine g_icmp_ne 27 dX9_blobOf_20 (by decide) (fun h20 => ?_) (fun h20 => ?_)
      · skip
        refine g_iload_n dX9_blobOf_27 rfl ?_
        refine n_istore_n (lN := [_, _, _, _]) dX9_blobOf_28 (by decide) rfl ?_
        refine n_iinc (lN := [_, _, _, some (vI (k + 1))]) dX9_blobOf_29 rfl (by decide) (by omega) (by omega) rfl ?_
        refine g_goto 5 dX9_blobOf_32 (by decide) ?_
        refine ih (k + 1) _ (by omega) (by omega) ?_
        rcases h3 with h3 | ⟨h3, h4⟩
        · exact Or.inl ⟨by omega, h3.2⟩
        · exact Or.inr ⟨h3, fun b b0 b1 => by
            by_cases e : b = k
            · rw [e]; exact h20
            · exact h4 b b0 (by omega)⟩
      · skip
        refine g_iload_n dX9_blobOf_23 rfl ?_
        refine g_goto 28 dX9_blobOf_24 (by decide) ?_
        refine n_istore_n (lN := [_, _, _, _]) dX9_blobOf_28 (by decide) rfl ?_
        refine n_iinc (lN := [_, _, _, some (vI (k + 1))]) dX9_blobOf_29 rfl (by decide) (by omega) (by omega) rfl ?_
        refine g_goto 5 dX9_blobOf_32 (by decide) ?_
        exact ih (k + 1) _ (by omega) (by omega) (Or.inl ⟨by omega, by omega⟩)
set_option maxRecDepth 20000 in
set_option maxHeartbeats 1000000 in
theorem m_blobOf (hM : isMd sh) (hnb : gi 190 15 = nb) (hn8 : 0 ≤ nb ∧ nb ≤ 48) (x : Int) : Ct mdX9_blobOf 0 0 [vR 190, vI x] gi gl sh (BQ x nb gi gl sh) := by
  show Go mdX9_blobOf 0 0 0 [some (vR 190), some (vI x), none, none] [] gi gl sh _
  refine g_bipush dX9_blobOf_0 (by decide) (by decide) ?_
  refine n_istore_n (lN := [_, _, _, _]) dX9_blobOf_2 (by decide) rfl ?_
  refine g_iconst dX9_blobOf_3 (by decide) ?_
  refine n_istore_n (lN := [_, _, _, _]) dX9_blobOf_4 (by decide) rfl ?_
  exact l_bo hM hnb hn8.2 x nb.toNat 0 (-4) (by omega) (by omega) (Or.inr ⟨rfl, fun b b0 b1 => by omega⟩)

set_option maxRecDepth 20000 in
set_option maxHeartbeats 1000000 in
theorem m_begins (hM : isMd sh) (x t c : Int) (hnb : gi 190 15 = nb) (hn8 : 0 ≤ nb ∧ nb < 48) : Ct mdX9_begins 0 0 [vR 190, vI x, vI t, vI c] gi gl sh (Rt none (m_beg gi nb x t c) gl sh) := by
  show Go mdX9_begins 0 0 0 [some (vR 190), some (vI x), some (vI t), some (vI c)] [] gi gl sh _
  subst hnb
  refine g_aload_n dX9_begins_0 rfl ?_
  refine g_getR 18 dX9_begins_1 flX9_41 rfl hM.o hM.r18 ?_
  refine g_aload_n dX9_begins_4 rfl ?_
  refine g_getI 15 dX9_begins_5 flX9_176 rfl hM.o ?_
  refine g_iload_n dX9_begins_8 rfl ?_
  refine g_iastore dX9_begins_9 hM.k201 (by omega) (hM.b201 (by omega)) ?_
  refine g_aload_n dX9_begins_10 rfl ?_
  refine g_getR 19 dX9_begins_11 flX9_44 rfl hM.o hM.r19 ?_
  refine g_aload_n dX9_begins_14 rfl ?_
  refine g_getI 15 dX9_begins_15 flX9_176 rfl hM.o ?_
  try simp only [g_up_row, g_up_r, r_up_at, r_up_ne, ne_eq, Int.reduceEq, not_false_eq_true]
  refine g_iload_n dX9_begins_18 rfl ?_
  refine g_iastore dX9_begins_19 hM.k202 (by omega) (hM.b202 (by omega)) ?_
  refine g_aload_n dX9_begins_20 rfl ?_
  refine g_getR 21 dX9_begins_21 flX9_50 rfl hM.o hM.r21 ?_
  refine g_aload_n dX9_begins_24 rfl ?_
  refine g_getI 15 dX9_begins_25 flX9_176 rfl hM.o ?_
  try simp only [g_up_row, g_up_r, r_up_at, r_up_ne, ne_eq, Int.reduceEq, not_false_eq_true]
  refine g_iload_n dX9_begins_28 rfl ?_
  refine g_iastore dX9_begins_29 hM.k204 (by omega) (hM.b204 (by omega)) ?_
  refine g_aload_n dX9_begins_30 rfl ?_
  refine g_getR 22 dX9_begins_31 flX9_53 rfl hM.o hM.r22 ?_
  refine g_aload_n dX9_begins_34 rfl ?_
  refine g_getI 15 dX9_begins_35 flX9_176 rfl hM.o ?_
  try simp only [g_up_row, g_up_r, r_up_at, r_up_ne, ne_eq, Int.reduceEq, not_false_eq_true]
  refine g_iload_n dX9_begins_38 rfl ?_
  refine g_iastore dX9_begins_39 hM.k205 (by omega) (hM.b205 (by omega)) ?_
  refine g_aload_n dX9_begins_40 rfl ?_
  refine g_getR 23 dX9_begins_41 flX9_56 rfl hM.o hM.r23 ?_
  refine g_aload_n dX9_begins_44 rfl ?_
  refine g_getI 15 dX9_begins_45 flX9_176 rfl hM.o ?_
  try simp only [g_up_row, g_up_r, r_up_at, r_up_ne, ne_eq, Int.reduceEq, not_false_eq_true]
  refine g_iload_n dX9_begins_48 rfl ?_
  refine g_iastore dX9_begins_49 hM.k206 (by omega) (hM.b206 (by omega)) ?_
  refine g_aload_n dX9_begins_50 rfl ?_
  refine g_getR 24 dX9_begins_51 flX9_59 rfl hM.o hM.r24 ?_
  refine g_aload_n dX9_begins_54 rfl ?_
  refine g_getI 15 dX9_begins_55 flX9_176 rfl hM.o ?_
  try simp only [g_up_row, g_up_r, r_up_at, r_up_ne, ne_eq, Int.reduceEq, not_false_eq_true]
  refine g_iconst dX9_begins_58 (by decide) ?_
  refine g_iastore dX9_begins_59 hM.k207 (by omega) (hM.b207 (by omega)) ?_
  refine g_aload_n dX9_begins_60 rfl ?_
  refine g_getR 25 dX9_begins_61 flX9_62 rfl hM.o hM.r25 ?_
  refine g_aload_n dX9_begins_64 rfl ?_
  refine g_getI 15 dX9_begins_65 flX9_176 rfl hM.o ?_
  try simp only [g_up_row, g_up_r, r_up_at, r_up_ne, ne_eq, Int.reduceEq, not_false_eq_true]
  refine g_iconst dX9_begins_68 (by decide) ?_
  refine g_iastore dX9_begins_69 hM.k208 (by omega) (hM.b208 (by omega)) ?_
  refine g_aload_n dX9_begins_70 rfl ?_
  refine g_getR 26 dX9_begins_71 flX9_65 rfl hM.o hM.r26 ?_
  refine g_aload_n dX9_begins_74 rfl ?_
  refine g_getI 15 dX9_begins_75 flX9_176 rfl hM.o ?_
  try simp only [g_up_row, g_up_r, r_up_at, r_up_ne, ne_eq, Int.reduceEq, not_false_eq_true]
  refine g_iconst dX9_begins_78 (by decide) ?_
  refine g_iastore dX9_begins_79 hM.k209 (by omega) (hM.b209 (by omega)) ?_
  refine g_aload_n dX9_begins_80 rfl ?_
  refine g_dup dX9_begins_81 (fun _ h9 => by cases h9) ?_
  refine g_getI 15 dX9_begins_82 flX9_176 rfl hM.o ?_
  try simp only [g_up_row, g_up_r, r_up_at, r_up_ne, ne_eq, Int.reduceEq, not_false_eq_true]
  refine g_iconst dX9_begins_85 (by decide) ?_
  refine g_iadd dX9_begins_86 (by omega) (by omega) ?_
  refine g_putI 15 dX9_begins_87 flX9_176 rfl hM.o ?_
  refine g_return dX9_begins_90 rfl ?_
  exact ⟨rfl, rfl, rfl, rfl⟩

set_option maxRecDepth 20000 in
set_option maxHeartbeats 1000000 in
theorem l_cnt113 {g : gF} (hM : isMd sh) (t c x b col : Int) (hb : 0 ≤ b ∧ b < 48) (hD : g 191 5 = D) (h7 : 0 ≤ g 207 b ∧ g 207 b ≤ 100000) (h8 : 0 ≤ g 208 b ∧ g 208 b ≤ 100000) (h9 : 0 ≤ g 209 b ∧ g 209 b ≤ 100000) (hcol : 0 ≤ col ∧ col ≤ 9) (v1 v2 : Int) : Go mdX9_counts 0 0 113 [some (vR 190), some (vI t), some (vI c), some (vI x), some (vI b), some (vI col)] [vI v2, vI b, vR 206] (g_up (g_up g 203 b t) 205 b v1) gl sh (Rt none (m_cu g b t v1 v2 col (f_dk D col)) gl sh) := by
  refine g_iastore dX9_counts_113 hM.k206 (by omega) (hM.b206 (by omega)) ?_
  refine g_aload_n dX9_counts_114 rfl ?_
  refine g_getR 24 dX9_counts_115 flX9_59 rfl hM.o hM.r24 ?_
  refine g_iload dX9_counts_118 rfl ?_
  refine g_dup2 dX9_counts_120 (fun _ h9 => by cases h9) (fun _ h9 => by cases h9) ?_
  refine g_iaload dX9_counts_121 hM.k207 (by omega) (hM.b207 (by omega)) ?_
  try simp only [g_up_row, g_up_r, r_up_at, r_up_ne, ne_eq, Int.reduceEq, not_false_eq_true]
  refine g_iconst dX9_counts_122 (by decide) ?_
  refine g_iadd dX9_counts_123 (by omega) (by omega) ?_
  refine g_iastore dX9_counts_124 hM.k207 (by omega) (hM.b207 (by omega)) ?_
  refine g_aload_n dX9_counts_125 rfl ?_
  refine g_getR 25 dX9_counts_126 flX9_62 rfl hM.o hM.r25 ?_
  refine g_iload dX9_counts_129 rfl ?_
  refine g_dup2 dX9_counts_131 (fun _ h9 => by cases h9) (fun _ h9 => by cases h9) ?_
  refine g_iaload dX9_counts_132 hM.k208 (by omega) (hM.b208 (by omega)) ?_
  try simp only [g_up_row, g_up_r, r_up_at, r_up_ne, ne_eq, Int.reduceEq, not_false_eq_true]
  refine g_iload dX9_counts_133 rfl ?_
  refine g_iadd dX9_counts_135 (by omega) (by omega) ?_
  refine g_iastore dX9_counts_136 hM.k208 (by omega) (hM.b208 (by omega)) ?_
  refine g_aload_n dX9_counts_137 rfl ?_
  refine g_getR 26 dX9_counts_138 flX9_65 rfl hM.o hM.r26 ?_
  refine g_iload dX9_counts_141 rfl ?_
  refine g_dup2 dX9_counts_143 (fun _ h9 => by cases h9) (fun _ h9 => by cases h9) ?_
  refine g_iaload dX9_counts_144 hM.k209 (by omega) (hM.b209 (by omega)) ?_
  try simp only [g_up_row, g_up_r, r_up_at, r_up_ne, ne_eq, Int.reduceEq, not_false_eq_true]
  refine g_iload dX9_counts_145 rfl ?_
  refine g_aload_n dX9_counts_147 rfl ?_
  refine g_getR 0 dX9_counts_148 flX9_7 rfl hM.o hM.r0 ?_
  refine g_iconst dX9_counts_151 (by decide) ?_
  refine g_iaload dX9_counts_152 hM.k191 (by omega) (hM.b191 (by omega)) ?_
  try simp only [g_up_row, g_up_r, r_up_at, r_up_ne, ne_eq, Int.reduceEq, not_false_eq_true]
  refine g_icmp_lt 160 dX9_counts_153 (by decide) (fun h153 => ?_) (fun h153 => ?_)
  · skip
    refine g_iconst dX9_counts_160 (by decide) ?_
    refine g_iadd dX9_counts_161 (by omega) (by omega) ?_
    refine g_iastore dX9_counts_162 hM.k209 (by omega) (hM.b209 (by omega)) ?_
    refine g_return dX9_counts_163 rfl ?_
    exact ⟨rfl, by unfold m_cu f_dk; first | (rw [if_pos (by omega)]; done) | (rw [if_neg (by omega)]; done), rfl, rfl⟩
  · skip
    refine g_iconst dX9_counts_156 (by decide) ?_
    refine g_goto 161 dX9_counts_157 (by decide) ?_
    refine g_iadd dX9_counts_161 (by omega) (by omega) ?_
    refine g_iastore dX9_counts_162 hM.k209 (by omega) (hM.b209 (by omega)) ?_
    refine g_return dX9_counts_163 rfl ?_
    exact ⟨rfl, by unfold m_cu f_dk; first | (rw [if_pos (by omega)]; done) | (rw [if_neg (by omega)]; done), rfl, rfl⟩
set_option maxRecDepth 20000 in
set_option maxHeartbeats 1000000 in
theorem l_cnt84 {g : gF} (hM : isMd sh) (t c x b col : Int) (hb : 0 ≤ b ∧ b < 48) (hD : g 191 5 = D) (h7 : 0 ≤ g 207 b ∧ g 207 b ≤ 100000) (h8 : 0 ≤ g 208 b ∧ g 208 b ≤ 100000) (h9 : 0 ≤ g 209 b ∧ g 209 b ≤ 100000) (hcol : 0 ≤ col ∧ col ≤ 9) (v1 : Int) : Go mdX9_counts 0 0 84 [some (vR 190), some (vI t), some (vI c), some (vI x), some (vI b), some (vI col)] [vI v1, vI b, vR 205] (g_up g 203 b t) gl sh (Rt none (m_cu g b t v1 (max c (g 206 b)) col (f_dk D col)) gl sh) := by
  refine g_iastore dX9_counts_84 hM.k205 (by omega) (hM.b205 (by omega)) ?_
  refine g_aload_n dX9_counts_85 rfl ?_
  refine g_getR 23 dX9_counts_86 flX9_56 rfl hM.o hM.r23 ?_
  refine g_iload dX9_counts_89 rfl ?_
  refine g_iload_n dX9_counts_91 rfl ?_
  refine g_aload_n dX9_counts_92 rfl ?_
  refine g_getR 23 dX9_counts_93 flX9_56 rfl hM.o hM.r23 ?_
  refine g_iload dX9_counts_96 rfl ?_
  refine g_iaload dX9_counts_98 hM.k206 (by omega) (hM.b206 (by omega)) ?_
  try simp only [g_up_row, g_up_r, r_up_at, r_up_ne, ne_eq, Int.reduceEq, not_false_eq_true]
  refine g_icmp_le 106 dX9_counts_99 (by decide) (fun h99 => ?_) (fun h99 => ?_)
  · skip
    refine g_aload_n dX9_counts_106 rfl ?_
    refine g_getR 23 dX9_counts_107 flX9_56 rfl hM.o hM.r23 ?_
    refine g_iload dX9_counts_110 rfl ?_
    refine g_iaload dX9_counts_112 hM.k206 (by omega) (hM.b206 (by omega)) ?_
    try simp only [g_up_row, g_up_r, r_up_at, r_up_ne, ne_eq, Int.reduceEq, not_false_eq_true]
    rw [show max c (g 206 b) = g 206 b by omega]
    exact l_cnt113 hM t c x b col hb hD h7 h8 h9 hcol v1 _
  · skip
    refine g_iload_n dX9_counts_102 rfl ?_
    refine g_goto 113 dX9_counts_103 (by decide) ?_
    rw [show max c (g 206 b) = c by omega]
    exact l_cnt113 hM t c x b col hb hD h7 h8 h9 hcol v1 _
set_option maxRecDepth 20000 in
set_option maxHeartbeats 1000000 in
theorem l_cnt28 {g : gF} (hM : isMd sh) (t c x b col : Int) (hb : 0 ≤ b ∧ b < 48) (hD : g 191 5 = D) (h7 : 0 ≤ g 207 b ∧ g 207 b ≤ 100000) (h8 : 0 ≤ g 208 b ∧ g 208 b ≤ 100000) (h9 : 0 ≤ g 209 b ∧ g 209 b ≤ 100000) (hcol : 0 ≤ col ∧ col ≤ 9) (hcl : g 199 (16 * t + c) = col) (htc : (0 ≤ t ∧ t < 60) ∧ 0 ≤ c ∧ c < 16) (hnb : g 190 15 = nb) (hn8 : 0 ≤ nb ∧ nb ≤ 48) (e : g 201 b = x) (hbn : b < nb) (hu : ∀ a : Int, 0 ≤ a → a < nb → g 201 a = x → a = b) : Go mdX9_counts 0 0 28 [some (vR 190), some (vI t), some (vI c), some (vI x), none, none] [] g gl sh (Rt none (m_cu g b t (min c (g 205 b)) (max c (g 206 b)) col (f_dk D col)) gl sh) := by
  refine g_aload_n dX9_counts_28 rfl ?_
  refine g_iload_n dX9_counts_29 rfl ?_
  refine g_callV_i [_] dX9_counts_30 mlX9_179 mvX9_blobOf (by decide) hM.o (by decide) rfl rfl (Nat.le_of_ble_eq_true rfl) rfl (Nat.le_of_ble_eq_true rfl) (m_blobOf hM hnb hn8 x) (fun _ _ _ _ q => q.elim fun y q => ⟨y, q.1⟩) (fun y g1 l1 s1 q w1 w2 => ?_)
  obtain ⟨y1, q1, rfl, rfl, rfl, q5⟩ := q
  cases q1
  have ey : y = b := by
    rcases q5 with q5 | q5
    · exact hu y q5.1.1 q5.1.2 q5.2
    · exact absurd e (q5.2 b hb.1 hbn)
  subst ey
  refine n_istore (lN := [_, _, _, _, _, _]) dX9_counts_33 (by decide) rfl ?_
  refine g_aload_n dX9_counts_35 rfl ?_
  refine g_getR 13 dX9_counts_36 flX9_35 rfl hM.o hM.r13 ?_
  refine g_bipush dX9_counts_39 (by decide) (by decide) ?_
  refine g_iload_n dX9_counts_41 rfl ?_
  refine g_imul dX9_counts_42 (by omega) (by omega) ?_
  refine g_iload_n dX9_counts_43 rfl ?_
  refine g_iadd dX9_counts_44 (by omega) (by omega) ?_
  refine g_iaload dX9_counts_45 hM.k199 (by omega) (hM.b199 (by omega)) ?_
  rw [hcl]
  refine n_istore (lN := [_, _, _, _, _, _]) dX9_counts_46 (by decide) rfl ?_
  refine g_aload_n dX9_counts_48 rfl ?_
  refine g_getR 20 dX9_counts_49 flX9_47 rfl hM.o hM.r20 ?_
  refine g_iload dX9_counts_52 rfl ?_
  refine g_iload_n dX9_counts_54 rfl ?_
  refine g_iastore dX9_counts_55 hM.k203 (by omega) (hM.b203 (by omega)) ?_
  refine g_aload_n dX9_counts_56 rfl ?_
  refine g_getR 22 dX9_counts_57 flX9_53 rfl hM.o hM.r22 ?_
  refine g_iload dX9_counts_60 rfl ?_
  refine g_iload_n dX9_counts_62 rfl ?_
  refine g_aload_n dX9_counts_63 rfl ?_
  refine g_getR 22 dX9_counts_64 flX9_53 rfl hM.o hM.r22 ?_
  refine g_iload dX9_counts_67 rfl ?_
  refine g_iaload dX9_counts_69 hM.k205 (by omega) (hM.b205 (by omega)) ?_
  try simp only [g_up_row, g_up_r, r_up_at, r_up_ne, ne_eq, Int.reduceEq, not_false_eq_true]
  refine g_icmp_ge 77 dX9_counts_70 (by decide) (fun h70 => ?_) (fun h70 => ?_)
  · skip
    refine g_aload_n dX9_counts_77 rfl ?_
    refine g_getR 22 dX9_counts_78 flX9_53 rfl hM.o hM.r22 ?_
    refine g_iload dX9_counts_81 rfl ?_
    refine g_iaload dX9_counts_83 hM.k205 (by omega) (hM.b205 (by omega)) ?_
    try simp only [g_up_row, g_up_r, r_up_at, r_up_ne, ne_eq, Int.reduceEq, not_false_eq_true]
    rw [show min c (g1 205 y) = g1 205 y by omega]
    exact l_cnt84 hM t c x y col hb hD h7 h8 h9 hcol _
  · skip
    refine g_iload_n dX9_counts_73 rfl ?_
    refine g_goto 84 dX9_counts_74 (by decide) ?_
    rw [show min c (g1 205 y) = c by omega]
    exact l_cnt84 hM t c x y col hb hD h7 h8 h9 hcol _
/-- what counting leaves as it is -/
def FC (gi g' : gF) : Prop := (∀ b : Int, b < 190 ∨ (190 < b ∧ b ≤ 200) ∨ 210 ≤ b → g' b = gi b) ∧ (∀ k : Int, k ≠ 15 → g' 190 k = gi 190 k)
theorem FC.rf {g : gF} : FC g g := ⟨fun _ _ => rfl, fun _ _ => rfl⟩
theorem FC.tr {g g' g2 : gF} (h : FC g g') (h' : FC g' g2) : FC g g2 := ⟨fun b hb => (h'.1 b hb).trans (h.1 b hb), fun k hk => (h'.2 k hk).trans (h.2 k hk)⟩
theorem FC.up {g g' : gF} {a i v : Int} (h : FC g g') (ha : (a = 190 ∧ i = 15) ∨ (201 ≤ a ∧ a ≤ 209)) : FC g (g_up g' a i v) := by
  refine ⟨fun b hb => ?_, fun k hk => ?_⟩
  · rw [g_up_row (by omega)]; exact h.1 b hb
  · unfold g_up; rw [if_neg (by omega)]; exact h.2 k hk
theorem FC.cu {g g' : gF} {b t v1 v2 col dk : Int} (h : FC g g') : FC g (m_cu g' b t v1 v2 col dk) := by
  unfold m_cu
  exact (((((h.up (by omega)).up (by omega)).up (by omega)).up (by omega)).up (by omega)).up (by omega)
theorem FC.beg {g g' : gF} {b x t c : Int} (h : FC g g') : FC g (m_beg g' b x t c) := by
  unfold m_beg
  exact ((((((((h.up (by omega)).up (by omega)).up (by omega)).up (by omega)).up (by omega)).up (by omega)).up (by omega)).up (by omega)).up (by omega)
theorem m_cu_15 {g : gF} {b t v1 v2 col dk : Int} : m_cu g b t v1 v2 col dk 190 = g 190 := by
  unfold m_cu
  simp only [g_up_row, g_up_r, r_up_at, r_up_ne, ne_eq, Int.reduceEq, not_false_eq_true]
set_option maxRecDepth 20000 in
set_option maxHeartbeats 2000000 in
theorem m_counts (hM : isMd sh) {T t c : Int} (ht : 0 ≤ t ∧ t < T) (hT : T ≤ 60) (hc : 0 ≤ c ∧ c < 16) (hp : 0 < cl (16 * t + c)) (hnn : ∀ q, 0 ≤ cl q ∧ cl q ≤ 9) (hcl : gi 199 (16 * t + c) = cl (16 * t + c)) (hD : gi 191 5 = D) (hL : LB cl L (gi 200) (16 * T)) (hS : BS cl D L (16 * t + c) gi nb) (hnb : gi 190 15 = nb) (hB : ∀ (n : Nat) (f : Int → Int), (∀ i : Int, 0 ≤ i → i < n → rtL cl L (16 * T) (f i)) → (∀ i j : Int, 0 ≤ i → i < j → j < n → f i < f j) → n ≤ 48) : Ct mdX9_counts 0 0 [vR 190, vI t, vI c] gi gl sh (fun r g' gl' sh' => r = none ∧ gl' = gl ∧ sh' = sh ∧ FC gi g' ∧ ∃ nb' : Int, BS cl D L (16 * t + c + 1) g' nb' ∧ g' 190 15 = nb') := by
  show Go mdX9_counts 0 0 0 [some (vR 190), some (vI t), some (vI c), none, none, none] [] gi gl sh _
  have vp : vld cl (16 * T) (16 * t + c) := ⟨by omega, by omega, hp⟩
  have vL := hL.1.v vp
  have up : ∀ i : Int, 0 ≤ i → i < nb → rtL cl L (16 * T) (gi 201 i) := fun i i0 i1 => ⟨⟨(hS.2.1 i i0 i1).1.1.1, by have := (hS.2.1 i i0 i1).1.1.2; omega⟩, (hS.2.1 i i0 i1).1.2⟩
  have n0 := hS.1
  have n8 : nb ≤ 48 := by have := hB nb.toNat (gi 201) (fun i i0 i1 => up i i0 (by omega)) (fun i j i0 ij j1 => hS.2.2.1 i j i0 ij (by omega)); omega
  refine g_aload_n dX9_counts_0 rfl ?_
  refine g_bipush dX9_counts_1 (by decide) (by decide) ?_
  refine g_iload_n dX9_counts_3 rfl ?_
  refine g_imul dX9_counts_4 (by omega) (by omega) ?_
  refine g_iload_n dX9_counts_5 rfl ?_
  refine g_iadd dX9_counts_6 (by omega) (by omega) ?_
  refine g_cVi [_] dX9_counts_7 mlX9_168 mvX9_rootOf (by decide) hM.o (by decide) rfl rfl (Nat.le_of_ble_eq_true rfl) rfl (Nat.le_of_ble_eq_true rfl) (m_rootOf hM hL (by omega) _ vp) ?_
  refine n_istore_n (lN := [_, _, _, _, _, _]) dX9_counts_10 (by decide) rfl ?_
  refine g_aload_n dX9_counts_11 rfl ?_
  refine g_iload_n dX9_counts_12 rfl ?_
  refine g_callV_i [_] dX9_counts_13 mlX9_179 mvX9_blobOf (by decide) hM.o (by decide) rfl rfl (Nat.le_of_ble_eq_true rfl) rfl (Nat.le_of_ble_eq_true rfl) (m_blobOf hM hnb ⟨n0, n8⟩ _) (fun _ _ _ _ q => q.elim fun y q => ⟨y, q.1⟩) (fun y g1 l1 s1 q w1 w2 => ?_)
  obtain ⟨y1, q1, rfl, rfl, rfl, q5⟩ := q
  cases q1
  refine g_bipush dX9_counts_16 (by decide) (by decide) ?_
  refine g_icmp_ne 28 dX9_counts_18 (by decide) (fun h18 => ?_) (fun h18 => ?_)
  · skip
    have q6 : (0 ≤ y ∧ y < nb) ∧ g1 201 y = L (16 * t + c) := q5.elim id (fun w => absurd w.1 h18)
    have hso := (hS.2.1 y q6.1.1 q6.1.2)
    have hrt := hso.1
    have hok := hso.2.ok hnn (by omega) (by have := hrt.1.2; omega) ⟨g1 201 y, by have := hrt.1; omega, mm_t.mpr ⟨hrt.2.1, hrt.2.2⟩⟩
    have o5 := hok.1 5 (by decide) (by decide)
    have o6 := hok.1 6 (by decide) (by decide)
    have o7 := hok.1 7 (by decide) (by decide)
    rw [mrow_5] at o5
    rw [mrow_6] at o6
    rw [mrow_7] at o7
    refine Go.imp (l_cnt28 (nb := nb) (D := D) hM t c _ y (cl (16 * t + c)) (by omega) hD o5 o6 o7 (hnn _) hcl ⟨⟨ht.1, by omega⟩, by omega⟩ hnb (by omega) q6.2 (by omega) (fun a a0 a1 ea => inc_inj hS.2.2.1 a0 a1 q6.1.1 q6.1.2 (by rw [ea, q6.2]))) (fun r g2 l2 s2 q => ?_)
    obtain ⟨q1, q2, q3, q4⟩ := q
    subst q2
    refine ⟨q1, q3, q4, FC.rf.cu, nb, ?_, ?_⟩
    · exact hS.old ht.1 hc hp q6.1 q6.2
    · rw [m_cu_15]; exact hnb
  · skip
    have q6 : ∀ b : Int, 0 ≤ b → b < nb → g1 201 b ≠ L (16 * t + c) := by
      rcases q5 with q5 | q5
      · omega
      · exact q5.2
    have eL : L (16 * t + c) = 16 * t + c := Classical.byContradiction (fun w => by obtain ⟨b, hb, eb⟩ := hS.2.2.2 (L (16 * t + c)) ⟨⟨vL.1.1, by have := vL.2.2; omega⟩, vL.1.2.2, vL.2.1⟩; exact q6 b hb.1 hb.2 eb)
    have n9 : nb < 48 := by
      have := hB (nb.toNat + 1) (fun i => if i < nb then g1 201 i else 16 * t + c) (fun i i0 i1 => by
        by_cases w : i < nb
        · simp only [if_pos w]; exact up i i0 w
        · simp only [if_neg w]; exact ⟨by omega, hp, eL⟩) (fun i j i0 ij j1 => by
        by_cases w : j < nb
        · simp only [if_pos w, if_pos (show i < nb by omega)]; exact hS.2.2.1 i j i0 ij w
        · simp only [if_neg w, if_pos (show i < nb by omega)]; exact (hS.2.1 i i0 (by omega)).1.1.2)
      omega
    refine g_aload_n dX9_counts_21 rfl ?_
    refine g_iload_n dX9_counts_22 rfl ?_
    refine g_iload_n dX9_counts_23 rfl ?_
    refine g_iload_n dX9_counts_24 rfl ?_
    refine g_cVv [_, _, _] dX9_counts_25 mlX9_182 mvX9_begins (by decide) hM.o (by decide) rfl rfl (Nat.le_of_ble_eq_true rfl) rfl (Nat.le_of_ble_eq_true rfl) (m_begins hM _ t c hnb (by omega)) ?_
    rw [eL]
    obtain ⟨b1, b2, b3, b4, b5, b6, b7, b8, b9⟩ := m_beg_r (g := g1) (nb := nb) (x := 16 * t + c) (t := t) (c := c)
    have fb : FC g1 (m_beg g1 nb (16 * t + c) t c) := FC.rf.beg
    have e15 : m_beg g1 nb (16 * t + c) t c 190 15 = nb + 1 := by unfold m_beg; rw [g_up_at]
    have hbs := hS.new (Or.inr trivial) ht.1 hc hp eL (fun q q0 q1 q2 => (hL.1.v (q := q) ⟨q0, by omega, q1⟩).2.2)
    generalize m_beg g1 nb (16 * t + c) t c = g3 at *
    refine Go.imp (l_cnt28 (nb := nb + 1) (D := D) hM t c _ nb (cl (16 * t + c)) (by omega) (by rw [fb.1 191 (by omega)]; exact hD) (by rw [b7, r_up_at]; omega) (by rw [b8, r_up_at]; omega) (by rw [b9, r_up_at]; omega) (hnn _) (by rw [fb.1 199 (by omega)]; exact hcl) ⟨⟨ht.1, by omega⟩, by omega⟩ e15 (by omega) (by rw [b1, r_up_at]) (by omega) (fun a a0 a1 ea => Classical.byContradiction (fun w => by rw [b1, r_up_ne w] at ea; exact q6 a a0 (by omega) (by rw [eL]; exact ea)))) (fun r g2 l2 s2 q => ?_)
    obtain ⟨q1, q2, q3, q4⟩ := q
    subst q2
    refine ⟨q1, q3, q4, fb.cu, nb + 1, ?_, ?_⟩
    · exact hbs
    · rw [m_cu_15]; exact e15

end MD7
