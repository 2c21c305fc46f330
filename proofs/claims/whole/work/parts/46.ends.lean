/-! those that end, in their order -/
def gon (lv : Int → gRw) (t s : Int) : Prop := 0 < lv s 5 ∧ lv s 1 < t
def gonB (lv : Int → gRw) (t : Int) : Nat → Bool := fun i => decide (0 < lv (i : Int) 5 ∧ lv (i : Int) 1 < t)
theorem gonB_t {lv : Int → gRw} {t : Int} {i : Nat} : gonB lv t i = true ↔ gon lv t i := by simp [gonB, gon]
theorem p_cnt_0 : ∀ (n : Nat) (P : Nat → Bool), p_cnt P n = 0 → ∀ i, i < n → ¬ P i = true := by
  intro n
  induction n with
  | zero => intro P _ i hi; omega
  | succ n ih =>
    intro P h i hi
    simp only [p_cnt] at h
    by_cases hp : P n = true
    · rw [if_pos hp] at h; omega
    · by_cases hin : i = n
      · subst hin; exact hp
      · exact ih P (by omega) i (by omega)
theorem p_cnt_none : ∀ (n : Nat) (P : Nat → Bool), (∀ i, i < n → ¬ P i = true) → p_cnt P n = 0 := by
  intro n
  induction n with
  | zero => intro P _; rfl
  | succ n ih => intro P h; simp only [p_cnt, ih P (fun i hi => h i (by omega)), if_neg (h n (by omega))]
theorem p_cnt_congr : ∀ (n : Nat) (P P' : Nat → Bool), (∀ i, i < n → P i = P' i) → p_cnt P n = p_cnt P' n := by
  intro n
  induction n with
  | zero => intro P P' _; rfl
  | succ n ih => intro P P' h; simp only [p_cnt, ih P P' (fun i hi => h i (by omega)), h n (by omega)]
theorem p_cnt_rm : ∀ (n : Nat) (P P' : Nat → Bool) (e : Nat), e < n → P e = true → (∀ i, i < n → (P' i = true ↔ P i = true ∧ i ≠ e)) → p_cnt P' n + 1 = p_cnt P n := by
  intro n
  induction n with
  | zero => intro P P' e h; omega
  | succ n ih =>
    intro P P' e he hp h
    simp only [p_cnt]
    by_cases hen : e = n
    · subst hen
      rw [if_pos hp, if_neg (fun w => ((h e (by omega)).mp w).2 rfl), p_cnt_congr e P' P (fun i hi => ?_)]
      have := h i (by omega)
      rw [Bool.eq_iff_iff]
      constructor
      · intro w; exact (this.mp w).1
      · intro w; exact this.mpr ⟨w, by omega⟩
    · have h1 := ih P P' e (by omega) hp (fun i hi => h i (by omega))
      have h2 : P' n = P n := by
        rw [Bool.eq_iff_iff]
        constructor
        · intro w; exact ((h n (by omega)).mp w).1
        · intro w; exact (h n (by omega)).mpr ⟨w, fun e' => hen e'.symm⟩
      rw [h2]
      omega
theorem f_ear_sp (lv : Int → gRw) (t : Int) : ∀ (n : Nat) (s e : Int), 0 ≤ s → s + n = 16 →
    ((e = -1 ∧ ∀ z : Int, 0 ≤ z → z < s → ¬ gon lv t z) ∨ ((0 ≤ e ∧ e < s) ∧ gon lv t e ∧ ∀ z : Int, 0 ≤ z → z < s → gon lv t z → ¬ (lv z 0 < lv e 0 ∨ lv z 0 = lv e 0 ∧ lv z 2 < lv e 2))) →
    ((f_ear lv t n s e = -1 ∧ ∀ z : Int, 0 ≤ z → z < 16 → ¬ gon lv t z) ∨ ((0 ≤ f_ear lv t n s e ∧ f_ear lv t n s e < 16) ∧ gon lv t (f_ear lv t n s e) ∧ ∀ z : Int, 0 ≤ z → z < 16 → gon lv t z → ¬ (lv z 0 < lv (f_ear lv t n s e) 0 ∨ lv z 0 = lv (f_ear lv t n s e) 0 ∧ lv z 2 < lv (f_ear lv t n s e) 2))) := by
  intro n
  induction n with
  | zero =>
    intro s e h0 h1 h
    obtain rfl : s = 16 := by omega
    exact h
  | succ n ih =>
    intro s e h0 h1 h
    unfold f_ear
    refine ih (s + 1) _ (by omega) (by omega) ?_
    by_cases hc : (0 < lv s 5 ∧ lv s 1 < t) ∧ (e = -1 ∨ lv s 0 < lv e 0 ∨ lv s 0 = lv e 0 ∧ lv s 2 < lv e 2)
    · rw [if_pos hc]
      refine Or.inr ⟨by omega, hc.1, fun z z0 z1 hz => ?_⟩
      by_cases hzs : z = s
      · subst hzs; omega
      · rcases h with ⟨h2, h3⟩ | ⟨h2, h3, h4⟩
        · exact absurd hz (h3 z z0 (by omega))
        · have := h4 z z0 (by omega) hz
          have := hc.2
          omega
    · rw [if_neg hc]
      rcases h with ⟨h2, h3⟩ | ⟨h2, h3, h4⟩
      · refine Or.inl ⟨h2, fun z z0 z1 hz => ?_⟩
        by_cases hzs : z = s
        · subst hzs; exact hc ⟨hz, Or.inl h2⟩
        · exact h3 z z0 (by omega) hz
      · refine Or.inr ⟨by omega, h3, fun z z0 z1 hz => ?_⟩
        by_cases hzs : z = s
        · subst hzs; exact fun w => hc ⟨hz, Or.inr w⟩
        · exact h4 z z0 (by omega) hz
theorem bl_cpy_eq (r q : gRw) : bl_eq (bl_cpy r q) q := by simp [bl_eq, bl_cpy]
theorem bl_eq.lab {r q : gRw} (h : bl_eq r q) : rlab r = rlab q := by unfold rlab; rw [h.1, h.2.2.1]
theorem bl_eq.tr {r q w : gRw} (h : bl_eq r q) (g : bl_eq q w) : bl_eq r w := ⟨h.1.trans g.1, h.2.1.trans g.2.1, h.2.2.1.trans g.2.2.1, h.2.2.2.1.trans g.2.2.2.1, h.2.2.2.2.1.trans g.2.2.2.2.1, h.2.2.2.2.2.1.trans g.2.2.2.2.2.1, h.2.2.2.2.2.2.1.trans g.2.2.2.2.2.2.1, h.2.2.2.2.2.2.2.trans g.2.2.2.2.2.2.2⟩
theorem f_end_sp (t : Int) : ∀ (n : Nat) (lv er : Int → gRw) (ec : Int), p_cnt (gonB lv t) 16 ≤ n → (∀ s : Int, 0 ≤ s → s < 16 → gon lv t s → 0 ≤ lv s 2 ∧ lv s 2 < 16) → (∀ s s' : Int, 0 ≤ s → s < 16 → 0 ≤ s' → s' < 16 → gon lv t s → gon lv t s' → rlab (lv s) = rlab (lv s') → s = s') → 0 ≤ ec →
    (∀ z : Int, 0 ≤ z → z < 16 → (gon lv t z → (f_end t n lv er ec).1 z = bl_off (lv z)) ∧ (¬ gon lv t z → (f_end t n lv er ec).1 z = lv z)) ∧ (f_end t n lv er ec).2.2 = ec + p_cnt (gonB lv t) 16 ∧ (∀ i : Int, i < ec → (f_end t n lv er ec).2.1 i = er i) ∧
    (∀ i : Int, ec ≤ i → i < (f_end t n lv er ec).2.2 → ∃ z : Int, (0 ≤ z ∧ z < 16) ∧ gon lv t z ∧ bl_eq ((f_end t n lv er ec).2.1 i) (lv z)) ∧
    (∀ z : Int, 0 ≤ z → z < 16 → gon lv t z → ∃ i : Int, (ec ≤ i ∧ i < (f_end t n lv er ec).2.2) ∧ bl_eq ((f_end t n lv er ec).2.1 i) (lv z)) ∧
    (∀ i j : Int, ec ≤ i → i < j → j < (f_end t n lv er ec).2.2 → rlab ((f_end t n lv er ec).2.1 i) < rlab ((f_end t n lv er ec).2.1 j)) ∧ (ec + p_cnt (gonB lv t) 16 ≤ 31 → f_room t n lv ec) := by
  intro n
  induction n with
  | zero =>
    intro lv er ec hn hr hi h0
    have hz := p_cnt_0 16 _ (Nat.le_zero.mp hn)
    have hno : ∀ z : Int, 0 ≤ z → z < 16 → ¬ gon lv t z := fun z z0 z1 w => hz z.toNat (by omega) (gonB_t.mpr (by rw [show ((z.toNat : Nat) : Int) = z by omega]; exact w))
    refine ⟨fun z z0 z1 => ⟨fun w => absurd w (hno z z0 z1), fun _ => rfl⟩, ?_, fun i _ => rfl, fun i i0 i1 => ?_, fun z z0 z1 w => absurd w (hno z z0 z1), fun i j i0 i1 i2 => ?_, fun _ => trivial⟩
    · show ec = _; omega
    · have : i < ec := i1; omega
    · have : j < ec := i2; omega
  | succ n ih =>
    intro lv er ec hn hr hi h0
    have hsp := f_ear_sp lv t 16 0 (-1) (by omega) (by omega) (Or.inl ⟨rfl, fun z z0 z1 => by omega⟩)
    have hunf : f_end t (n + 1) lv er ec = (if f_ear lv t 16 0 (-1) < 0 then (lv, er, ec) else f_end t n (g_row lv (f_ear lv t 16 0 (-1)) (bl_off (lv (f_ear lv t 16 0 (-1))))) (g_row er ec (bl_cpy (er ec) (lv (f_ear lv t 16 0 (-1))))) (ec + 1)) := rfl
    have hroom : f_room t (n + 1) lv ec = (f_ear lv t 16 0 (-1) < 0 ∨ (ec < 31 ∧ f_room t n (g_row lv (f_ear lv t 16 0 (-1)) (bl_off (lv (f_ear lv t 16 0 (-1))))) (ec + 1))) := rfl
    generalize f_ear lv t 16 0 (-1) = e at hsp hunf hroom
    rcases hsp with ⟨he, hno⟩ | ⟨he, hg, hmin⟩
    · rw [if_pos (by omega)] at hunf
      rw [hunf]
      have hz : p_cnt (gonB lv t) 16 = 0 := p_cnt_none 16 _ (fun i hi w => hno i (by omega) (by omega) (gonB_t.mp w))
      refine ⟨fun z z0 z1 => ⟨fun w => absurd w (hno z z0 z1), fun _ => rfl⟩, ?_, fun i _ => rfl, fun i i0 i1 => ?_, fun z z0 z1 w => absurd w (hno z z0 z1), fun i j i0 i1 i2 => ?_, fun _ => by rw [hroom]; exact Or.inl (by omega)⟩
      · show ec = _; omega
      · have : i < ec := i1; omega
      · have : j < ec := i2; omega
    · rw [if_neg (by omega)] at hunf
      rw [hunf]
      have hoff : ∀ z, gon (g_row lv e (bl_off (lv e))) t z ↔ gon lv t z ∧ z ≠ e := fun z => by
        unfold gon
        by_cases hze : z = e
        · subst hze
          rw [g_row_at]
          constructor
          · intro w; have := w.1; simp [bl_off] at this
          · intro w; exact absurd rfl w.2
        · rw [g_row_ne hze]
          exact ⟨fun w => ⟨w, hze⟩, fun w => w.1⟩
      have hcnt : p_cnt (gonB (g_row lv e (bl_off (lv e))) t) 16 + 1 = p_cnt (gonB lv t) 16 := p_cnt_rm 16 _ _ e.toNat (by omega) (gonB_t.mpr (by rw [show ((e.toNat : Nat) : Int) = e by omega]; exact hg)) (fun i hi => by
        rw [gonB_t, gonB_t, hoff]
        constructor
        · intro w; exact ⟨w.1, fun q => w.2 (by omega)⟩
        · intro w; exact ⟨w.1, fun q => w.2 (by omega)⟩)
      obtain ⟨r1, r2, r3, r4, r5, r6, r7⟩ := ih (g_row lv e (bl_off (lv e))) (g_row er ec (bl_cpy (er ec) (lv e))) (ec + 1) (by omega) (fun s s0 s1 w => by
          have w2 := (hoff s).mp w
          rw [g_row_ne w2.2]; exact hr s s0 s1 w2.1) (fun s s' s0 s1 s0' s1' w w' q => by
          have w2 := (hoff s).mp w
          have w2' := (hoff s').mp w'
          rw [g_row_ne w2.2, g_row_ne w2'.2] at q
          exact hi s s' s0 s1 s0' s1' w2.1 w2'.1 q) (by omega)
      have hfst : (f_end t n (g_row lv e (bl_off (lv e))) (g_row er ec (bl_cpy (er ec) (lv e))) (ec + 1)).2.1 ec = bl_cpy (er ec) (lv e) := by rw [r3 ec (by omega), g_row_at]
      generalize f_end t n (g_row lv e (bl_off (lv e))) (g_row er ec (bl_cpy (er ec) (lv e))) (ec + 1) = R at r1 r2 r3 r4 r5 r6 hfst
      refine ⟨fun z z0 z1 => ⟨fun w => ?_, fun w => ?_⟩, by omega, fun i i0 => ?_, fun i i0 i1 => ?_, fun z z0 z1 w => ?_, fun i j i0 i1 i2 => ?_, fun hb => ?_⟩
      · by_cases hze : z = e
        · rw [(r1 z z0 z1).2 (fun q => ((hoff z).mp q).2 hze), hze, g_row_at]
        · rw [(r1 z z0 z1).1 ((hoff z).mpr ⟨w, hze⟩), g_row_ne hze]
      · have hze : z ≠ e := fun q => w (q ▸ hg)
        rw [(r1 z z0 z1).2 (fun q => w ((hoff z).mp q).1), g_row_ne hze]
      · rw [r3 i (by omega), g_row_ne (by omega)]
      · by_cases hie : i = ec
        · exact ⟨e, he, hg, by rw [hie, hfst]; exact bl_cpy_eq _ _⟩
        · obtain ⟨z, hz, hzg, hzb⟩ := r4 i (by omega) i1
          have h2 := (hoff z).mp hzg
          rw [g_row_ne h2.2] at hzb
          exact ⟨z, hz, h2.1, hzb⟩
      · by_cases hze : z = e
        · exact ⟨ec, by omega, by rw [hfst, hze]; exact bl_cpy_eq _ _⟩
        · obtain ⟨i, h1, h2⟩ := r5 z z0 z1 ((hoff z).mpr ⟨w, hze⟩)
          rw [g_row_ne hze] at h2
          exact ⟨i, by omega, h2⟩
      · by_cases hie : i = ec
        · obtain ⟨z, hz, hzg, hzb⟩ := r4 j (by omega) i2
          have h2 := (hoff z).mp hzg
          rw [g_row_ne h2.2] at hzb
          rw [hzb.lab, hie, hfst, (bl_cpy_eq _ _).lab]
          have hm := hmin z hz.1 hz.2 h2.1
          have hze : rlab (lv z) ≠ rlab (lv e) := fun q => h2.2 (hi z e hz.1 hz.2 he.1 he.2 h2.1 hg q)
          have q1 := hr z hz.1 hz.2 h2.1
          have q2 := hr e he.1 he.2 hg
          unfold rlab at hze ⊢
          omega
        · exact r6 i j (by omega) i1 i2
      · rw [hroom]
        exact Or.inr ⟨by omega, r7 (by omega)⟩
