/-! the end of a line -/
theorem FR.goneAt {cl : gRw} {D : Int} {L : gRw} {t : Int} {S : fS} (h : FR cl D L t 16 S) (ht : 0 ≤ t) {s : Int} (hs : usd S s) :
    (gon S.1 t s → ∃ q, fro cl t 16 q ∧ q < 16 * t ∧ L q = rlab (S.1 s) ∧ own t S q = s) ∧ (¬ gon S.1 t s → ∃ q, fro cl t 16 q ∧ 16 * t ≤ q ∧ L q = rlab (S.1 s) ∧ own t S q = s) := by
  have hst := h.2.2.2.2.2.1 s hs
  have h1 := hst.2.1
  refine ⟨fun hg => ?_, fun hg => ?_⟩
  · obtain ⟨q, hq, ho⟩ := h.2.2.2.1 s hs
    have hL := (h.2.1 q hq).2
    rw [ho] at hL
    refine ⟨q, hq, ?_, hL.symm, ho⟩
    refine Classical.byContradiction (fun hn => ?_)
    have hm : mm cl L (rlab (S.1 s)) q = true := mm_t.mpr ⟨hq.2.2.2, hL.symm⟩
    have h2 := hq.2.2.1
    have := k_max_ge (m := mm cl L (rlab (S.1 s))) (f := fun q => q / 16) (16 * t + 16).toNat q hq.1 (by omega) hm
    have := hg.2
    omega
  · have h5 : ¬ S.1 s 1 < t := fun w => hg ⟨hs.2, w⟩
    rcases k_max_ex (m := mm cl L (rlab (S.1 s))) (f := fun q => q / 16) (fun q q0 => by omega) (16 * t + 16).toNat with ⟨h2, -⟩ | ⟨q, hq, hm, h2⟩
    · omega
    · have hm' := mm_t.mp hm
      have hf : fro cl t 16 q := ⟨hq.1, by omega, by omega, hm'.1⟩
      have h3 := h.2.1 q hf
      exact ⟨q, hf, by omega, hm'.2, h.2.2.2.2.1 _ _ h3.1 hs (by rw [h3.2, hm'.2])⟩
theorem FR.usd_gon {cl : gRw} {D : Int} {L : gRw} {t : Int} {S : fS} (_h : FR cl D L t 16 S) {s : Int} (h0 : 0 ≤ s) (h1 : s < 16) (hg : gon S.1 t s) : usd S s := ⟨⟨h0, h1⟩, hg.1⟩
/-- no more than eight end -/
theorem FR.gone8 {cl : gRw} {D : Int} {L : gRw} {t : Int} {S : fS} (h : FR cl D L t 16 S) (ha : AdjL cl L (16 * t + 16)) (ht : 0 ≤ t) : p_cnt (gonB S.1 t) 16 ≤ 8 := by
  have hq : ∀ i : Nat, ∃ q : Int, i < 16 → gonB S.1 t i = true → fro cl t 16 q ∧ q < 16 * t ∧ own t S q = i := fun i => by
    by_cases hi : i < 16 ∧ gonB S.1 t i = true
    · have hg := gonB_t.mp hi.2
      obtain ⟨q, h1, h2, -, h3⟩ := (h.goneAt ht (h.usd_gon (by omega) (by omega) hg)).1 hg
      exact ⟨q, fun _ _ => ⟨h1, h2, h3⟩⟩
    · exact ⟨0, fun h1 h2 => absurd ⟨h1, h2⟩ hi⟩
  refine p_cnt_le 16 (gonB S.1 t) (fun i => (((hq i).choose - 16 * (t - 1)) / 2).toNat) 8 (fun i hi hP => ?_) (fun i j hi hj hPi hPj he => ?_)
  · obtain ⟨h1, h2, h3⟩ := (hq i).choose_spec hi hP
    generalize (hq i).choose = q at h1 h2 h3
    obtain ⟨f0, f1, f2, f3⟩ := h1
    show ((q - 16 * (t - 1)) / 2).toNat < 8
    omega
  · obtain ⟨h1, h2, h3⟩ := (hq i).choose_spec hi hPi
    obtain ⟨g1, g2, g3⟩ := (hq j).choose_spec hj hPj
    generalize (hq i).choose = q at h1 h2 h3 he
    generalize (hq j).choose = w at g1 g2 g3 he
    have hL : L q = L w := by
      obtain ⟨f0, f1, f2, f3⟩ := h1
      obtain ⟨e0, e1, e2, e3⟩ := g1
      have hcase : q = w ∨ (q + 1 = w ∧ ¬ w % 16 = 0) ∨ (w + 1 = q ∧ ¬ q % 16 = 0) := by omega
      rcases hcase with rfl | ⟨rfl, h9⟩ | ⟨rfl, h9⟩
      · rfl
      · exact ha q f0 e2 h9 f3 e3
      · exact (ha w e0 f2 h9 e3 f3).symm
    have := h.same h1 g1 hL
    rw [h3, g3] at this
    omega
theorem FR.next {cl : gRw} {D : Int} {L : gRw} {t : Int} {S : fS} {lv : Int → gRw} (h : FR cl D L t 16 S) (ht : 0 ≤ t) (hlv : ∀ z : Int, 0 ≤ z → z < 16 → (gon S.1 t z → lv z = bl_off (S.1 z)) ∧ (¬ gon S.1 t z → lv z = S.1 z)) : FR cl D L (t + 1) 0 (lv, S.2.2, f_fill S.2.1 (-1)) := by
  have eK : 16 * (t + 1) + 0 = 16 * t + 16 := by omega
  have hfro : ∀ q, fro cl (t + 1) 0 q ↔ fro cl t 16 q ∧ 16 * t ≤ q := fun q => by
    unfold fro
    rw [eK, show t + 1 - 1 = t by omega]
    constructor
    · intro w; exact ⟨⟨w.1, by omega, w.2.2⟩, w.2.1⟩
    · intro w; exact ⟨w.1.1, w.2, w.1.2.2⟩
  have hown : ∀ q, 16 * t ≤ q → q < 16 * t + 16 → own (t + 1) (lv, S.2.2, f_fill S.2.1 (-1)) q = own t S q := fun q q0 q1 => by
    unfold own
    rw [if_pos (by omega), if_neg (by omega), show t + 1 - 1 = t by omega]
  have hng : ∀ q, fro cl t 16 q → 16 * t ≤ q → ¬ gon S.1 t (own t S q) := fun q hq q0 hg => by
    have h1 := h.2.1 q hq
    have hst := (h.2.2.2.2.2.1 _ h1.1).2.1
    have h2 := hq.2.2.1
    have := k_max_ge (m := mm cl L (rlab (S.1 (own t S q)))) (f := fun q => q / 16) (16 * t + 16).toNat q hq.1 (by omega) (mm_t.mpr ⟨hq.2.2.2, h1.2.symm⟩)
    have := hg.2
    omega
  have husd : ∀ s, usd (lv, S.2.2, f_fill S.2.1 (-1)) s → usd S s ∧ ¬ gon S.1 t s ∧ lv s = S.1 s := fun s hs => by
    obtain ⟨hs0, hs5⟩ := hs
    have h5 : 0 < lv s 5 := hs5
    have h1 := hlv s hs0.1 hs0.2
    by_cases hg : gon S.1 t s
    · rw [h1.1 hg] at h5; simp [bl_off] at h5
    · have h2 := h1.2 hg
      rw [h2] at h5
      exact ⟨⟨hs0, h5⟩, hg, h2⟩
  unfold FR
  rw [eK]
  refine ⟨h.1, fun q hq => ?_, fun x x0 x1 => ⟨fun hn => ?_, fun _ => ?_⟩, fun s hs => ?_, fun s s' hs hs' e => ?_, fun s hs => ?_, fun s s0 s1 => ?_⟩
  · have hq' := (hfro q).mp hq
    have h1 := h.2.1 q hq'.1
    rw [hown q hq'.2 (by have := hq'.1.2.2.1; omega)]
    have h2 := (hlv _ h1.1.1.1 h1.1.1.2).2 (hng q hq'.1 hq'.2)
    refine ⟨⟨h1.1.1, ?_⟩, ?_⟩
    · show 0 < lv _ 5; rw [h2]; exact h1.1.2
    · show rlab (lv _) = _; rw [h2]; exact h1.2
  · refine (h.2.2.1 x x0 x1).2 (fun w => hn ?_)
    rw [show t + 1 - 1 = t by omega]
    exact (hfro _).mpr ⟨w, by omega⟩
  · show f_fill S.2.1 (-1) x = -1
    unfold f_fill; rw [if_pos ⟨x0, x1⟩]
  · obtain ⟨h1, h2, h3⟩ := husd s hs
    obtain ⟨q, hq, q0, -, ho⟩ := (h.goneAt ht h1).2 h2
    exact ⟨q, (hfro q).mpr ⟨hq, q0⟩, by rw [hown q q0 (by have := hq.2.2.1; omega)]; exact ho⟩
  · obtain ⟨h1, -, h3⟩ := husd s hs
    obtain ⟨h1', -, h3'⟩ := husd s' hs'
    have e' : rlab (lv s) = rlab (lv s') := e
    rw [h3, h3'] at e'
    exact h.2.2.2.2.1 s s' h1 h1' e'
  · obtain ⟨h1, -, h3⟩ := husd s hs
    show isSt cl D (mm cl L (rlab (lv s))) (rlab (lv s)) (16 * t + 16).toNat (lv s)
    rw [h3]
    exact h.2.2.2.2.2.1 s h1
  · show bl_ok (lv s)
    have h1 := hlv s s0 s1
    have h2 := h.2.2.2.2.2.2 s s0 s1
    by_cases hg : gon S.1 t s
    · rw [h1.1 hg]; exact bl_off_ok h2
    · rw [h1.2 hg]; exact h2
/-! the ended ones -/
def rtL (cl L : gRw) (K x : Int) : Prop := (0 ≤ x ∧ x < K) ∧ 0 < cl x ∧ L x = x
def ES (cl : gRw) (D : Int) (L : gRw) (T : Int) (er : Int → gRw) (ec : Int) : Prop :=
  (∀ i : Int, 0 ≤ i → i < ec → isSt cl D (mm cl L (rlab (er i))) (rlab (er i)) (16 * T).toNat (er i) ∧ rtL cl L (16 * T) (rlab (er i)) ∧ er i 1 < T - 1) ∧
  (∀ i j : Int, 0 ≤ i → i < j → j < ec → er i 1 < er j 1 ∨ er i 1 = er j 1 ∧ rlab (er i) < rlab (er j)) ∧
  ∀ x : Int, rtL cl L (16 * T) x → k_max (mm cl L x) (fun q => q / 16) (16 * T).toNat < T - 1 → ∃ i : Int, (0 ≤ i ∧ i < ec) ∧ rlab (er i) = x
theorem isSt.eq {cl : gRw} {D : Int} {m : Int → Bool} {x : Int} {n : Nat} {r q : gRw} (h : isSt cl D m x n r) (e : bl_eq q r) : isSt cl D m x n q := by
  obtain ⟨e0, e1, e2, e3, e4, e5, e6, e7⟩ := e
  unfold isSt
  rw [e0, e1, e2, e3, e4, e5, e6, e7]
  exact h
theorem isSt.skips {cl : gRw} {D : Int} {m : Int → Bool} {x : Int} {n : Nat} {r : gRw} (h : isSt cl D m x n r) : ∀ k : Nat, (∀ q : Int, n ≤ q → q < n + k → ¬ m q = true) → isSt cl D m x (n + k) r := by
  intro k
  induction k with
  | zero => intro _; exact h
  | succ k ih =>
    intro hm
    have := (ih (fun q q0 q1 => hm q q0 (by omega))).skip (hm _ (by omega) (by omega))
    exact this
theorem ES.line {cl : gRw} {D : Int} {L L' : gRw} {t : Int} {S0 S : fS} {er : Int → gRw} {ec : Int} (ht : 0 ≤ t) (hF0 : FR cl D L t 0 S0) (hF : FR cl D L' t 16 S) (ha : AdjL cl L' (16 * t + 16)) (hk : kpL L L' (16 * (t - 1))) (he : ES cl D L t er ec) (h0 : 0 ≤ ec) :
    ES cl D L' (t + 1) (f_end t 16 S.1 er ec).2.1 (f_end t 16 S.1 er ec).2.2 ∧ (ec ≤ (f_end t 16 S.1 er ec).2.2 ∧ (f_end t 16 S.1 er ec).2.2 ≤ ec + 8) ∧ (ec ≤ 23 → f_room t 16 S.1 ec) ∧ FR cl D L' (t + 1) 0 ((f_end t 16 S.1 er ec).1, S.2.2, f_fill S.2.1 (-1)) := by
  have h8 := hF.gone8 ha ht
  obtain ⟨r1, r2, r3, r4, r5, r6, r7⟩ := f_end_sp t 16 S.1 er ec (by omega) (fun s s0 s1 hg => by
    have := (hF.2.2.2.2.2.1 s (hF.usd_gon s0 s1 hg)).1
    exact ⟨this.2.2.1, this.2.2.2⟩) (fun s s' s0 s1 s0' s1' hg hg' e => hF.2.2.2.2.1 s s' (hF.usd_gon s0 s1 hg) (hF.usd_gon s0' s1' hg') e) h0
  refine ⟨?_, by omega, fun hb => r7 (by omega), hF.next ht r1⟩
  have hL0 := hF0.1
  have hL1 := hF.1
  rw [show 16 * t + 0 = 16 * t by omega] at hL0
  -- a label without a place in the line ahead stays as it is
  have hsame : ∀ x, rtL cl L (16 * t) x → (∀ q : Int, 16 * (t - 1) ≤ q → q < 16 * t → 0 ≤ q → 0 < cl q → L q ≠ x) → ∀ q, L' q = x ↔ L q = x := fun x hx hno => hk.1 x (fun q q0 e => by
    by_cases hq : (0 ≤ q ∧ q < 16 * t) ∧ 0 < cl q
    · exact hno q q0 hq.1.2 hq.1.1 hq.2 e
    · rw [hL0.2 q (fun w => hq ⟨⟨w.1, w.2.1⟩, w.2.2⟩)] at e
      rw [e] at hq
      exact hq ⟨hx.1, hx.2.1⟩)
  have hnew : ∀ z : Int, 0 ≤ z → z < 16 → gon S.1 t z → isSt cl D (mm cl L' (rlab (S.1 z))) (rlab (S.1 z)) (16 * (t + 1)).toNat (S.1 z) ∧ rtL cl L' (16 * (t + 1)) (rlab (S.1 z)) ∧ S.1 z 1 = t - 1 := fun z z0 z1 hg => by
    have hu := hF.usd_gon z0 z1 hg
    have hst := hF.2.2.2.2.2.1 z hu
    obtain ⟨q, hq, q1, hqL, -⟩ := (hF.goneAt ht hu).1 hg
    have hl := hL1.1 q hq.1 hq.2.2.1 hq.2.2.2
    refine ⟨by rw [show 16 * (t + 1) = 16 * t + 16 by omega]; exact hst, ⟨⟨by omega, by omega⟩, by rw [← hqL]; exact hl.2.1, by rw [← hqL]; exact hl.2.2⟩, ?_⟩
    have h1 := hst.2.1
    have h2 := k_max_ge (m := mm cl L' (rlab (S.1 z))) (f := fun q => q / 16) (16 * t + 16).toNat q hq.1 (by omega) (mm_t.mpr ⟨hq.2.2.2, hqL⟩)
    have h3 := hg.2
    have h4 := hq.2.1
    omega
  have hold : ∀ i : Int, 0 ≤ i → i < ec → isSt cl D (mm cl L' (rlab (er i))) (rlab (er i)) (16 * (t + 1)).toNat (er i) ∧ rtL cl L' (16 * (t + 1)) (rlab (er i)) ∧ er i 1 < t - 1 := fun i i0 i1 => by
    obtain ⟨h1, h2, h3⟩ := he.1 i i0 i1
    have hs := hsame (rlab (er i)) h2 (fun q q0 q1 q2 q3 e => by
      have := k_max_ge (m := mm cl L (rlab (er i))) (f := fun q => q / 16) (16 * t).toNat q q2 (by omega) (mm_t.mpr ⟨q3, e⟩)
      have := h1.2.1
      omega)
    have hm : ∀ q, mm cl L (rlab (er i)) q = mm cl L' (rlab (er i)) q := fun q => by
      unfold mm; rw [decide_eq_decide, hs q]
    refine ⟨?_, ⟨⟨h2.1.1, by have := h2.1.2; omega⟩, h2.2.1, (hs _).mpr h2.2.2⟩, h3⟩
    have h4 := (h1.congr (fun q _ _ => hm q)).skips 16 (fun q q0 q1 w => by
      have w2 := mm_t.mp w
      have w3 := (hs q).mp w2.2
      rw [hL0.2 q (fun v => by omega)] at w3
      have := h2.1.2
      omega)
    rw [show (16 * t).toNat + 16 = (16 * (t + 1)).toNat by omega] at h4
    exact h4
  refine ⟨fun i i0 i1 => ?_, fun i j i0 i1 i2 => ?_, fun x hx hmx => ?_⟩
  · by_cases hi : i < ec
    · rw [r3 i hi]
      obtain ⟨h1, h2, h3⟩ := hold i i0 hi
      exact ⟨h1, h2, by omega⟩
    · obtain ⟨z, hz, hg, hb⟩ := r4 i (by omega) i1
      obtain ⟨h1, h2, h3⟩ := hnew z hz.1 hz.2 hg
      rw [hb.lab]
      exact ⟨h1.eq hb, h2, by rw [hb.2.1]; omega⟩
  · by_cases hj : j < ec
    · rw [r3 i (by omega), r3 j hj]; exact he.2.1 i j i0 i1 hj
    · obtain ⟨z, hz, hg, hb⟩ := r4 j (by omega) i2
      have h3 := (hnew z hz.1 hz.2 hg).2.2
      rw [hb.2.1]
      by_cases hi : i < ec
      · have := (hold i i0 hi).2.2
        rw [r3 i hi]
        exact Or.inl (by omega)
      · obtain ⟨z', hz', hg', hb'⟩ := r4 i (by omega) (by omega)
        have h3' := (hnew z' hz'.1 hz'.2 hg').2.2
        rw [hb'.2.1]
        exact Or.inr ⟨by omega, r6 i j (by omega) i1 i2⟩
  · rw [show 16 * (t + 1) = 16 * t + 16 by omega] at hmx hx
    have hxm : mm cl L' x x = true := mm_t.mpr ⟨hx.2.1, hx.2.2⟩
    have hx2 := hx.1.2
    have hge := k_max_ge (m := mm cl L' x) (f := fun q => q / 16) (16 * t + 16).toNat x hx.1.1 (by omega) hxm
    have hge' : x / 16 ≤ k_max (mm cl L' x) (fun q => q / 16) (16 * t + 16).toNat := hge
    by_cases hex : ∃ q : Int, (16 * (t - 1) ≤ q ∧ q < 16 * t ∧ 0 ≤ q) ∧ 0 < cl q ∧ L' q = x
    · obtain ⟨q, hq, hq3, hqL⟩ := hex
      have hf : fro cl t 16 q := ⟨hq.2.2, hq.1, by omega, hq3⟩
      have hu := hF.2.1 q hf
      have hst := (hF.2.2.2.2.2.1 _ hu.1).2.1
      rw [hu.2, hqL] at hst
      have hg : gon S.1 t (own t S q) := ⟨hu.1.2, by omega⟩
      obtain ⟨i, hi, hb⟩ := r5 _ hu.1.1.1 hu.1.1.2 hg
      exact ⟨i, by omega, by rw [hb.lab, hu.2, hqL]⟩
    · have hLx : L x = x := by
        have h1 := (hL0.1 x hx.1.1 (by omega) hx.2.1).1.2
        have h2 := hk.2.2 x
        rw [hx.2.2] at h2
        omega
      have hrt : rtL cl L (16 * t) x := ⟨⟨hx.1.1, by omega⟩, hx.2.1, hLx⟩
      have hs := hsame x hrt (fun q q0 q1 q2 q3 e => hex ⟨q, ⟨q0, q1, q2⟩, q3, by
        have := hk.2.1 q x (by rw [e, hLx])
        rw [this, hx.2.2]⟩)
      have hlast : k_max (mm cl L x) (fun q => q / 16) (16 * t).toNat < t - 1 := by
        rcases k_max_ex (m := mm cl L x) (f := fun q => q / 16) (fun q q0 => by omega) (16 * t).toNat with ⟨-, h2⟩ | ⟨q, hq, hm, h2⟩
        · exact absurd (mm_t.mpr ⟨hx.2.1, hLx⟩) (h2 x hx.1.1 (by omega))
        · rw [← h2]
          have hm' := mm_t.mp hm
          refine Classical.byContradiction (fun hn => hex ⟨q, ⟨by omega, by omega, hq.1⟩, hm'.1, (hs q).mpr hm'.2⟩)
      obtain ⟨i, hi, hi2⟩ := he.2.2 x hrt hlast
      exact ⟨i, by omega, by rw [r3 i hi.2]; exact hi2⟩
/-! two sorted lists of one set are one -/
theorem srt_eq (f g : Int → Int) (n m : Int) (hf : ∀ i j : Int, 0 ≤ i → i < j → j < n → f i < f j) (hg : ∀ i j : Int, 0 ≤ i → i < j → j < m → g i < g j) (h1 : ∀ i : Int, 0 ≤ i → i < n → ∃ j : Int, (0 ≤ j ∧ j < m) ∧ g j = f i) (h2 : ∀ j : Int, 0 ≤ j → j < m → ∃ i : Int, (0 ≤ i ∧ i < n) ∧ f i = g j) :
    ∀ k : Nat, (k : Int) < n → (k : Int) < m ∧ f k = g k := by
  intro k
  induction k using Nat.strongRecOn with
  | ind k ih =>
    intro hk
    obtain ⟨j, hj, ej⟩ := h1 k (by omega) hk
    have hjk : (k : Int) ≤ j := by
      refine Classical.byContradiction (fun hn => ?_)
      have h3 := (ih j.toNat (by omega) (by omega)).2
      rw [show ((j.toNat : Nat) : Int) = j by omega] at h3
      have := hf j k hj.1 (by omega) hk
      omega
    obtain ⟨i, hi, ei⟩ := h2 k (by omega) (by omega)
    have hik : (k : Int) ≤ i := by
      refine Classical.byContradiction (fun hn => ?_)
      have h3 := (ih i.toNat (by omega) (by omega)).2
      rw [show ((i.toNat : Nat) : Int) = i by omega] at h3
      have := hg i k hi.1 (by omega) (by omega)
      omega
    refine ⟨by omega, ?_⟩
    have a1 : f k ≤ f i := by
      by_cases e : (k : Int) = i
      · rw [e]; exact Int.le_refl _
      · have := hf k i (by omega) (by omega) hi.2; omega
    have a2 : g k ≤ g j := by
      by_cases e : (k : Int) = j
      · rw [e]; exact Int.le_refl _
      · have := hg k j (by omega) (by omega) hj.2; omega
    omega
