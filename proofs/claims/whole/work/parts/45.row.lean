def j_row (cl L : gRw) (t : Int) : Nat → gRw
  | 0 => L
  | c + 1 => j_cell cl (j_row cl L t c) t c
/-- a line, cell by cell -/
theorem FR.row {cl : gRw} {D : Int} {L : gRw} {t W ln : Int} {S : fS} (hcl : ∀ q, 0 ≤ cl q ∧ cl q ≤ 9) (ht : 0 ≤ t ∧ t < 60) (hW : 0 ≤ W ∧ W ≤ 16) (hrow : ∀ c : Int, 0 ≤ c → c < W → cl (16 * t + c) = f_dig W ln c) (h : FR cl D L t 0 S) (ha : AdjL cl L (16 * t)) :
    ∀ c : Nat, (c : Int) ≤ W → FR cl D (j_row cl L t c) t c (f_row S t W D ln c) ∧ AdjL cl (j_row cl L t c) (16 * t + c) := by
  intro c
  induction c with
  | zero => intro _; exact ⟨h, by rw [show 16 * t + ((0 : Nat) : Int) = 16 * t by omega]; exact ha⟩
  | succ c ih =>
    intro hc
    obtain ⟨h1, h2⟩ := ih (by omega)
    have hd := hrow c (by omega) (by omega)
    rw [show 16 * t + ((c + 1 : Nat) : Int) = 16 * t + c + 1 by omega, show ((c + 1 : Nat) : Int) = (c : Int) + 1 by omega]
    simp only [j_row, f_row]
    by_cases hp : 0 < cl (16 * t + c)
    · obtain ⟨-, h3, h4⟩ := h1.cell hcl ht.1 (by omega) (by omega) h2 hp
      rw [if_pos (by rw [← hd]; exact hp), ← hd]
      exact ⟨h3, h4⟩
    · rw [if_neg (by rw [← hd]; exact hp)]
      have hj : j_cell cl (j_row cl L t c) t c = j_row cl L t c := by unfold j_cell; rw [if_neg hp]
      rw [hj]
      refine ⟨h1.skip ht.1 (by omega) hp, fun q q0 q1 q2 q3 q4 => ?_⟩
      have hne : q + 1 ≠ 16 * t + c := fun e => hp (e ▸ q4)
      exact h2 q q0 (by omega) q2 q3 q4
theorem FR.rowOk {cl : gRw} {D : Int} {L : gRw} {t W ln : Int} {S : fS} (hcl : ∀ q, 0 ≤ cl q ∧ cl q ≤ 9) (ht : 0 ≤ t ∧ t < 60) (hW : 0 ≤ W ∧ W ≤ 16) (hrow : ∀ c : Int, 0 ≤ c → c < W → cl (16 * t + c) = f_dig W ln c) (h : FR cl D L t 0 S) (ha : AdjL cl L (16 * t)) :
    ∀ c : Int, 0 ≤ c → c < W → 0 < f_dig W ln c → f_sok (f_row S t W D ln c.toNat) t c (f_dig W ln c) (f_dk D (f_dig W ln c)) := by
  intro c h0 h1 hp
  obtain ⟨h2, h3⟩ := FR.row hcl ht hW hrow h ha c.toNat (by omega)
  rw [show ((c.toNat : Nat) : Int) = c by omega] at h2 h3
  have hd := hrow c h0 h1
  have := (h2.cell hcl ht.1 (by omega) (by omega) h3 (by rw [hd]; exact hp)).1
  rw [hd] at this
  exact this
/-- the cells behind the last one -/
theorem FR.rowEnd {cl : gRw} {D : Int} {L : gRw} {t W : Int} {S : fS} (ht : 0 ≤ t) (hW : 0 ≤ W ∧ W ≤ 16) (hz : ∀ c : Int, W ≤ c → c < 16 → cl (16 * t + c) = 0) : ∀ n : Nat, W + n ≤ 16 → FR cl D (j_row cl L t W.toNat) t W S → AdjL cl (j_row cl L t W.toNat) (16 * t + W) → FR cl D (j_row cl L t (W.toNat + n)) t (W + n) S ∧ AdjL cl (j_row cl L t (W.toNat + n)) (16 * t + W + n) := by
  intro n
  induction n with
  | zero => intro _ h h2; exact ⟨by rw [show W + ((0 : Nat) : Int) = W by omega]; exact h, by rw [show 16 * t + W + ((0 : Nat) : Int) = 16 * t + W by omega]; exact h2⟩
  | succ n ih =>
    intro hn h ha
    obtain ⟨h1, h2⟩ := ih (by omega) h ha
    have hp : ¬ 0 < cl (16 * t + (W + n)) := by rw [hz (W + n) (by omega) (by omega)]; omega
    have hj : j_row cl L t (W.toNat + (n + 1)) = j_row cl L t (W.toNat + n) := by
      rw [show W.toNat + (n + 1) = W.toNat + n + 1 by omega, j_row]
      unfold j_cell
      rw [if_neg (by rw [show 16 * t + ((W.toNat + n : Nat) : Int) = 16 * t + (W + n) by omega]; exact hp)]
    rw [hj]
    refine ⟨?_, fun q q0 q1 q2 q3 q4 => ?_⟩
    · rw [show W + ((n + 1 : Nat) : Int) = W + n + 1 by omega]
      exact h1.skip ht (by omega) hp
    · have hne : q + 1 ≠ 16 * t + (W + n) := fun e => hp (e ▸ q4)
      exact h2 q q0 (by omega) q2 q3 q4
theorem FR.row16 {cl : gRw} {D : Int} {L : gRw} {t W ln : Int} {S : fS} (hcl : ∀ q, 0 ≤ cl q ∧ cl q ≤ 9) (ht : 0 ≤ t ∧ t < 60) (hW : 0 ≤ W ∧ W ≤ 16) (hrow : ∀ c : Int, 0 ≤ c → c < W → cl (16 * t + c) = f_dig W ln c) (hz : ∀ c : Int, W ≤ c → c < 16 → cl (16 * t + c) = 0) (h : FR cl D L t 0 S) (ha : AdjL cl L (16 * t)) :
    FR cl D (j_row cl L t 16) t 16 (f_row S t W D ln W.toNat) ∧ AdjL cl (j_row cl L t 16) (16 * t + 16) := by
  obtain ⟨h1, h2⟩ := FR.row hcl ht hW hrow h ha W.toNat (by omega)
  rw [show ((W.toNat : Nat) : Int) = W by omega] at h1 h2
  have h3 := FR.rowEnd ht.1 hW hz (16 - W.toNat) (by omega) h1 h2
  rw [show W.toNat + (16 - W.toNat) = 16 by omega, show W + ((16 - W.toNat : Nat) : Int) = 16 by omega, show 16 * t + W + ((16 - W.toNat : Nat) : Int) = 16 * t + 16 by omega] at h3
  exact h3
/-! what joining keeps -/
theorem jn_keep {L : gRw} {x y a : Int} (hx : L x ≠ a) (hy : L y ≠ a) (q : Int) : j_jn L x y q = a ↔ L q = a := by
  unfold j_jn
  split
  · rename_i h
    constructor
    · intro w; omega
    · intro w; omega
  · exact Iff.rfl
def kpL (L L' : gRw) (b : Int) : Prop := (∀ a : Int, (∀ q, b ≤ q → L q ≠ a) → ∀ q, L' q = a ↔ L q = a) ∧ (∀ q q', L q = L q' → L' q = L' q') ∧ ∀ q, L' q ≤ L q
theorem kpL.rf {L : gRw} {b : Int} : kpL L L b := ⟨fun _ _ _ => Iff.rfl, fun _ _ h => h, fun _ => Int.le_refl _⟩
theorem kpL.tr {L L1 L2 : gRw} {b : Int} (h : kpL L L1 b) (g : kpL L1 L2 b) : kpL L L2 b :=
  ⟨fun a ha q => (g.1 a (fun z hz w => ha z hz ((h.1 a ha z).mp w)) q).trans (h.1 a ha q), fun q q' e => g.2.1 q q' (h.2.1 q q' e), fun q => Int.le_trans (g.2.2 q) (h.2.2 q)⟩
theorem kpL.jn {L : gRw} {b x y : Int} (hx : b ≤ x) (hy : b ≤ y) : kpL L (j_jn L x y) b := by
  refine ⟨fun a ha q => jn_keep (ha x hx) (ha y hy) q, fun q q' e => by unfold j_jn; rw [e], fun q => ?_⟩
  unfold j_jn
  split <;> omega
theorem kpL.cell {cl L : gRw} {t c : Int} (hc : 0 ≤ c) : kpL L (j_cell cl L t c) (16 * (t - 1)) := by
  have k1 : ∀ L, kpL L (j_c1 cl L t c) (16 * (t - 1)) := fun L => by
    unfold j_c1; split
    · exact kpL.jn (by omega) (by omega)
    · exact kpL.rf
  have k2 : ∀ L, kpL L (j_c2 cl L t c) (16 * (t - 1)) := fun L => by
    unfold j_c2; split
    · exact kpL.jn (by omega) (by omega)
    · exact kpL.rf
  have k3 : ∀ L, kpL L (j_c3 cl L t c) (16 * (t - 1)) := fun L => by
    unfold j_c3; split
    · exact kpL.jn (by omega) (by omega)
    · exact kpL.rf
  have k4 : ∀ L, kpL L (j_c4 cl L t c) (16 * (t - 1)) := fun L => by
    unfold j_c4; split
    · exact kpL.jn (by omega) (by omega)
    · exact kpL.rf
  unfold j_cell
  split
  · exact (k1 L).tr ((k2 _).tr ((k3 _).tr (k4 _)))
  · exact kpL.rf
theorem kpL.row {cl L : gRw} {t : Int} : ∀ n : Nat, kpL L (j_row cl L t n) (16 * (t - 1)) := by
  intro n
  induction n with
  | zero => exact kpL.rf
  | succ n ih => exact ih.tr (kpL.cell (by omega))
