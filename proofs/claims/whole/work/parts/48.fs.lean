/-! the same colours, the same fold -/
theorem k_sum_fc {m : Int → Bool} {f g : Int → Int} : ∀ n : Nat, (∀ q : Int, 0 ≤ q → q < n → f q = g q) → k_sum m f n = k_sum m g n := by
  intro n
  induction n with
  | zero => intro _; rfl
  | succ n ih => intro h; simp only [k_sum]; rw [ih (fun q q0 q1 => h q q0 (by omega)), h n (by omega) (by omega)]
theorem isSt.cl {cl cl' : gRw} {D : Int} {m : Int → Bool} {x : Int} {n : Nat} {r : gRw} (h : isSt cl D m x n r) (hc : ∀ q : Int, 0 ≤ q → q < n → cl q = cl' q) : isSt cl' D m x n r := by
  obtain ⟨h0, h1, h3, h4, h5, h6, h7⟩ := h
  exact ⟨h0, h1, h3, h4, h5, h6.trans (k_sum_fc n (fun q q0 q1 => hc q q0 q1)), h7.trans (k_sum_fc n (fun q q0 q1 => by rw [hc q q0 q1]))⟩
theorem mm_cl {cl cl' L : gRw} {x q : Int} (hc : cl q = cl' q) : mm cl L x q = mm cl' L x q := by unfold mm; rw [hc]
theorem FR.cl {cl cl' : gRw} {D : Int} {L : gRw} {t c : Int} {S : fS} (h : FR cl D L t c S) (hc : ∀ q : Int, q < 16 * t + c → cl q = cl' q) : FR cl' D L t c S := by
  obtain ⟨hL, hO, hN, hU, hI, hS, hB⟩ := h
  have hf : ∀ q, fro cl' t c q ↔ fro cl t c q := fun q => by
    unfold fro
    constructor
    · intro w; exact ⟨w.1, w.2.1, w.2.2.1, by rw [hc q w.2.2.1]; exact w.2.2.2⟩
    · intro w; exact ⟨w.1, w.2.1, w.2.2.1, by rw [← hc q w.2.2.1]; exact w.2.2.2⟩
  refine ⟨⟨fun q q0 q1 q2 => ?_, fun q hq => ?_⟩, fun q hq => hO q ((hf q).mp hq), fun x x0 x1 => ⟨fun w => (hN x x0 x1).1 (fun z => w ((hf _).mpr z)), fun w => (hN x x0 x1).2 (fun z => w ((hf _).mpr z))⟩, fun s us => ?_, hI, fun s us => ?_, hB⟩
  · have h1 := hL.1 q q0 q1 (by rw [hc q q1]; exact q2)
    exact ⟨h1.1, by rw [← hc _ (by omega)]; exact h1.2.1, h1.2.2⟩
  · exact hL.2 q (fun w => hq ⟨w.1, w.2.1, by rw [← hc q w.2.1]; exact w.2.2⟩)
  · obtain ⟨q, hq, ho⟩ := hU s us
    exact ⟨q, (hf q).mpr hq, ho⟩
  · refine ((hS s us).cl (fun q q0 q1 => hc q (by omega))).congr (fun q q0 q1 => mm_cl (hc q (by omega)))
theorem AdjL.cl {cl cl' L : gRw} {K : Int} (h : AdjL cl L K) (hc : ∀ q : Int, q < K → cl q = cl' q) : AdjL cl' L K := fun q q0 q1 q2 q3 q4 =>
  h q q0 q1 q2 (by rw [hc q (by omega)]; exact q3) (by rw [hc _ q1]; exact q4)
theorem rtL.cl {cl cl' L : gRw} {K x : Int} (h : rtL cl L K x) (hc : ∀ q : Int, q < K → cl q = cl' q) : rtL cl' L K x := ⟨h.1, by rw [← hc x h.1.2]; exact h.2.1, h.2.2⟩
theorem ES.cl {cl cl' : gRw} {D : Int} {L : gRw} {T : Int} {er : Int → gRw} {ec : Int} (h : ES cl D L T er ec) (hc : ∀ q : Int, q < 16 * T → cl q = cl' q) : ES cl' D L T er ec := by
  obtain ⟨h1, h2, h3⟩ := h
  refine ⟨fun i i0 i1 => ?_, h2, fun x hx hm => ?_⟩
  · obtain ⟨g1, g2, g3⟩ := h1 i i0 i1
    have hT : 0 ≤ 16 * T := by have := g2.1; omega
    exact ⟨(g1.cl (fun q q0 q1 => hc q (by omega))).congr (fun q q0 q1 => mm_cl (hc q (by omega))), g2.cl hc, g3⟩
  · have hT : 0 ≤ 16 * T := by have := hx.1; omega
    refine h3 x (hx.cl (fun q q1 => (hc q q1).symm)) ?_
    rw [k_max_congr (m := mm cl L x) (m1 := mm cl' L x) _ (fun q q0 q1 => mm_cl (hc q (by omega)))]
    exact hm
def j_all (cl : gRw) : Nat → gRw
  | 0 => fun q => q
  | t + 1 => j_row cl (j_all cl t) t 16
theorem j_cell_cl {cl cl' L : gRw} {t c : Int} (hc : ∀ q : Int, q ≤ 16 * t + c → cl q = cl' q) : j_cell cl L t c = j_cell cl' L t c := by
  have k1 : ∀ L, j_c1 cl L t c = j_c1 cl' L t c := fun L => by unfold j_c1; rw [hc _ (by omega)]
  have k2 : ∀ L, j_c2 cl L t c = j_c2 cl' L t c := fun L => by unfold j_c2; rw [hc _ (by omega)]
  have k3 : ∀ L, j_c3 cl L t c = j_c3 cl' L t c := fun L => by unfold j_c3; rw [hc _ (by omega)]
  have k4 : ∀ L, j_c4 cl L t c = j_c4 cl' L t c := fun L => by unfold j_c4; rw [hc _ (by omega)]
  unfold j_cell
  rw [hc _ (Int.le_refl _), k1, k2, k3, k4]
theorem j_row_cl {cl cl' L : gRw} {t : Int} : ∀ n : Nat, (∀ q : Int, q < 16 * t + n → cl q = cl' q) → j_row cl L t n = j_row cl' L t n := by
  intro n
  induction n with
  | zero => intro _; rfl
  | succ n ih => intro hc; simp only [j_row]; rw [ih (fun q q0 => hc q (by omega)), j_cell_cl (fun q q0 => hc q (by omega))]
theorem j_all_cl {cl cl' : gRw} : ∀ n : Nat, (∀ q : Int, q < 16 * n → cl q = cl' q) → j_all cl n = j_all cl' n := by
  intro n
  induction n with
  | zero => intro _; rfl
  | succ n ih => intro hc; simp only [j_all]; rw [ih (fun q q0 => hc q (by omega)), j_row_cl 16 (fun q q0 => hc q (by omega))]
/-! a fold between lines -/
def FS (cl : gRw) (D T : Int) (S : fS) (er : Int → gRw) (ec : Int) : Prop :=
  FR cl D (j_all cl T.toNat) T 0 (S.1, S.2.1, f_fill S.2.2 (-1)) ∧ AdjL cl (j_all cl T.toNat) (16 * T) ∧ ES cl D (j_all cl T.toNat) T er ec ∧ 0 ≤ ec ∧ ec ≤ 31
theorem FS.cl {cl cl' : gRw} {D T : Int} {S : fS} {er : Int → gRw} {ec : Int} (h : FS cl D T S er ec) (hT : 0 ≤ T) (hc : ∀ q : Int, q < 16 * T → cl q = cl' q) : FS cl' D T S er ec := by
  have e : j_all cl T.toNat = j_all cl' T.toNat := j_all_cl _ (fun q q0 => hc q (by omega))
  obtain ⟨h1, h2, h3, h4⟩ := h
  rw [e] at h1 h2 h3
  exact ⟨h1.cl (fun q q0 => hc q (by omega)), h2.cl hc, h3.cl hc, h4⟩
theorem FS.start {cl : gRw} {D : Int} {S : fS} {er : Int → gRw} (hok : okS S) : FS cl D 0 (f_off S.1, f_fill S.2.1 (-1), S.2.2) er 0 := by
  have hno : ∀ q, ¬ fro cl 0 0 q := fun q w => by have := w.1; have := w.2.2.1; omega
  have hnu : ∀ s X, ¬ usd (f_off S.1, X) s := fun s X w => by
    have h5 : 0 < f_off S.1 s 5 := w.2
    unfold f_off at h5
    rw [if_pos w.1] at h5
    simp [bl_off] at h5
  refine ⟨⟨⟨fun q q0 q1 => by omega, fun q _ => rfl⟩, fun q hq => absurd hq (hno q), fun x x0 x1 => ⟨fun _ => ?_, fun _ => ?_⟩, fun s us => absurd us (hnu s _), fun s _ us => absurd us (hnu s _), fun s us => absurd us (hnu s _), fun s s0 s1 => ?_⟩, fun q q0 q1 => by omega, ⟨fun i i0 i1 => by omega, fun i j i0 i1 i2 => by omega, fun x hx => ?_⟩, by omega, by omega⟩
  · show f_fill S.2.1 (-1) x = -1
    unfold f_fill; rw [if_pos ⟨x0, x1⟩]
  · show f_fill S.2.2 (-1) x = -1
    unfold f_fill; rw [if_pos ⟨x0, x1⟩]
  · show bl_ok (f_off S.1 s)
    unfold f_off; rw [if_pos ⟨s0, s1⟩]; exact bl_off_ok (hok s s0 s1)
  · have := hx.1; omega
theorem FS.line {cl : gRw} {D T W ln : Int} {S : fS} {er : Int → gRw} {ec : Int} (hcl : ∀ q, 0 ≤ cl q ∧ cl q ≤ 9) (ht : 0 ≤ T ∧ T < 60) (hW : 0 ≤ W ∧ W ≤ 16) (hrow : ∀ c : Int, 0 ≤ c → c < W → cl (16 * T + c) = f_dig W ln c) (hz : ∀ c : Int, W ≤ c → c < 16 → cl (16 * T + c) = 0) (h : FS cl D T S er ec) (h23 : ec ≤ 23) :
    (∀ c : Int, 0 ≤ c → c < W → 0 < f_dig W ln c → f_sok (f_row (S.1, S.2.1, f_fill S.2.2 (-1)) T W D ln c.toNat) T c (f_dig W ln c) (f_dk D (f_dig W ln c))) ∧
    f_room T 16 (f_row (S.1, S.2.1, f_fill S.2.2 (-1)) T W D ln W.toNat).1 ec ∧
    FS cl D (T + 1) ((f_end T 16 (f_row (S.1, S.2.1, f_fill S.2.2 (-1)) T W D ln W.toNat).1 er ec).1, (f_row (S.1, S.2.1, f_fill S.2.2 (-1)) T W D ln W.toNat).2.2, (f_row (S.1, S.2.1, f_fill S.2.2 (-1)) T W D ln W.toNat).2.1) (f_end T 16 (f_row (S.1, S.2.1, f_fill S.2.2 (-1)) T W D ln W.toNat).1 er ec).2.1 (f_end T 16 (f_row (S.1, S.2.1, f_fill S.2.2 (-1)) T W D ln W.toNat).1 er ec).2.2 ∧
    ec ≤ (f_end T 16 (f_row (S.1, S.2.1, f_fill S.2.2 (-1)) T W D ln W.toNat).1 er ec).2.2 := by
  obtain ⟨h1, h2, h3, h4⟩ := h
  have e1 := FR.rowOk hcl ht hW hrow h1 h2
  obtain ⟨e2, e3⟩ := FR.row16 hcl ht hW hrow hz h1 h2
  have ek : kpL (j_all cl T.toNat) (j_row cl (j_all cl T.toNat) T 16) (16 * (T - 1)) := kpL.row 16
  obtain ⟨e4, e5, e6, e7⟩ := ES.line ht.1 h1 e2 e3 ek h3 h4.1
  have ej : j_all cl (T + 1).toNat = j_row cl (j_all cl T.toNat) T 16 := by
    rw [show (T + 1).toNat = T.toNat + 1 by omega, j_all, show ((T.toNat : Nat) : Int) = T by omega]
  refine ⟨e1, e6 h23, ⟨?_, ?_, ?_, by omega⟩, e5.1⟩
  · rw [ej]; exact e7
  · rw [ej, show 16 * (T + 1) = 16 * T + 16 by omega]; exact e3
  · rw [ej]; exact e4
theorem isSt.uniq {cl : gRw} {D : Int} {m : Int → Bool} {x : Int} {n : Nat} {r q : gRw} (h : isSt cl D m x n r) (g : isSt cl D m x n q) : bl_eq r q := by
  obtain ⟨h0, h1, h3, h4, h5, h6, h7⟩ := h
  obtain ⟨g0, g1, g3, g4, g5, g6, g7⟩ := g
  exact ⟨by omega, by omega, by omega, by omega, by omega, by omega, by omega, by omega⟩
theorem ES.uniq {cl : gRw} {D : Int} {L : gRw} {T : Int} {er er' : Int → gRw} {ec ec' : Int} (h : ES cl D L T er ec) (g : ES cl D L T er' ec') (hT : 0 ≤ T ∧ T ≤ 60) (h0 : 0 ≤ ec) (g0 : 0 ≤ ec') : ec = ec' ∧ ∀ i : Int, 0 ≤ i → i < ec → bl_eq (er i) (er' i) := by
  have key : ∀ (er er' : Int → gRw) (ec ec' : Int), ES cl D L T er ec → ES cl D L T er' ec' → (∀ i j : Int, 0 ≤ i → i < j → j < ec → 1000 * er i 1 + rlab (er i) < 1000 * er j 1 + rlab (er j)) ∧ ∀ i : Int, 0 ≤ i → i < ec → ∃ j : Int, (0 ≤ j ∧ j < ec') ∧ 1000 * er' j 1 + rlab (er' j) = 1000 * er i 1 + rlab (er i) := by
    intro er er' ec ec' h g
    refine ⟨fun i j i0 i1 i2 => ?_, fun i i0 i1 => ?_⟩
    · have a1 := (h.1 i i0 (by omega)).2.1.1
      have a2 := (h.1 j (by omega) i2).2.1.1
      rcases h.2.1 i j i0 i1 i2 with w | w <;> omega
    · obtain ⟨b1, b2, b3⟩ := h.1 i i0 i1
      have b4 := b1.2.1
      obtain ⟨j, hj, ej⟩ := g.2.2 _ b2 (by omega)
      have c1 := (g.1 j hj.1 hj.2).1.2.1
      rw [ej] at c1
      exact ⟨j, hj, by omega⟩
  obtain ⟨k1, k2⟩ := key er er' ec ec' h g
  obtain ⟨k3, k4⟩ := key er' er ec' ec g h
  have u1 := srt_eq (fun i => 1000 * er i 1 + rlab (er i)) (fun i => 1000 * er' i 1 + rlab (er' i)) ec ec' k1 k3 k2 k4
  have u2 := srt_eq (fun i => 1000 * er' i 1 + rlab (er' i)) (fun i => 1000 * er i 1 + rlab (er i)) ec' ec k3 k1 k4 k2
  have hec : ec = ec' := by
    have a1 : ec ≤ ec' := Classical.byContradiction (fun hn => by have := (u1 ec'.toNat (by omega)).1; omega)
    have a2 : ec' ≤ ec := Classical.byContradiction (fun hn => by have := (u2 ec.toNat (by omega)).1; omega)
    omega
  refine ⟨hec, fun i i0 i1 => ?_⟩
  have hu := (u1 i.toNat (by omega)).2
  rw [show ((i.toNat : Nat) : Int) = i by omega] at hu
  obtain ⟨b1, b2, b3⟩ := h.1 i i0 i1
  obtain ⟨c1, c2, c3⟩ := g.1 i i0 (by omega)
  have hx : rlab (er i) = rlab (er' i) := by
    have := b2.1; have := c2.1
    have hu' : 1000 * er i 1 + rlab (er i) = 1000 * er' i 1 + rlab (er' i) := hu
    omega
  rw [← hx] at c1
  exact b1.uniq c1
/-- lines of which none came too late -/
def okE (cl : gRw) (D T : Int) : Prop := ∀ t : Int, 0 ≤ t → t < T → ∀ (er : Int → gRw) (ec : Int), ES cl D (j_all cl t.toNat) t er ec → 0 ≤ ec → ec ≤ 23
theorem okE.cl {cl cl' : gRw} {D T : Int} (h : okE cl D T) (hc : ∀ q : Int, q < 16 * T → cl q = cl' q) : okE cl' D T := fun t t0 t1 er ec he h0 => by
  have e : j_all cl t.toNat = j_all cl' t.toNat := j_all_cl _ (fun q q0 => hc q (by omega))
  refine h t t0 t1 er ec ?_ h0
  rw [e]
  exact he.cl (fun q q0 => (hc q (by omega)).symm)
theorem okE.next {cl : gRw} {D T : Int} {S : fS} {er : Int → gRw} {ec : Int} (h : okE cl D T) (hT : 0 ≤ T ∧ T ≤ 60) (hf : FS cl D T S er ec) (h23 : ec ≤ 23) : okE cl D (T + 1) := fun t t0 t1 er' ec' he h0 => by
  by_cases ht : t < T
  · exact h t t0 ht er' ec' he h0
  · obtain rfl : t = T := by omega
    have := (hf.2.2.1.uniq he hT hf.2.2.2.1 h0).1
    omega
def clo (W : Int) (lines : gRw) : gRw := fun q => if 0 ≤ q ∧ q % 16 < W then f_dig W (lines (q / 16)) (q % 16) else 0
theorem clo_b (W : Int) (lines : gRw) (q : Int) : 0 ≤ clo W lines q ∧ clo W lines q ≤ 9 := by
  unfold clo f_dig
  split
  · omega
  · omega
theorem clo_row {W : Int} {lines : gRw} {T c : Int} (hT : 0 ≤ T) (hc : 0 ≤ c ∧ c < 16) : clo W lines (16 * T + c) = if c < W then f_dig W (lines T) c else 0 := by
  unfold clo
  rw [show (16 * T + c) % 16 = c by omega, show (16 * T + c) / 16 = T by omega]
  by_cases h : c < W
  · rw [if_pos ⟨by omega, h⟩, if_pos h]
  · rw [if_neg (fun w => h w.2), if_neg h]
theorem clo_up {W : Int} {lines lines' : gRw} {T q : Int} (h : ∀ t : Int, 0 ≤ t → t < T → lines t = lines' t) (hq : q < 16 * T) : clo W lines q = clo W lines' q := by
  unfold clo
  by_cases h0 : 0 ≤ q ∧ q % 16 < W
  · rw [if_pos h0, if_pos h0, h (q / 16) (by omega) (by omega)]
  · rw [if_neg h0, if_neg h0]
