/-! the fold in its memory -/
def fvS (gi : gF) (oa : Int) : fS := (fun s => gi (63 + s), gi oa, gi (61 - oa))
def fvE (gi : gF) : Int → gRw := fun b => gi (32 + b)
theorem ES.er {cl : gRw} {D : Int} {L : gRw} {T : Int} {er er' : Int → gRw} {ec : Int} (h : ES cl D L T er ec) (e : ∀ i : Int, 0 ≤ i → i < ec → er' i = er i) : ES cl D L T er' ec := by
  obtain ⟨h1, h2, h3⟩ := h
  refine ⟨fun i i0 i1 => ?_, fun i j i0 i1 i2 => ?_, fun x hx hm => ?_⟩
  · rw [e i i0 i1]; exact h1 i i0 i1
  · rw [e i i0 (by omega), e j (by omega) i2]; exact h2 i j i0 i1 i2
  · obtain ⟨i, hi, hl⟩ := h3 x hx hm
    exact ⟨i, hi, by rw [e i hi.1 hi.2]; exact hl⟩
theorem FR.lv {cl : gRw} {D : Int} {L : gRw} {t c : Int} {S : fS} {lv : Int → gRw} (h : FR cl D L t c S) (e : ∀ s : Int, 0 ≤ s → s < 16 → lv s = S.1 s) : FR cl D L t c (lv, S.2.1, S.2.2) := by
  obtain ⟨hL, hO, hN, hU, hI, hS, hB⟩ := h
  have hu : ∀ s, usd (lv, S.2.1, S.2.2) s ↔ usd S s := fun s => by
    constructor
    · intro w; exact ⟨w.1, by rw [← e s w.1.1 w.1.2]; exact w.2⟩
    · intro w; refine ⟨w.1, ?_⟩; show 0 < lv s 5; rw [e s w.1.1 w.1.2]; exact w.2
  have hs : ∀ s, usd (lv, S.2.1, S.2.2) s → lv s = S.1 s := fun s w => e s w.1.1 w.1.2
  refine ⟨hL, fun q hq => ?_, hN, fun s us => hU s ((hu s).mp us), fun s s' us us' r => ?_, fun s us => ?_, fun s s0 s1 => ?_⟩
  · have h1 := hO q hq
    have h2 := (hu _).mpr h1.1
    refine ⟨h2, ?_⟩
    show rlab (lv (own t S q)) = L q
    rw [hs _ h2]; exact h1.2
  · have r' : rlab (lv s) = rlab (lv s') := r
    rw [hs s us, hs s' us'] at r'
    exact hI s s' ((hu s).mp us) ((hu s').mp us') r'
  · show isSt cl D (mm cl L (rlab (lv s))) (rlab (lv s)) (16 * t + c).toNat (lv s)
    rw [hs s us]
    exact hS s ((hu s).mp us)
  · show bl_ok (lv s)
    rw [e s s0 s1]; exact hB s s0 s1
/-- read out of a memory that a fold's state is laid over -/
theorem FS.mem {cl : gRw} {D T : Int} {S : fS} {er : Int → gRw} {ec oa : Int} {g gi : gF} (h : FS cl D T S er ec) (ho : oa = 30 ∨ oa = 31) (hg : gi = fmem (emem g er ec) oa S) : FS cl D T (fvS gi oa) (fvE gi) (gi 27 4) := by
  obtain ⟨h1, h2, h3, h4⟩ := h
  subst hg
  have e1 : fmem (emem g er ec) oa S 27 4 = ec := fm_c ho
  rw [e1]
  refine ⟨?_, h2, h3.er (fun i i0 i1 => fm_e i0 (by omega) ho), h4⟩
  have e2 : (fvS (fmem (emem g er ec) oa S) oa).2.1 = S.2.1 := fmem_a ho
  have e3 : (fvS (fmem (emem g er ec) oa S) oa).2.2 = S.2.2 := fmem_n ho
  rw [e2, e3]
  exact h1.lv (fun s s0 s1 => fmem_l s0 s1)
theorem fmem_self (gi : gF) (oa : Int) (ho : oa = 30 ∨ oa = 31) : gi = fmem (emem gi (fvE gi) (gi 27 4)) oa (fvS gi oa) := by
  funext b
  unfold fmem emem fvS fvE
  dsimp only
  by_cases h1 : 63 ≤ b ∧ b < 79
  · rw [if_pos h1, show 63 + (b - 63) = b by omega]
  · rw [if_neg h1]
    by_cases h2 : b = oa
    · rw [if_pos h2, h2]
    · rw [if_neg h2]
      by_cases h3 : b = 61 - oa
      · rw [if_pos h3, h3]
      · rw [if_neg h3]
        by_cases h4 : 32 ≤ b ∧ b < 63
        · rw [if_pos h4, show 32 + (b - 32) = b by omega]
        · rw [if_neg h4]
          by_cases h5 : b = 27
          · rw [if_pos h5, h5]
            funext k
            unfold r_up
            split
            · rename_i h6; rw [h6]
            · rfl
          · rw [if_neg h5]
theorem fmem_out {g : gF} {er : Int → gRw} {ec oa b : Int} {S : fS} (ho : oa = 30 ∨ oa = 31) (h : b < 27 ∨ 79 ≤ b) : fmem (emem g er ec) oa S b = g b := fm_p (by omega) ho
section FOLDQ
variable {gi gl : gF} {sh : gSh} {oa a : Int}
theorem c_emptyQ (hF : isFold sh oa) (hok : okS (fvS gi oa)) : Ct mdX1_empty 0 0 [vR 27] gi gl sh (fun r gi' gl' sh' => r = none ∧ gl' = gl ∧ sh' = sh ∧ (∀ b : Int, b < 27 ∨ 79 ≤ b → gi' b = gi b) ∧ ∀ (cl : gRw) (D : Int), FS cl D 0 (fvS gi' oa) (fvE gi') (gi' 27 4)) := by
  have ho := hF.2.2.2.2.2.1
  have e := fmem_self gi oa ho
  have k := c_empty (gi := gi) (gl := gl) hF (fvE gi) (gi 27 4) (fvS gi oa)
  rw [← e] at k
  refine Go.imp k (fun r gi' gl' sh' q => ?_)
  obtain ⟨q1, q2, q3, q4⟩ := q
  exact ⟨q1, q3, q4, fun b hb => by rw [q2]; exact fmem_out ho hb, fun cl D => (FS.start hok).mem ho q2⟩
theorem c_addLineQ {cl : gRw} {T ln : Int} (hF : isFold sh oa) (hk : sh.2.1 a = 3) (ha : 100 ≤ a) (hcl : ∀ q, 0 ≤ cl q ∧ cl q ≤ 9) (ht : 0 ≤ T ∧ T < 60) (hW : 0 ≤ gi a 3 ∧ gi a 3 ≤ 16) (hln : 0 ≤ ln) (hrow : ∀ c : Int, 0 ≤ c → c < gi a 3 → cl (16 * T + c) = f_dig (gi a 3) ln c) (hz : ∀ c : Int, gi a 3 ≤ c → c < 16 → cl (16 * T + c) = 0) (hfs : FS cl (gi a 8) T (fvS gi oa) (fvE gi) (gi 27 4)) (h23 : gi 27 4 ≤ 23) :
    Ct mdX1_addLine 0 0 [vR 27, vR a, vL ln, vI T] gi gl sh (fun r gi' gl' sh' => r = some (vI (gi' 27 4 - gi 27 4)) ∧ gl' = gl ∧ sh' = sh_sw sh oa ∧ (∀ b : Int, b < 27 ∨ 79 ≤ b → gi' b = gi b) ∧ FS cl (gi a 8) (T + 1) (fvS gi' (61 - oa)) (fvE gi') (gi' 27 4)) := by
  have ho := hF.2.2.2.2.2.1
  have e := fmem_self gi oa ho
  obtain ⟨f1, f2, f3, f4⟩ := FS.line hcl ht hW hrow hz hfs h23
  have hec := hfs.2.2.2
  have k := c_fAddLine (gi := gi) (gl := gl) hF hk ha (fvE gi) (gi 27 4) T ln (fvS gi oa) (by omega) hW hln hec f1 f2
  rw [← e] at k
  refine Go.imp k (fun r gi' gl' sh' q => ?_)
  obtain ⟨q1, q2, q3, q4⟩ := q
  have ho' : 61 - oa = 30 ∨ 61 - oa = 31 := by omega
  have hm := f3.mem ho' q2
  refine ⟨?_, q3, q4, fun b hb => by rw [q2]; exact fmem_out ho' hb, hm⟩
  rw [q1, q2, fm_c ho']
end FOLDQ
