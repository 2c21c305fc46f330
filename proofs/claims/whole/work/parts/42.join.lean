theorem bl_off_ok {r : gRw} (h : bl_ok r) : bl_ok (bl_off r) := by
  intro k k0 k1
  unfold bl_off
  split
  · omega
  · exact h k k0 k1
theorem own_ho {t c : Int} {S : fS} {cl : gRw} {lv : Int → gRw} {o s q : Int} (hc : c ≤ 16) (hq : fro cl t c q) : own t (lv, f_ho S.2.1 o s, f_ho S.2.2 o s) q = if own t S q = o then s else own t S q := by
  obtain ⟨q0, q1, q2, q3⟩ := hq
  unfold own
  by_cases hlt : q < 16 * t
  · rw [if_pos hlt, if_pos hlt]
    dsimp only [f_ho]
    by_cases he : S.2.1 (q - 16 * (t - 1)) = o
    · rw [if_pos ⟨by omega, he⟩, if_pos he]
    · rw [if_neg (fun z => he z.2), if_neg he]
  · rw [if_neg hlt, if_neg hlt]
    dsimp only [f_ho]
    by_cases he : S.2.2 (q - 16 * t) = o
    · rw [if_pos ⟨by omega, he⟩, if_pos he]
    · rw [if_neg (fun z => he z.2), if_neg he]
/-- two blobs that hang together are one -/
theorem FR.join {cl : gRw} {D : Int} {L : gRw} {t c : Int} {S : fS} (hcl : ∀ q, 0 ≤ cl q ∧ cl q ≤ 9) (ht : 0 ≤ t) (hc : 0 ≤ c ∧ c ≤ 16) (hK : 16 * t + c ≤ 960) (h : FR cl D L t c S) {x y : Int} (hx : fro cl t c x) (hy : fro cl t c y) : FR cl D (j_jn L x y) t c (f_join S (own t S x) (own t S y)) := by
  obtain ⟨hL, hO, hN, hU, hI, hS, hB⟩ := h
  obtain ⟨ux, lx⟩ := hO x hx
  obtain ⟨uy, ly⟩ := hO y hy
  by_cases hso : own t S y = own t S x
  · have hLL : L x = L y := by rw [← lx, ← ly, hso]
    have e1 : j_jn L x y = L := by
      funext q
      unfold j_jn
      rw [hLL]
      split
      · rename_i hq; omega
      · rfl
    have e2 : f_join S (own t S x) (own t S y) = S := by unfold f_join; rw [if_neg (fun z => z.2 hso)]
    rw [e1, e2]
    exact ⟨hL, hO, hN, hU, hI, hS, hB⟩
  · generalize hs : own t S x = s at ux lx hso
    generalize ho : own t S y = o at uy ly hso
    have hne : L x ≠ L y := fun q => hso (hI o s uy ux (by rw [lx, ly, q]))
    have e2 : f_join S s o = (g_row (g_row S.1 s (bl_abs (S.1 s) (S.1 o))) o (bl_off (S.1 o)), f_ho S.2.1 o s, f_ho S.2.2 o s) := by unfold f_join; rw [if_pos ⟨uy.1, hso⟩]
    rw [e2]
    have hso' : s ≠ o := fun q => hso q.symm
    have rs : g_row (g_row S.1 s (bl_abs (S.1 s) (S.1 o))) o (bl_off (S.1 o)) s = bl_abs (S.1 s) (S.1 o) := by rw [g_row_ne hso', g_row_at]
    have ro : g_row (g_row S.1 s (bl_abs (S.1 s) (S.1 o))) o (bl_off (S.1 o)) o = bl_off (S.1 o) := g_row_at
    have rz : ∀ z, z ≠ s → z ≠ o → g_row (g_row S.1 s (bl_abs (S.1 s) (S.1 o))) o (bl_off (S.1 o)) z = S.1 z := fun z z1 z2 => by rw [g_row_ne z2, g_row_ne z1]
    generalize hlv : g_row (g_row S.1 s (bl_abs (S.1 s) (S.1 o))) o (bl_off (S.1 o)) = lv at rs ro rz
    -- the places of the two labels
    have hxL := (hL.1 x hx.1 hx.2.2.1 hx.2.2.2)
    have hyL := (hL.1 y hy.1 hy.2.2.1 hy.2.2.2)
    have hx2 := hx.2.2.1
    have hy2 := hy.2.2.1
    have hj : ∀ q, j_jn L x y q = if L q = max (L x) (L y) then min (L x) (L y) else L q := fun q => rfl
    have hroot : ∀ q, L q = max (L x) (L y) → min (L x) (L y) ≠ max (L x) (L y) := fun q _ => by omega
    have hmm : ∀ z : Int, 0 ≤ z → z < ((16 * t + c).toNat : Int) → (mm cl (j_jn L x y) (min (L x) (L y)) z = true ↔ mm cl L (L x) z = true ∨ mm cl L (L y) z = true) ∧ ¬ (mm cl L (L x) z = true ∧ mm cl L (L y) z = true) := by
      intro z z0 z1
      simp only [mm_t, hj]
      refine ⟨⟨fun q => ?_, fun q => ?_⟩, fun q => hne (q.1.2.symm.trans q.2.2)⟩
      · by_cases hz : L z = max (L x) (L y)
        · rcases (show L z = L x ∨ L z = L y by omega) with h9 | h9
          · exact Or.inl ⟨q.1, h9⟩
          · exact Or.inr ⟨q.1, h9⟩
        · rw [if_neg hz] at q
          rcases (show L z = L x ∨ L z = L y by omega) with h9 | h9
          · exact Or.inl ⟨q.1, h9⟩
          · exact Or.inr ⟨q.1, h9⟩
      · rcases q with q | q
        · refine ⟨q.1, ?_⟩
          by_cases hz : L z = max (L x) (L y)
          · rw [if_pos hz]
          · rw [if_neg hz]; omega
        · refine ⟨q.1, ?_⟩
          by_cases hz : L z = max (L x) (L y)
          · rw [if_pos hz]
          · rw [if_neg hz]; omega
    have sts := hS s ux
    have sto := hS o uy
    rw [lx] at sts
    rw [ly] at sto
    have sta := sts.abs sto hmm
    have hlabs : rlab (bl_abs (S.1 s) (S.1 o)) = min (L x) (L y) := sta.1.1
    have hother : ∀ z, usd S z → z ≠ s → z ≠ o → rlab (S.1 z) ≠ L x ∧ rlab (S.1 z) ≠ L y := fun z uz z1 z2 => ⟨fun q => z1 (hI z s uz ux (by rw [lx, q])), fun q => z2 (hI z o uz uy (by rw [ly, q]))⟩
    have hu5 : 0 < bl_abs (S.1 s) (S.1 o) 5 := by
      have e5 : bl_abs (S.1 s) (S.1 o) 5 = S.1 s 5 + S.1 o 5 := by simp [bl_abs]
      rw [e5]; have := ux.2; have := uy.2; omega
    have hus : usd (lv, f_ho S.2.1 o s, f_ho S.2.2 o s) s := ⟨ux.1, by dsimp only; rw [rs]; exact hu5⟩
    have huz : ∀ z, usd (lv, f_ho S.2.1 o s, f_ho S.2.2 o s) z → z ≠ s → z ≠ o ∧ usd S z := by
      intro z uz zs
      by_cases hzo : z = o
      · exfalso
        have h5 := uz.2
        dsimp only at h5
        rw [hzo, ro] at h5
        simp [bl_off] at h5
      · refine ⟨hzo, uz.1, ?_⟩
        have h5 := uz.2
        dsimp only at h5
        rw [rz z zs hzo] at h5
        exact h5
    have hback : ∀ z, usd S z → z ≠ o → usd (lv, f_ho S.2.1 o s, f_ho S.2.2 o s) z := by
      intro z uz zo
      by_cases hzs : z = s
      · rw [hzs]; exact hus
      · exact ⟨uz.1, by dsimp only; rw [rz z hzs zo]; exact uz.2⟩
    refine ⟨⟨fun q q0 q1 q2 => ?_, fun q q0 => ?_⟩, fun q hq => ?_, fun z z0 z1 => ⟨fun hz => ?_, fun hz => ?_⟩, fun z uz => ?_, fun z z' uz uz' hzz => ?_, fun z uz => ?_, fun z z0 z1 => ?_⟩
    · have hq := hL.1 q q0 q1 q2
      simp only [hj]
      by_cases h9 : L q = max (L x) (L y)
      · rw [if_pos h9]
        have hmin : L (min (L x) (L y)) = min (L x) (L y) ∧ 0 < cl (min (L x) (L y)) ∧ 0 ≤ min (L x) (L y) := by
          rcases (show min (L x) (L y) = L x ∨ min (L x) (L y) = L y by omega) with h8 | h8
          · rw [h8]; exact ⟨hxL.2.2, hxL.2.1, hxL.1.1⟩
          · rw [h8]; exact ⟨hyL.2.2, hyL.2.1, hyL.1.1⟩
        refine ⟨⟨hmin.2.2, by omega⟩, hmin.2.1, ?_⟩
        rw [hmin.1, if_neg (by omega)]
      · rw [if_neg h9]
        refine ⟨hq.1, hq.2.1, ?_⟩
        rw [hq.2.2, if_neg h9]
    · simp only [hj]
      rw [hL.2 q q0, if_neg (fun w => q0 ?_)]
      rcases (show max (L x) (L y) = L x ∨ max (L x) (L y) = L y by omega) with h8 | h8
      · rw [w, h8]; exact ⟨hxL.1.1, by omega, hxL.2.1⟩
      · rw [w, h8]; exact ⟨hyL.1.1, by omega, hyL.2.1⟩
    · obtain ⟨uq, lq⟩ := hO q hq
      rw [own_ho hc.2 hq]
      by_cases h9 : own t S q = o
      · rw [if_pos h9]
        refine ⟨hus, ?_⟩
        dsimp only
        rw [rs, hlabs, hj]
        have : L q = L y := by rw [← lq, h9, ly]
        split <;> omega
      · rw [if_neg h9]
        refine ⟨hback _ uq h9, ?_⟩
        dsimp only
        by_cases h8 : own t S q = s
        · rw [h8, rs, hlabs, hj]
          have : L q = L x := by rw [← lq, h8, lx]
          split <;> omega
        · rw [rz _ h8 h9, lq, hj]
          have := hother _ uq h8 h9
          rw [lq] at this
          rw [if_neg (by omega)]
    · have h8 := (hN z z0 z1).1 hz
      dsimp only [f_ho]
      rw [if_neg (show ¬ ((0 ≤ z ∧ z < 16) ∧ S.2.1 z = o) from fun w => by have h1 := uy.1.1; have := w.2; omega)]
      exact h8
    · have h8 := (hN z z0 z1).2 hz
      dsimp only [f_ho]
      rw [if_neg (show ¬ ((0 ≤ z ∧ z < 16) ∧ S.2.2 z = o) from fun w => by have h1 := uy.1.1; have := w.2; omega)]
      exact h8
    · by_cases hzs : z = s
      · refine ⟨x, hx, ?_⟩
        rw [own_ho hc.2 hx, hs, if_neg hso', hzs]
      · obtain ⟨zo, uz2⟩ := huz z uz hzs
        obtain ⟨q, hq, hoq⟩ := hU z uz2
        exact ⟨q, hq, by rw [own_ho hc.2 hq, hoq, if_neg zo]⟩
    · dsimp only at hzz
      by_cases hzs : z = s
      · by_cases hzs' : z' = s
        · rw [hzs, hzs']
        · exfalso
          obtain ⟨zo', uz2'⟩ := huz z' uz' hzs'
          rw [hzs, rs, hlabs, rz z' hzs' zo'] at hzz
          have := hother z' uz2' hzs' zo'
          omega
      · obtain ⟨zo, uz2⟩ := huz z uz hzs
        by_cases hzs' : z' = s
        · exfalso
          rw [hzs', rs, hlabs, rz z hzs zo] at hzz
          have := hother z uz2 hzs zo
          omega
        · obtain ⟨zo', uz2'⟩ := huz z' uz' hzs'
          rw [rz z hzs zo, rz z' hzs' zo'] at hzz
          exact hI z z' uz2 uz2' hzz
    · dsimp only
      by_cases hzs : z = s
      · rw [hzs, rs, hlabs]; exact sta
      · obtain ⟨zo, uz2⟩ := huz z uz hzs
        rw [rz z hzs zo]
        refine (hS z uz2).congr (fun q q0 q1 => ?_)
        have h9 := hother z uz2 hzs zo
        have : (0 < cl q ∧ L q = rlab (S.1 z)) ↔ (0 < cl q ∧ j_jn L x y q = rlab (S.1 z)) := by
          rw [hj]
          constructor
          · intro w; exact ⟨w.1, by rw [if_neg (by omega)]; exact w.2⟩
          · intro w
            refine ⟨w.1, ?_⟩
            by_cases h8 : L q = max (L x) (L y)
            · have w2 := w.2; rw [if_pos h8] at w2; exfalso; omega
            · have w2 := w.2; rw [if_neg h8] at w2; exact w2
        simp only [mm, decide_eq_decide]
        exact this
    · dsimp only
      by_cases hzs : z = s
      · rw [hzs, rs]
        refine (sta.ok hcl (by omega) (by omega) ⟨x, ⟨hx.1, by omega⟩, ?_⟩).1
        exact ((hmm x hx.1 (by omega)).1).mpr (Or.inl (mm_t.mpr ⟨hx.2.2.2, rfl⟩))
      · by_cases hzo : z = o
        · rw [hzo, ro]; exact bl_off_ok (hB o uy.1.1 uy.1.2)
        · rw [rz z hzs hzo]; exact hB z z0 z1
