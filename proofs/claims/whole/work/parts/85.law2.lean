/-! the law, changes -/
section LAW2
variable {L : Nat} {xs : Nat → Int32} {gi gl : gF} {sh : gSh} {la oa i : Int}

set_option maxRecDepth 20000 in
set_option maxHeartbeats 2000000 in
theorem k_see (hL : L ≤ 2048) (hi : 0 ≤ i ∧ i + 4 ≤ (L : Int)) (hI : LI gi gl sh la oa) (hn : ∀ (g l : gF) (s : gSh) (la oa : Int), LI g l s la oa → Go (mdL_law L xs) 0 0 510 [some vS, some (vR 0), some (vR 190), some (vI i)] [] g l s QL) : Go (mdL_law L xs) 0 0 174 [some vS, some (vR 0), some (vR 190), some (vI i)] [] gi gl sh QL := by
  have hc := hI.1
  have hM := hI.2.1
  have hk0 := hc.1.1.1.1
  have hla := hc.1.1.1.2.2.2.2.2.2.2.2.2.2
  have ht := hI.2.2.1
  have hR := hI.2.2.2
  have hh := hc.1.2.2.2.1.1
  have hcs := hc.1.2.2.1
  have hT := hcs.2.1
  have hr4 := hcs.1.2.2.2.2.2.2.2.1
  refine g_aload_n dL_law_174 rfl ?_
  refine g_aload_nS dL_law_175 rfl ?_
  refine g_iload_n dL_law_176 rfl ?_
  refine g_iconst dL_law_177 (by decide) ?_
  refine g_iadd dL_law_178 (by omega) (by omega) ?_
  refine g_sload dL_law_179 rfl (by omega) (by omega) ?_
  refine g_i2l dL_law_180 ?_
  refine g_bipush dL_law_181 (by decide) (by decide) ?_
  refine g_lshl dL_law_183 ?_
  refine g_aload_nS dL_law_184 rfl ?_
  refine g_iload_n dL_law_185 rfl ?_
  refine g_iconst dL_law_186 (by decide) ?_
  refine g_iadd dL_law_187 (by omega) (by omega) ?_
  refine g_sload dL_law_188 rfl (by omega) (by omega) ?_
  refine g_i2l dL_law_189 ?_
  refine g_ldc2 (n := 4294967295) dL_law_190 cnL_31 (by decide) ?_
  refine g_land dL_law_193 ?_
  refine g_lor dL_law_194 ?_
  refine g_callV_i [_] dL_law_195 mlL_33 mvX8_see (by decide) (by first | exact hk0 | exact hM.o) ⟨(Nat.le_of_ble_eq_true rfl), (Nat.le_of_ble_eq_true rfl), (Nat.le_of_ble_eq_true rfl)⟩ rfl rfl (Nat.le_of_ble_eq_true rfl) rfl (Nat.le_of_ble_eq_true rfl) (c_see hc _) (fun _ _ _ _ q => q.2.elim (fun q => ⟨_, q.2.1⟩) (fun q => q.elim (fun q => ⟨_, q.2.2.1⟩) (fun q => ⟨_, q.2.2.1⟩))) (fun y g1 l1 s1 q w1 w2 => ?_)
  obtain ⟨⟨⟨z1, z2, zla, zlb⟩, zf, z3, oa1, hc1⟩, qc⟩ := q
  have e190 := (zf 190 (by decide)).1
  have e191 := (zf 191 (by decide)).1
  have e192 := (zf 192 (by decide)).1
  have e195 := (zf 195 (by decide)).1
  have l193 := (zf 193 (by decide)).2.1
  have l194 := (zf 194 (by decide)).2.1
  have hM1 : isMd s1 := hM.eq z3 (fun b hb => (zf b hb).2.2)
  have hI1 : g1 = gi → l1 = gl → s1 = sh → LI g1 l1 s1 la oa := fun u1 u2 u3 => by rw [u1, u2, u3]; exact hI
  have hN1 := hI.mn.fr (g' := g1) (G := l1) (by rw [e190]) e191 e192 l193
  have hnx : ∀ x : Int, ((x < 0 ∨ 10 ^ (gi la 3).toNat ≤ x) ∧ some (vI y) = some (vI (-1)) ∧ g1 = gi ∧ l1 = gl ∧ s1 = sh ∨ (0 ≤ x ∧ x < 10 ^ (gi la 3).toNat) ∧ (60 ≤ gi 4 2 ∨ 24 ≤ gi 27 4) ∧ some (vI y) = some (vI (-3)) ∧ g1 = gi ∧ l1 = gl ∧ s1 = sh ∨ (0 ≤ x ∧ x < 10 ^ (gi la 3).toNat) ∧ (gi 4 2 < 60 ∧ gi 27 4 < 24) ∧ some (vI y) = some (vI (g1 27 4 - gi 27 4)) ∧ g1 4 2 = gi 4 2 + 1 ∧ l1 5 = r_up (gl 5) (gi 4 2) x ∧ g1 6 = gi 6 ∧ KP gi gl g1 l1) → (0 ≤ x ∧ x < 10 ^ (gi la 3).toNat) → (gi 4 2 < 60 ∧ gi 27 4 < 24) → FS (clo (gi la 3) (r_up (gl 5) (gi 4 2) x)) (gi la 8) (gi 4 2 + 1) (fvS g1 oa1) (fvE g1) (g1 27 4) := fun x qc u v => by
    rcases qc with qc | qc | ⟨-, -, -, a4, a5, a6, kp⟩
    · have := qc.1; omega
    · have := qc.2.1; omega
    · have hf := hc1.1.2.2.2.2
      unfold CF0 at hf
      rw [zla, a4, a5] at hf
      exact hf
  refine g_aload_n dL_law_198 rfl ?_
  refine g_aload_nS dL_law_199 rfl ?_
  refine g_iload_n dL_law_200 rfl ?_
  refine g_iconst dL_law_201 (by decide) ?_
  refine g_iadd dL_law_202 (by omega) (by omega) ?_
  refine g_sload dL_law_203 rfl (by omega) (by omega) ?_
  refine g_i2l dL_law_204 ?_
  refine g_bipush dL_law_205 (by decide) (by decide) ?_
  refine g_lshl dL_law_207 ?_
  refine g_aload_nS dL_law_208 rfl ?_
  refine g_iload_n dL_law_209 rfl ?_
  refine g_iconst dL_law_210 (by decide) ?_
  refine g_iadd dL_law_211 (by omega) (by omega) ?_
  refine g_sload dL_law_212 rfl (by omega) (by omega) ?_
  refine g_i2l dL_law_213 ?_
  refine g_ldc2 (n := 4294967295) dL_law_214 cnL_31 (by decide) ?_
  refine g_land dL_law_217 ?_
  refine g_lor dL_law_218 ?_
  refine g_callV_i [_] dL_law_219 mlL_37 mvX9_see (by decide) (by exact hM1.o) ⟨(Nat.le_of_ble_eq_true rfl), (Nat.le_of_ble_eq_true rfl), (Nat.le_of_ble_eq_true rfl)⟩ rfl rfl (Nat.le_of_ble_eq_true rfl) rfl (Nat.le_of_ble_eq_true rfl) (m_see (h := gi 7 1) (S' := fvS g1 oa1) (er' := fvE g1) (ec' := g1 27 4) hM1 _ hN1 hI.fs (by rw [e190]; exact hR.2.2.1) hh (hnx _ qc)) (fun _ _ _ _ q => q.2.elim (fun q => ⟨_, q.2.1⟩) (fun q => q.elim (fun q => ⟨_, q.2.2.1⟩) (fun q => ⟨_, q.2.2.1⟩))) (fun y2 g2 l2 s2 p w3 w4 => ?_)
  obtain ⟨p1, pc⟩ := p
  subst p1
  have key : y = y2 ∧ ∃ oa2, LI g2 l2 s2 la oa2 := by
    rcases qc with ⟨a1, a2, a3, a4, a5⟩ | ⟨a1, a2, a3, a4, a5, a6⟩ | ⟨a1, a2, a3, a4, a5, a6, kp⟩
    · rcases pc with ⟨b1, b2, b3, b4⟩ | ⟨b1, b2, b3, b4, b5⟩ | ⟨b1, b2, b3, b4, b5, b6, gm, kl, b7⟩
      · cases a2; cases b2; rw [b3, b4]
        exact ⟨rfl, oa, hI1 a3 a4 a5⟩
      · omega
      · omega
    · rcases pc with ⟨b1, b2, b3, b4⟩ | ⟨b1, b2, b3, b4, b5⟩ | ⟨b1, b2, b3, b4, b5, b6, gm, kl, b7⟩
      · omega
      · cases a3; cases b3; rw [b5]
        exact ⟨rfl, oa, (hI1 a4 a5 a6).fa b4⟩
      · omega
    · rcases pc with ⟨b1, b2, b3, b4⟩ | ⟨b1, b2, b3, b4, b5⟩ | ⟨b1, b2, b3, b4, b5, b6, gm, kl, b7⟩
      · omega
      · omega
      · cases a3; cases b3
        have em : ∀ b : Int, b ≠ 193 → l2 b = gm b := fun b hb => by rw [b7, g_up_row hb, g_up_row hb]
        have m193 : gm 193 = gl 193 := by rw [kl.1 193 (by decide)]; exact l193
        refine ⟨rfl, oa1, hc1.hl (fun b hb => b4 b (by omega)) (fun b hb => by rw [em b (by omega)]; exact kl.1 b (by omega)), hM1, ?_, RS.keep hc hR kp zla zlb a4 a5 a6 kl l193 l194 em (fun b hb => b4 b (by omega)) (by rw [b5 1 (by decide) (by decide), e190]) (by rw [b4 191 (by omega)]; exact e191) (by rw [b4 192 (by omega)]; exact e192) b6 ?_⟩
        · refine ⟨?_, fun j j0 j1 => ?_⟩
          · rw [b5 7 (by decide) (by decide), e190, b4 1 (by omega), z1]; exact ht.1
          · rw [b4 1 (by omega), z1] at j1
            rw [b4 195 (by omega), e195, b4 2 (by omega), z2]; exact ht.2 j j0 j1
        · rw [b7]
          refine ⟨g_up_at, fun t t0 t1 => ?_, fun k k0 k1 => ?_⟩
          · have t2 : t < gi 4 2 + 1 := t1
            rw [g_up_ne (by omega)]
            show g_up gm 193 (1 + gi 4 2) _ 193 (1 + t) = r_up (gl 5) (gi 4 2) _ t
            by_cases c : t = gi 4 2
            · rw [c, g_up_at, r_up_at]
            · rw [g_up_ne (by omega), r_up_ne c, m193]; exact hR.2.1.2.1 t t0 (by show t < gi 4 2; omega)
          · rw [g_up_ne (by omega), g_up_ne (by omega), m193]; exact hR.2.1.2.2 k k0 k1
  refine g_icmp_eq 510 dL_law_222 (by decide) (fun h222 => ?_) (fun h222 => ?_)
  · skip
    obtain ⟨oa2, hI2⟩ := key.2
    exact hn _ _ _ _ _ hI2
  · exact absurd key.1 h222
set_option maxRecDepth 20000 in
set_option maxHeartbeats 2000000 in
theorem k_rule (hL : L ≤ 2048) (hi : 0 ≤ i ∧ i + 4 ≤ (L : Int)) (hI : LI gi gl sh la oa) (hn : ∀ (g l : gF) (s : gSh) (la oa : Int), LI g l s la oa → Go (mdL_law L xs) 0 0 510 [some vS, some (vR 0), some (vR 190), some (vI i)] [] g l s QL) : Go (mdL_law L xs) 0 0 227 [some vS, some (vR 0), some (vR 190), some (vI i)] [] gi gl sh QL := by
  have hc := hI.1
  have hM := hI.2.1
  have hk0 := hc.1.1.1.1
  have hla := hc.1.1.1.2.2.2.2.2.2.2.2.2.2
  have ht := hI.2.2.1
  have hR := hI.2.2.2
  have hh := hc.1.2.2.2.1.1
  have hcs := hc.1.2.2.1
  have hT := hcs.2.1
  have hr4 := hcs.1.2.2.2.2.2.2.2.1
  refine g_aload_n dL_law_227 rfl ?_
  refine g_aload_nS dL_law_228 rfl ?_
  refine g_iload_n dL_law_229 rfl ?_
  refine g_iconst dL_law_230 (by decide) ?_
  refine g_iadd dL_law_231 (by omega) (by omega) ?_
  refine g_sload dL_law_232 rfl (by omega) (by omega) ?_
  refine g_aload_nS dL_law_233 rfl ?_
  refine g_iload_n dL_law_234 rfl ?_
  refine g_iconst dL_law_235 (by decide) ?_
  refine g_iadd dL_law_236 (by omega) (by omega) ?_
  refine g_sload dL_law_237 rfl (by omega) (by omega) ?_
  refine g_callV_i [_, _] dL_law_238 mlL_38 mvX8_rule (by decide) (by first | exact hk0 | exact hM.o) ⟨(Nat.le_of_ble_eq_true rfl), (Nat.le_of_ble_eq_true rfl), (Nat.le_of_ble_eq_true rfl)⟩ rfl rfl (Nat.le_of_ble_eq_true rfl) rfl (Nat.le_of_ble_eq_true rfl) (c_rule8 hc _ _) (fun _ _ _ _ q => q.2.elim (fun q => ⟨_, q.2.1⟩) (fun q => q.elim (fun q => ⟨_, q.2.2.2.1⟩) (fun q => ⟨_, q.2.2.2.1⟩))) (fun y g1 l1 s1 q w1 w2 => ?_)
  obtain ⟨⟨⟨z1, z2, zla, zlb⟩, zf, z3, oa1, hc1⟩, qc⟩ := q
  have e190 := (zf 190 (by decide)).1
  have e191 := (zf 191 (by decide)).1
  have e192 := (zf 192 (by decide)).1
  have e195 := (zf 195 (by decide)).1
  have l193 := (zf 193 (by decide)).2.1
  have l194 := (zf 194 (by decide)).2.1
  have hM1 : isMd s1 := hM.eq z3 (fun b hb => (zf b hb).2.2)
  have hI1 : g1 = gi → l1 = gl → s1 = sh → LI g1 l1 s1 la oa := fun u1 u2 u3 => by rw [u1, u2, u3]; exact hI
  refine g_aload_n dL_law_241 rfl ?_
  refine g_aload_nS dL_law_242 rfl ?_
  refine g_iload_n dL_law_243 rfl ?_
  refine g_iconst dL_law_244 (by decide) ?_
  refine g_iadd dL_law_245 (by omega) (by omega) ?_
  refine g_sload dL_law_246 rfl (by omega) (by omega) ?_
  refine g_aload_nS dL_law_247 rfl ?_
  refine g_iload_n dL_law_248 rfl ?_
  refine g_iconst dL_law_249 (by decide) ?_
  refine g_iadd dL_law_250 (by omega) (by omega) ?_
  refine g_sload dL_law_251 rfl (by omega) (by omega) ?_
  refine g_callV_i [_, _] dL_law_252 mlL_42 mvX9_rule (by decide) (by exact hM1.o) ⟨(Nat.le_of_ble_eq_true rfl), (Nat.le_of_ble_eq_true rfl), (Nat.le_of_ble_eq_true rfl)⟩ rfl rfl (Nat.le_of_ble_eq_true rfl) rfl (Nat.le_of_ble_eq_true rfl) (m_rule (nm := gi 6) (h := gi 7 1) hM1 _ _ (gi la 2) (by rw [e190]; exact hR.1.1) hr4 (fun k k0 k1 => ⟨by rw [l193]; exact hR.2.1.2.2 k k0 k1, (hcs.1.2.2.2.2.2.2.2.2 k k0 k1).2⟩) (by rw [e190]; exact hR.2.2.1) hh) (fun _ _ _ _ q => q.2.elim (fun q => ⟨_, q.2.1⟩) (fun q => q.elim (fun q => ⟨_, q.2.2.2.1⟩) (fun q => ⟨_, q.2.2.2.1⟩))) (fun y2 g2 l2 s2 p w3 w4 => ?_)
  obtain ⟨p1, pc⟩ := p
  subst p1
  have key : y = y2 ∧ ∃ oa2, LI g2 l2 s2 la oa2 := by
    rcases qc with ⟨a1, a2, a3, a4, a5⟩ | ⟨a0, a1, a2, a3, a4, a5, a6⟩ | ⟨a0, a1, a2, a3, a4, a5, a6, a7, kp⟩
    · rcases pc with ⟨b1, b2, b3, b4⟩ | ⟨b0, b1, b2, b3, b4, b5⟩ | ⟨b0, b1, b2, b3, b4, b5, b6, gm, kl, b7⟩
      · cases a2; cases b2; rw [b3, b4]
        exact ⟨rfl, oa, hI1 a3 a4 a5⟩
      · exfalso; rcases a1 with a1 | a1; exact a1 b0; omega
      · exfalso; rcases a1 with a1 | a1; exact a1 b0; omega
    · rcases pc with ⟨b1, b2, b3, b4⟩ | ⟨b0, b1, b2, b3, b4, b5⟩ | ⟨b0, b1, b2, b3, b4, b5, b6, gm, kl, b7⟩
      · exfalso; rcases b1 with b1 | b1; exact b1 a0; omega
      · cases a3; cases b3; rw [b4, b5]
        exact ⟨rfl, oa, hI1 a4 a5 a6⟩
      · exact absurd a2 b2
    · rcases pc with ⟨b1, b2, b3, b4⟩ | ⟨b0, b1, b2, b3, b4, b5⟩ | ⟨b0, b1, b2, b3, b4, b5, b6, gm, kl, b7⟩
      · exfalso; rcases b1 with b1 | b1; exact b1 a0; omega
      · exact absurd b2 a2
      · cases a3; cases b3
        have em : ∀ b : Int, b ≠ 193 → l2 b = gm b := fun b hb => by rw [b7, g_up_row hb]
        have m193 : gm 193 = gl 193 := by rw [kl.1 193 (by decide)]; exact l193
        refine ⟨rfl, oa1, hc1.hl (fun b hb => b4 b (by omega)) (fun b hb => by rw [em b (by omega)]; exact kl.1 b (by omega)), hM1, ?_, RS.keep hc hR kp zla zlb a4 a5 a6 kl l193 l194 em (fun b hb => b4 b (by omega)) (by rw [b5 1 (by decide), e190]) (by rw [b4 191 (by decide)]; exact e191) (by rw [b4 192 (by decide)]; exact e192) b6 ?_⟩
        · refine ⟨?_, fun j j0 j1 => ?_⟩
          · rw [b5 7 (by decide), e190, b4 1 (by decide), z1]; exact ht.1
          · rw [b4 1 (by decide), z1] at j1
            rw [b4 195 (by decide), e195, b4 2 (by decide), z2]; exact ht.2 j j0 j1
        · rw [b7]
          refine ⟨?_, fun t t0 t1 => ?_, fun k k0 k1 => ?_⟩
          · rw [g_up_ne (by omega), m193]; exact hR.2.1.1
          · have t2 : t < gi 4 2 := t1
            rw [g_up_ne (by omega), m193]; exact hR.2.1.2.1 t t0 t1
          · rw [g_up_r]
            show r_up (gm 193) _ _ (61 + k) = r_up (gi 6) _ _ k
            unfold r_up
            by_cases c : 61 + k = 61 + (xs (i + 1).toNat).toInt
            · rw [if_pos c, if_pos (by omega)]
            · rw [if_neg c, if_neg (by omega), m193]; exact hR.2.1.2.2 k k0 k1
  refine g_icmp_eq 510 dL_law_255 (by decide) (fun h255 => ?_) (fun h255 => ?_)
  · skip
    obtain ⟨oa2, hI2⟩ := key.2
    exact hn _ _ _ _ _ hI2
  · exact absurd key.1 h255
set_option maxRecDepth 20000 in
set_option maxHeartbeats 2000000 in
theorem k_clear (hL : L ≤ 2048) (hi : 0 ≤ i ∧ i + 4 ≤ (L : Int)) (hI : LI gi gl sh la oa) (hn : ∀ (g l : gF) (s : gSh) (la oa : Int), LI g l s la oa → Go (mdL_law L xs) 0 0 510 [some vS, some (vR 0), some (vR 190), some (vI i)] [] g l s QL) : Go (mdL_law L xs) 0 0 260 [some vS, some (vR 0), some (vR 190), some (vI i)] [] gi gl sh QL := by
  have hc := hI.1
  have hM := hI.2.1
  have hk0 := hc.1.1.1.1
  have hla := hc.1.1.1.2.2.2.2.2.2.2.2.2.2
  have ht := hI.2.2.1
  have hR := hI.2.2.2
  have hh := hc.1.2.2.2.1.1
  have hcs := hc.1.2.2.1
  have hT := hcs.2.1
  have hr4 := hcs.1.2.2.2.2.2.2.2.1
  refine g_aload_n dL_law_260 rfl ?_
  refine g_callV_i [] dL_law_261 mlL_43 mvX8_clear (by decide) (by first | exact hk0 | exact hM.o) ⟨(Nat.le_of_ble_eq_true rfl), (Nat.le_of_ble_eq_true rfl), (Nat.le_of_ble_eq_true rfl)⟩ rfl rfl (Nat.le_of_ble_eq_true rfl) rfl (Nat.le_of_ble_eq_true rfl) (c_clear hc) (fun _ _ _ _ q => q.2.elim (fun q => ⟨_, q.2.1⟩) (fun q => ⟨_, q.2.1⟩)) (fun y g1 l1 s1 q w1 w2 => ?_)
  obtain ⟨⟨⟨z1, z2, zla, zlb⟩, zf, z3, oa1, hc1⟩, qc⟩ := q
  have e190 := (zf 190 (by decide)).1
  have e191 := (zf 191 (by decide)).1
  have e192 := (zf 192 (by decide)).1
  have e195 := (zf 195 (by decide)).1
  have l193 := (zf 193 (by decide)).2.1
  have l194 := (zf 194 (by decide)).2.1
  have hM1 : isMd s1 := hM.eq z3 (fun b hb => (zf b hb).2.2)
  have hI1 : g1 = gi → l1 = gl → s1 = sh → LI g1 l1 s1 la oa := fun u1 u2 u3 => by rw [u1, u2, u3]; exact hI
  refine g_aload_n dL_law_264 rfl ?_
  refine g_callV_i [] dL_law_265 mlL_46 mvX9_clear (by decide) (by exact hM1.o) ⟨(Nat.le_of_ble_eq_true rfl), (Nat.le_of_ble_eq_true rfl), (Nat.le_of_ble_eq_true rfl)⟩ rfl rfl (Nat.le_of_ble_eq_true rfl) rfl (Nat.le_of_ble_eq_true rfl) (m_clear (T := gi 4 2) (h := gi 7 1) hM1 (by rw [l193]; exact hR.2.1.1) hT (by rw [e190]; exact hR.2.2.1) hh) (fun _ _ _ _ q => q.2.elim (fun q => ⟨_, q.2.1⟩) (fun q => ⟨_, q.2.1⟩)) (fun y2 g2 l2 s2 p w3 w4 => ?_)
  obtain ⟨p1, pc⟩ := p
  subst p1
  have key : y = y2 ∧ ∃ oa2, LI g2 l2 s2 la oa2 := by
    rcases qc with ⟨a1, a2, a3, a4, a5⟩ | ⟨a1, a2, a3, a4, a5, kp⟩
    · rcases pc with ⟨b1, b2, b3, b4⟩ | ⟨b1, b2, b4, b5, b6, gm, kl, b7⟩
      · cases a2; cases b2; rw [b3, b4]
        exact ⟨rfl, oa, hI1 a3 a4 a5⟩
      · exact absurd a1 b1
    · rcases pc with ⟨b1, b2, b3, b4⟩ | ⟨b1, b2, b4, b5, b6, gm, kl, b7⟩
      · exact absurd b1 a1
      · cases a2; cases b2
        have em : ∀ b : Int, b ≠ 193 → l2 b = gm b := fun b hb => by rw [b7, g_up_row hb]
        have m193 : gm 193 = gl 193 := by rw [kl.1 193 (by decide)]; exact l193
        refine ⟨rfl, oa1, hc1.hl (fun b hb => b4 b (by omega)) (fun b hb => by rw [em b (by omega)]; exact kl.1 b (by omega)), hM1, ?_, RS.keep hc hR kp zla zlb a3 a4 a5 kl l193 l194 em (fun b hb => b4 b (by omega)) (by rw [b5 1 (by decide), e190]) (by rw [b4 191 (by decide)]; exact e191) (by rw [b4 192 (by decide)]; exact e192) b6 ?_⟩
        · refine ⟨?_, fun j j0 j1 => ?_⟩
          · rw [b5 7 (by decide), e190, b4 1 (by decide), z1]; exact ht.1
          · rw [b4 1 (by decide), z1] at j1
            rw [b4 195 (by decide), e195, b4 2 (by decide), z2]; exact ht.2 j j0 j1
        · rw [b7]
          refine ⟨g_up_at, fun t t0 t1 => ?_, fun k k0 k1 => ?_⟩
          · have t2 : t < 0 := t1
            omega
          · rw [g_up_ne (by omega), m193]; exact hR.2.1.2.2 k k0 k1
  refine g_icmp_eq 510 dL_law_268 (by decide) (fun h268 => ?_) (fun h268 => ?_)
  · skip
    obtain ⟨oa2, hI2⟩ := key.2
    exact hn _ _ _ _ _ hI2
  · exact absurd key.1 h268
set_option maxRecDepth 20000 in
set_option maxHeartbeats 2000000 in
theorem k_undo (hL : L ≤ 2048) (hi : 0 ≤ i ∧ i + 4 ≤ (L : Int)) (hI : LI gi gl sh la oa) (hn : ∀ (g l : gF) (s : gSh) (la oa : Int), LI g l s la oa → Go (mdL_law L xs) 0 0 510 [some vS, some (vR 0), some (vR 190), some (vI i)] [] g l s QL) : Go (mdL_law L xs) 0 0 273 [some vS, some (vR 0), some (vR 190), some (vI i)] [] gi gl sh QL := by
  have hc := hI.1
  have hM := hI.2.1
  have hk0 := hc.1.1.1.1
  have hla := hc.1.1.1.2.2.2.2.2.2.2.2.2.2
  have ht := hI.2.2.1
  have hR := hI.2.2.2
  have hh := hc.1.2.2.2.1.1
  have hcs := hc.1.2.2.1
  have hT := hcs.2.1
  have hr4 := hcs.1.2.2.2.2.2.2.2.1
  refine g_aload_n dL_law_273 rfl ?_
  refine g_callV_i [] dL_law_274 mlL_47 mvX8_undo (by decide) (by first | exact hk0 | exact hM.o) ⟨(Nat.le_of_ble_eq_true rfl), (Nat.le_of_ble_eq_true rfl), (Nat.le_of_ble_eq_true rfl)⟩ rfl rfl (Nat.le_of_ble_eq_true rfl) rfl (Nat.le_of_ble_eq_true rfl) (c_undo hc) (fun _ _ _ _ q => q.2.elim (fun q => ⟨_, q.2.1⟩) (fun q => ⟨_, q.2.1⟩)) (fun y g1 l1 s1 q w1 w2 => ?_)
  obtain ⟨⟨⟨z1, z2, zla, zlb⟩, zf, z3, oa1, hc1⟩, qc⟩ := q
  have e190 := (zf 190 (by decide)).1
  have e191 := (zf 191 (by decide)).1
  have e192 := (zf 192 (by decide)).1
  have e195 := (zf 195 (by decide)).1
  have l193 := (zf 193 (by decide)).2.1
  have l194 := (zf 194 (by decide)).2.1
  have hM1 : isMd s1 := hM.eq z3 (fun b hb => (zf b hb).2.2)
  have hI1 : g1 = gi → l1 = gl → s1 = sh → LI g1 l1 s1 la oa := fun u1 u2 u3 => by rw [u1, u2, u3]; exact hI
  refine g_aload_n dL_law_277 rfl ?_
  refine g_callV_i [] dL_law_278 mlL_50 mvX9_undo (by decide) (by exact hM1.o) ⟨(Nat.le_of_ble_eq_true rfl), (Nat.le_of_ble_eq_true rfl), (Nat.le_of_ble_eq_true rfl)⟩ rfl rfl (Nat.le_of_ble_eq_true rfl) rfl (Nat.le_of_ble_eq_true rfl) (m_undo (h := gi 7 1) hM1 (by rw [e190]; exact hR.2.2.1) hh) (fun _ _ _ _ q => q.2.elim (fun q => ⟨_, q.2.1⟩) (fun q => ⟨_, q.2.1⟩)) (fun y2 g2 l2 s2 p w3 w4 => ?_)
  obtain ⟨p1, pc⟩ := p
  subst p1
  have key : y = y2 ∧ ∃ oa2, LI g2 l2 s2 la oa2 := by
    rcases qc with ⟨a1, a2, a3, a4, a5⟩ | ⟨a1, a2, bk⟩
    · rcases pc with ⟨b1, b2, b3, b4⟩ | ⟨b1, b2, b3, b4, b5⟩
      · cases a2; cases b2; rw [b3, b4]
        exact ⟨rfl, oa, hI1 a3 a4 a5⟩
      · exact absurd a1 b1
    · rcases pc with ⟨b1, b2, b3, b4⟩ | ⟨b1, b2, b3, b4, b5⟩
      · exact absurd b1 a1
      · cases a2; cases b2
        have eg : ∀ b : Int, b ≠ 190 → g2 b = g1 b := fun b hb => by rw [b3, g_up_row hb]
        have e9 : ∀ k : Int, k ≠ 5 → g2 190 k = gi 190 k := fun k hk => by rw [b3, g_up_ne hk, e190]
        refine ⟨rfl, oa1, hc1.hl (fun b hb => eg b (by omega)) (fun b hb => b4 b (by omega)), hM1, ⟨?_, fun j j0 j1 => ?_⟩, RS.back hc hR bk a1 zla zlb l194 b4 b5 (fun b hb => eg b (by omega)) (e9 1 (by decide)) (by rw [eg 191 (by decide)]; exact e191) (by rw [eg 192 (by decide)]; exact e192) (by rw [b3, g_up_at])⟩
        · rw [e9 7 (by decide), eg 1 (by decide), z1]; exact ht.1
        · rw [eg 1 (by decide), z1] at j1
          rw [eg 195 (by decide), e195, eg 2 (by decide), z2]; exact ht.2 j j0 j1
  refine g_icmp_eq 510 dL_law_281 (by decide) (fun h281 => ?_) (fun h281 => ?_)
  · skip
    obtain ⟨oa2, hI2⟩ := key.2
    exact hn _ _ _ _ _ hI2
  · exact absurd key.1 h281
end LAW2
