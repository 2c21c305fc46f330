/-! stores with the locals told anew as a plain list -/
section NORM
variable {md : gMD} {mc ms pc : Nat} {ls lN : List (Option gV)} {st : List gV} {gi gl : gF} {sh : gSh} {Q : gQ}
theorem n_istore_n {k : Fin 4} {x : Int} (hd : decode md.2.1 pc = .ok (.istore_n k, 1)) (hi : (k : Nat) < md.2.2.1) (hN : g_s1 ls (k : Nat) (vI x) = lN) (h : Go md mc ms (pc + 1) lN st gi gl sh Q) : Go md mc ms pc ls (vI x :: st) gi gl sh Q := g_istore_n hd hi (hN ▸ h)
theorem n_istore {i : Nat} {x : Int} (hd : decode md.2.1 pc = .ok (.istore i, 2)) (hi : i < md.2.2.1) (hN : g_s1 ls i (vI x) = lN) (h : Go md mc ms (pc + 2) lN st gi gl sh Q) : Go md mc ms pc ls (vI x :: st) gi gl sh Q := g_istore hd hi (hN ▸ h)
theorem n_astore_n {k : Fin 4} {x : Int} (hd : decode md.2.1 pc = .ok (.astore_n k, 1)) (hi : (k : Nat) < md.2.2.1) (hN : g_s1 ls (k : Nat) (vR x) = lN) (h : Go md mc ms (pc + 1) lN st gi gl sh Q) : Go md mc ms pc ls (vR x :: st) gi gl sh Q := g_astore_n hd hi (hN ▸ h)
theorem n_astore {i : Nat} {x : Int} (hd : decode md.2.1 pc = .ok (.astore i, 2)) (hi : i < md.2.2.1) (hN : g_s1 ls i (vR x) = lN) (h : Go md mc ms (pc + 2) lN st gi gl sh Q) : Go md mc ms pc ls (vR x :: st) gi gl sh Q := g_astore hd hi (hN ▸ h)
theorem n_lstore_n {k : Fin 4} {x : Int} (hd : decode md.2.1 pc = .ok (.lstore_n k, 1)) (hi : (k : Nat) + 1 < md.2.2.1) (hN : g_s2 ls (k : Nat) (vL x) = lN) (h : Go md mc ms (pc + 1) lN st gi gl sh Q) : Go md mc ms pc ls (vL x :: st) gi gl sh Q := g_lstore_n hd hi (hN ▸ h)
theorem n_lstore {i : Nat} {x : Int} (hd : decode md.2.1 pc = .ok (.lstore i, 2)) (hi : i + 1 < md.2.2.1) (hN : g_s2 ls i (vL x) = lN) (h : Go md mc ms (pc + 2) lN st gi gl sh Q) : Go md mc ms pc ls (vL x :: st) gi gl sh Q := g_lstore hd hi (hN ▸ h)
theorem n_iinc {i : Nat} {n x : Int} (hd : decode md.2.1 pc = .ok (.iinc i n, 3)) (hl : ls[i]? = some (some (vI x))) (hi : i < md.2.2.1) (h1 : -2147483648 ≤ x + n) (h2 : x + n ≤ 2147483647) (hN : g_s1 ls i (vI (x + n)) = lN) (h : Go md mc ms (pc + 3) lN st gi gl sh Q) : Go md mc ms pc ls st gi gl sh Q := g_iinc hd hl hi h1 h2 (hN ▸ h)
end NORM
