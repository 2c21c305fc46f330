/-! the model: its object at 190, its rows at 191 to 214 -/
def isMd (sh : gSh) : Prop := sh.2.1 190 = 9 ∧ sh.1 190 0 = some 191 ∧ sh.2.1 191 = 11 ∧ (sh.2.2.1 191 : Int) = 7 ∧ sh.1 190 2 = some 192 ∧ sh.2.1 192 = 11 ∧ (sh.2.2.1 192 : Int) = 4 ∧ sh.1 190 3 = some 193 ∧ sh.2.1 193 = 12 ∧ (sh.2.2.1 193 : Int) = 65 ∧ sh.1 190 4 = some 194 ∧ sh.2.1 194 = 12 ∧ (sh.2.2.1 194 : Int) = 390 ∧ sh.1 190 6 = some 195 ∧ sh.2.1 195 = 11 ∧ (sh.2.2.1 195 : Int) = 200 ∧ sh.1 190 8 = some 196 ∧ sh.2.1 196 = 11 ∧ (sh.2.2.1 196 : Int) = 7 ∧ sh.1 190 10 = some 197 ∧ sh.2.1 197 = 11 ∧ (sh.2.2.1 197 : Int) = 4 ∧ sh.1 190 11 = some 198 ∧ sh.2.1 198 = 11 ∧ (sh.2.2.1 198 : Int) = 4 ∧ sh.1 190 13 = some 199 ∧ sh.2.1 199 = 11 ∧ (sh.2.2.1 199 : Int) = 960 ∧ sh.1 190 14 = some 200 ∧ sh.2.1 200 = 11 ∧ (sh.2.2.1 200 : Int) = 960 ∧ sh.1 190 18 = some 201 ∧ sh.2.1 201 = 11 ∧ (sh.2.2.1 201 : Int) = 48 ∧ sh.1 190 19 = some 202 ∧ sh.2.1 202 = 11 ∧ (sh.2.2.1 202 : Int) = 48 ∧ sh.1 190 20 = some 203 ∧ sh.2.1 203 = 11 ∧ (sh.2.2.1 203 : Int) = 48 ∧ sh.1 190 21 = some 204 ∧ sh.2.1 204 = 11 ∧ (sh.2.2.1 204 : Int) = 48 ∧ sh.1 190 22 = some 205 ∧ sh.2.1 205 = 11 ∧ (sh.2.2.1 205 : Int) = 48 ∧ sh.1 190 23 = some 206 ∧ sh.2.1 206 = 11 ∧ (sh.2.2.1 206 : Int) = 48 ∧ sh.1 190 24 = some 207 ∧ sh.2.1 207 = 11 ∧ (sh.2.2.1 207 : Int) = 48 ∧ sh.1 190 25 = some 208 ∧ sh.2.1 208 = 11 ∧ (sh.2.2.1 208 : Int) = 48 ∧ sh.1 190 26 = some 209 ∧ sh.2.1 209 = 11 ∧ (sh.2.2.1 209 : Int) = 48 ∧ sh.1 190 27 = some 210 ∧ sh.2.1 210 = 11 ∧ (sh.2.2.1 210 : Int) = 48 ∧ sh.1 190 28 = some 211 ∧ sh.2.1 211 = 11 ∧ (sh.2.2.1 211 : Int) = 4 ∧ sh.1 190 29 = some 212 ∧ sh.2.1 212 = 11 ∧ (sh.2.2.1 212 : Int) = 48 ∧ sh.1 190 30 = some 213 ∧ sh.2.1 213 = 13 ∧ (sh.2.2.1 213 : Int) = 1536 ∧ sh.1 190 31 = some 214 ∧ sh.2.1 214 = 13 ∧ (sh.2.2.1 214 : Int) = 48
section ISMD
variable {sh : gSh} {i : Int}
theorem isMd.o (h : isMd sh) : sh.2.1 190 = 9 := h.1
theorem isMd.r0 (h : isMd sh) : sh.1 190 0 = some 191 := h.2.1
theorem isMd.k191 (h : isMd sh) : sh.2.1 191 = 11 := h.2.2.1
theorem isMd.l191 (h : isMd sh) : (sh.2.2.1 191 : Int) = 7 := h.2.2.2.1
theorem isMd.r2 (h : isMd sh) : sh.1 190 2 = some 192 := h.2.2.2.2.1
theorem isMd.k192 (h : isMd sh) : sh.2.1 192 = 11 := h.2.2.2.2.2.1
theorem isMd.l192 (h : isMd sh) : (sh.2.2.1 192 : Int) = 4 := h.2.2.2.2.2.2.1
theorem isMd.r3 (h : isMd sh) : sh.1 190 3 = some 193 := h.2.2.2.2.2.2.2.1
theorem isMd.k193 (h : isMd sh) : sh.2.1 193 = 12 := h.2.2.2.2.2.2.2.2.1
theorem isMd.l193 (h : isMd sh) : (sh.2.2.1 193 : Int) = 65 := h.2.2.2.2.2.2.2.2.2.1
theorem isMd.r4 (h : isMd sh) : sh.1 190 4 = some 194 := h.2.2.2.2.2.2.2.2.2.2.1
theorem isMd.k194 (h : isMd sh) : sh.2.1 194 = 12 := h.2.2.2.2.2.2.2.2.2.2.2.1
theorem isMd.l194 (h : isMd sh) : (sh.2.2.1 194 : Int) = 390 := h.2.2.2.2.2.2.2.2.2.2.2.2.1
theorem isMd.r6 (h : isMd sh) : sh.1 190 6 = some 195 := h.2.2.2.2.2.2.2.2.2.2.2.2.2.1
theorem isMd.k195 (h : isMd sh) : sh.2.1 195 = 11 := h.2.2.2.2.2.2.2.2.2.2.2.2.2.2.1
theorem isMd.l195 (h : isMd sh) : (sh.2.2.1 195 : Int) = 200 := h.2.2.2.2.2.2.2.2.2.2.2.2.2.2.2.1
theorem isMd.r8 (h : isMd sh) : sh.1 190 8 = some 196 := h.2.2.2.2.2.2.2.2.2.2.2.2.2.2.2.2.1
theorem isMd.k196 (h : isMd sh) : sh.2.1 196 = 11 := h.2.2.2.2.2.2.2.2.2.2.2.2.2.2.2.2.2.1
theorem isMd.l196 (h : isMd sh) : (sh.2.2.1 196 : Int) = 7 := h.2.2.2.2.2.2.2.2.2.2.2.2.2.2.2.2.2.2.1
theorem isMd.r10 (h : isMd sh) : sh.1 190 10 = some 197 := h.2.2.2.2.2.2.2.2.2.2.2.2.2.2.2.2.2.2.2.1
theorem isMd.k197 (h : isMd sh) : sh.2.1 197 = 11 := h.2.2.2.2.2.2.2.2.2.2.2.2.2.2.2.2.2.2.2.2.1
theorem isMd.l197 (h : isMd sh) : (sh.2.2.1 197 : Int) = 4 := h.2.2.2.2.2.2.2.2.2.2.2.2.2.2.2.2.2.2.2.2.2.1
theorem isMd.r11 (h : isMd sh) : sh.1 190 11 = some 198 := h.2.2.2.2.2.2.2.2.2.2.2.2.2.2.2.2.2.2.2.2.2.2.1
theorem isMd.k198 (h : isMd sh) : sh.2.1 198 = 11 := h.2.2.2.2.2.2.2.2.2.2.2.2.2.2.2.2.2.2.2.2.2.2.2.1
theorem isMd.l198 (h : isMd sh) : (sh.2.2.1 198 : Int) = 4 := h.2.2.2.2.2.2.2.2.2.2.2.2.2.2.2.2.2.2.2.2.2.2.2.2.1
theorem isMd.r13 (h : isMd sh) : sh.1 190 13 = some 199 := h.2.2.2.2.2.2.2.2.2.2.2.2.2.2.2.2.2.2.2.2.2.2.2.2.2.1
theorem isMd.k199 (h : isMd sh) : sh.2.1 199 = 11 := h.2.2.2.2.2.2.2.2.2.2.2.2.2.2.2.2.2.2.2.2.2.2.2.2.2.2.1
theorem isMd.l199 (h : isMd sh) : (sh.2.2.1 199 : Int) = 960 := h.2.2.2.2.2.2.2.2.2.2.2.2.2.2.2.2.2.2.2.2.2.2.2.2.2.2.2.1
theorem isMd.r14 (h : isMd sh) : sh.1 190 14 = some 200 := h.2.2.2.2.2.2.2.2.2.2.2.2.2.2.2.2.2.2.2.2.2.2.2.2.2.2.2.2.1
theorem isMd.k200 (h : isMd sh) : sh.2.1 200 = 11 := h.2.2.2.2.2.2.2.2.2.2.2.2.2.2.2.2.2.2.2.2.2.2.2.2.2.2.2.2.2.1
theorem isMd.l200 (h : isMd sh) : (sh.2.2.1 200 : Int) = 960 := h.2.2.2.2.2.2.2.2.2.2.2.2.2.2.2.2.2.2.2.2.2.2.2.2.2.2.2.2.2.2.1
theorem isMd.r18 (h : isMd sh) : sh.1 190 18 = some 201 := h.2.2.2.2.2.2.2.2.2.2.2.2.2.2.2.2.2.2.2.2.2.2.2.2.2.2.2.2.2.2.2.1
theorem isMd.k201 (h : isMd sh) : sh.2.1 201 = 11 := h.2.2.2.2.2.2.2.2.2.2.2.2.2.2.2.2.2.2.2.2.2.2.2.2.2.2.2.2.2.2.2.2.1
theorem isMd.l201 (h : isMd sh) : (sh.2.2.1 201 : Int) = 48 := h.2.2.2.2.2.2.2.2.2.2.2.2.2.2.2.2.2.2.2.2.2.2.2.2.2.2.2.2.2.2.2.2.2.1
theorem isMd.r19 (h : isMd sh) : sh.1 190 19 = some 202 := h.2.2.2.2.2.2.2.2.2.2.2.2.2.2.2.2.2.2.2.2.2.2.2.2.2.2.2.2.2.2.2.2.2.2.1
theorem isMd.k202 (h : isMd sh) : sh.2.1 202 = 11 := h.2.2.2.2.2.2.2.2.2.2.2.2.2.2.2.2.2.2.2.2.2.2.2.2.2.2.2.2.2.2.2.2.2.2.2.1
theorem isMd.l202 (h : isMd sh) : (sh.2.2.1 202 : Int) = 48 := h.2.2.2.2.2.2.2.2.2.2.2.2.2.2.2.2.2.2.2.2.2.2.2.2.2.2.2.2.2.2.2.2.2.2.2.2.1
theorem isMd.r20 (h : isMd sh) : sh.1 190 20 = some 203 := h.2.2.2.2.2.2.2.2.2.2.2.2.2.2.2.2.2.2.2.2.2.2.2.2.2.2.2.2.2.2.2.2.2.2.2.2.2.1
theorem isMd.k203 (h : isMd sh) : sh.2.1 203 = 11 := h.2.2.2.2.2.2.2.2.2.2.2.2.2.2.2.2.2.2.2.2.2.2.2.2.2.2.2.2.2.2.2.2.2.2.2.2.2.2.1
theorem isMd.l203 (h : isMd sh) : (sh.2.2.1 203 : Int) = 48 := h.2.2.2.2.2.2.2.2.2.2.2.2.2.2.2.2.2.2.2.2.2.2.2.2.2.2.2.2.2.2.2.2.2.2.2.2.2.2.2.1
theorem isMd.r21 (h : isMd sh) : sh.1 190 21 = some 204 := h.2.2.2.2.2.2.2.2.2.2.2.2.2.2.2.2.2.2.2.2.2.2.2.2.2.2.2.2.2.2.2.2.2.2.2.2.2.2.2.2.1
theorem isMd.k204 (h : isMd sh) : sh.2.1 204 = 11 := h.2.2.2.2.2.2.2.2.2.2.2.2.2.2.2.2.2.2.2.2.2.2.2.2.2.2.2.2.2.2.2.2.2.2.2.2.2.2.2.2.2.1
theorem isMd.l204 (h : isMd sh) : (sh.2.2.1 204 : Int) = 48 := h.2.2.2.2.2.2.2.2.2.2.2.2.2.2.2.2.2.2.2.2.2.2.2.2.2.2.2.2.2.2.2.2.2.2.2.2.2.2.2.2.2.2.1
theorem isMd.r22 (h : isMd sh) : sh.1 190 22 = some 205 := h.2.2.2.2.2.2.2.2.2.2.2.2.2.2.2.2.2.2.2.2.2.2.2.2.2.2.2.2.2.2.2.2.2.2.2.2.2.2.2.2.2.2.2.1
theorem isMd.k205 (h : isMd sh) : sh.2.1 205 = 11 := h.2.2.2.2.2.2.2.2.2.2.2.2.2.2.2.2.2.2.2.2.2.2.2.2.2.2.2.2.2.2.2.2.2.2.2.2.2.2.2.2.2.2.2.2.1
theorem isMd.l205 (h : isMd sh) : (sh.2.2.1 205 : Int) = 48 := h.2.2.2.2.2.2.2.2.2.2.2.2.2.2.2.2.2.2.2.2.2.2.2.2.2.2.2.2.2.2.2.2.2.2.2.2.2.2.2.2.2.2.2.2.2.1
theorem isMd.r23 (h : isMd sh) : sh.1 190 23 = some 206 := h.2.2.2.2.2.2.2.2.2.2.2.2.2.2.2.2.2.2.2.2.2.2.2.2.2.2.2.2.2.2.2.2.2.2.2.2.2.2.2.2.2.2.2.2.2.2.1
theorem isMd.k206 (h : isMd sh) : sh.2.1 206 = 11 := h.2.2.2.2.2.2.2.2.2.2.2.2.2.2.2.2.2.2.2.2.2.2.2.2.2.2.2.2.2.2.2.2.2.2.2.2.2.2.2.2.2.2.2.2.2.2.2.1
theorem isMd.l206 (h : isMd sh) : (sh.2.2.1 206 : Int) = 48 := h.2.2.2.2.2.2.2.2.2.2.2.2.2.2.2.2.2.2.2.2.2.2.2.2.2.2.2.2.2.2.2.2.2.2.2.2.2.2.2.2.2.2.2.2.2.2.2.2.1
theorem isMd.r24 (h : isMd sh) : sh.1 190 24 = some 207 := h.2.2.2.2.2.2.2.2.2.2.2.2.2.2.2.2.2.2.2.2.2.2.2.2.2.2.2.2.2.2.2.2.2.2.2.2.2.2.2.2.2.2.2.2.2.2.2.2.2.1
theorem isMd.k207 (h : isMd sh) : sh.2.1 207 = 11 := h.2.2.2.2.2.2.2.2.2.2.2.2.2.2.2.2.2.2.2.2.2.2.2.2.2.2.2.2.2.2.2.2.2.2.2.2.2.2.2.2.2.2.2.2.2.2.2.2.2.2.1
theorem isMd.l207 (h : isMd sh) : (sh.2.2.1 207 : Int) = 48 := h.2.2.2.2.2.2.2.2.2.2.2.2.2.2.2.2.2.2.2.2.2.2.2.2.2.2.2.2.2.2.2.2.2.2.2.2.2.2.2.2.2.2.2.2.2.2.2.2.2.2.2.1
theorem isMd.r25 (h : isMd sh) : sh.1 190 25 = some 208 := h.2.2.2.2.2.2.2.2.2.2.2.2.2.2.2.2.2.2.2.2.2.2.2.2.2.2.2.2.2.2.2.2.2.2.2.2.2.2.2.2.2.2.2.2.2.2.2.2.2.2.2.2.1
theorem isMd.k208 (h : isMd sh) : sh.2.1 208 = 11 := h.2.2.2.2.2.2.2.2.2.2.2.2.2.2.2.2.2.2.2.2.2.2.2.2.2.2.2.2.2.2.2.2.2.2.2.2.2.2.2.2.2.2.2.2.2.2.2.2.2.2.2.2.2.1
theorem isMd.l208 (h : isMd sh) : (sh.2.2.1 208 : Int) = 48 := h.2.2.2.2.2.2.2.2.2.2.2.2.2.2.2.2.2.2.2.2.2.2.2.2.2.2.2.2.2.2.2.2.2.2.2.2.2.2.2.2.2.2.2.2.2.2.2.2.2.2.2.2.2.2.1
theorem isMd.r26 (h : isMd sh) : sh.1 190 26 = some 209 := h.2.2.2.2.2.2.2.2.2.2.2.2.2.2.2.2.2.2.2.2.2.2.2.2.2.2.2.2.2.2.2.2.2.2.2.2.2.2.2.2.2.2.2.2.2.2.2.2.2.2.2.2.2.2.2.1
theorem isMd.k209 (h : isMd sh) : sh.2.1 209 = 11 := h.2.2.2.2.2.2.2.2.2.2.2.2.2.2.2.2.2.2.2.2.2.2.2.2.2.2.2.2.2.2.2.2.2.2.2.2.2.2.2.2.2.2.2.2.2.2.2.2.2.2.2.2.2.2.2.2.1
theorem isMd.l209 (h : isMd sh) : (sh.2.2.1 209 : Int) = 48 := h.2.2.2.2.2.2.2.2.2.2.2.2.2.2.2.2.2.2.2.2.2.2.2.2.2.2.2.2.2.2.2.2.2.2.2.2.2.2.2.2.2.2.2.2.2.2.2.2.2.2.2.2.2.2.2.2.2.1
theorem isMd.r27 (h : isMd sh) : sh.1 190 27 = some 210 := h.2.2.2.2.2.2.2.2.2.2.2.2.2.2.2.2.2.2.2.2.2.2.2.2.2.2.2.2.2.2.2.2.2.2.2.2.2.2.2.2.2.2.2.2.2.2.2.2.2.2.2.2.2.2.2.2.2.2.1
theorem isMd.k210 (h : isMd sh) : sh.2.1 210 = 11 := h.2.2.2.2.2.2.2.2.2.2.2.2.2.2.2.2.2.2.2.2.2.2.2.2.2.2.2.2.2.2.2.2.2.2.2.2.2.2.2.2.2.2.2.2.2.2.2.2.2.2.2.2.2.2.2.2.2.2.2.1
theorem isMd.l210 (h : isMd sh) : (sh.2.2.1 210 : Int) = 48 := h.2.2.2.2.2.2.2.2.2.2.2.2.2.2.2.2.2.2.2.2.2.2.2.2.2.2.2.2.2.2.2.2.2.2.2.2.2.2.2.2.2.2.2.2.2.2.2.2.2.2.2.2.2.2.2.2.2.2.2.2.1
theorem isMd.r28 (h : isMd sh) : sh.1 190 28 = some 211 := h.2.2.2.2.2.2.2.2.2.2.2.2.2.2.2.2.2.2.2.2.2.2.2.2.2.2.2.2.2.2.2.2.2.2.2.2.2.2.2.2.2.2.2.2.2.2.2.2.2.2.2.2.2.2.2.2.2.2.2.2.2.1
theorem isMd.k211 (h : isMd sh) : sh.2.1 211 = 11 := h.2.2.2.2.2.2.2.2.2.2.2.2.2.2.2.2.2.2.2.2.2.2.2.2.2.2.2.2.2.2.2.2.2.2.2.2.2.2.2.2.2.2.2.2.2.2.2.2.2.2.2.2.2.2.2.2.2.2.2.2.2.2.1
theorem isMd.l211 (h : isMd sh) : (sh.2.2.1 211 : Int) = 4 := h.2.2.2.2.2.2.2.2.2.2.2.2.2.2.2.2.2.2.2.2.2.2.2.2.2.2.2.2.2.2.2.2.2.2.2.2.2.2.2.2.2.2.2.2.2.2.2.2.2.2.2.2.2.2.2.2.2.2.2.2.2.2.2.1
theorem isMd.r29 (h : isMd sh) : sh.1 190 29 = some 212 := h.2.2.2.2.2.2.2.2.2.2.2.2.2.2.2.2.2.2.2.2.2.2.2.2.2.2.2.2.2.2.2.2.2.2.2.2.2.2.2.2.2.2.2.2.2.2.2.2.2.2.2.2.2.2.2.2.2.2.2.2.2.2.2.2.1
theorem isMd.k212 (h : isMd sh) : sh.2.1 212 = 11 := h.2.2.2.2.2.2.2.2.2.2.2.2.2.2.2.2.2.2.2.2.2.2.2.2.2.2.2.2.2.2.2.2.2.2.2.2.2.2.2.2.2.2.2.2.2.2.2.2.2.2.2.2.2.2.2.2.2.2.2.2.2.2.2.2.2.1
theorem isMd.l212 (h : isMd sh) : (sh.2.2.1 212 : Int) = 48 := h.2.2.2.2.2.2.2.2.2.2.2.2.2.2.2.2.2.2.2.2.2.2.2.2.2.2.2.2.2.2.2.2.2.2.2.2.2.2.2.2.2.2.2.2.2.2.2.2.2.2.2.2.2.2.2.2.2.2.2.2.2.2.2.2.2.2.1
theorem isMd.r30 (h : isMd sh) : sh.1 190 30 = some 213 := h.2.2.2.2.2.2.2.2.2.2.2.2.2.2.2.2.2.2.2.2.2.2.2.2.2.2.2.2.2.2.2.2.2.2.2.2.2.2.2.2.2.2.2.2.2.2.2.2.2.2.2.2.2.2.2.2.2.2.2.2.2.2.2.2.2.2.2.1
theorem isMd.k213 (h : isMd sh) : sh.2.1 213 = 13 := h.2.2.2.2.2.2.2.2.2.2.2.2.2.2.2.2.2.2.2.2.2.2.2.2.2.2.2.2.2.2.2.2.2.2.2.2.2.2.2.2.2.2.2.2.2.2.2.2.2.2.2.2.2.2.2.2.2.2.2.2.2.2.2.2.2.2.2.2.1
theorem isMd.l213 (h : isMd sh) : (sh.2.2.1 213 : Int) = 1536 := h.2.2.2.2.2.2.2.2.2.2.2.2.2.2.2.2.2.2.2.2.2.2.2.2.2.2.2.2.2.2.2.2.2.2.2.2.2.2.2.2.2.2.2.2.2.2.2.2.2.2.2.2.2.2.2.2.2.2.2.2.2.2.2.2.2.2.2.2.2.1
theorem isMd.r31 (h : isMd sh) : sh.1 190 31 = some 214 := h.2.2.2.2.2.2.2.2.2.2.2.2.2.2.2.2.2.2.2.2.2.2.2.2.2.2.2.2.2.2.2.2.2.2.2.2.2.2.2.2.2.2.2.2.2.2.2.2.2.2.2.2.2.2.2.2.2.2.2.2.2.2.2.2.2.2.2.2.2.2.1
theorem isMd.k214 (h : isMd sh) : sh.2.1 214 = 13 := h.2.2.2.2.2.2.2.2.2.2.2.2.2.2.2.2.2.2.2.2.2.2.2.2.2.2.2.2.2.2.2.2.2.2.2.2.2.2.2.2.2.2.2.2.2.2.2.2.2.2.2.2.2.2.2.2.2.2.2.2.2.2.2.2.2.2.2.2.2.2.2.1
theorem isMd.l214 (h : isMd sh) : (sh.2.2.1 214 : Int) = 48 := h.2.2.2.2.2.2.2.2.2.2.2.2.2.2.2.2.2.2.2.2.2.2.2.2.2.2.2.2.2.2.2.2.2.2.2.2.2.2.2.2.2.2.2.2.2.2.2.2.2.2.2.2.2.2.2.2.2.2.2.2.2.2.2.2.2.2.2.2.2.2.2.2
theorem isMd.b191 (h : isMd sh) (w : i < 7) : i < (sh.2.2.1 191 : Int) := by rw [h.l191]; exact w
theorem isMd.b192 (h : isMd sh) (w : i < 4) : i < (sh.2.2.1 192 : Int) := by rw [h.l192]; exact w
theorem isMd.b193 (h : isMd sh) (w : i < 65) : i < (sh.2.2.1 193 : Int) := by rw [h.l193]; exact w
theorem isMd.b194 (h : isMd sh) (w : i < 390) : i < (sh.2.2.1 194 : Int) := by rw [h.l194]; exact w
theorem isMd.b195 (h : isMd sh) (w : i < 200) : i < (sh.2.2.1 195 : Int) := by rw [h.l195]; exact w
theorem isMd.b196 (h : isMd sh) (w : i < 7) : i < (sh.2.2.1 196 : Int) := by rw [h.l196]; exact w
theorem isMd.b197 (h : isMd sh) (w : i < 4) : i < (sh.2.2.1 197 : Int) := by rw [h.l197]; exact w
theorem isMd.b198 (h : isMd sh) (w : i < 4) : i < (sh.2.2.1 198 : Int) := by rw [h.l198]; exact w
theorem isMd.b199 (h : isMd sh) (w : i < 960) : i < (sh.2.2.1 199 : Int) := by rw [h.l199]; exact w
theorem isMd.b200 (h : isMd sh) (w : i < 960) : i < (sh.2.2.1 200 : Int) := by rw [h.l200]; exact w
theorem isMd.b201 (h : isMd sh) (w : i < 48) : i < (sh.2.2.1 201 : Int) := by rw [h.l201]; exact w
theorem isMd.b202 (h : isMd sh) (w : i < 48) : i < (sh.2.2.1 202 : Int) := by rw [h.l202]; exact w
theorem isMd.b203 (h : isMd sh) (w : i < 48) : i < (sh.2.2.1 203 : Int) := by rw [h.l203]; exact w
theorem isMd.b204 (h : isMd sh) (w : i < 48) : i < (sh.2.2.1 204 : Int) := by rw [h.l204]; exact w
theorem isMd.b205 (h : isMd sh) (w : i < 48) : i < (sh.2.2.1 205 : Int) := by rw [h.l205]; exact w
theorem isMd.b206 (h : isMd sh) (w : i < 48) : i < (sh.2.2.1 206 : Int) := by rw [h.l206]; exact w
theorem isMd.b207 (h : isMd sh) (w : i < 48) : i < (sh.2.2.1 207 : Int) := by rw [h.l207]; exact w
theorem isMd.b208 (h : isMd sh) (w : i < 48) : i < (sh.2.2.1 208 : Int) := by rw [h.l208]; exact w
theorem isMd.b209 (h : isMd sh) (w : i < 48) : i < (sh.2.2.1 209 : Int) := by rw [h.l209]; exact w
theorem isMd.b210 (h : isMd sh) (w : i < 48) : i < (sh.2.2.1 210 : Int) := by rw [h.l210]; exact w
theorem isMd.b211 (h : isMd sh) (w : i < 4) : i < (sh.2.2.1 211 : Int) := by rw [h.l211]; exact w
theorem isMd.b212 (h : isMd sh) (w : i < 48) : i < (sh.2.2.1 212 : Int) := by rw [h.l212]; exact w
theorem isMd.b213 (h : isMd sh) (w : i < 1536) : i < (sh.2.2.1 213 : Int) := by rw [h.l213]; exact w
theorem isMd.b214 (h : isMd sh) (w : i < 48) : i < (sh.2.2.1 214 : Int) := by rw [h.l214]; exact w
theorem isMd.eq {s' : gSh} (h : isMd sh) (e : s'.2 = sh.2) (e1 : ∀ b : Int, 190 ≤ b → s'.1 b = sh.1 b) : isMd s' := by
  unfold isMd
  rw [e, e1 190 (by decide)]
  exact h
end ISMD
theorem g_cmp_s (a b : Int) : (g_cmp a b < 0 ∧ a < b) ∨ (g_cmp a b = 0 ∧ a = b) ∨ (0 < g_cmp a b ∧ b < a) := by
  unfold g_cmp
  split
  · omega
  · split <;> omega
section MD1
variable {gi gl : gF} {sh : gSh}
set_option maxRecDepth 20000 in
set_option maxHeartbeats 1000000 in
theorem m_within (v lo hi z : Int) (hz : Zq (lo ≤ v ∧ v ≤ hi) z) : Ct mdX9_within 0 0 [vL v, vL lo, vL hi] gi gl sh (Rt (some (vI z)) gi gl sh) := by
  show Go mdX9_within 0 0 0 [some (vL v), none, some (vL lo), none, some (vL hi), none] [] gi gl sh _
  have c1 := g_cmp_s v lo
  have c2 := g_cmp_s v hi
  refine g_lload_n dX9_within_0 rfl ?_
  refine g_lload_n dX9_within_1 rfl ?_
  refine g_lcmp dX9_within_2 ?_
  refine g_if_lt 17 dX9_within_3 (by decide) (fun h3 => ?_) (fun h3 => ?_)
  · skip
    refine g_iconst dX9_within_17 (by decide) ?_
    refine g_zreturn dX9_within_18 rfl (by decide) ?_
    exact ⟨by first | (rw [hz.1 (by omega)]; done) | (rw [hz.2 (by omega)]; done), rfl, rfl, rfl⟩
  · skip
    refine g_lload_n dX9_within_6 rfl ?_
    refine g_lload dX9_within_7 rfl ?_
    refine g_lcmp dX9_within_9 ?_
    refine g_if_gt 17 dX9_within_10 (by decide) (fun h10 => ?_) (fun h10 => ?_)
    · skip
      refine g_iconst dX9_within_17 (by decide) ?_
      refine g_zreturn dX9_within_18 rfl (by decide) ?_
      exact ⟨by first | (rw [hz.1 (by omega)]; done) | (rw [hz.2 (by omega)]; done), rfl, rfl, rfl⟩
    · skip
      refine g_iconst dX9_within_13 (by decide) ?_
      refine g_goto 18 dX9_within_14 (by decide) ?_
      refine g_zreturn dX9_within_18 rfl (by decide) ?_
      exact ⟨by first | (rw [hz.1 (by omega)]; done) | (rw [hz.2 (by omega)]; done), rfl, rfl, rfl⟩

def m_pl0 (gi : gF) (a : Int) : gF := g_up (g_up (g_up (g_up (g_up (g_up (g_up gi a 0 8) a 1 4) a 2 6) a 3 1) a 4 1) a 5 7) a 6 2
set_option maxRecDepth 20000 in
set_option maxHeartbeats 1000000 in
theorem m_plans (a : Int) (hk : sh.2.1 a = 11) (hl : (sh.2.2.1 a : Int) = 7) : Ct mdX9_plans 0 0 [vR a] gi gl sh (Rt none (m_pl0 gi a) gl sh) := by
  show Go mdX9_plans 0 0 0 [some (vR a)] [] gi gl sh _
  refine g_aload_n dX9_plans_0 rfl ?_
  refine g_iconst dX9_plans_1 (by decide) ?_
  refine g_bipush dX9_plans_2 (by decide) (by decide) ?_
  refine g_iastore dX9_plans_4 (by assumption) (by omega) (by omega) ?_
  refine g_aload_n dX9_plans_5 rfl ?_
  refine g_iconst dX9_plans_6 (by decide) ?_
  refine g_iconst dX9_plans_7 (by decide) ?_
  refine g_iastore dX9_plans_8 (by assumption) (by omega) (by omega) ?_
  refine g_aload_n dX9_plans_9 rfl ?_
  refine g_iconst dX9_plans_10 (by decide) ?_
  refine g_bipush dX9_plans_11 (by decide) (by decide) ?_
  refine g_iastore dX9_plans_13 (by assumption) (by omega) (by omega) ?_
  refine g_aload_n dX9_plans_14 rfl ?_
  refine g_iconst dX9_plans_15 (by decide) ?_
  refine g_iconst dX9_plans_16 (by decide) ?_
  refine g_iastore dX9_plans_17 (by assumption) (by omega) (by omega) ?_
  refine g_aload_n dX9_plans_18 rfl ?_
  refine g_iconst dX9_plans_19 (by decide) ?_
  refine g_iconst dX9_plans_20 (by decide) ?_
  refine g_iastore dX9_plans_21 (by assumption) (by omega) (by omega) ?_
  refine g_aload_n dX9_plans_22 rfl ?_
  refine g_iconst dX9_plans_23 (by decide) ?_
  refine g_bipush dX9_plans_24 (by decide) (by decide) ?_
  refine g_iastore dX9_plans_26 (by assumption) (by omega) (by omega) ?_
  refine g_aload_n dX9_plans_27 rfl ?_
  refine g_bipush dX9_plans_28 (by decide) (by decide) ?_
  refine g_iconst dX9_plans_30 (by decide) ?_
  refine g_iastore dX9_plans_31 (by assumption) (by omega) (by omega) ?_
  refine g_return dX9_plans_32 rfl ?_
  exact ⟨rfl, rfl, rfl, rfl⟩

set_option maxRecDepth 20000 in
set_option maxHeartbeats 1000000 in
theorem m_lines (hM : isMd sh) (T : Int) (hT : gl 193 0 = T) (h : 0 ≤ T ∧ T ≤ 60) : Ct mdX9_lines 0 0 [vR 190] gi gl sh (Rt (some (vI T)) gi gl sh) := by
  show Go mdX9_lines 0 0 0 [some (vR 190)] [] gi gl sh _
  refine g_aload_n dX9_lines_0 rfl ?_
  refine g_getR 3 dX9_lines_1 flX9_16 rfl hM.o hM.r3 ?_
  refine g_iconst dX9_lines_4 (by decide) ?_
  refine g_laload dX9_lines_5 hM.k193 (by omega) (hM.b193 (by omega)) ?_
  refine g_l2i dX9_lines_6 (by omega) (by omega) ?_
  refine g_ireturn dX9_lines_7 rfl ?_
  exact ⟨by rw [hT], rfl, rfl, rfl⟩

set_option maxRecDepth 20000 in
set_option maxHeartbeats 1000000 in
theorem m_passes (hM : isMd sh) (p n ch z : Int) (hp : gi 190 12 = p) (hn : gi 190 7 = n) (hp0 : 0 ≤ p ∧ p ≤ 1000) (hn0 : n ≤ 200) (hc : ch ≠ 0) (hz : Zq (t_at (gi 195) n p = ch) z) : Ct mdX9_passes 0 0 [vR 190, vI ch] gi gl sh (Rt (some (vI z)) (g_up gi 190 12 (p + z)) gl sh) := by
  show Go mdX9_passes 0 0 0 [some (vR 190), some (vI ch), none] [] gi gl sh _
  subst hp hn
  have ta : gi 190 12 < gi 190 7 → t_at (gi 195) (gi 190 7) (gi 190 12) = gi 195 (gi 190 12) := fun h => by unfold t_at; rw [if_pos (by omega)]
  have tb : ¬ gi 190 12 < gi 190 7 → t_at (gi 195) (gi 190 7) (gi 190 12) = 0 := fun h => by unfold t_at; rw [if_neg (by omega)]
  refine g_aload_n dX9_passes_0 rfl ?_
  refine g_getI 12 dX9_passes_1 flX9_96 rfl hM.o ?_
  refine g_aload_n dX9_passes_4 rfl ?_
  refine g_getI 7 dX9_passes_5 flX9_99 rfl hM.o ?_
  refine g_icmp_ge 28 dX9_passes_8 (by decide) (fun h8 => ?_) (fun h8 => ?_)
  · skip
    refine g_iconst dX9_passes_28 (by decide) ?_
    refine n_istore_n (lN := [_, _, _]) dX9_passes_29 (by decide) rfl ?_
    refine g_aload_n dX9_passes_30 rfl ?_
    refine g_dup dX9_passes_31 (fun _ h9 => by cases h9) ?_
    refine g_getI 12 dX9_passes_32 flX9_96 rfl hM.o ?_
    refine g_iload_n dX9_passes_35 rfl ?_
    refine g_if_eq 43 dX9_passes_36 (by decide) (fun h36 => ?_) (fun h36 => ?_)
    · skip
      refine g_iconst dX9_passes_43 (by decide) ?_
      refine g_iadd dX9_passes_44 (by omega) (by omega) ?_
      refine g_putI 12 dX9_passes_45 flX9_96 rfl hM.o ?_
      refine g_iload_n dX9_passes_48 rfl ?_
      refine g_zreturn dX9_passes_49 rfl (by decide) ?_
      have hz1 : z = 0 := by
        first
        | exact hz.1 (by rw [ta (by omega)]; omega)
        | exact hz.2 (by rw [ta (by omega)]; omega)
        | exact hz.2 (by rw [tb (by omega)]; omega)
      rw [hz1]
      exact ⟨rfl, rfl, rfl, rfl⟩
    · exact absurd h36 (by decide)
  · skip
    refine g_aload_n dX9_passes_11 rfl ?_
    refine g_getR 6 dX9_passes_12 flX9_23 rfl hM.o hM.r6 ?_
    refine g_aload_n dX9_passes_15 rfl ?_
    refine g_getI 12 dX9_passes_16 flX9_96 rfl hM.o ?_
    refine g_iaload dX9_passes_19 hM.k195 (by omega) (hM.b195 (by omega)) ?_
    refine g_iload_n dX9_passes_20 rfl ?_
    refine g_icmp_ne 28 dX9_passes_21 (by decide) (fun h21 => ?_) (fun h21 => ?_)
    · skip
      refine g_iconst dX9_passes_28 (by decide) ?_
      refine n_istore_n (lN := [_, _, _]) dX9_passes_29 (by decide) rfl ?_
      refine g_aload_n dX9_passes_30 rfl ?_
      refine g_dup dX9_passes_31 (fun _ h9 => by cases h9) ?_
      refine g_getI 12 dX9_passes_32 flX9_96 rfl hM.o ?_
      refine g_iload_n dX9_passes_35 rfl ?_
      refine g_if_eq 43 dX9_passes_36 (by decide) (fun h36 => ?_) (fun h36 => ?_)
      · skip
        refine g_iconst dX9_passes_43 (by decide) ?_
        refine g_iadd dX9_passes_44 (by omega) (by omega) ?_
        refine g_putI 12 dX9_passes_45 flX9_96 rfl hM.o ?_
        refine g_iload_n dX9_passes_48 rfl ?_
        refine g_zreturn dX9_passes_49 rfl (by decide) ?_
        have hz1 : z = 0 := by
          first
          | exact hz.1 (by rw [ta (by omega)]; omega)
          | exact hz.2 (by rw [ta (by omega)]; omega)
          | exact hz.2 (by rw [tb (by omega)]; omega)
        rw [hz1]
        exact ⟨rfl, rfl, rfl, rfl⟩
      · exact absurd h36 (by decide)
    · skip
      refine g_iconst dX9_passes_24 (by decide) ?_
      refine g_goto 29 dX9_passes_25 (by decide) ?_
      refine n_istore_n (lN := [_, _, _]) dX9_passes_29 (by decide) rfl ?_
      refine g_aload_n dX9_passes_30 rfl ?_
      refine g_dup dX9_passes_31 (fun _ h9 => by cases h9) ?_
      refine g_getI 12 dX9_passes_32 flX9_96 rfl hM.o ?_
      refine g_iload_n dX9_passes_35 rfl ?_
      refine g_if_eq 43 dX9_passes_36 (by decide) (fun h36 => ?_) (fun h36 => ?_)
      · exact absurd h36 (by decide)
      · skip
        refine g_iconst dX9_passes_39 (by decide) ?_
        refine g_goto 44 dX9_passes_40 (by decide) ?_
        refine g_iadd dX9_passes_44 (by omega) (by omega) ?_
        refine g_putI 12 dX9_passes_45 flX9_96 rfl hM.o ?_
        refine g_iload_n dX9_passes_48 rfl ?_
        refine g_zreturn dX9_passes_49 rfl (by decide) ?_
        have hz1 : z = 1 := by
          first
          | exact hz.1 (by rw [ta (by omega)]; omega)
          | exact hz.2 (by rw [ta (by omega)]; omega)
          | exact hz.2 (by rw [tb (by omega)]; omega)
        rw [hz1]
        exact ⟨rfl, rfl, rfl, rfl⟩

set_option maxRecDepth 20000 in
set_option maxHeartbeats 1000000 in
theorem m_isFigure (hM : isMd sh) (p n z : Int) (hp : gi 190 12 = p) (hn : gi 190 7 = n) (hp0 : 0 ≤ p ∧ p ≤ 1000) (hn0 : n ≤ 200) (hz : Zq (48 ≤ t_at (gi 195) n p ∧ t_at (gi 195) n p ≤ 57) z) : Ct mdX9_isFigure 0 0 [vR 190] gi gl sh (Rt (some (vI z)) gi gl sh) := by
  show Go mdX9_isFigure 0 0 0 [some (vR 190)] [] gi gl sh _
  subst hp hn
  have ta : gi 190 12 < gi 190 7 → t_at (gi 195) (gi 190 7) (gi 190 12) = gi 195 (gi 190 12) := fun h => by unfold t_at; rw [if_pos (by omega)]
  have tb : ¬ gi 190 12 < gi 190 7 → t_at (gi 195) (gi 190 7) (gi 190 12) = 0 := fun h => by unfold t_at; rw [if_neg (by omega)]
  have hzb := hz.b
  refine g_aload_n dX9_isFigure_0 rfl ?_
  refine g_getI 12 dX9_isFigure_1 flX9_96 rfl hM.o ?_
  refine g_aload_n dX9_isFigure_4 rfl ?_
  refine g_getI 7 dX9_isFigure_5 flX9_99 rfl hM.o ?_
  refine g_icmp_ge 37 dX9_isFigure_8 (by decide) (fun h8 => ?_) (fun h8 => ?_)
  · skip
    refine g_iconst dX9_isFigure_37 (by decide) ?_
    refine g_zreturn dX9_isFigure_38 rfl (by decide) ?_
    exact ⟨by first | (rw [show z = 1 by omega]; done) | (rw [show z = 0 by omega]; done) | (rw [hz.2 (by rw [tb (by omega)]; omega)]; done), rfl, rfl, rfl⟩
  · skip
    refine g_aload_n dX9_isFigure_11 rfl ?_
    refine g_getR 6 dX9_isFigure_12 flX9_23 rfl hM.o hM.r6 ?_
    refine g_aload_n dX9_isFigure_15 rfl ?_
    refine g_getI 12 dX9_isFigure_16 flX9_96 rfl hM.o ?_
    refine g_iaload dX9_isFigure_19 hM.k195 (by omega) (hM.b195 (by omega)) ?_
    refine g_i2l dX9_isFigure_20 ?_
    refine g_ldc2 (n := 48) dX9_isFigure_21 cnX9_102 (by decide) ?_
    refine g_ldc2 (n := 57) dX9_isFigure_24 cnX9_104 (by decide) ?_
    refine g_cSi [_, _, _] dX9_isFigure_27 mlX9_106 msX9_within (by decide) rfl rfl (Nat.le_of_ble_eq_true rfl) rfl (Nat.le_of_ble_eq_true rfl) (m_within _ _ _ z (by rw [← ta (by omega)]; exact hz)) ?_
    refine g_if_eq 37 dX9_isFigure_30 (by decide) (fun h30 => ?_) (fun h30 => ?_)
    · skip
      refine g_iconst dX9_isFigure_37 (by decide) ?_
      refine g_zreturn dX9_isFigure_38 rfl (by decide) ?_
      exact ⟨by first | (rw [show z = 1 by omega]; done) | (rw [show z = 0 by omega]; done) | (rw [hz.2 (by rw [tb (by omega)]; omega)]; done), rfl, rfl, rfl⟩
    · skip
      refine g_iconst dX9_isFigure_33 (by decide) ?_
      refine g_goto 38 dX9_isFigure_34 (by decide) ?_
      refine g_zreturn dX9_isFigure_38 rfl (by decide) ?_
      exact ⟨by first | (rw [show z = 1 by omega]; done) | (rw [show z = 0 by omega]; done) | (rw [hz.2 (by rw [tb (by omega)]; omega)]; done), rfl, rfl, rfl⟩

end MD1
