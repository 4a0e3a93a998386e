/-! THE REFERENCE'S WORLD -/
def mo (g : Nat → Int32) : List Value := [.int (g 0), .ref 288, .int (g 2), .ref 289, .int (g 4), .ref 290, .ref 291, .ref 292, .ref 293, .ref 294, .int (g 10), .int (g 11), .int (g 12), .int (g 13), .int (g 14), .int (g 15), .int (g 16), .int (g 17), .int (g 18), .int (g 19), .int (g 20), .ref 295, .ref 296, .ref 297, .ref 298, .ref 299, .ref 300, .ref 301, .ref 302, .ref 303, .ref 304, .ref 305, .ref 306, .ref 307, .ref 308, .ref 309, .ref 310, .ref 311, .int (g 38), .ref 312, .ref 313, .ref 314, .ref 315, .ref 316, .int (g 44), .ref 317, .ref 318, .ref 319, .int (g 48), .ref 320, .ref 321, .int (g 51), .ref 322, .ref 323, .int (g 54), .int (g 55), .ref 324, .int (g 57), .ref 325, .int (g 59), .ref 326, .ref 327, .ref 328, .ref 329, .ref 330]
def dfl (l : Nat) : KLaw := if l < 2 then ([], [(0, 1)]) else if l = 2 then ([], [(1, 3)]) else ([], [(0, 0)])
def brG (σ : Nat → List Value) : Nat → Nat → Int32 := fun j i => if j < 7 then ag σ (312 + j) i else 0
def mcode (G : Nat → Nat → Int32) : Nat → KCode → Prop
  | _, [] => True
  | p, (k, v) :: c => p < 840 ∧ G 5 p = nI k ∧ G 6 p = nI v ∧ mcode G (p + 1) c
def brAt (G : Nat → Nat → Int32) : Nat → Nat → List (KCode × KCode × KCode) → KCode → Prop
  | b, e, [], z => e = b + 1 ∧ G 0 b = nI 0 ∧ ∃ p, G 3 b = nI p ∧ G 4 b = nI (p + z.length) ∧ p + z.length ≤ 840 ∧ mcode G p z
  | b, e, (a, c, t) :: r, z => b < e ∧ G 0 b = nI 1 ∧ (∃ p, G 1 b = nI p ∧ G 2 b = nI (p + a.length) ∧ G 3 b = nI (p + a.length + c.length) ∧ G 4 b = nI (p + a.length + c.length + t.length) ∧ p + a.length + c.length + t.length ≤ 840 ∧ mcode G p a ∧ mcode G (p + a.length) c ∧ mcode G (p + a.length + c.length) t) ∧ brAt G (b + 1) e r z
theorem brAt_lt {G : Nat → Nat → Int32} : ∀ (r : List (KCode × KCode × KCode)) (z : KCode) (b e : Nat), brAt G b e r z → b < e
  | [], _, _, _, h => by have := h.1; omega
  | (_, _, _) :: _, _, _, _, h => h.1
def MD (P : Pl) (L : Nat) (g : Nat → Int32) (σ : Nat → List Value) : Prop := (σ 287 = mo g) ∧ (g 18 = nI L) ∧ (L < 2) ∧ (Pok P) ∧ (IsA σ 297 2) ∧ (ag σ 297 L = nI (Pch P)) ∧ (IsA σ 299 2) ∧ (ag σ 299 L = nI (Phd P)) ∧ (IsA σ 302 2) ∧ (ag σ 302 L = nI (Pvs P)) ∧ (IsA σ 306 2) ∧ (ag σ 306 L = nI (Pmo P)) ∧ (IsA σ 307 2) ∧ (ag σ 307 L = nI (Psa P)) ∧ (IsA σ 308 2) ∧ (ag σ 308 L = nI (Pmt P)) ∧ (IsA σ 309 2) ∧ (ag σ 309 L = nI (Psd P)) ∧ (IsA σ 298 8) ∧ (∀ i, i < Pch P → ag σ 298 (4 * L + i) = nI (Pme P i)) ∧ (IsA σ 300 10) ∧ (∀ i, i < Phd P → ag σ 300 (5 * L + i) = nI (Poi P i)) ∧ (IsA σ 301 40) ∧ (∀ i, i < Phd P * 4 → ag σ 301 (20 * L + i) = nI (Pow P i)) ∧ (IsA σ 303 20) ∧ (∀ i, i < Pvs P → ag σ 303 (10 * L + i) = nI (Pvh P i)) ∧ (IsA σ 304 20) ∧ (∀ i, i < Pvs P → ag σ 304 (10 * L + i) = nI (Pvc P i)) ∧ (IsA σ 305 20) ∧ (∀ i, i < Pvs P → ag σ 305 (10 * L + i) = nI (Pvt P i)) ∧ (IsA σ 310 8) ∧ (IsA σ 311 8) ∧ (IsA σ 312 260) ∧ (IsA σ 313 260) ∧ (IsA σ 314 260) ∧ (IsA σ 315 260) ∧ (IsA σ 316 260) ∧ (IsA σ 317 840) ∧ (IsA σ 318 840) ∧ (∀ l, l < 4 → ∃ f e, ag σ 310 (4 * L + l) = nI f ∧ ag σ 311 (4 * L + l) = nI e ∧ f ≤ 260 ∧ e ≤ 260 ∧ ((f = e ∧ Plw P l = dfl l) ∨ brAt (brG σ) f e (Plw P l).1 (Plw P l).2)) ∧ (IsA σ 320 9) ∧ (IsA σ 321 400) ∧ (IsA σ 324 4) ∧ (IsA σ 322 61) ∧ (IsA σ 323 61)
theorem md_o {P : Pl} {L : Nat} {g : Nat → Int32} {σ : Nat → List Value} (h : MD P L g σ) : σ 287 = mo g := h.1
theorem md_l {P : Pl} {L : Nat} {g : Nat → Int32} {σ : Nat → List Value} (h : MD P L g σ) : g 18 = nI L := h.2.1
theorem md_l2 {P : Pl} {L : Nat} {g : Nat → Int32} {σ : Nat → List Value} (h : MD P L g σ) : L < 2 := h.2.2.1
theorem md_pok {P : Pl} {L : Nat} {g : Nat → Int32} {σ : Nat → List Value} (h : MD P L g σ) : Pok P := h.2.2.2.1
theorem md_c297 {P : Pl} {L : Nat} {g : Nat → Int32} {σ : Nat → List Value} (h : MD P L g σ) : IsA σ 297 2 := h.2.2.2.2.1
theorem md_m297 {P : Pl} {L : Nat} {g : Nat → Int32} {σ : Nat → List Value} (h : MD P L g σ) : ag σ 297 L = nI (Pch P) := h.2.2.2.2.2.1
theorem md_c299 {P : Pl} {L : Nat} {g : Nat → Int32} {σ : Nat → List Value} (h : MD P L g σ) : IsA σ 299 2 := h.2.2.2.2.2.2.1
theorem md_m299 {P : Pl} {L : Nat} {g : Nat → Int32} {σ : Nat → List Value} (h : MD P L g σ) : ag σ 299 L = nI (Phd P) := h.2.2.2.2.2.2.2.1
theorem md_c302 {P : Pl} {L : Nat} {g : Nat → Int32} {σ : Nat → List Value} (h : MD P L g σ) : IsA σ 302 2 := h.2.2.2.2.2.2.2.2.1
theorem md_m302 {P : Pl} {L : Nat} {g : Nat → Int32} {σ : Nat → List Value} (h : MD P L g σ) : ag σ 302 L = nI (Pvs P) := h.2.2.2.2.2.2.2.2.2.1
theorem md_c306 {P : Pl} {L : Nat} {g : Nat → Int32} {σ : Nat → List Value} (h : MD P L g σ) : IsA σ 306 2 := h.2.2.2.2.2.2.2.2.2.2.1
theorem md_m306 {P : Pl} {L : Nat} {g : Nat → Int32} {σ : Nat → List Value} (h : MD P L g σ) : ag σ 306 L = nI (Pmo P) := h.2.2.2.2.2.2.2.2.2.2.2.1
theorem md_c307 {P : Pl} {L : Nat} {g : Nat → Int32} {σ : Nat → List Value} (h : MD P L g σ) : IsA σ 307 2 := h.2.2.2.2.2.2.2.2.2.2.2.2.1
theorem md_m307 {P : Pl} {L : Nat} {g : Nat → Int32} {σ : Nat → List Value} (h : MD P L g σ) : ag σ 307 L = nI (Psa P) := h.2.2.2.2.2.2.2.2.2.2.2.2.2.1
theorem md_c308 {P : Pl} {L : Nat} {g : Nat → Int32} {σ : Nat → List Value} (h : MD P L g σ) : IsA σ 308 2 := h.2.2.2.2.2.2.2.2.2.2.2.2.2.2.1
theorem md_m308 {P : Pl} {L : Nat} {g : Nat → Int32} {σ : Nat → List Value} (h : MD P L g σ) : ag σ 308 L = nI (Pmt P) := h.2.2.2.2.2.2.2.2.2.2.2.2.2.2.2.1
theorem md_c309 {P : Pl} {L : Nat} {g : Nat → Int32} {σ : Nat → List Value} (h : MD P L g σ) : IsA σ 309 2 := h.2.2.2.2.2.2.2.2.2.2.2.2.2.2.2.2.1
theorem md_m309 {P : Pl} {L : Nat} {g : Nat → Int32} {σ : Nat → List Value} (h : MD P L g σ) : ag σ 309 L = nI (Psd P) := h.2.2.2.2.2.2.2.2.2.2.2.2.2.2.2.2.2.1
theorem md_c298 {P : Pl} {L : Nat} {g : Nat → Int32} {σ : Nat → List Value} (h : MD P L g σ) : IsA σ 298 8 := h.2.2.2.2.2.2.2.2.2.2.2.2.2.2.2.2.2.2.1
theorem md_m298 {P : Pl} {L : Nat} {g : Nat → Int32} {σ : Nat → List Value} (h : MD P L g σ) : ∀ i, i < Pch P → ag σ 298 (4 * L + i) = nI (Pme P i) := h.2.2.2.2.2.2.2.2.2.2.2.2.2.2.2.2.2.2.2.1
theorem md_c300 {P : Pl} {L : Nat} {g : Nat → Int32} {σ : Nat → List Value} (h : MD P L g σ) : IsA σ 300 10 := h.2.2.2.2.2.2.2.2.2.2.2.2.2.2.2.2.2.2.2.2.1
theorem md_m300 {P : Pl} {L : Nat} {g : Nat → Int32} {σ : Nat → List Value} (h : MD P L g σ) : ∀ i, i < Phd P → ag σ 300 (5 * L + i) = nI (Poi P i) := h.2.2.2.2.2.2.2.2.2.2.2.2.2.2.2.2.2.2.2.2.2.1
theorem md_c301 {P : Pl} {L : Nat} {g : Nat → Int32} {σ : Nat → List Value} (h : MD P L g σ) : IsA σ 301 40 := h.2.2.2.2.2.2.2.2.2.2.2.2.2.2.2.2.2.2.2.2.2.2.1
theorem md_m301 {P : Pl} {L : Nat} {g : Nat → Int32} {σ : Nat → List Value} (h : MD P L g σ) : ∀ i, i < Phd P * 4 → ag σ 301 (20 * L + i) = nI (Pow P i) := h.2.2.2.2.2.2.2.2.2.2.2.2.2.2.2.2.2.2.2.2.2.2.2.1
theorem md_c303 {P : Pl} {L : Nat} {g : Nat → Int32} {σ : Nat → List Value} (h : MD P L g σ) : IsA σ 303 20 := h.2.2.2.2.2.2.2.2.2.2.2.2.2.2.2.2.2.2.2.2.2.2.2.2.1
theorem md_m303 {P : Pl} {L : Nat} {g : Nat → Int32} {σ : Nat → List Value} (h : MD P L g σ) : ∀ i, i < Pvs P → ag σ 303 (10 * L + i) = nI (Pvh P i) := h.2.2.2.2.2.2.2.2.2.2.2.2.2.2.2.2.2.2.2.2.2.2.2.2.2.1
theorem md_c304 {P : Pl} {L : Nat} {g : Nat → Int32} {σ : Nat → List Value} (h : MD P L g σ) : IsA σ 304 20 := h.2.2.2.2.2.2.2.2.2.2.2.2.2.2.2.2.2.2.2.2.2.2.2.2.2.2.1
theorem md_m304 {P : Pl} {L : Nat} {g : Nat → Int32} {σ : Nat → List Value} (h : MD P L g σ) : ∀ i, i < Pvs P → ag σ 304 (10 * L + i) = nI (Pvc P i) := h.2.2.2.2.2.2.2.2.2.2.2.2.2.2.2.2.2.2.2.2.2.2.2.2.2.2.2.1
theorem md_c305 {P : Pl} {L : Nat} {g : Nat → Int32} {σ : Nat → List Value} (h : MD P L g σ) : IsA σ 305 20 := h.2.2.2.2.2.2.2.2.2.2.2.2.2.2.2.2.2.2.2.2.2.2.2.2.2.2.2.2.1
theorem md_m305 {P : Pl} {L : Nat} {g : Nat → Int32} {σ : Nat → List Value} (h : MD P L g σ) : ∀ i, i < Pvs P → ag σ 305 (10 * L + i) = nI (Pvt P i) := h.2.2.2.2.2.2.2.2.2.2.2.2.2.2.2.2.2.2.2.2.2.2.2.2.2.2.2.2.2.1
theorem md_c310 {P : Pl} {L : Nat} {g : Nat → Int32} {σ : Nat → List Value} (h : MD P L g σ) : IsA σ 310 8 := h.2.2.2.2.2.2.2.2.2.2.2.2.2.2.2.2.2.2.2.2.2.2.2.2.2.2.2.2.2.2.1
theorem md_c311 {P : Pl} {L : Nat} {g : Nat → Int32} {σ : Nat → List Value} (h : MD P L g σ) : IsA σ 311 8 := h.2.2.2.2.2.2.2.2.2.2.2.2.2.2.2.2.2.2.2.2.2.2.2.2.2.2.2.2.2.2.2.1
theorem md_c312 {P : Pl} {L : Nat} {g : Nat → Int32} {σ : Nat → List Value} (h : MD P L g σ) : IsA σ 312 260 := h.2.2.2.2.2.2.2.2.2.2.2.2.2.2.2.2.2.2.2.2.2.2.2.2.2.2.2.2.2.2.2.2.1
theorem md_c313 {P : Pl} {L : Nat} {g : Nat → Int32} {σ : Nat → List Value} (h : MD P L g σ) : IsA σ 313 260 := h.2.2.2.2.2.2.2.2.2.2.2.2.2.2.2.2.2.2.2.2.2.2.2.2.2.2.2.2.2.2.2.2.2.1
theorem md_c314 {P : Pl} {L : Nat} {g : Nat → Int32} {σ : Nat → List Value} (h : MD P L g σ) : IsA σ 314 260 := h.2.2.2.2.2.2.2.2.2.2.2.2.2.2.2.2.2.2.2.2.2.2.2.2.2.2.2.2.2.2.2.2.2.2.1
theorem md_c315 {P : Pl} {L : Nat} {g : Nat → Int32} {σ : Nat → List Value} (h : MD P L g σ) : IsA σ 315 260 := h.2.2.2.2.2.2.2.2.2.2.2.2.2.2.2.2.2.2.2.2.2.2.2.2.2.2.2.2.2.2.2.2.2.2.2.1
theorem md_c316 {P : Pl} {L : Nat} {g : Nat → Int32} {σ : Nat → List Value} (h : MD P L g σ) : IsA σ 316 260 := h.2.2.2.2.2.2.2.2.2.2.2.2.2.2.2.2.2.2.2.2.2.2.2.2.2.2.2.2.2.2.2.2.2.2.2.2.1
theorem md_c317 {P : Pl} {L : Nat} {g : Nat → Int32} {σ : Nat → List Value} (h : MD P L g σ) : IsA σ 317 840 := h.2.2.2.2.2.2.2.2.2.2.2.2.2.2.2.2.2.2.2.2.2.2.2.2.2.2.2.2.2.2.2.2.2.2.2.2.2.1
theorem md_c318 {P : Pl} {L : Nat} {g : Nat → Int32} {σ : Nat → List Value} (h : MD P L g σ) : IsA σ 318 840 := h.2.2.2.2.2.2.2.2.2.2.2.2.2.2.2.2.2.2.2.2.2.2.2.2.2.2.2.2.2.2.2.2.2.2.2.2.2.2.1
theorem md_law {P : Pl} {L : Nat} {g : Nat → Int32} {σ : Nat → List Value} (h : MD P L g σ) : ∀ l, l < 4 → ∃ f e, ag σ 310 (4 * L + l) = nI f ∧ ag σ 311 (4 * L + l) = nI e ∧ f ≤ 260 ∧ e ≤ 260 ∧ ((f = e ∧ Plw P l = dfl l) ∨ brAt (brG σ) f e (Plw P l).1 (Plw P l).2) := h.2.2.2.2.2.2.2.2.2.2.2.2.2.2.2.2.2.2.2.2.2.2.2.2.2.2.2.2.2.2.2.2.2.2.2.2.2.2.2.1
theorem md_c320 {P : Pl} {L : Nat} {g : Nat → Int32} {σ : Nat → List Value} (h : MD P L g σ) : IsA σ 320 9 := h.2.2.2.2.2.2.2.2.2.2.2.2.2.2.2.2.2.2.2.2.2.2.2.2.2.2.2.2.2.2.2.2.2.2.2.2.2.2.2.2.1
theorem md_c321 {P : Pl} {L : Nat} {g : Nat → Int32} {σ : Nat → List Value} (h : MD P L g σ) : IsA σ 321 400 := h.2.2.2.2.2.2.2.2.2.2.2.2.2.2.2.2.2.2.2.2.2.2.2.2.2.2.2.2.2.2.2.2.2.2.2.2.2.2.2.2.2.1
theorem md_c324 {P : Pl} {L : Nat} {g : Nat → Int32} {σ : Nat → List Value} (h : MD P L g σ) : IsA σ 324 4 := h.2.2.2.2.2.2.2.2.2.2.2.2.2.2.2.2.2.2.2.2.2.2.2.2.2.2.2.2.2.2.2.2.2.2.2.2.2.2.2.2.2.2.1
theorem md_c322 {P : Pl} {L : Nat} {g : Nat → Int32} {σ : Nat → List Value} (h : MD P L g σ) : IsA σ 322 61 := h.2.2.2.2.2.2.2.2.2.2.2.2.2.2.2.2.2.2.2.2.2.2.2.2.2.2.2.2.2.2.2.2.2.2.2.2.2.2.2.2.2.2.2.1
theorem md_c323 {P : Pl} {L : Nat} {g : Nat → Int32} {σ : Nat → List Value} (h : MD P L g σ) : IsA σ 323 61 := h.2.2.2.2.2.2.2.2.2.2.2.2.2.2.2.2.2.2.2.2.2.2.2.2.2.2.2.2.2.2.2.2.2.2.2.2.2.2.2.2.2.2.2.2
theorem brG_eq {σ σ' : Nat → List Value} (e0 : σ' 312 = σ 312) (e1 : σ' 313 = σ 313) (e2 : σ' 314 = σ 314) (e3 : σ' 315 = σ 315) (e4 : σ' 316 = σ 316) (e5 : σ' 317 = σ 317) (e6 : σ' 318 = σ 318) : brG σ' = brG σ := by
  funext j i
  unfold brG
  match j with
  | 0 => exact ag_eq e0 i
  | 1 => exact ag_eq e1 i
  | 2 => exact ag_eq e2 i
  | 3 => exact ag_eq e3 i
  | 4 => exact ag_eq e4 i
  | 5 => exact ag_eq e5 i
  | 6 => exact ag_eq e6 i
  | j + 7 => rw [if_neg (by omega), if_neg (by omega)]
def mdl : List Nat := [297, 298, 299, 300, 301, 302, 303, 304, 305, 306, 307, 308, 309, 310, 311, 312, 313, 314, 315, 316, 317, 318]
theorem md_fr {P : Pl} {L : Nat} {g g' : Nat → Int32} {σ σ' : Nat → List Value} {X : Nat → Bool} (h : MD P L g σ) (hF : Fr X σ σ') (hX : ∀ p ∈ mdl, X p = false) (ho : σ' 287 = mo g') (hl : g' 18 = g 18) (h320 : IsA σ' 320 9) (h321 : IsA σ' 321 400) (h324 : IsA σ' 324 4) (h322 : IsA σ' 322 61) (h323 : IsA σ' 323 61) : MD P L g' σ' := by
  have e297 : σ' 297 = σ 297 := hF 297 (hX 297 (by decide))
  have e298 : σ' 298 = σ 298 := hF 298 (hX 298 (by decide))
  have e299 : σ' 299 = σ 299 := hF 299 (hX 299 (by decide))
  have e300 : σ' 300 = σ 300 := hF 300 (hX 300 (by decide))
  have e301 : σ' 301 = σ 301 := hF 301 (hX 301 (by decide))
  have e302 : σ' 302 = σ 302 := hF 302 (hX 302 (by decide))
  have e303 : σ' 303 = σ 303 := hF 303 (hX 303 (by decide))
  have e304 : σ' 304 = σ 304 := hF 304 (hX 304 (by decide))
  have e305 : σ' 305 = σ 305 := hF 305 (hX 305 (by decide))
  have e306 : σ' 306 = σ 306 := hF 306 (hX 306 (by decide))
  have e307 : σ' 307 = σ 307 := hF 307 (hX 307 (by decide))
  have e308 : σ' 308 = σ 308 := hF 308 (hX 308 (by decide))
  have e309 : σ' 309 = σ 309 := hF 309 (hX 309 (by decide))
  have e310 : σ' 310 = σ 310 := hF 310 (hX 310 (by decide))
  have e311 : σ' 311 = σ 311 := hF 311 (hX 311 (by decide))
  have e312 : σ' 312 = σ 312 := hF 312 (hX 312 (by decide))
  have e313 : σ' 313 = σ 313 := hF 313 (hX 313 (by decide))
  have e314 : σ' 314 = σ 314 := hF 314 (hX 314 (by decide))
  have e315 : σ' 315 = σ 315 := hF 315 (hX 315 (by decide))
  have e316 : σ' 316 = σ 316 := hF 316 (hX 316 (by decide))
  have e317 : σ' 317 = σ 317 := hF 317 (hX 317 (by decide))
  have e318 : σ' 318 = σ 318 := hF 318 (hX 318 (by decide))
  exact ⟨ho, hl.trans (md_l h), md_l2 h, md_pok h, isA_eq e297 (md_c297 h), by rw [ag_fun e297]; exact md_m297 h, isA_eq e299 (md_c299 h), by rw [ag_fun e299]; exact md_m299 h, isA_eq e302 (md_c302 h), by rw [ag_fun e302]; exact md_m302 h, isA_eq e306 (md_c306 h), by rw [ag_fun e306]; exact md_m306 h, isA_eq e307 (md_c307 h), by rw [ag_fun e307]; exact md_m307 h, isA_eq e308 (md_c308 h), by rw [ag_fun e308]; exact md_m308 h, isA_eq e309 (md_c309 h), by rw [ag_fun e309]; exact md_m309 h, isA_eq e298 (md_c298 h), by rw [ag_fun e298]; exact md_m298 h, isA_eq e300 (md_c300 h), by rw [ag_fun e300]; exact md_m300 h, isA_eq e301 (md_c301 h), by rw [ag_fun e301]; exact md_m301 h, isA_eq e303 (md_c303 h), by rw [ag_fun e303]; exact md_m303 h, isA_eq e304 (md_c304 h), by rw [ag_fun e304]; exact md_m304 h, isA_eq e305 (md_c305 h), by rw [ag_fun e305]; exact md_m305 h, isA_eq e310 (md_c310 h), isA_eq e311 (md_c311 h), isA_eq e312 (md_c312 h), isA_eq e313 (md_c313 h), isA_eq e314 (md_c314 h), isA_eq e315 (md_c315 h), isA_eq e316 (md_c316 h), isA_eq e317 (md_c317 h), isA_eq e318 (md_c318 h), by rw [ag_fun e310, ag_fun e311, brG_eq e312 e313 e314 e315 e316 e317 e318]; exact md_law h, h320, h321, h324, h322, h323⟩

theorem md_u320 {P : Pl} {L : Nat} {g : Nat → Int32} {σ : Nat → List Value} {f : Nat → Int32} (h : MD P L g σ) : MD P L g (up σ 320 (arr 9 f)) := md_fr (X := fun j => j == 320) h (fr_up (fr_refl _ _) rfl) (by decide) ((up_ne _ _ (by decide)).trans (md_o h)) rfl (isA_of (up_same _ _ _)) (isA_eq (up_ne _ _ (by decide)) (md_c321 h)) (isA_eq (up_ne _ _ (by decide)) (md_c324 h)) (isA_eq (up_ne _ _ (by decide)) (md_c322 h)) (isA_eq (up_ne _ _ (by decide)) (md_c323 h))
theorem md_u321 {P : Pl} {L : Nat} {g : Nat → Int32} {σ : Nat → List Value} {f : Nat → Int32} (h : MD P L g σ) : MD P L g (up σ 321 (arr 400 f)) := md_fr (X := fun j => j == 321) h (fr_up (fr_refl _ _) rfl) (by decide) ((up_ne _ _ (by decide)).trans (md_o h)) rfl (isA_eq (up_ne _ _ (by decide)) (md_c320 h)) (isA_of (up_same _ _ _)) (isA_eq (up_ne _ _ (by decide)) (md_c324 h)) (isA_eq (up_ne _ _ (by decide)) (md_c322 h)) (isA_eq (up_ne _ _ (by decide)) (md_c323 h))
theorem md_u324 {P : Pl} {L : Nat} {g : Nat → Int32} {σ : Nat → List Value} {f : Nat → Int32} (h : MD P L g σ) : MD P L g (up σ 324 (arr 4 f)) := md_fr (X := fun j => j == 324) h (fr_up (fr_refl _ _) rfl) (by decide) ((up_ne _ _ (by decide)).trans (md_o h)) rfl (isA_eq (up_ne _ _ (by decide)) (md_c320 h)) (isA_eq (up_ne _ _ (by decide)) (md_c321 h)) (isA_of (up_same _ _ _)) (isA_eq (up_ne _ _ (by decide)) (md_c322 h)) (isA_eq (up_ne _ _ (by decide)) (md_c323 h))
theorem md_u322 {P : Pl} {L : Nat} {g : Nat → Int32} {σ : Nat → List Value} {f : Nat → Int32} (h : MD P L g σ) : MD P L g (up σ 322 (arr 61 f)) := md_fr (X := fun j => j == 322) h (fr_up (fr_refl _ _) rfl) (by decide) ((up_ne _ _ (by decide)).trans (md_o h)) rfl (isA_eq (up_ne _ _ (by decide)) (md_c320 h)) (isA_eq (up_ne _ _ (by decide)) (md_c321 h)) (isA_eq (up_ne _ _ (by decide)) (md_c324 h)) (isA_of (up_same _ _ _)) (isA_eq (up_ne _ _ (by decide)) (md_c323 h))
theorem md_u323 {P : Pl} {L : Nat} {g : Nat → Int32} {σ : Nat → List Value} {f : Nat → Int32} (h : MD P L g σ) : MD P L g (up σ 323 (arr 61 f)) := md_fr (X := fun j => j == 323) h (fr_up (fr_refl _ _) rfl) (by decide) ((up_ne _ _ (by decide)).trans (md_o h)) rfl (isA_eq (up_ne _ _ (by decide)) (md_c320 h)) (isA_eq (up_ne _ _ (by decide)) (md_c321 h)) (isA_eq (up_ne _ _ (by decide)) (md_c324 h)) (isA_eq (up_ne _ _ (by decide)) (md_c322 h)) (isA_of (up_same _ _ _))
theorem md_u287 {P : Pl} {L : Nat} {g g' : Nat → Int32} {σ : Nat → List Value} (h : MD P L g σ) (hl : g' 18 = g 18) : MD P L g' (up σ 287 (mo g')) := md_fr (X := fun j => j == 287) h (fr_up (fr_refl _ _) rfl) (by decide) (up_same _ _ _) hl (isA_eq (up_ne _ _ (by decide)) (md_c320 h)) (isA_eq (up_ne _ _ (by decide)) (md_c321 h)) (isA_eq (up_ne _ _ (by decide)) (md_c324 h)) (isA_eq (up_ne _ _ (by decide)) (md_c322 h)) (isA_eq (up_ne _ _ (by decide)) (md_c323 h))
theorem wq_mput {xs : List Int32} {d : Nat} {cd : List ax_I} {i b : Nat} {lv : ax_L} {r : List Value} {σ : Nat → List Value} {Q : Option Value → (Nat → List Value) → Prop} {v : Value} {t : List (Int × Nat)} {g : Nat → Int32} {x : Int32} {nm : String} {ts : List FieldType} {ty : FieldType} (h : cd[i]? = some (23, 12, b, v, t)) (hs : σ 287 = mo g) (hct : ax_cts[12]? = some (nm, ts)) (hty : ts[b]? = some ty) (hset : (mo g).set b (.int x) = mo (upd g b x)) (hf : ax_fit ty (.int x) = true) (K : Wq xs d cd (i + 1) lv r (up σ 287 (mo (upd g b x))) Q) : Wq xs d cd i lv (.int x :: .ref 287 :: r) σ Q := by
  have hb : b < (mo g).length := by
    have hl : ts.length = (mo g).length := by
      have : ax_cts[12]? = some (nm, ts) := hct
      cases hct
      rfl
    rw [← hl]
    exact (List.getElem?_eq_some_iff.mp hty).1
  refine wq_putf h rfl (by decide) hs hct hty hf hb ?_
  rw [hset]
  exact K
def FrG (Y : Nat → Bool) (g g' : Nat → Int32) : Prop := ∀ b, Y b = false → g' b = g b
theorem fg_refl (Y : Nat → Bool) (g : Nat → Int32) : FrG Y g g := fun _ _ => rfl
theorem fg_trans {Y : Nat → Bool} {g g' g'' : Nat → Int32} (h : FrG Y g g') (h' : FrG Y g' g'') : FrG Y g g'' := fun b hb => (h' b hb).trans (h b hb)
theorem fg_up {Y : Nat → Bool} {g g' : Nat → Int32} {b : Nat} {x : Int32} (h : FrG Y g g') (hb : Y b = true) : FrG Y g (upd g' b x) := by
  intro j hj
  have : j ≠ b := fun e => by subst e; rw [hb] at hj; cases hj
  simp only [upd]
  rw [if_neg this]
  exact h j hj
theorem fg_mono {Y Z : Nat → Bool} {g g' : Nat → Int32} (h : FrG Y g g') (hYZ : ∀ j, Y j = true → Z j = true) : FrG Z g g' := by
  intro j hj
  apply h j
  cases hx : Y j with
  | false => rfl
  | true => rw [hYZ j hx] at hj; cases hj
def yB : Nat → Bool := fun b => b == 51
def yC : Nat → Bool := fun b => b == 51 || b == 54 || b == 55
theorem yB_C : ∀ j, yB j = true → yC j = true := by
  intro j h
  simp only [yB, yC, Bool.or_eq_true] at h ⊢
  exact Or.inl (Or.inl h)
/-! ROWS -/
def bitN (x k : Nat) : Nat := if x.testBit k then 1 else 0
def rowF (S : St) (j : Nat) : Nat := if j < 16 then Ssq S j else if j < 20 then bitN (Ssc S) (j - 16) else if j < 24 then Ssi S (j - 20) else if j < 44 then Sow S (j - 24) else if j < 49 then Ssb S (j - 44) else if j < 59 then bitN (Skp S) (j - 49) else if j = 59 then Shr S else Ssd S
theorem rf_a (S : St) {j : Nat} (h : j < 16) : rowF S j = Ssq S j := if_pos h
theorem rf_b (S : St) {j : Nat} (h1 : 16 ≤ j) (h : j < 20) : rowF S j = bitN (Ssc S) (j - 16) := by
  unfold rowF
  rw [if_neg (by omega), if_pos h]
theorem rf_c (S : St) {j : Nat} (h1 : 20 ≤ j) (h : j < 24) : rowF S j = Ssi S (j - 20) := by
  unfold rowF
  rw [if_neg (by omega), if_neg (by omega), if_pos h]
theorem rf_d (S : St) {j : Nat} (h1 : 24 ≤ j) (h : j < 44) : rowF S j = Sow S (j - 24) := by
  unfold rowF
  rw [if_neg (by omega), if_neg (by omega), if_neg (by omega), if_pos h]
theorem rf_e (S : St) {j : Nat} (h1 : 44 ≤ j) (h : j < 49) : rowF S j = Ssb S (j - 44) := by
  unfold rowF
  rw [if_neg (by omega), if_neg (by omega), if_neg (by omega), if_neg (by omega), if_pos h]
theorem rf_f (S : St) {j : Nat} (h1 : 49 ≤ j) (h : j < 59) : rowF S j = bitN (Skp S) (j - 49) := by
  unfold rowF
  rw [if_neg (by omega), if_neg (by omega), if_neg (by omega), if_neg (by omega), if_neg (by omega), if_pos h]
theorem rf_sq (S : St) {c t : Nat} (hc : c < 4) (ht : t < 4) : rowF S (4 * c + t) = Ssq S (c * 4 + t) := by
  rw [rf_a S (by omega), show 4 * c + t = c * 4 + t by omega]
theorem rf_sc (S : St) {c : Nat} (hc : c < 4) : rowF S (16 + c) = bitN (Ssc S) c := by
  rw [rf_b S (by omega) (by omega), show 16 + c - 16 = c by omega]
theorem rf_si (S : St) {c : Nat} (hc : c < 4) : rowF S (20 + c) = Ssi S c := by
  rw [rf_c S (by omega) (by omega), show 20 + c - 20 = c by omega]
theorem rf_ow (S : St) {h t : Nat} (hh : h < 5) (ht : t < 4) : rowF S (24 + 4 * h + t) = Sow S (h * 4 + t) := by
  rw [rf_d S (by omega) (by omega), show 24 + 4 * h + t - 24 = h * 4 + t by omega]
theorem rf_sb (S : St) {h : Nat} (hh : h < 5) : rowF S (44 + h) = Ssb S h := by
  rw [rf_e S (by omega) (by omega), show 44 + h - 44 = h by omega]
theorem rf_kp (S : St) {i : Nat} (hi : i < 10) : rowF S (49 + i) = bitN (Skp S) i := by
  rw [rf_f S (by omega) (by omega), show 49 + i - 49 = i by omega]
theorem rf_hr (S : St) : rowF S 59 = Shr S := rfl
theorem rf_sd (S : St) : rowF S 60 = Ssd S := rfl
theorem bitN_le (x k : Nat) : bitN x k ≤ 1 := by
  unfold bitN
  split <;> omega
theorem bitN_1 {x k : Nat} (h : bitN x k = 1) : x.testBit k = true := by
  unfold bitN at h
  split at h
  · assumption
  · omega
theorem bitN_0 {x k : Nat} (h : ¬ bitN x k = 1) : x.testBit k = false := by
  unfold bitN at h
  split at h
  · omega
  · next e => exact Bool.eq_false_iff.mpr e
theorem s4_eq (f : Nat → Nat) (i : Nat) : s4 f i = f i + f (i + 1) + f (i + 2) + f (i + 3) := by
  simp [s4, sumF]
theorem s4_sq (S : St) {c : Nat} (hc : c < 4) : s4 (rowF S) (4 * c) = s4 (Ssq S) (c * 4) := by
  rw [s4_eq, s4_eq, rf_a S (by omega), rf_a S (by omega), rf_a S (by omega), rf_a S (by omega), show 4 * c = c * 4 by omega]
theorem s4_ow (S : St) {h : Nat} (hh : h < 5) : s4 (rowF S) (24 + 4 * h) = s4 (Sow S) (h * 4) := by
  rw [s4_eq, s4_eq, rf_d S (by omega) (by omega), rf_d S (by omega) (by omega), rf_d S (by omega) (by omega), rf_d S (by omega) (by omega), show 24 + 4 * h - 24 = h * 4 by omega, show 24 + 4 * h + 1 - 24 = h * 4 + 1 by omega, show 24 + 4 * h + 2 - 24 = h * 4 + 2 by omega, show 24 + 4 * h + 3 - 24 = h * 4 + 3 by omega]
def RwIs (σ : Nat → List Value) (S : St) : Prop := σ 323 = arrN 61 (rowF S)
def NwIs (σ : Nat → List Value) (S : St) : Prop := σ 322 = arrN 61 (rowF S)
theorem clr_x : ∀ k, k < 10 → ∀ x, x < 1024 → clr x k = if x.testBit k then x ^^^ 2 ^ k else x := by decide +kernel
theorem clr_bit {x k j : Nat} (hk : k < 10) (hx : x < 1024) : (clr x k).testBit j = (x.testBit j && !decide (j = k)) := by
  rw [clr_x k hk x hx]
  by_cases h : x.testBit k = true
  · rw [if_pos h, Nat.testBit_xor]
    by_cases e : j = k
    · subst e
      rw [Nat.testBit_two_pow_self, h]
      simp
    · rw [Nat.testBit_two_pow_of_ne (fun q => e q.symm)]
      simp [e]
  · rw [if_neg h]
    by_cases e : j = k
    · subst e
      simp [Bool.eq_false_iff.mpr h]
    · simp [e]
theorem or_bit {x k j : Nat} : (x ||| 2 ^ k).testBit j = (x.testBit j || decide (j = k)) := by
  rw [Nat.testBit_or]
  by_cases e : j = k
  · subst e
    rw [Nat.testBit_two_pow_self]
    simp
  · rw [Nat.testBit_two_pow_of_ne (fun q => e q.symm)]
    simp [e]
theorem bitN_clr {x k : Nat} (hk : k < 10) (hx : x < 1024) (j : Nat) : bitN (clr x k) j = if j = k then 0 else bitN x j := by
  unfold bitN
  rw [clr_bit hk hx]
  by_cases e : j = k <;> simp [e]
theorem bitN_or (x k j : Nat) : bitN (x ||| 2 ^ k) j = if j = k then 1 else bitN x j := by
  unfold bitN
  rw [or_bit]
  by_cases e : j = k <;> simp [e]

theorem rf_SO (S : St) {h c t x y : Nat} (hh : h < 5) (hc : c < 4) (ht : t < 4) {i : Nat} (hi : i < 61) : updN (updN (rowF S) (4 * c + t) y) (24 + 4 * h + t) x i = rowF (setSO S (c * 4 + t) y (h * 4 + t) x) i := by
  by_cases q0 : i = 24 + 4 * h + t
  · subst q0
    rw [updN_same, rf_ow (setSO S (c * 4 + t) y (h * 4 + t) x) hh ht]
    exact (updN_same _ _ _).symm
  · skip
    by_cases q1 : i = 4 * c + t
    · subst q1
      rw [updN_ne _ _ (by omega), updN_same, rf_sq (setSO S (c * 4 + t) y (h * 4 + t) x) hc ht]
      exact (updN_same _ _ _).symm
    · skip
      rw [ updN_ne _ _ q0, updN_ne _ _ q1 ]
      rcases (show i < 16 ∨ (16 ≤ i ∧ i < 20) ∨ (20 ≤ i ∧ i < 24) ∨ (24 ≤ i ∧ i < 44) ∨ (44 ≤ i ∧ i < 49) ∨ (49 ≤ i ∧ i < 59) ∨ i = 59 ∨ i = 60 by omega) with q | ⟨q, r⟩ | ⟨q, r⟩ | ⟨q, r⟩ | ⟨q, r⟩ | ⟨q, r⟩ | q | q
      · rw [rf_a S q, rf_a (setSO S (c * 4 + t) y (h * 4 + t) x) q]
        first | rfl | exact (updN_ne _ _ (by omega)).symm
      · rw [rf_b S q r, rf_b (setSO S (c * 4 + t) y (h * 4 + t) x) q r]
        first | rfl | exact (updN_ne _ _ (by omega)).symm
      · rw [rf_c S q r, rf_c (setSO S (c * 4 + t) y (h * 4 + t) x) q r]
        first | rfl | exact (updN_ne _ _ (by omega)).symm
      · rw [rf_d S q r, rf_d (setSO S (c * 4 + t) y (h * 4 + t) x) q r]
        first | rfl | exact (updN_ne _ _ (by omega)).symm
      · rw [rf_e S q r, rf_e (setSO S (c * 4 + t) y (h * 4 + t) x) q r]
        first | rfl | exact (updN_ne _ _ (by omega)).symm
      · rw [rf_f S q r, rf_f (setSO S (c * 4 + t) y (h * 4 + t) x) q r]
        first | rfl | exact (updN_ne _ _ (by omega)).symm
      · subst q
        first | rfl | omega
      · subst q
        first | rfl | omega
theorem rf_SD (S : St) {c t x y : Nat} (hc : c < 4) (ht : t < 4) {i : Nat} (hi : i < 61) : updN (updN (rowF S) (4 * c + t) x) 60 y i = rowF (setSD S (c * 4 + t) x y) i := by
  by_cases q0 : i = 60
  · subst q0
    rw [updN_same]
    rfl
  · skip
    by_cases q1 : i = 4 * c + t
    · subst q1
      rw [updN_ne _ _ (by omega), updN_same, rf_sq (setSD S (c * 4 + t) x y) hc ht]
      exact (updN_same _ _ _).symm
    · skip
      rw [ updN_ne _ _ q0, updN_ne _ _ q1 ]
      rcases (show i < 16 ∨ (16 ≤ i ∧ i < 20) ∨ (20 ≤ i ∧ i < 24) ∨ (24 ≤ i ∧ i < 44) ∨ (44 ≤ i ∧ i < 49) ∨ (49 ≤ i ∧ i < 59) ∨ i = 59 ∨ i = 60 by omega) with q | ⟨q, r⟩ | ⟨q, r⟩ | ⟨q, r⟩ | ⟨q, r⟩ | ⟨q, r⟩ | q | q
      · rw [rf_a S q, rf_a (setSD S (c * 4 + t) x y) q]
        first | rfl | exact (updN_ne _ _ (by omega)).symm
      · rw [rf_b S q r, rf_b (setSD S (c * 4 + t) x y) q r]
        first | rfl | exact (updN_ne _ _ (by omega)).symm
      · rw [rf_c S q r, rf_c (setSD S (c * 4 + t) x y) q r]
        first | rfl | exact (updN_ne _ _ (by omega)).symm
      · rw [rf_d S q r, rf_d (setSD S (c * 4 + t) x y) q r]
        first | rfl | exact (updN_ne _ _ (by omega)).symm
      · rw [rf_e S q r, rf_e (setSD S (c * 4 + t) x y) q r]
        first | rfl | exact (updN_ne _ _ (by omega)).symm
      · rw [rf_f S q r, rf_f (setSD S (c * 4 + t) x y) q r]
        first | rfl | exact (updN_ne _ _ (by omega)).symm
      · subst q
        first | rfl | omega
      · subst q
        first | rfl | omega
theorem rf_OD (S : St) {h t x y : Nat} (hh : h < 5) (ht : t < 4) {i : Nat} (hi : i < 61) : updN (updN (rowF S) (24 + 4 * h + t) x) 60 y i = rowF (setOD S (h * 4 + t) x y) i := by
  by_cases q0 : i = 60
  · subst q0
    rw [updN_same]
    rfl
  · skip
    by_cases q1 : i = 24 + 4 * h + t
    · subst q1
      rw [updN_ne _ _ (by omega), updN_same, rf_ow (setOD S (h * 4 + t) x y) hh ht]
      exact (updN_same _ _ _).symm
    · skip
      rw [ updN_ne _ _ q0, updN_ne _ _ q1 ]
      rcases (show i < 16 ∨ (16 ≤ i ∧ i < 20) ∨ (20 ≤ i ∧ i < 24) ∨ (24 ≤ i ∧ i < 44) ∨ (44 ≤ i ∧ i < 49) ∨ (49 ≤ i ∧ i < 59) ∨ i = 59 ∨ i = 60 by omega) with q | ⟨q, r⟩ | ⟨q, r⟩ | ⟨q, r⟩ | ⟨q, r⟩ | ⟨q, r⟩ | q | q
      · rw [rf_a S q, rf_a (setOD S (h * 4 + t) x y) q]
        first | rfl | exact (updN_ne _ _ (by omega)).symm
      · rw [rf_b S q r, rf_b (setOD S (h * 4 + t) x y) q r]
        first | rfl | exact (updN_ne _ _ (by omega)).symm
      · rw [rf_c S q r, rf_c (setOD S (h * 4 + t) x y) q r]
        first | rfl | exact (updN_ne _ _ (by omega)).symm
      · rw [rf_d S q r, rf_d (setOD S (h * 4 + t) x y) q r]
        first | rfl | exact (updN_ne _ _ (by omega)).symm
      · rw [rf_e S q r, rf_e (setOD S (h * 4 + t) x y) q r]
        first | rfl | exact (updN_ne _ _ (by omega)).symm
      · rw [rf_f S q r, rf_f (setOD S (h * 4 + t) x y) q r]
        first | rfl | exact (updN_ne _ _ (by omega)).symm
      · subst q
        first | rfl | omega
      · subst q
        first | rfl | omega
theorem rf_sat (S : St) {h c : Nat} (hh : h < 5) (hc : c < 4) {i : Nat} (hi : i < 61) : updN (updN (rowF S) (20 + c) (Ssi S c + 1)) (44 + h) (Ssb S h + 1) i = rowF (satS S h c) i := by
  by_cases q0 : i = 44 + h
  · subst q0
    rw [updN_same, rf_sb (satS S h c) hh]
    exact (updN_same _ _ _).symm
  · skip
    by_cases q1 : i = 20 + c
    · subst q1
      rw [updN_ne _ _ (by omega), updN_same, rf_si (satS S h c) hc]
      exact (updN_same _ _ _).symm
    · skip
      rw [ updN_ne _ _ q0, updN_ne _ _ q1 ]
      rcases (show i < 16 ∨ (16 ≤ i ∧ i < 20) ∨ (20 ≤ i ∧ i < 24) ∨ (24 ≤ i ∧ i < 44) ∨ (44 ≤ i ∧ i < 49) ∨ (49 ≤ i ∧ i < 59) ∨ i = 59 ∨ i = 60 by omega) with q | ⟨q, r⟩ | ⟨q, r⟩ | ⟨q, r⟩ | ⟨q, r⟩ | ⟨q, r⟩ | q | q
      · rw [rf_a S q, rf_a (satS S h c) q]
        first | rfl | exact (updN_ne _ _ (by omega)).symm
      · rw [rf_b S q r, rf_b (satS S h c) q r]
        first | rfl | exact (updN_ne _ _ (by omega)).symm
      · rw [rf_c S q r, rf_c (satS S h c) q r]
        first | rfl | exact (updN_ne _ _ (by omega)).symm
      · rw [rf_d S q r, rf_d (satS S h c) q r]
        first | rfl | exact (updN_ne _ _ (by omega)).symm
      · rw [rf_e S q r, rf_e (satS S h c) q r]
        first | rfl | exact (updN_ne _ _ (by omega)).symm
      · rw [rf_f S q r, rf_f (satS S h c) q r]
        first | rfl | exact (updN_ne _ _ (by omega)).symm
      · subst q
        first | rfl | omega
      · subst q
        first | rfl | omega
theorem rf_cl (S : St) {c : Nat} (hc : c < 4) (hs : Ssc S < 16) {i : Nat} (hi : i < 61) : updN (rowF S) (16 + c) 0 i = rowF (setSc S (clr (Ssc S) c)) i := by
  by_cases q0 : i = 16 + c
  · subst q0
    rw [updN_same, rf_sc (setSc S (clr (Ssc S) c)) hc]
    show 0 = bitN (clr (Ssc S) c) c
    rw [bitN_clr (by omega) (by omega), if_pos rfl]
  · skip
    rw [ updN_ne _ _ q0 ]
    rcases (show i < 16 ∨ (16 ≤ i ∧ i < 20) ∨ (20 ≤ i ∧ i < 24) ∨ (24 ≤ i ∧ i < 44) ∨ (44 ≤ i ∧ i < 49) ∨ (49 ≤ i ∧ i < 59) ∨ i = 59 ∨ i = 60 by omega) with q | ⟨q, r⟩ | ⟨q, r⟩ | ⟨q, r⟩ | ⟨q, r⟩ | ⟨q, r⟩ | q | q
    · rw [rf_a S q, rf_a (setSc S (clr (Ssc S) c)) q]
      first | rfl | (show bitN (Ssc S) (i - 16) = bitN (clr (Ssc S) c) (i - 16); rw [bitN_clr (by omega) (by omega), if_neg (by omega)])
    · rw [rf_b S q r, rf_b (setSc S (clr (Ssc S) c)) q r]
      first | rfl | (show bitN (Ssc S) (i - 16) = bitN (clr (Ssc S) c) (i - 16); rw [bitN_clr (by omega) (by omega), if_neg (by omega)])
    · rw [rf_c S q r, rf_c (setSc S (clr (Ssc S) c)) q r]
      first | rfl | (show bitN (Ssc S) (i - 16) = bitN (clr (Ssc S) c) (i - 16); rw [bitN_clr (by omega) (by omega), if_neg (by omega)])
    · rw [rf_d S q r, rf_d (setSc S (clr (Ssc S) c)) q r]
      first | rfl | (show bitN (Ssc S) (i - 16) = bitN (clr (Ssc S) c) (i - 16); rw [bitN_clr (by omega) (by omega), if_neg (by omega)])
    · rw [rf_e S q r, rf_e (setSc S (clr (Ssc S) c)) q r]
      first | rfl | (show bitN (Ssc S) (i - 16) = bitN (clr (Ssc S) c) (i - 16); rw [bitN_clr (by omega) (by omega), if_neg (by omega)])
    · rw [rf_f S q r, rf_f (setSc S (clr (Ssc S) c)) q r]
      first | rfl | (show bitN (Ssc S) (i - 16) = bitN (clr (Ssc S) c) (i - 16); rw [bitN_clr (by omega) (by omega), if_neg (by omega)])
    · subst q
      first | rfl | omega
    · subst q
      first | rfl | omega
theorem rf_st (S : St) {c : Nat} (hc : c < 4) {i : Nat} (hi : i < 61) : updN (rowF S) (16 + c) 1 i = rowF (setSc S (Ssc S ||| 2 ^ c)) i := by
  by_cases q0 : i = 16 + c
  · subst q0
    rw [updN_same, rf_sc (setSc S (Ssc S ||| 2 ^ c)) hc]
    show 1 = bitN (Ssc S ||| 2 ^ c) c
    rw [bitN_or, if_pos rfl]
  · skip
    rw [ updN_ne _ _ q0 ]
    rcases (show i < 16 ∨ (16 ≤ i ∧ i < 20) ∨ (20 ≤ i ∧ i < 24) ∨ (24 ≤ i ∧ i < 44) ∨ (44 ≤ i ∧ i < 49) ∨ (49 ≤ i ∧ i < 59) ∨ i = 59 ∨ i = 60 by omega) with q | ⟨q, r⟩ | ⟨q, r⟩ | ⟨q, r⟩ | ⟨q, r⟩ | ⟨q, r⟩ | q | q
    · rw [rf_a S q, rf_a (setSc S (Ssc S ||| 2 ^ c)) q]
      first | rfl | (show bitN (Ssc S) (i - 16) = bitN (Ssc S ||| 2 ^ c) (i - 16); rw [bitN_or, if_neg (by omega)])
    · rw [rf_b S q r, rf_b (setSc S (Ssc S ||| 2 ^ c)) q r]
      first | rfl | (show bitN (Ssc S) (i - 16) = bitN (Ssc S ||| 2 ^ c) (i - 16); rw [bitN_or, if_neg (by omega)])
    · rw [rf_c S q r, rf_c (setSc S (Ssc S ||| 2 ^ c)) q r]
      first | rfl | (show bitN (Ssc S) (i - 16) = bitN (Ssc S ||| 2 ^ c) (i - 16); rw [bitN_or, if_neg (by omega)])
    · rw [rf_d S q r, rf_d (setSc S (Ssc S ||| 2 ^ c)) q r]
      first | rfl | (show bitN (Ssc S) (i - 16) = bitN (Ssc S ||| 2 ^ c) (i - 16); rw [bitN_or, if_neg (by omega)])
    · rw [rf_e S q r, rf_e (setSc S (Ssc S ||| 2 ^ c)) q r]
      first | rfl | (show bitN (Ssc S) (i - 16) = bitN (Ssc S ||| 2 ^ c) (i - 16); rw [bitN_or, if_neg (by omega)])
    · rw [rf_f S q r, rf_f (setSc S (Ssc S ||| 2 ^ c)) q r]
      first | rfl | (show bitN (Ssc S) (i - 16) = bitN (Ssc S ||| 2 ^ c) (i - 16); rw [bitN_or, if_neg (by omega)])
    · subst q
      first | rfl | omega
    · subst q
      first | rfl | omega
theorem rf_k0 (S : St) {c : Nat} (hc : c < 10) (hs : Skp S < 1024) {i : Nat} (hi : i < 61) : updN (rowF S) (49 + c) 0 i = rowF (setKp S (clr (Skp S) c)) i := by
  by_cases q0 : i = 49 + c
  · subst q0
    rw [updN_same, rf_kp (setKp S (clr (Skp S) c)) hc]
    show 0 = bitN (clr (Skp S) c) c
    rw [bitN_clr (by omega) (by omega), if_pos rfl]
  · skip
    rw [ updN_ne _ _ q0 ]
    rcases (show i < 16 ∨ (16 ≤ i ∧ i < 20) ∨ (20 ≤ i ∧ i < 24) ∨ (24 ≤ i ∧ i < 44) ∨ (44 ≤ i ∧ i < 49) ∨ (49 ≤ i ∧ i < 59) ∨ i = 59 ∨ i = 60 by omega) with q | ⟨q, r⟩ | ⟨q, r⟩ | ⟨q, r⟩ | ⟨q, r⟩ | ⟨q, r⟩ | q | q
    · rw [rf_a S q, rf_a (setKp S (clr (Skp S) c)) q]
      first | rfl | (show bitN (Skp S) (i - 49) = bitN (clr (Skp S) c) (i - 49); rw [bitN_clr (by omega) (by omega), if_neg (by omega)])
    · rw [rf_b S q r, rf_b (setKp S (clr (Skp S) c)) q r]
      first | rfl | (show bitN (Skp S) (i - 49) = bitN (clr (Skp S) c) (i - 49); rw [bitN_clr (by omega) (by omega), if_neg (by omega)])
    · rw [rf_c S q r, rf_c (setKp S (clr (Skp S) c)) q r]
      first | rfl | (show bitN (Skp S) (i - 49) = bitN (clr (Skp S) c) (i - 49); rw [bitN_clr (by omega) (by omega), if_neg (by omega)])
    · rw [rf_d S q r, rf_d (setKp S (clr (Skp S) c)) q r]
      first | rfl | (show bitN (Skp S) (i - 49) = bitN (clr (Skp S) c) (i - 49); rw [bitN_clr (by omega) (by omega), if_neg (by omega)])
    · rw [rf_e S q r, rf_e (setKp S (clr (Skp S) c)) q r]
      first | rfl | (show bitN (Skp S) (i - 49) = bitN (clr (Skp S) c) (i - 49); rw [bitN_clr (by omega) (by omega), if_neg (by omega)])
    · rw [rf_f S q r, rf_f (setKp S (clr (Skp S) c)) q r]
      first | rfl | (show bitN (Skp S) (i - 49) = bitN (clr (Skp S) c) (i - 49); rw [bitN_clr (by omega) (by omega), if_neg (by omega)])
    · subst q
      first | rfl | omega
    · subst q
      first | rfl | omega
theorem rf_k1 (S : St) {c : Nat} (hc : c < 10) {i : Nat} (hi : i < 61) : updN (rowF S) (49 + c) 1 i = rowF (setKp S (Skp S ||| 2 ^ c)) i := by
  by_cases q0 : i = 49 + c
  · subst q0
    rw [updN_same, rf_kp (setKp S (Skp S ||| 2 ^ c)) hc]
    show 1 = bitN (Skp S ||| 2 ^ c) c
    rw [bitN_or, if_pos rfl]
  · skip
    rw [ updN_ne _ _ q0 ]
    rcases (show i < 16 ∨ (16 ≤ i ∧ i < 20) ∨ (20 ≤ i ∧ i < 24) ∨ (24 ≤ i ∧ i < 44) ∨ (44 ≤ i ∧ i < 49) ∨ (49 ≤ i ∧ i < 59) ∨ i = 59 ∨ i = 60 by omega) with q | ⟨q, r⟩ | ⟨q, r⟩ | ⟨q, r⟩ | ⟨q, r⟩ | ⟨q, r⟩ | q | q
    · rw [rf_a S q, rf_a (setKp S (Skp S ||| 2 ^ c)) q]
      first | rfl | (show bitN (Skp S) (i - 49) = bitN (Skp S ||| 2 ^ c) (i - 49); rw [bitN_or, if_neg (by omega)])
    · rw [rf_b S q r, rf_b (setKp S (Skp S ||| 2 ^ c)) q r]
      first | rfl | (show bitN (Skp S) (i - 49) = bitN (Skp S ||| 2 ^ c) (i - 49); rw [bitN_or, if_neg (by omega)])
    · rw [rf_c S q r, rf_c (setKp S (Skp S ||| 2 ^ c)) q r]
      first | rfl | (show bitN (Skp S) (i - 49) = bitN (Skp S ||| 2 ^ c) (i - 49); rw [bitN_or, if_neg (by omega)])
    · rw [rf_d S q r, rf_d (setKp S (Skp S ||| 2 ^ c)) q r]
      first | rfl | (show bitN (Skp S) (i - 49) = bitN (Skp S ||| 2 ^ c) (i - 49); rw [bitN_or, if_neg (by omega)])
    · rw [rf_e S q r, rf_e (setKp S (Skp S ||| 2 ^ c)) q r]
      first | rfl | (show bitN (Skp S) (i - 49) = bitN (Skp S ||| 2 ^ c) (i - 49); rw [bitN_or, if_neg (by omega)])
    · rw [rf_f S q r, rf_f (setKp S (Skp S ||| 2 ^ c)) q r]
      first | rfl | (show bitN (Skp S) (i - 49) = bitN (Skp S ||| 2 ^ c) (i - 49); rw [bitN_or, if_neg (by omega)])
    · subst q
      first | rfl | omega
    · subst q
      first | rfl | omega
theorem rf_h1 (S : St) {x : Nat} {i : Nat} (hi : i < 61) : updN (rowF S) 59 x i = rowF (setHr S x) i := by
  by_cases q0 : i = 59
  · subst q0
    rw [updN_same]
    rfl
  · skip
    rw [ updN_ne _ _ q0 ]
    rcases (show i < 16 ∨ (16 ≤ i ∧ i < 20) ∨ (20 ≤ i ∧ i < 24) ∨ (24 ≤ i ∧ i < 44) ∨ (44 ≤ i ∧ i < 49) ∨ (49 ≤ i ∧ i < 59) ∨ i = 59 ∨ i = 60 by omega) with q | ⟨q, r⟩ | ⟨q, r⟩ | ⟨q, r⟩ | ⟨q, r⟩ | ⟨q, r⟩ | q | q
    · rw [rf_a S q, rf_a (setHr S x) q]
      first | rfl | exact (updN_ne _ _ (by omega)).symm
    · rw [rf_b S q r, rf_b (setHr S x) q r]
      first | rfl | exact (updN_ne _ _ (by omega)).symm
    · rw [rf_c S q r, rf_c (setHr S x) q r]
      first | rfl | exact (updN_ne _ _ (by omega)).symm
    · rw [rf_d S q r, rf_d (setHr S x) q r]
      first | rfl | exact (updN_ne _ _ (by omega)).symm
    · rw [rf_e S q r, rf_e (setHr S x) q r]
      first | rfl | exact (updN_ne _ _ (by omega)).symm
    · rw [rf_f S q r, rf_f (setHr S x) q r]
      first | rfl | exact (updN_ne _ _ (by omega)).symm
    · subst q
      first | rfl | omega
    · subst q
      first | rfl | omega
theorem rw_up {σ : Nat → List Value} {f : Nat → Nat} {S : St} (h : ∀ i, i < 61 → f i = rowF S i) : RwIs (up σ 323 (arrN 61 f)) S := (up_same _ _ _).trans (arrN_congr h)
/-! CHECKS OF ARGUMENTS -/
def dec (n : Nat) (x : Int32) : Option Nat := if x < 0 then none else if x.toNatClampNeg < n then some x.toNatClampNeg else none
theorem dec_some {n h : Nat} (hh : h < n) (hn : n < 2 ^ 31) : dec n (nI h) = some h := by
  unfold dec
  rw [if_neg (nI_pos (by omega)), nI_clamp (by omega), if_pos hh]
theorem dec_none {n : Nat} {x : Int32} (hx : ∀ h, h < n → x ≠ nI h) : dec n x = none := by
  unfold dec
  split
  · rfl
  · next h0 =>
    obtain ⟨j, hj, e⟩ := nI_of h0
    subst e
    rw [nI_clamp hj, if_neg (fun q => hx j q rfl)]
theorem dec_lt {n h : Nat} {x : Int32} (e : dec n x = some h) : h < n ∧ x = nI h := by
  unfold dec at e
  split at e
  · cases e
  · next h0 =>
    obtain ⟨j, hj, q⟩ := nI_of h0
    subst q
    rw [nI_clamp hj] at e
    split at e
    · cases e
      exact ⟨by assumption, rfl⟩
    · cases e
theorem dec_zI {n : Nat} {p : Int} (hn : n < 2 ^ 31) (hp : zok p) : dec n (zI p) = if 0 ≤ p ∧ p < n then some p.toNat else none := by
  by_cases h : 0 ≤ p ∧ p < n
  · rw [if_pos h]
    obtain ⟨m, rfl⟩ : ∃ m : Nat, p = m := ⟨p.toNat, by omega⟩
    rw [← nI_z, dec_some (by omega) hn]
    rfl
  · rw [if_neg h]
    apply dec_none
    intro m hm e
    rw [nI_z] at e
    have := (zI_eq hp ⟨by omega, by omega⟩).mp e
    omega
theorem m_in {xs : List Int32} {d : Nat} {σ : Nat → List Value} {Q : Option Value → (Nat → List Value) → Prop} {x : Int32} {n : Nat} (hn : n < 2 ^ 30) (K1 : ∀ h, h < n → x = nI h → dec n x = some h → Q (some (.int (nI 1))) σ) (K0 : dec n x = none → Q (some (.int (nI 0))) σ) : Wq xs (d + 0) ax_cd254 0 [(0, .int x), (1, .int (nI 0)), (2, .int (zI ((n : Int) - ((1 : Nat) : Int))))] [] σ Q := by
  obtain ⟨p, hp, e⟩ := zI_of x
  subst e
  have hn : n < 2 ^ 31 := by omega
  have hp' := hp
  obtain ⟨hp1, hp2⟩ := hp'
  refine wq_go rfl (fun _ => rfl) ?_
  refine wq_go rfl (fun _ => rfl) ?_
  refine wq_dlt rfl rfl (nI_z _) (by first | omega | decide | exact Nat.lt_of_le_of_lt Nat.and_le_right (by decide) | exact ⟨by omega, by omega⟩) (by first | omega | decide | exact Nat.lt_of_le_of_lt Nat.and_le_right (by decide) | exact ⟨by omega, by omega⟩) (fun c2 => ?_) (fun c2 => ?_)
  · skip
    refine wq_cN (m := 0) rfl rfl ?_
    refine wq_nret rfl (by decide) ?_
    first | exact K1 p.toNat (by omega) (by rw [nI_z]; congr 1; omega) (by rw [dec_zI hn hp, if_pos ⟨by omega, by omega⟩]) | exact K0 (by rw [dec_zI hn hp, if_neg (by omega)])
  · skip
    refine wq_go rfl (fun _ => rfl) ?_
    refine wq_go rfl (fun _ => rfl) ?_
    refine wq_dgt rfl rfl rfl (by first | omega | decide | exact Nat.lt_of_le_of_lt Nat.and_le_right (by decide) | exact ⟨by omega, by omega⟩) (by first | omega | decide | exact Nat.lt_of_le_of_lt Nat.and_le_right (by decide) | exact ⟨by omega, by omega⟩) (fun c5 => ?_) (fun c5 => ?_)
    · skip
      refine wq_cN (m := 0) rfl rfl ?_
      refine wq_nret rfl (by decide) ?_
      first | exact K1 p.toNat (by omega) (by rw [nI_z]; congr 1; omega) (by rw [dec_zI hn hp, if_pos ⟨by omega, by omega⟩]) | exact K0 (by rw [dec_zI hn hp, if_neg (by omega)])
    · skip
      refine wq_cN (m := 1) rfl rfl ?_
      refine wq_go rfl (fun _ => rfl) ?_
      refine wq_nret rfl (by decide) ?_
      first | exact K1 p.toNat (by omega) (by rw [nI_z]; congr 1; omega) (by rw [dec_zI hn hp, if_pos ⟨by omega, by omega⟩]) | exact K0 (by rw [dec_zI hn hp, if_neg (by omega)])
theorem m_inZ {xs : List Int32} {d : Nat} {σ : Nat → List Value} {Q : Option Value → (Nat → List Value) → Prop} {p lo hi : Int} (hp : zok p) (hl : zok lo) (hh : zok hi) (K1 : lo ≤ p → p ≤ hi → Q (some (.int (nI 1))) σ) (K0 : ¬ (lo ≤ p ∧ p ≤ hi) → Q (some (.int (nI 0))) σ) : Wq xs (d + 0) ax_cd254 0 [(0, .int (zI p)), (1, .int (zI lo)), (2, .int (zI hi))] [] σ Q := by
  refine wq_go rfl (fun _ => rfl) ?_
  refine wq_go rfl (fun _ => rfl) ?_
  refine wq_dlt rfl rfl rfl (by assumption) (by assumption) (fun c2 => ?_) (fun c2 => ?_)
  · skip
    refine wq_cN (m := 0) rfl rfl ?_
    refine wq_nret rfl (by decide) ?_
    first | exact K1 (by omega) (by omega) | exact K0 (by omega)
  · skip
    refine wq_go rfl (fun _ => rfl) ?_
    refine wq_go rfl (fun _ => rfl) ?_
    refine wq_dgt rfl rfl rfl (by assumption) (by assumption) (fun c5 => ?_) (fun c5 => ?_)
    · skip
      refine wq_cN (m := 0) rfl rfl ?_
      refine wq_nret rfl (by decide) ?_
      first | exact K1 (by omega) (by omega) | exact K0 (by omega)
    · skip
      refine wq_cN (m := 1) rfl rfl ?_
      refine wq_go rfl (fun _ => rfl) ?_
      refine wq_nret rfl (by decide) ?_
      first | exact K1 (by omega) (by omega) | exact K0 (by omega)
theorem m_isChair {xs : List Int32} {d : Nat} {σ : Nat → List Value} {Q : Option Value → (Nat → List Value) → Prop} {P : Pl} {L : Nat} {g : Nat → Int32} (hM : MD P L g σ) {x : Int32} (K1 : ∀ h, h < Pch P → x = nI h → dec (Pch P) x = some h → Q (some (.int (nI 1))) σ) (K0 : dec (Pch P) x = none → Q (some (.int (nI 0))) σ) : Wq xs (d + 1) ax_cd253 0 [(0, .ref 287), (1, .int x)] [] σ Q := by
  have hL2 := md_l2 hM
  obtain ⟨hP1, hP2, hP3, hP4, hP5, hP6, hP7, hP8, hPv, hPm, hPo, hPw, hPl⟩ := md_pok hM
  refine wq_go rfl (fun _ => rfl) ?_
  refine wq_cN (m := 0) rfl rfl ?_
  refine wq_go rfl (fun _ => rfl) ?_
  refine wq_getf rfl (by first | rfl | assumption) (by first | decide | omega | assumption) (md_o hM) rfl ?_
  refine wq_go rfl (fun _ => rfl) ?_
  refine wq_getf rfl (by first | rfl | assumption) (by first | decide | omega | assumption) (md_o hM) rfl ?_
  refine wq_top (md_l hM) ?_
  refine wq_iald rfl (by first | rfl | assumption) (by first | decide | omega | assumption) (md_c297 hM) rfl (by omega) (by first | decide | omega) ?_
  refine wq_top (md_m297 hM) ?_
  refine wq_cN (m := 1) rfl rfl ?_
  refine wq_subZ rfl (nI_z _) (nI_z _) ?_
  refine wq_callS rfl (Nat.le_of_ble_eq_true rfl) rfl (Nat.le_of_ble_eq_true rfl) (Nat.le_of_ble_eq_true rfl) rfl rfl ?_
  refine m_in (n := Pch P) (by omega) (fun h h1 h2 h3 => ?_) (fun h3 => ?_)
  · refine wq_nret rfl (by decide) ?_
    exact K1 h h1 h2 h3
  · refine wq_nret rfl (by decide) ?_
    exact K0 h3
theorem m_isHead {xs : List Int32} {d : Nat} {σ : Nat → List Value} {Q : Option Value → (Nat → List Value) → Prop} {P : Pl} {L : Nat} {g : Nat → Int32} (hM : MD P L g σ) {x : Int32} (K1 : ∀ h, h < Phd P → x = nI h → dec (Phd P) x = some h → Q (some (.int (nI 1))) σ) (K0 : dec (Phd P) x = none → Q (some (.int (nI 0))) σ) : Wq xs (d + 1) ax_cd256 0 [(0, .ref 287), (1, .int x)] [] σ Q := by
  have hL2 := md_l2 hM
  obtain ⟨hP1, hP2, hP3, hP4, hP5, hP6, hP7, hP8, hPv, hPm, hPo, hPw, hPl⟩ := md_pok hM
  refine wq_go rfl (fun _ => rfl) ?_
  refine wq_cN (m := 0) rfl rfl ?_
  refine wq_go rfl (fun _ => rfl) ?_
  refine wq_getf rfl (by first | rfl | assumption) (by first | decide | omega | assumption) (md_o hM) rfl ?_
  refine wq_go rfl (fun _ => rfl) ?_
  refine wq_getf rfl (by first | rfl | assumption) (by first | decide | omega | assumption) (md_o hM) rfl ?_
  refine wq_top (md_l hM) ?_
  refine wq_iald rfl (by first | rfl | assumption) (by first | decide | omega | assumption) (md_c299 hM) rfl (by omega) (by first | decide | omega) ?_
  refine wq_top (md_m299 hM) ?_
  refine wq_cN (m := 1) rfl rfl ?_
  refine wq_subZ rfl (nI_z _) (nI_z _) ?_
  refine wq_callS rfl (Nat.le_of_ble_eq_true rfl) rfl (Nat.le_of_ble_eq_true rfl) (Nat.le_of_ble_eq_true rfl) rfl rfl ?_
  refine m_in (n := Phd P) (by omega) (fun h h1 h2 h3 => ?_) (fun h3 => ?_)
  · refine wq_nret rfl (by decide) ?_
    exact K1 h h1 h2 h3
  · refine wq_nret rfl (by decide) ?_
    exact K0 h3
theorem m_isVisit {xs : List Int32} {d : Nat} {σ : Nat → List Value} {Q : Option Value → (Nat → List Value) → Prop} {P : Pl} {L : Nat} {g : Nat → Int32} (hM : MD P L g σ) {x : Int32} (K1 : ∀ h, h < Pvs P → x = nI h → dec (Pvs P) x = some h → Q (some (.int (nI 1))) σ) (K0 : dec (Pvs P) x = none → Q (some (.int (nI 0))) σ) : Wq xs (d + 1) ax_cd261 0 [(0, .ref 287), (1, .int x)] [] σ Q := by
  have hL2 := md_l2 hM
  obtain ⟨hP1, hP2, hP3, hP4, hP5, hP6, hP7, hP8, hPv, hPm, hPo, hPw, hPl⟩ := md_pok hM
  refine wq_go rfl (fun _ => rfl) ?_
  refine wq_cN (m := 0) rfl rfl ?_
  refine wq_go rfl (fun _ => rfl) ?_
  refine wq_getf rfl (by first | rfl | assumption) (by first | decide | omega | assumption) (md_o hM) rfl ?_
  refine wq_go rfl (fun _ => rfl) ?_
  refine wq_getf rfl (by first | rfl | assumption) (by first | decide | omega | assumption) (md_o hM) rfl ?_
  refine wq_top (md_l hM) ?_
  refine wq_iald rfl (by first | rfl | assumption) (by first | decide | omega | assumption) (md_c302 hM) rfl (by omega) (by first | decide | omega) ?_
  refine wq_top (md_m302 hM) ?_
  refine wq_cN (m := 1) rfl rfl ?_
  refine wq_subZ rfl (nI_z _) (nI_z _) ?_
  refine wq_callS rfl (Nat.le_of_ble_eq_true rfl) rfl (Nat.le_of_ble_eq_true rfl) (Nat.le_of_ble_eq_true rfl) rfl rfl ?_
  refine m_in (n := Pvs P) (by omega) (fun h h1 h2 h3 => ?_) (fun h3 => ?_)
  · refine wq_nret rfl (by decide) ?_
    exact K1 h h1 h2 h3
  · refine wq_nret rfl (by decide) ?_
    exact K0 h3
theorem m_isThought {xs : List Int32} {d : Nat} {σ : Nat → List Value} {Q : Option Value → (Nat → List Value) → Prop} {x : Int32} (K1 : ∀ h, h < 4 → x = nI h → dec 4 x = some h → Q (some (.int (nI 1))) σ) (K0 : dec 4 x = none → Q (some (.int (nI 0))) σ) : Wq xs (d + 1) ax_cd263 0 [(0, .int x)] [] σ Q := by
  refine wq_go rfl (fun _ => rfl) ?_
  refine wq_cN (m := 0) rfl rfl ?_
  refine wq_cN (m := 3) rfl rfl ?_
  refine wq_callS rfl (Nat.le_of_ble_eq_true rfl) rfl (Nat.le_of_ble_eq_true rfl) (Nat.le_of_ble_eq_true rfl) rfl rfl ?_
  refine m_in (n := 4) (by decide) (fun h h1 h2 h3 => ?_) (fun h3 => ?_)
  · refine wq_nret rfl (by decide) ?_
    exact K1 h h1 h2 h3
  · refine wq_nret rfl (by decide) ?_
    exact K0 h3
theorem m_isLong {xs : List Int32} {d : Nat} {σ : Nat → List Value} {Q : Option Value → (Nat → List Value) → Prop} {x : Int32} (K1 : ∀ h, h < 73 → x = nI h → dec 73 x = some h → Q (some (.int (nI 1))) σ) (K0 : dec 73 x = none → Q (some (.int (nI 0))) σ) : Wq xs (d + 1) ax_cd284 0 [(0, .int x)] [] σ Q := by
  refine wq_go rfl (fun _ => rfl) ?_
  refine wq_cN (m := 0) rfl rfl ?_
  refine wq_cN (m := 72) rfl rfl ?_
  refine wq_callS rfl (Nat.le_of_ble_eq_true rfl) rfl (Nat.le_of_ble_eq_true rfl) (Nat.le_of_ble_eq_true rfl) rfl rfl ?_
  refine m_in (n := 73) (by decide) (fun h h1 h2 h3 => ?_) (fun h3 => ?_)
  · refine wq_nret rfl (by decide) ?_
    exact K1 h h1 h2 h3
  · refine wq_nret rfl (by decide) ?_
    exact K0 h3
theorem wit_1 {x : Int32} {m : Nat} (hm : m < 2 ^ 31) (h : x < nI 0) : nI (cpN x m) = nI 0 := by
  rw [cpN_nI, if_pos (show x < 0 from h)]
  rfl
theorem wit_2 {x : Int32} {m : Nat} (h0 : ¬ x < nI 0) (h : nI m < x) : nI (cpN x m) = nI m := by
  rw [cpN_nI, if_neg (show ¬ x < 0 from h0), if_pos h]
theorem wit_3 {x : Int32} {m : Nat} (h0 : ¬ x < nI 0) (h : ¬ nI m < x) : nI (cpN x m) = x := by
  rw [cpN_nI, if_neg (show ¬ x < 0 from h0), if_neg h]
theorem m_within {xs : List Int32} {d : Nat} {σ : Nat → List Value} {Q : Option Value → (Nat → List Value) → Prop} {x : Int32} {m : Nat} (hm : m < 2 ^ 31) (K : Q (some (.int (nI (cpN x m)))) σ) : Wq xs (d + 0) ax_cd270 0 [(0, .int x), (1, .int (nI 0)), (2, .int (nI m))] [] σ Q := by
  by_cases h0 : x < nI 0
  · rw [wit_1 hm h0] at K
    refine wq_go rfl (fun _ => rfl) ?_
    refine wq_go rfl (fun _ => rfl) ?_
    refine wq_cmp rfl (fun c => absurd (c.symm.trans (decide_eq_false (fun e => absurd (Int32.lt_of_lt_of_le h0 e) Int32.lt_irrefl))) (by decide)) (fun c2 => ?_)
    refine wq_go rfl (fun _ => rfl) ?_
    refine wq_go rfl (fun _ => rfl) ?_
    refine wq_iret rfl ?_
    exact K
  · by_cases h1 : nI m < x
    · rw [wit_2 h0 h1] at K
      refine wq_go rfl (fun _ => rfl) ?_
      refine wq_go rfl (fun _ => rfl) ?_
      refine wq_cmp rfl (fun c2 => ?_) (fun c => absurd (c.symm.trans (decide_eq_true (Int32.not_lt.mp h0))) (by decide))
      refine wq_go rfl (fun _ => rfl) ?_
      refine wq_go rfl (fun _ => rfl) ?_
      refine wq_cmp rfl (fun c => absurd (c.symm.trans (decide_eq_false (fun e => absurd (Int32.lt_of_lt_of_le h1 e) Int32.lt_irrefl))) (by decide)) (fun c7 => ?_)
      refine wq_go rfl (fun _ => rfl) ?_
      refine wq_go rfl (fun _ => rfl) ?_
      refine wq_iret rfl ?_
      exact K
    · rw [wit_3 h0 h1] at K
      refine wq_go rfl (fun _ => rfl) ?_
      refine wq_go rfl (fun _ => rfl) ?_
      refine wq_cmp rfl (fun c2 => ?_) (fun c => absurd (c.symm.trans (decide_eq_true (Int32.not_lt.mp h0))) (by decide))
      refine wq_go rfl (fun _ => rfl) ?_
      refine wq_go rfl (fun _ => rfl) ?_
      refine wq_cmp rfl (fun c7 => ?_) (fun c => absurd (c.symm.trans (decide_eq_true (Int32.not_lt.mp h1))) (by decide))
      refine wq_go rfl (fun _ => rfl) ?_
      refine wq_iret rfl ?_
      exact K
theorem m_four {xs : List Int32} {d : Nat} {σ : Nat → List Value} {Q : Option Value → (Nat → List Value) → Prop} {P : Pl} {L : Nat} {g : Nat → Int32} (hM : MD P L g σ) {f : Nat → Nat} (hR : σ 323 = arrN 61 f) {k : Nat} (hk : k + 3 < 61) (K : Q (some (.int (nI (s4 f k)))) σ) : Wq xs (d + 0) ax_cd267 0 [(0, .ref 287), (1, .int (nI k))] [] σ Q := by
  refine wq_go rfl (fun _ => rfl) ?_
  refine wq_getf rfl (by first | rfl | assumption) (by first | decide | omega | assumption) (md_o hM) rfl ?_
  refine wq_go rfl (fun _ => rfl) ?_
  refine wq_ialdN rfl (by first | rfl | assumption) (by first | decide | omega | assumption) hR rfl (by omega) (by first | decide | omega) ?_
  refine wq_go rfl (fun _ => rfl) ?_
  refine wq_getf rfl (by first | rfl | assumption) (by first | decide | omega | assumption) (md_o hM) rfl ?_
  refine wq_go rfl (fun _ => rfl) ?_
  refine wq_cN (m := 1) rfl rfl ?_
  refine wq_addN rfl ?_
  refine wq_ialdN rfl (by first | rfl | assumption) (by first | decide | omega | assumption) hR rfl (by omega) (by first | decide | omega) ?_
  refine wq_addN rfl ?_
  refine wq_go rfl (fun _ => rfl) ?_
  refine wq_getf rfl (by first | rfl | assumption) (by first | decide | omega | assumption) (md_o hM) rfl ?_
  refine wq_go rfl (fun _ => rfl) ?_
  refine wq_cN (m := 2) rfl rfl ?_
  refine wq_addN rfl ?_
  refine wq_ialdN rfl (by first | rfl | assumption) (by first | decide | omega | assumption) hR rfl (by omega) (by first | decide | omega) ?_
  refine wq_addN rfl ?_
  refine wq_go rfl (fun _ => rfl) ?_
  refine wq_getf rfl (by first | rfl | assumption) (by first | decide | omega | assumption) (md_o hM) rfl ?_
  refine wq_go rfl (fun _ => rfl) ?_
  refine wq_cN (m := 3) rfl rfl ?_
  refine wq_addN rfl ?_
  refine wq_ialdN rfl (by first | rfl | assumption) (by first | decide | omega | assumption) hR rfl (by omega) (by first | decide | omega) ?_
  refine wq_addN rfl ?_
  refine wq_iret rfl ?_
  rw [← s4_eq]
  exact K
theorem m_mixed {xs : List Int32} {d : Nat} {σ : Nat → List Value} {Q : Option Value → (Nat → List Value) → Prop} {h v : Int32} (K : Q (some (.int (mixI h v))) σ) : Wq xs (d + 0) ax_cd289 0 [(0, .int h), (1, .int v)] [] σ Q := by
  refine wq_go rfl (fun _ => rfl) ?_
  refine wq_go rfl (fun _ => rfl) ?_
  refine wq_go rfl (fun _ => rfl) ?_
  refine wq_cN (m := 1103515245) rfl rfl ?_
  refine wq_go rfl (fun _ => rfl) ?_
  refine wq_cN (m := 12345) rfl rfl ?_
  refine wq_go rfl (fun _ => rfl) ?_
  refine wq_go rfl (fun _ => rfl) ?_
  refine wq_go rfl (fun _ => rfl) ?_
  refine wq_go rfl (fun _ => rfl) ?_
  refine wq_cN (m := 15) rfl rfl ?_
  refine wq_go rfl (fun _ => rfl) ?_
  refine wq_go rfl (fun _ => rfl) ?_
  refine wq_iret rfl ?_
  exact K
theorem m_lotOf {xs : List Int32} {d : Nat} {σ : Nat → List Value} {Q : Option Value → (Nat → List Value) → Prop} {P : Pl} {L : Nat} {g : Nat → Int32} (hM : MD P L g σ) {s w : Int32} {n : Nat} (hs : g 54 = s) (hn0 : 0 < n) (hn : n ≤ 100) (K : Q (some (.int (nI (lotN s w n)))) σ) : Wq xs (d + 1) ax_cd288 0 [(0, .ref 287), (1, .int w), (2, .int (nI n))] [] σ Q := by
  refine wq_go rfl (fun _ => rfl) ?_
  refine wq_getf rfl (by first | rfl | assumption) (by first | decide | omega | assumption) (md_o hM) rfl ?_
  refine wq_top hs ?_
  refine wq_cN (m := 153) rfl rfl ?_
  refine wq_callS rfl (Nat.le_of_ble_eq_true rfl) rfl (Nat.le_of_ble_eq_true rfl) (Nat.le_of_ble_eq_true rfl) rfl rfl ?_
  refine m_mixed  ?_
  refine wq_go rfl (fun _ => rfl) ?_
  refine wq_callS rfl (Nat.le_of_ble_eq_true rfl) rfl (Nat.le_of_ble_eq_true rfl) (Nat.le_of_ble_eq_true rfl) rfl rfl ?_
  refine m_mixed  ?_
  refine wq_cN (m := 1) rfl rfl ?_
  refine wq_go rfl (fun _ => rfl) ?_
  refine wq_top (ushr1 _) ?_
  refine wq_go rfl (fun _ => rfl) ?_
  refine wq_remN rfl (by omega) (hfI_lt _) (by omega) ?_
  refine wq_iret rfl ?_
  rw [show lotN s w n = hfI (mixI (mixI s (nI 153)) w) % n from if_neg (by omega)] at K
  exact K
