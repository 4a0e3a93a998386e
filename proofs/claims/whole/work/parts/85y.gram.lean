/-! THE GRAMMAR: declarations; t, the first lesser fault, the plan, names of chairs and of heads -/
abbrev Gs : Type := Nat × Option (Nat × Nat) × Pl × (Nat → Int64) × (Nat → Int64)
def Gt (G : Gs) : Nat := G.1
def Gw (G : Gs) : Option (Nat × Nat) := G.2.1
def GP (G : Gs) : Pl := G.2.2.1
def Gc (G : Gs) : Nat → Int64 := G.2.2.2.1
def Gh (G : Gs) : Nat → Int64 := G.2.2.2.2
def upI (f : Nat → Int64) (k : Nat) (x : Int64) : Nat → Int64 := fun j => if j = k then x else f j
def setN (P : Pl) (j v : Nat) : Pl := (updN P.1 j v, P.2)
def addC (P : Pl) (m : Nat) : Pl := (updN P.1 0 (Pch P + 1), updN (Pme P) (Pch P) m, P.2.2)
def addH (P : Pl) (o : Nat) (a : Nat → Nat) : Pl := (updN P.1 1 (Phd P + 1), Pme P, updN (Poi P) (Phd P) o, (fun i => if Phd P * 4 ≤ i then a (i - Phd P * 4) else Pow P i), P.2.2.2.2)
def addV (P : Pl) (h c t : Nat) : Pl := (updN P.1 2 (Pvs P + 1), Pme P, Poi P, Pow P, updN (Pvh P) (Pvs P) h, updN (Pvc P) (Pvs P) c, updN (Pvt P) (Pvs P) t, Plw P)
def setL (P : Pl) (l : Nat) (L : KLaw) : Pl := (P.1, Pme P, Poi P, Pow P, Pvh P, Pvc P, Pvt P, fun j => if j = l then L else Plw P j)
/-- a name that is there already -/
def dupB (G : Gs) (x : Int64) : Bool := (nmb (Gc G) (Pch (GP G)) x).isSome || (nmb (Gh G) (Phd (GP G)) x).isSome
/-- an int out of its bounds -/
def outB (X : Tx) (t lo hi : Nat) : Bool := decide (Xv X t < lo ∨ hi < Xv X t)
def intX (X : Tx) (lo hi : Nat) (s : Nat × Option (Nat × Nat)) : Rs (Nat × Option (Nat × Nat)) := bnd (must X 24 s.1) fun t1 => .inr (t1, wn s.2 (outB X s.1 lo hi) 5 (Xp X s.1))
def chairX (X : Tx) (G : Gs) : Rs Gs := if 4 ≤ Pch (GP G) then er 2 (Gt G) else bnd (must X 0 (Gt G)) fun t1 => bnd (must X 23 t1) fun t2 => bnd (intX X 0 9 (t2, wn (Gw G) (dupB G (Xn X t1)) 3 (Xp X t1))) fun s => bnd (must X 25 s.1) fun t4 => .inr (t4, s.2, addC (GP G) (Xv X t2), upI (Gc G) (Pch (GP G)) (Xn X t1), Gh G)
def headX (X : Tx) (G : Gs) : Rs Gs := if 5 ≤ Phd (GP G) then er 2 (Gt G) else bnd (must X 1 (Gt G)) fun t1 => bnd (must X 23 t1) fun t2 => bnd (intX X 0 9 (t2, wn (Gw G) (dupB G (Xn X t1)) 3 (Xp X t1))) fun s0 => bnd (intX X 0 99 s0) fun s1 => bnd (intX X 0 99 s1) fun s2 => bnd (intX X 0 99 s2) fun s3 => bnd (intX X 0 99 s3) fun s4 => bnd (must X 25 s4.1) fun t4 => .inr (t4, s4.2, addH (GP G) (Xv X t2) (fun j => Xv X (t2 + 1 + j)), Gc G, upI (Gh G) (Phd (GP G)) (Xn X t1))
def visitX (X : Tx) (G : Gs) : Rs Gs := if 10 ≤ Pvs (GP G) then er 2 (Gt G) else bnd (must X 2 (Gt G)) fun t1 => bnd (must X 23 t1) fun t2 => bnd (must X 23 t2) fun t3 => bnd (intX X 0 23 (t3, wn (wn (Gw G) (nmb (Gh G) (Phd (GP G)) (Xn X t1)).isNone 4 (Xp X t1)) (nmb (Gc G) (Pch (GP G)) (Xn X t2)).isNone 4 (Xp X t2))) fun s => bnd (must X 25 s.1) fun t5 => .inr (t5, s.2, addV (GP G) ((nmb (Gh G) (Phd (GP G)) (Xn X t1)).getD 0) ((nmb (Gc G) (Pch (GP G)) (Xn X t2)).getD 0) (Xv X t3), Gc G, Gh G)
/-- monday, says, moth, seed: the j-th of the plan's ints -/
def settX (X : Tx) (G : Gs) (lo hi j : Nat) : Rs Gs := bnd (adv (Gt G)) fun t1 => bnd (intX X lo hi (t1, Gw G)) fun s => bnd (must X 25 s.1) fun t3 => .inr (t3, s.2, setN (GP G) j (Xv X t1), Gc G, Gh G)
def lawG (X : Tx) (G : Gs) : Rs Gs := bnd (lawD X (Gt G)) fun q => .inr (q.1, Gw G, setL (GP G) (Xk X (Gt G) - 3) q.2, Gc G, Gh G)
def declX (X : Tx) (G : Gs) : Rs Gs := if Xk X (Gt G) = 0 then chairX X G else if Xk X (Gt G) = 1 then headX X G else if Xk X (Gt G) = 2 then visitX X G else if Xk X (Gt G) = 7 then settX X G 0 30 3 else if Xk X (Gt G) = 8 then settX X G 1 999 4 else if Xk X (Gt G) = 9 then settX X G 0 100 5 else if Xk X (Gt G) = 10 then settX X G 0 9999 6 else lawG X G
def allX (X : Tx) : Nat → Gs → Rs Gs
  | 0, _ => er 0 0
  | n + 1, G => if Xk X (Gt G) = 34 then .inr G else bnd (declX X G) (allX X n)
def z64 : Nat → Int64 := fun _ => 0
/-- an empty text's plan: P0 (85s) -/
def G0 : Gs := (0, none, P0, z64, z64)
/-- what reading answers: the fault's number, its place, the plan when there is none -/
def readX (X : Tx) : Nat × Int32 × Pl := match allX X 401 G0 with
  | .inl e => (e.1, nI (Xp X e.2), P0)
  | .inr G => match Gw G with
    | some q => (q.1, nI q.2, P0)
    | none => (0, -1, GP G)
/-! laws are well-formed -/
theorem bnd_i {α β : Type} {r : Rs α} {k : α → Rs β} {b : β} (h : bnd r k = .inr b) : ∃ a, r = .inr a ∧ k a = .inr b := by
  cases r with
  | inl e => cases h
  | inr a => exact ⟨a, rfl, h⟩
theorem must_k {X : Tx} {k t t' : Nat} (h : must X k t = .inr t') : Xk X t = k ∧ t' = t + 1 ∧ ¬ t = 400 := by
  unfold must at h
  split at h
  · next e =>
    unfold adv at h
    split at h
    · cases h
    · next n =>
      cases h
      exact ⟨e, rfl, n⟩
  · cases h
theorem adv_i {t t' : Nat} (h : adv t = .inr t') : t' = t + 1 ∧ ¬ t = 400 := by
  unfold adv at h
  split at h
  · cases h
  · next n =>
    cases h
    exact ⟨rfl, n⟩
theorem if_wf {X : Tx} (hv : ∀ i, Xv X i < 10000) {t t' : Nat} {q : KCode × KCode × KCode} (ht : t ≤ 400) (h : ifX X t = .inr (t', q)) : t < t' ∧ t' ≤ 400 ∧ wfc q.1 0 1 = true ∧ wfc q.2.1 0 1 = true ∧ wfc q.2.2 0 1 = true := by
  unfold ifX at h
  obtain ⟨t1, m1, h⟩ := bnd_i h
  obtain ⟨⟨t2, a⟩, e2, h⟩ := bnd_i h
  obtain ⟨t3, m3, h⟩ := bnd_i h
  obtain ⟨⟨t4, b⟩, e4, h⟩ := bnd_i h
  obtain ⟨t5, m5, h⟩ := bnd_i h
  obtain ⟨⟨t6, c⟩, e6, h⟩ := bnd_i h
  obtain ⟨t7, m7, h⟩ := bnd_i h
  cases h
  have n1 := must_k m1
  have x2 := exX_inv hv (by omega) e2
  have n3 := must_k m3
  simp only at n3
  have x4 := exX_inv hv (by omega) e4
  have n5 := must_k m5
  simp only at n5
  have x6 := exX_inv hv (by omega) e6
  have n7 := must_k m7
  simp only at n7
  exact ⟨by omega, by omega, x2.2.2.1, x4.2.2.1, x6.2.2.1⟩
theorem ifs_wf {X : Tx} (hv : ∀ i, Xv X i < 10000) : ∀ (n t t' : Nat) (l : List (KCode × KCode × KCode)), t ≤ 400 → ifsX X n t = .inr (t', l) → t ≤ t' ∧ t' ≤ 400 ∧ ∀ z, wfc z 0 1 = true → wfl l z = true
  | 0, t, t', l, ht, h => by
    unfold ifsX at h
    split at h
    · cases h
    · cases h
      exact ⟨Nat.le_refl _, ht, fun z hz => hz⟩
  | n + 1, t, t', l, ht, h => by
    unfold ifsX at h
    split at h
    · obtain ⟨⟨t1, q⟩, e1, h⟩ := bnd_i h
      obtain ⟨⟨t2, r⟩, e2, h⟩ := bnd_i h
      cases h
      have x1 := if_wf hv ht e1
      have x2 := ifs_wf hv n t1 t2 r x1.2.1 e2
      refine ⟨by have := x2.1; have := x1.1; omega, x2.2.1, fun z hz => ?_⟩
      obtain ⟨a, b, c⟩ := q
      show (wfc a 0 1 && wfc b 0 1 && wfc c 0 1 && wfl r z) = true
      rw [x1.2.2.1, x1.2.2.2.1, x1.2.2.2.2, x2.2.2 z hz]
      rfl
    · cases h
      exact ⟨Nat.le_refl _, ht, fun z hz => hz⟩
theorem law_wf {X : Tx} (hv : ∀ i, Xv X i < 10000) {t t' : Nat} {L : KLaw} (ht : t ≤ 400) (h : lawD X t = .inr (t', L)) : (3 ≤ Xk X t ∧ Xk X t ≤ 6) ∧ t < t' ∧ t' ≤ 400 ∧ wfl L.1 L.2 = true := by
  unfold lawD at h
  split at h
  · next hk =>
    unfold lawX at h
    obtain ⟨t1, a1, h⟩ := bnd_i h
    obtain ⟨t2, m2, h⟩ := bnd_i h
    obtain ⟨⟨t3, l⟩, e3, h⟩ := bnd_i h
    obtain ⟨⟨t4, z⟩, e4, h⟩ := bnd_i h
    obtain ⟨t5, m5, h⟩ := bnd_i h
    cases h
    have n1 := adv_i a1
    have n2 := must_k m2
    have x3 := ifs_wf hv 4 t2 t3 l (by omega) e3
    have x4 := exX_inv hv x3.2.1 e4
    have n5 := must_k m5
    simp only at n5 x4
    exact ⟨hk, by have := x3.1; omega, by omega, x3.2.2 z x4.2.2.1⟩
  · cases h
