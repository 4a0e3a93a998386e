/-! CALLS THAT CHANGE -/
def oq {α : Type} (o : Option Nat) (b : α) (k : Nat → α) : α := match o with
  | some h => k h
  | none => b
theorem oq_s {α : Type} (h : Nat) (b : α) (k : Nat → α) : oq (some h) b k = k h := rfl
theorem oq_n {α : Type} (b : α) (k : Nat → α) : oq none b k = b := rfl
theorem oq_c {α : Type} (o : Option Nat) (b : α) : oq o b (fun _ => b) = b := by cases o <;> rfl
def hpush (n : Nat) (S : St) (H : Nat → St) (j : Nat) : St := if n < 40 then (if j = n then S else H j) else if j = 39 then S else H (j + 1)
/-- the state ahead of it is kept; the new one stands -/
def recd (A : Sy) (S : St) : Sy := (AP A, S, hpush (An A) (AS A) (AH A), min (An A + 1) 40, AZ A, Ah A, AT A, Ab A, Al A, Ap A)
def undoA (A : Sy) : Sy := (AP A, AH A (An A - 1), AH A, An A - 1, AZ A, Ah A, AT A, Ab A, Al A, Ap A)
def setAT (A : Sy) (T : Tl) : Sy := (AP A, AS A, AH A, An A, AZ A, Ah A, T, Ab A, Al A, Ap A)
def holdA (A : Sy) (s : Nat) : Sy := (AP A, AS A, AH A, An A, fun j => if j = s then AS A else AZ A j, Ah A ||| 2 ^ s, AT A, Ab A, Al A, Ap A)
def resA (A : Sy) (s : Nat) : Sy := (AP A, AZ A s, AH A, 0, AZ A, Ah A, AT A, Ab A, Al A, Ap A)
def setTp (A : Sy) (b : Nat → Int32) (l : Nat) : Sy := (AP A, AS A, AH A, An A, AZ A, Ah A, AT A, b, l, Ap A)
def G_sit (A : Sy) (x y : Int32) : Sy × Int32 := oq (dec (Phd (AP A)) x) (A, nI 0) fun h => oq (dec (Pch (AP A)) y) (A, nI 0) fun c => (recd A (seatS (AP A) (AS A) h c), nI 1)
def G_wash (A : Sy) (x : Int32) : Sy × Int32 := oq (dec (Pch (AP A)) x) (A, -1) fun c => (recd A (washS (AP A) (AS A) c), nI (sumF (washN (AP A) (AS A) c) 4))
def G_starch (A : Sy) (x : Int32) : Sy × Int32 := oq (dec (Pch (AP A)) x) (A, nI 0) fun c => if (Ssc (AS A)).testBit c = true then (A, nI 0) else (recd A (setSc (AS A) (Ssc (AS A) ||| 2 ^ c)), nI 1)
def G_change (A : Sy) (x y : Int32) : Sy × Int32 := oq (dec (Pch (AP A)) x) (A, nI 0) fun c => oq (dec (Pch (AP A)) y) (A, nI 0) fun o => if c = o then (A, nI 0) else (recd A (chS (AS A) c o), nI 1)
def G_keep (A : Sy) (x : Int32) (b : Nat) : Sy × Int32 := oq (dec (Pvs (AP A)) x) (A, nI 0) fun i => if bitN (Skp (AS A)) i = b then (A, nI 0) else (recd A (setKp (AS A) (if b = 0 then clr (Skp (AS A)) i else Skp (AS A) ||| 2 ^ i)), nI 1)
def G_hours (A : Sy) (x : Int32) : Sy × Int32 := oq (dec 73 x) (A, -1) fun n => if n = 0 then (A, nI (Shr (AS A))) else (recd A (goS (AP A) 1 (Psd (AP A)) (AS A) n), nI (Shr (AS A) + n))
def G_undo (A : Sy) : Sy × Int32 := if An A = 0 then (A, nI 0) else (undoA A, nI 1)
def G_tell (A : Sy) (x y z : Int32) (b : Nat) : Sy × Int32 := oq (dec (Pch (AP A)) x) (A, -1) fun c => oq (dec 4 y) (A, -1) fun t => oq (dec 1000 z) (A, -1) fun w => if Tn (AT A) = 20 then (A, -1) else (setAT A (tlAdd (AT A) c t w b), nI (Tn (AT A)))
def G_forget (A : Sy) : Sy × Int32 := (setAT A (0, Tc (AT A), Tt (AT A), Ta (AT A), Ts (AT A)), nI (Tn (AT A)))
def G_hold (A : Sy) (x : Int32) : Sy × Int32 := oq (dec 3 x) (A, nI 0) fun s => (holdA A s, nI 1)
def G_restore (A : Sy) (x : Int32) : Sy × Int32 := oq (dec 3 x) (A, nI 0) fun s => if (Ah A).testBit s = true then (resA A s, nI 1) else (A, nI 0)
def G_back (A : Sy) (x : Int32) : Sy × Int32 := oq (dec (Al A + 1) x) (A, -1) fun k => (setTp A (Ab A) (Al A - k), nI (Al A - k))
/-! the invariant behind them -/
theorem sum_sat (S : St) {h c : Nat} (hh : h < 5) (hc : c < 4) (e : sumF (Ssi S) 4 = sumF (Ssb S) 5) : sumF (updN (Ssi S) c (Ssi S c + 1)) 4 = sumF (updN (Ssb S) h (Ssb S h + 1)) 5 := by
  have h1 := sumF_upd (Ssi S) c (Ssi S c + 1) 4 hc
  have h2 := sumF_upd (Ssb S) h (Ssb S h + 1) 5 hh
  omega
theorem seat_sum (P : Pl) (S : St) {h c : Nat} (hh : h < 5) (hc : c < 4) (e : sumF (Ssi S) 4 = sumF (Ssb S) 5) : sumF (Ssi (seatS P S h c)) 4 = sumF (Ssb (seatS P S h c)) 5 := sum_sat S hh hc e
theorem vis_sum {P : Pl} (hP : Pok P) {S : St} (e : sumF (Ssi S) 4 = sumF (Ssb S) 5) : ∀ u, u ≤ Pvs P → sumF (Ssi (visS P S u)) 4 = sumF (Ssb (visS P S u)) 5
  | 0, _ => e
  | u + 1, hu => by
    have ih := vis_sum hP e u (by omega)
    have hv := hP.2.2.2.2.2.2.2.2.1 u (by omega)
    have h1 := hP.1
    have h2 := hP.2.1
    unfold visS
    split
    · exact seat_sum P _ (by omega) (by omega) ih
    · exact ih
theorem fades_sum (P : Pl) {S : St} (e : sumF (Ssi S) 4 = sumF (Ssb S) 5) : ∀ u, sumF (Ssi (fadesS P S u)) 4 = sumF (Ssb (fadesS P S u)) 5
  | 0 => e
  | u + 1 => fades_sum P e u
theorem washes_sum (P : Pl) {S : St} (e : sumF (Ssi S) 4 = sumF (Ssb S) 5) : ∀ u, sumF (Ssi (washesS P S u)) 4 = sumF (Ssb (washesS P S u)) 5
  | 0 => e
  | u + 1 => washes_sum P e u
theorem hour_sum {P : Pl} (hP : Pok P) {S : St} (e : sumF (Ssi S) 4 = sumF (Ssb S) 5) (mo sd : Nat) : sumF (Ssi (hourS P mo sd S)) 4 = sumF (Ssb (hourS P mo sd S)) 5 := by
  have h1 := vis_sum hP e (Pvs P) (Nat.le_refl _)
  have h2 : sumF (Ssi (hour2 P mo sd (visS P S (Pvs P)))) 4 = sumF (Ssb (hour2 P mo sd (visS P S (Pvs P)))) 5 := by
    unfold hour2
    split
    · exact h1
    · exact h1
  have h3 := fades_sum P h2 (Phd P)
  unfold hourS hour3 hour4
  split
  · exact washes_sum P h3 (Pch P)
  · exact h3
theorem go_sum {P : Pl} (hP : Pok P) {S : St} (e : sumF (Ssi S) 4 = sumF (Ssb S) 5) (mo sd : Nat) : ∀ u, sumF (Ssi (goS P mo sd S u)) 4 = sumF (Ssb (goS P mo sd S u)) 5
  | 0 => e
  | u + 1 => hour_sum hP (go_sum hP e mo sd u) mo sd
theorem sw_sum (f : Nat → Nat) {a b : Nat} (ha : a < 4) (hb : b < 4) (hab : a ≠ b) : ∀ u, u ≤ 4 → sumF (swF f a b u) 16 = sumF f 16
  | 0, _ => sumF_congr 16 (fun j _ => by unfold swF; rw [if_neg (by omega), if_neg (by omega)])
  | u + 1, hu => by
    rw [← sw_sum f ha hb hab u (by omega), ← sumF_congr (f := updN (updN (swF f a b u) (a * 4 + u) (swF f a b u (b * 4 + u))) (b * 4 + u) (swF f a b u (a * 4 + u))) 16 (fun j _ => sw_step f hab (by omega) j)]
    have h1 := sumF_upd (updN (swF f a b u) (a * 4 + u) (swF f a b u (b * 4 + u))) (b * 4 + u) (swF f a b u (a * 4 + u)) 16 (by omega)
    have h2 := sumF_upd (swF f a b u) (a * 4 + u) (swF f a b u (b * 4 + u)) 16 (by omega)
    rw [updN_ne _ _ (by omega)] at h1
    omega
theorem ch_ok {S : St} (hok : Sok S) {a b : Nat} (ha : a < 4) (hb : b < 4) (hab : a ≠ b) : Sok (chS S a b) := by
  refine ⟨?_, hok.2.1, setb_lt hb (setb_lt ha hok.2.2.1), hok.2.2.2⟩
  show sumF (swF (Ssq S) a b 4) 16 + sumF (Sow S) 20 + Ssd S ≤ 1980
  rw [sw_sum (Ssq S) ha hb hab 4 (by omega)]
  exact hok.1
theorem or_1024 {x i : Nat} (hx : x < 1024) (hi : i < 10) : x ||| 2 ^ i < 1024 := Nat.or_lt_two_pow (n := 10) hx (Nat.pow_lt_pow_right (by decide) hi)
theorem or_16 {x i : Nat} (hx : x < 16) (hi : i < 4) : x ||| 2 ^ i < 16 := Nat.or_lt_two_pow (n := 4) hx (Nat.pow_lt_pow_right (by decide) hi)
theorem rec_ok {n : Nat} {A : Sy} {S : St} (hA : Aok n A) (hS : Sfu (n + 1) (AP A) S) : Aok (n + 1) (recd A S) := by
  obtain ⟨h1, h2, h3, h4, h5, h6, h7, h8⟩ := hA
  refine ⟨h1, hS, fun j hj => ?_, fun s hs hb => sfu_s (h4 s hs hb), ?_, h6, h7, h8⟩
  · have hj : j < min (An A + 1) 40 := hj
    show Sfu (n + 1) (AP A) (hpush (An A) (AS A) (AH A) j)
    unfold hpush
    split
    · split
      · exact sfu_s h2
      · exact sfu_s (h3 j (by omega))
    · split
      · exact sfu_s h2
      · exact sfu_s (h3 (j + 1) (by omega))
  · show min (An A + 1) 40 ≤ 40
    omega
/-! the class's side of it -/
theorem hy_push {σ σ' : Nat → List Value} {nx n : Nat} {H : Nat → St} {S : St} (h : HyIs σ nx n H) (hn : n ≤ 40) (hF : Fr (xH (70 + 5 * nx)) σ σ') (e68 : σ' 68 = [.ref 69, .int (nI ((nx + 1) % 40)), .int (nI (min (n + 1) 40))]) (hX : StIs σ' (70 + 5 * nx) S) : HyIs σ' ((nx + 1) % 40) (min (n + 1) 40) (hpush n S H) := by
  obtain ⟨h0, h1, h2, h3, h4⟩ := h
  have o : ∀ i S0, i < 40 → ¬ i = nx → StIs σ (70 + 5 * i) S0 → StIs σ' (70 + 5 * i) S0 := by
    intro i S0 hi hne hS
    refine st_fr hS hF (fun j a b => ?_)
    have e1 : (j == 68) = false := by simp; omega
    have e2 : inS (70 + 5 * nx) j = false := by
      unfold inS
      rcases Nat.lt_or_ge j (70 + 5 * nx) with q | q
      · rw [ble_f q]; rfl
      · rw [show Nat.ble j (70 + 5 * nx + 4) = false from ble_f (by omega)]; simp
    simp only [xH, e1, e2, Bool.or_false]
  refine ⟨by omega, e68, ?_, fun i hi => ?_, fun j hj => ?_⟩
  · have e1 : xH (70 + 5 * nx) 69 = false := by
      have e2 : inS (70 + 5 * nx) 69 = false := by
        unfold inS
        rw [ble_f (by omega)]; rfl
      simp only [xH, e2]; decide
    exact (hF 69 e1).trans h2
  · by_cases e : i = nx
    · subst e; exact ⟨S, hX⟩
    · obtain ⟨S', hS'⟩ := h3 i hi
      exact ⟨S', o i S' hi e hS'⟩
  · unfold hpush
    split
    · split
      · next e1 e2 =>
        subst e2
        rw [show ((nx + 1) % 40 + 40 - min (j + 1) 40 + j) % 40 = nx by omega]
        exact hX
      · next e1 e2 =>
        rw [show ((nx + 1) % 40 + 40 - min (n + 1) 40 + j) % 40 = (nx + 40 - n + j) % 40 by omega]
        exact o _ _ (Nat.mod_lt _ (by decide)) (by omega) (h4 j (by omega))
    · split
      · next e1 e2 =>
        subst e2
        rw [show ((nx + 1) % 40 + 40 - min (n + 1) 40 + 39) % 40 = nx by omega]
        exact hX
      · next e1 e2 =>
        rw [show ((nx + 1) % 40 + 40 - min (n + 1) 40 + j) % 40 = (nx + 40 - n + (j + 1)) % 40 by omega]
        exact o _ _ (Nat.mod_lt _ (by decide)) (by omega) (h4 (j + 1) (by omega))
/-- behind a frame that touches neither plan, nor states of the house, nor the rest -/
theorem ci_fr {A A' : Sy} {σ σ' : Nat → List Value} {X : Nat → Bool} (h : CI A σ) (hF : Fr X σ σ') (hP : AP A' = AP A) (hS : AS A' = AS A) (hX : ∀ j, j ≤ 0 ∨ (21 ≤ j ∧ j ≤ 62) → X j = false) (hR : CR A' σ') : CI A' σ' := by
  obtain ⟨h1, h2, ⟨S', h3⟩, h4, h5⟩ := h
  have e : ∀ j, j ≤ 0 ∨ (21 ≤ j ∧ j ≤ 62) → σ' j = σ j := fun j hj => hF j (hX j hj)
  refine ⟨?_, ?_, ⟨S', st_eq h3 (fun j a b => e j (by omega))⟩, fun q q1 q2 => ?_, hR⟩
  · rw [hP]
    exact cw_fr h1 hF (fun p hp => hX p (by simp only [cwl, List.mem_cons, List.not_mem_nil, or_false] at hp; omega)) (isA_eq (e 31 (by omega)) (cw_c31 h1)) (isA_eq (e 33 (by omega)) (cw_c33 h1)) (isA_eq (e 34 (by omega)) (cw_c34 h1)) (isA_eq (e 47 (by omega)) (cw_c47 h1))
  · rw [hS]
    exact st_eq h2 (fun j a b => e j (by omega))
  · obtain ⟨S2, hS2⟩ := h4 q q1 q2
    exact ⟨S2, st_eq hS2 (fun j a b => e j (by omega))⟩
theorem xH_lo {nx j : Nat} (h : j ≤ 67 ∨ 270 ≤ j) (hnx : nx < 40) : xH (70 + 5 * nx) j = false := by
  have e1 : (j == 68) = false := by simp; omega
  have e2 : inS (70 + 5 * nx) j = false := by
    unfold inS
    rcases Nat.lt_or_ge j (70 + 5 * nx) with q | q
    · rw [ble_f q]; rfl
    · rw [show Nat.ble j (70 + 5 * nx + 4) = false from ble_f (by omega)]; simp
  simp only [xH, e1, e2, Bool.or_false]
theorem ci_rem {A : Sy} {σ σ' : Nat → List Value} {nx : Nat} (hI : CI A σ) (hn : An A ≤ 40) (hy : HyIs σ nx (An A) (AH A)) (hF : Fr (xH (70 + 5 * nx)) σ σ') (e68 : σ' 68 = [.ref 69, .int (nI ((nx + 1) % 40)), .int (nI (min (An A + 1) 40))]) (hX : StIs σ' (70 + 5 * nx) (AS A)) : CI (recd A (AS A)) σ' := by
  have hnx := hy.1
  have o : ∀ j, j ≤ 67 ∨ 270 ≤ j → σ' j = σ j := fun j hj => hF j (xH_lo hj hnx)
  obtain ⟨r1, _, r3, r4, r5⟩ := hI.2.2.2.2
  exact ci_fr hI hF rfl rfl (fun j hj => xH_lo (by omega) hnx) ⟨hs_eq r1 (fun j a b => o j (by omega)), ⟨_, hy_push hy hn hF e68 hX⟩, sl_eq r3 (fun j a b => o j (by omega)), tp_eq r4 (fun j a b => o j (by omega)), rd_eq r5 (fun j a b => o j (by omega))⟩
theorem hi_rem {σ σ' : Nat → List Value} {nx : Nat} (hF : Fr (xH (70 + 5 * nx)) σ σ') (hnx : nx < 40) : Hi σ σ' := fun j hj => hF j (xH_lo (by omega) hnx)
theorem xS35 {j : Nat} (h : j ≤ 30 ∨ 40 ≤ j) : xS 35 j = false := by
  have a1 : (j == 31) = false := by simp; omega
  have a2 : (j == 33) = false := by simp; omega
  have a3 : (j == 34) = false := by simp; omega
  have a4 : inS 35 j = false := by
    unfold inS
    rcases Nat.lt_or_ge j 35 with q | q
    · rw [ble_f q]; rfl
    · rw [show Nat.ble j (35 + 4) = false from ble_f (by omega)]; simp
  simp only [xS, a1, a2, a3, a4, Bool.or_false]
theorem ci_35 {A A' : Sy} {σ σ' : Nat → List Value} (hI : CI A σ) (hF : Fr (xS 35) σ σ') (hC : CW (AP A) σ') (hP : AP A' = AP A) (hR : A'.2.2 = A.2.2) (hS : StIs σ' 35 (AS A')) : CI A' σ' := by
  obtain ⟨_, _, ⟨S', h3⟩, h4, h5⟩ := hI
  have o : ∀ j, j ≤ 30 ∨ 40 ≤ j → σ' j = σ j := fun j hj => hF j (xS35 hj)
  have hR' : CR A' σ := by
    have e : CR A' σ = CR A σ := by
      unfold CR AT An AH AZ Ah Ab Al Ap
      rw [hR]
    rw [e]; exact h5
  refine ⟨by rw [hP]; exact hC, hS, ⟨S', st_eq h3 (fun j a b => o j (by omega))⟩, fun q q1 q2 => ?_, cr_eq hR' (fun j hj => o j (by omega))⟩
  obtain ⟨S2, hS2⟩ := h4 q q1 q2
  exact ⟨S2, st_eq hS2 (fun j a b => o j (by omega))⟩
theorem hi_35 {σ σ' : Nat → List Value} (hF : Fr (xS 35) σ σ') : Hi σ σ' := fun j hj => hF j (xS35 (by omega))
theorem cw_35 {P : Pl} {σ σ' : Nat → List Value} (h : CW P σ) (hF : Fr (xk 35) σ σ') : CW P σ' := cw_k k35 h hF

theorem cg_sit {n : Nat} {A : Sy} (hn : n < 512) (hA : Aok n A) (a0 a1 : Int32) : COk ax_cd117 [.int a0, .int a1] A (G_sit A a0 a1).1 (G_sit A a0 a1).2 := by
  intro xs d σ Q hI K
  obtain ⟨hPok, ⟨hok, hhr72, hzq, hsum⟩, hAH, hAZ, hAn, hAh, hTok, hAl⟩ := hA
  have hP' := hPok
  obtain ⟨hP1, hP2, hP3, hP4, hP5, hP6, hP7, hP8, hPv, hPm, hPo, hPw, hPl⟩ := hP'
  have hok' := hok
  obtain ⟨hot, hoh, hosc, hokp⟩ := hok'
  have hI0 := hI
  obtain ⟨hC, hS, ⟨ST, hT⟩, hD, hR⟩ := hI0
  have hR0 := hR
  obtain ⟨hH, ⟨nx, hy⟩, hZ, ⟨ft, hf1, hf2, hf3⟩, ⟨⟨r0, r1, r2, r3, r4, hrd1⟩, hrd2, hrd3⟩⟩ := hR0
  show Wq xs (d + 12) ax_cd117 0 [(0, .ref 0), (1, .int a0), (2, .int a1)] [] σ Q
  refine wq_go rfl (fun _ => rfl) ?_
  refine wq_getf rfl (by first | rfl | assumption) (by first | decide | omega | assumption) (cw_c0 hC) rfl ?_
  refine wq_go rfl (fun _ => rfl) ?_
  refine wq_callV rfl rfl (by first | rfl | assumption) (by first | decide | omega | assumption) (Nat.le_of_ble_eq_true rfl) (Nat.le_of_ble_eq_true rfl) rfl rfl ?_
  refine c_hasHeadD hC (fun h lh qh eh => ?_) (fun eh => ?_)
  · subst qh
    refine wq_zeq rfl (by first | omega | decide | exact Nat.lt_of_le_of_lt Nat.and_le_right (by decide) | exact ⟨by omega, by omega⟩) (fun c => absurd c (by omega)) (fun c4 => ?_)
    refine wq_go rfl (fun _ => rfl) ?_
    refine wq_getf rfl (by first | rfl | assumption) (by first | decide | omega | assumption) (cw_c0 hC) rfl ?_
    refine wq_go rfl (fun _ => rfl) ?_
    refine wq_callV rfl rfl (by first | rfl | assumption) (by first | decide | omega | assumption) (Nat.le_of_ble_eq_true rfl) (Nat.le_of_ble_eq_true rfl) rfl rfl ?_
    refine c_hasChairD hC (fun c lc qc ec => ?_) (fun ec => ?_)
    · subst qc
      refine wq_zne rfl (by first | omega | decide | exact Nat.lt_of_le_of_lt Nat.and_le_right (by decide) | exact ⟨by omega, by omega⟩) (fun c9 => ?_) (fun c => absurd (show _ from by omega) c)
      refine wq_go rfl (fun _ => rfl) ?_
      refine wq_getf rfl (by first | rfl | assumption) (by first | decide | omega | assumption) (cw_c0 hC) rfl ?_
      refine wq_go rfl (fun _ => rfl) ?_
      refine wq_getf rfl (by first | rfl | assumption) (by first | decide | omega | assumption) (cw_c0 hC) rfl ?_
      refine wq_callV rfl rfl (by first | rfl | assumption) (by first | decide | omega | assumption) (Nat.le_of_ble_eq_true rfl) (Nat.le_of_ble_eq_true rfl) rfl rfl ?_
      obtain ⟨SX, hX⟩ := hy.2.2.2.1 nx hy.1
      refine c_History_remember hy.2.1 hy.2.2.1 hy.1 hAn rfl hX hS (fun σ1 F1 e1 X1 => ?_)
      have I1 := ci_rem hI hAn hy F1 e1 X1
      have H1 := hi_rem F1 hy.1
      have C1 : CW (AP A) σ1 := I1.1
      have S1 : StIs σ1 35 (AS A) := I1.2.1
      refine wq_go rfl (fun _ => rfl) ?_
      refine wq_getf rfl (by first | rfl | assumption) (by first | decide | omega | assumption) (cw_c0 C1) rfl ?_
      refine wq_go rfl (fun _ => rfl) ?_
      refine wq_getf rfl (by first | rfl | assumption) (by first | decide | omega | assumption) (cw_c0 C1) rfl ?_
      refine wq_go rfl (fun _ => rfl) ?_
      refine wq_go rfl (fun _ => rfl) ?_
      refine wq_callV rfl rfl (by first | rfl | assumption) (by first | decide | omega | assumption) (Nat.le_of_ble_eq_true rfl) (Nat.le_of_ble_eq_true rfl) rfl rfl ?_
      refine c_House_seat k35 S1 C1 hok (by omega) (by omega) (fun σ2 F2 C2 S2 => ?_)
      have H2 := hi_trans H1 (hi_35 F2)
      refine wq_cN (m := 1) rfl rfl ?_
      refine wq_nret rfl (by decide) ?_
      have K' := K
      simp only [G_sit, eh, ec, oq_s, oq_n, oq_c] at K'
      exact K' _ H2 (ci_35 I1 F2 C2 rfl rfl S2)
    · skip
      refine wq_zne rfl (by first | omega | decide | exact Nat.lt_of_le_of_lt Nat.and_le_right (by decide) | exact ⟨by omega, by omega⟩) (fun c => absurd c (by omega)) (fun c9 => ?_)
      refine wq_cN (m := 0) rfl rfl ?_
      refine wq_nret rfl (by decide) ?_
      have K' := K
      simp only [G_sit, eh, ec, oq_s, oq_n, oq_c] at K'
      exact K' _ (hi_refl _) hI
  · skip
    refine wq_zeq rfl (by first | omega | decide | exact Nat.lt_of_le_of_lt Nat.and_le_right (by decide) | exact ⟨by omega, by omega⟩) (fun c4 => ?_) (fun c => absurd (show _ from by omega) c)
    refine wq_cN (m := 0) rfl rfl ?_
    refine wq_nret rfl (by decide) ?_
    have K' := K
    simp only [G_sit, eh, oq_s, oq_n, oq_c] at K'
    exact K' _ (hi_refl _) hI
theorem cg_wash {n : Nat} {A : Sy} (hn : n < 512) (hA : Aok n A) (a0 : Int32) : COk ax_cd124 [.int a0] A (G_wash A a0).1 (G_wash A a0).2 := by
  intro xs d σ Q hI K
  obtain ⟨hPok, ⟨hok, hhr72, hzq, hsum⟩, hAH, hAZ, hAn, hAh, hTok, hAl⟩ := hA
  have hP' := hPok
  obtain ⟨hP1, hP2, hP3, hP4, hP5, hP6, hP7, hP8, hPv, hPm, hPo, hPw, hPl⟩ := hP'
  have hok' := hok
  obtain ⟨hot, hoh, hosc, hokp⟩ := hok'
  have hI0 := hI
  obtain ⟨hC, hS, ⟨ST, hT⟩, hD, hR⟩ := hI0
  have hR0 := hR
  obtain ⟨hH, ⟨nx, hy⟩, hZ, ⟨ft, hf1, hf2, hf3⟩, ⟨⟨r0, r1, r2, r3, r4, hrd1⟩, hrd2, hrd3⟩⟩ := hR0
  show Wq xs (d + 12) ax_cd124 0 [(0, .ref 0), (1, .int a0)] [] σ Q
  refine wq_go rfl (fun _ => rfl) ?_
  refine wq_getf rfl (by first | rfl | assumption) (by first | decide | omega | assumption) (cw_c0 hC) rfl ?_
  refine wq_go rfl (fun _ => rfl) ?_
  refine wq_callV rfl rfl (by first | rfl | assumption) (by first | decide | omega | assumption) (Nat.le_of_ble_eq_true rfl) (Nat.le_of_ble_eq_true rfl) rfl rfl ?_
  refine c_hasChairD hC (fun c lc qc ec => ?_) (fun ec => ?_)
  · subst qc
    refine wq_zne rfl (by first | omega | decide | exact Nat.lt_of_le_of_lt Nat.and_le_right (by decide) | exact ⟨by omega, by omega⟩) (fun c4 => ?_) (fun c => absurd (show _ from by omega) c)
    refine wq_go rfl (fun _ => rfl) ?_
    refine wq_getf rfl (by first | rfl | assumption) (by first | decide | omega | assumption) (cw_c0 hC) rfl ?_
    refine wq_go rfl (fun _ => rfl) ?_
    refine wq_getf rfl (by first | rfl | assumption) (by first | decide | omega | assumption) (cw_c0 hC) rfl ?_
    refine wq_callV rfl rfl (by first | rfl | assumption) (by first | decide | omega | assumption) (Nat.le_of_ble_eq_true rfl) (Nat.le_of_ble_eq_true rfl) rfl rfl ?_
    obtain ⟨SX, hX⟩ := hy.2.2.2.1 nx hy.1
    refine c_History_remember hy.2.1 hy.2.2.1 hy.1 hAn rfl hX hS (fun σ1 F1 e1 X1 => ?_)
    have I1 := ci_rem hI hAn hy F1 e1 X1
    have H1 := hi_rem F1 hy.1
    have C1 : CW (AP A) σ1 := I1.1
    have S1 : StIs σ1 35 (AS A) := I1.2.1
    refine wq_go rfl (fun _ => rfl) ?_
    refine wq_getf rfl (by first | rfl | assumption) (by first | decide | omega | assumption) (cw_c0 C1) rfl ?_
    refine wq_go rfl (fun _ => rfl) ?_
    refine wq_getf rfl (by first | rfl | assumption) (by first | decide | omega | assumption) (cw_c0 C1) rfl ?_
    refine wq_go rfl (fun _ => rfl) ?_
    refine wq_callV rfl rfl (by first | rfl | assumption) (by first | decide | omega | assumption) (Nat.le_of_ble_eq_true rfl) (Nat.le_of_ble_eq_true rfl) rfl rfl ?_
    refine c_House_launder k35 S1 C1 hok (by omega) (fun σ2 F2 C2 S2 => ?_)
    have H2 := hi_trans H1 (hi_35 F2)
    refine wq_iret rfl ?_
    have K' := K
    simp only [G_wash, ec, oq_s, oq_n, oq_c] at K'
    exact K' _ H2 (ci_35 I1 F2 C2 rfl rfl S2)
  · skip
    refine wq_zne rfl (by first | omega | decide | exact Nat.lt_of_le_of_lt Nat.and_le_right (by decide) | exact ⟨by omega, by omega⟩) (fun c => absurd c (by omega)) (fun c4 => ?_)
    refine wq_go rfl (fun _ => rfl) ?_
    refine wq_iret rfl ?_
    have K' := K
    simp only [G_wash, ec, oq_s, oq_n, oq_c] at K'
    exact K' _ (hi_refl _) hI
theorem cg_starch {n : Nat} {A : Sy} (hn : n < 512) (hA : Aok n A) (a0 : Int32) : COk ax_cd128 [.int a0] A (G_starch A a0).1 (G_starch A a0).2 := by
  intro xs d σ Q hI K
  obtain ⟨hPok, ⟨hok, hhr72, hzq, hsum⟩, hAH, hAZ, hAn, hAh, hTok, hAl⟩ := hA
  have hP' := hPok
  obtain ⟨hP1, hP2, hP3, hP4, hP5, hP6, hP7, hP8, hPv, hPm, hPo, hPw, hPl⟩ := hP'
  have hok' := hok
  obtain ⟨hot, hoh, hosc, hokp⟩ := hok'
  have hI0 := hI
  obtain ⟨hC, hS, ⟨ST, hT⟩, hD, hR⟩ := hI0
  have hR0 := hR
  obtain ⟨hH, ⟨nx, hy⟩, hZ, ⟨ft, hf1, hf2, hf3⟩, ⟨⟨r0, r1, r2, r3, r4, hrd1⟩, hrd2, hrd3⟩⟩ := hR0
  show Wq xs (d + 12) ax_cd128 0 [(0, .ref 0), (1, .int a0)] [] σ Q
  refine wq_go rfl (fun _ => rfl) ?_
  refine wq_getf rfl (by first | rfl | assumption) (by first | decide | omega | assumption) (cw_c0 hC) rfl ?_
  refine wq_go rfl (fun _ => rfl) ?_
  refine wq_callV rfl rfl (by first | rfl | assumption) (by first | decide | omega | assumption) (Nat.le_of_ble_eq_true rfl) (Nat.le_of_ble_eq_true rfl) rfl rfl ?_
  refine c_hasChairD hC (fun c lc qc ec => ?_) (fun ec => ?_)
  · subst qc
    refine wq_zeq rfl (by first | omega | decide | exact Nat.lt_of_le_of_lt Nat.and_le_right (by decide) | exact ⟨by omega, by omega⟩) (fun c => absurd c (by omega)) (fun c4 => ?_)
    refine wq_go rfl (fun _ => rfl) ?_
    refine wq_getf rfl (by first | rfl | assumption) (by first | decide | omega | assumption) (cw_c0 hC) rfl ?_
    refine wq_go rfl (fun _ => rfl) ?_
    refine wq_callV rfl rfl (by first | rfl | assumption) (by first | decide | omega | assumption) (Nat.le_of_ble_eq_true rfl) (Nat.le_of_ble_eq_true rfl) rfl rfl ?_
    refine c_State_isStarched k35 hS (by omega) hosc (fun eb => ?_) (fun eb => ?_)
    · skip
      refine wq_zeq rfl (by first | omega | decide | exact Nat.lt_of_le_of_lt Nat.and_le_right (by decide) | exact ⟨by omega, by omega⟩) (fun c => absurd c (by omega)) (fun c9 => ?_)
      refine wq_cN (m := 0) rfl rfl ?_
      refine wq_nret rfl (by decide) ?_
      have K' := K
      simp only [G_starch, ec, eb, oq_s, oq_n, oq_c, if_true] at K'
      exact K' _ (hi_refl _) hI
    · skip
      refine wq_zeq rfl (by first | omega | decide | exact Nat.lt_of_le_of_lt Nat.and_le_right (by decide) | exact ⟨by omega, by omega⟩) (fun c9 => ?_) (fun c => absurd (show _ from by omega) c)
      refine wq_go rfl (fun _ => rfl) ?_
      refine wq_getf rfl (by first | rfl | assumption) (by first | decide | omega | assumption) (cw_c0 hC) rfl ?_
      refine wq_go rfl (fun _ => rfl) ?_
      refine wq_getf rfl (by first | rfl | assumption) (by first | decide | omega | assumption) (cw_c0 hC) rfl ?_
      refine wq_callV rfl rfl (by first | rfl | assumption) (by first | decide | omega | assumption) (Nat.le_of_ble_eq_true rfl) (Nat.le_of_ble_eq_true rfl) rfl rfl ?_
      obtain ⟨SX, hX⟩ := hy.2.2.2.1 nx hy.1
      refine c_History_remember hy.2.1 hy.2.2.1 hy.1 hAn rfl hX hS (fun σ1 F1 e1 X1 => ?_)
      have I1 := ci_rem hI hAn hy F1 e1 X1
      have H1 := hi_rem F1 hy.1
      have C1 : CW (AP A) σ1 := I1.1
      have S1 : StIs σ1 35 (AS A) := I1.2.1
      refine wq_go rfl (fun _ => rfl) ?_
      refine wq_getf rfl (by first | rfl | assumption) (by first | decide | omega | assumption) (cw_c0 C1) rfl ?_
      refine wq_go rfl (fun _ => rfl) ?_
      refine wq_cN (m := 1) rfl rfl ?_
      refine wq_callV rfl rfl (by first | rfl | assumption) (by first | decide | omega | assumption) (Nat.le_of_ble_eq_true rfl) (Nat.le_of_ble_eq_true rfl) rfl rfl ?_
      refine c_State_setStarched1 k35 S1 (by omega) hosc (fun σ2 F2' S2 => ?_)
      have C2 := cw_35 C1 F2'
      have F2 := fr_mono F2' xk_S
      have H2 := hi_trans H1 (hi_35 F2)
      refine wq_cN (m := 1) rfl rfl ?_
      refine wq_nret rfl (by decide) ?_
      have K' := K
      simp only [G_starch, ec, eb, oq_s, oq_n, oq_c, Bool.false_eq_true, if_false] at K'
      exact K' _ H2 (ci_35 I1 F2 C2 rfl rfl S2)
  · skip
    refine wq_zeq rfl (by first | omega | decide | exact Nat.lt_of_le_of_lt Nat.and_le_right (by decide) | exact ⟨by omega, by omega⟩) (fun c4 => ?_) (fun c => absurd (show _ from by omega) c)
    refine wq_cN (m := 0) rfl rfl ?_
    refine wq_nret rfl (by decide) ?_
    have K' := K
    simp only [G_starch, ec, oq_s, oq_n, oq_c] at K'
    exact K' _ (hi_refl _) hI
theorem cg_change {n : Nat} {A : Sy} (hn : n < 512) (hA : Aok n A) (a0 a1 : Int32) : COk ax_cd129 [.int a0, .int a1] A (G_change A a0 a1).1 (G_change A a0 a1).2 := by
  intro xs d σ Q hI K
  obtain ⟨hPok, ⟨hok, hhr72, hzq, hsum⟩, hAH, hAZ, hAn, hAh, hTok, hAl⟩ := hA
  have hP' := hPok
  obtain ⟨hP1, hP2, hP3, hP4, hP5, hP6, hP7, hP8, hPv, hPm, hPo, hPw, hPl⟩ := hP'
  have hok' := hok
  obtain ⟨hot, hoh, hosc, hokp⟩ := hok'
  have hI0 := hI
  obtain ⟨hC, hS, ⟨ST, hT⟩, hD, hR⟩ := hI0
  have hR0 := hR
  obtain ⟨hH, ⟨nx, hy⟩, hZ, ⟨ft, hf1, hf2, hf3⟩, ⟨⟨r0, r1, r2, r3, r4, hrd1⟩, hrd2, hrd3⟩⟩ := hR0
  show Wq xs (d + 12) ax_cd129 0 [(0, .ref 0), (1, .int a0), (2, .int a1)] [] σ Q
  refine wq_go rfl (fun _ => rfl) ?_
  refine wq_getf rfl (by first | rfl | assumption) (by first | decide | omega | assumption) (cw_c0 hC) rfl ?_
  refine wq_go rfl (fun _ => rfl) ?_
  refine wq_callV rfl rfl (by first | rfl | assumption) (by first | decide | omega | assumption) (Nat.le_of_ble_eq_true rfl) (Nat.le_of_ble_eq_true rfl) rfl rfl ?_
  refine c_hasChairD hC (fun c lc qc ec => ?_) (fun ec => ?_)
  · subst qc
    refine wq_zeq rfl (by first | omega | decide | exact Nat.lt_of_le_of_lt Nat.and_le_right (by decide) | exact ⟨by omega, by omega⟩) (fun c => absurd c (by omega)) (fun c4 => ?_)
    refine wq_go rfl (fun _ => rfl) ?_
    refine wq_getf rfl (by first | rfl | assumption) (by first | decide | omega | assumption) (cw_c0 hC) rfl ?_
    refine wq_go rfl (fun _ => rfl) ?_
    refine wq_callV rfl rfl (by first | rfl | assumption) (by first | decide | omega | assumption) (Nat.le_of_ble_eq_true rfl) (Nat.le_of_ble_eq_true rfl) rfl rfl ?_
    refine c_hasChairD hC (fun o lo qo eo => ?_) (fun eo => ?_)
    · subst qo
      refine wq_zeq rfl (by first | omega | decide | exact Nat.lt_of_le_of_lt Nat.and_le_right (by decide) | exact ⟨by omega, by omega⟩) (fun c => absurd c (by omega)) (fun c9 => ?_)
      refine wq_go rfl (fun _ => rfl) ?_
      refine wq_go rfl (fun _ => rfl) ?_
      refine wq_cne rfl (by first | omega | decide | exact Nat.lt_of_le_of_lt Nat.and_le_right (by decide) | exact ⟨by omega, by omega⟩) (by first | omega | decide | exact Nat.lt_of_le_of_lt Nat.and_le_right (by decide) | exact ⟨by omega, by omega⟩) (fun c12 => ?_) (fun c12 => ?_)
      · skip
        refine wq_go rfl (fun _ => rfl) ?_
        refine wq_getf rfl (by first | rfl | assumption) (by first | decide | omega | assumption) (cw_c0 hC) rfl ?_
        refine wq_go rfl (fun _ => rfl) ?_
        refine wq_getf rfl (by first | rfl | assumption) (by first | decide | omega | assumption) (cw_c0 hC) rfl ?_
        refine wq_callV rfl rfl (by first | rfl | assumption) (by first | decide | omega | assumption) (Nat.le_of_ble_eq_true rfl) (Nat.le_of_ble_eq_true rfl) rfl rfl ?_
        obtain ⟨SX, hX⟩ := hy.2.2.2.1 nx hy.1
        refine c_History_remember hy.2.1 hy.2.2.1 hy.1 hAn rfl hX hS (fun σ1 F1 e1 X1 => ?_)
        have I1 := ci_rem hI hAn hy F1 e1 X1
        have H1 := hi_rem F1 hy.1
        have C1 : CW (AP A) σ1 := I1.1
        have S1 : StIs σ1 35 (AS A) := I1.2.1
        refine wq_go rfl (fun _ => rfl) ?_
        refine wq_getf rfl (by first | rfl | assumption) (by first | decide | omega | assumption) (cw_c0 C1) rfl ?_
        refine wq_go rfl (fun _ => rfl) ?_
        refine wq_go rfl (fun _ => rfl) ?_
        refine wq_callV rfl rfl (by first | rfl | assumption) (by first | decide | omega | assumption) (Nat.le_of_ble_eq_true rfl) (Nat.le_of_ble_eq_true rfl) rfl rfl ?_
        refine c_State_swapSquares k35 S1 (by omega) (by omega) (by omega) hosc (fun σ2 F2' S2 => ?_)
        have C2 := cw_35 C1 F2'
        have F2 := fr_mono F2' xk_S
        have H2 := hi_trans H1 (hi_35 F2)
        refine wq_cN (m := 1) rfl rfl ?_
        refine wq_nret rfl (by decide) ?_
        have K' := K
        simp only [G_change, ec, eo, oq_s, oq_n, oq_c] at K'
        first | exact K' _ H2 (ci_35 I1 F2 C2 rfl rfl S2) | (rw [if_pos (by omega)] at K'; exact K' _ H2 (ci_35 I1 F2 C2 rfl rfl S2)) | (rw [if_neg (by omega)] at K'; exact K' _ H2 (ci_35 I1 F2 C2 rfl rfl S2))
      · skip
        refine wq_cN (m := 0) rfl rfl ?_
        refine wq_nret rfl (by decide) ?_
        have K' := K
        simp only [G_change, ec, eo, oq_s, oq_n, oq_c] at K'
        first | exact K' _ (hi_refl _) hI | (rw [if_pos (by omega)] at K'; exact K' _ (hi_refl _) hI) | (rw [if_neg (by omega)] at K'; exact K' _ (hi_refl _) hI)
    · skip
      refine wq_zeq rfl (by first | omega | decide | exact Nat.lt_of_le_of_lt Nat.and_le_right (by decide) | exact ⟨by omega, by omega⟩) (fun c9 => ?_) (fun c => absurd (show _ from by omega) c)
      refine wq_cN (m := 0) rfl rfl ?_
      refine wq_nret rfl (by decide) ?_
      have K' := K
      simp only [G_change, ec, eo, oq_s, oq_n, oq_c] at K'
      first | exact K' _ (hi_refl _) hI | (rw [if_pos (by omega)] at K'; exact K' _ (hi_refl _) hI) | (rw [if_neg (by omega)] at K'; exact K' _ (hi_refl _) hI)
  · skip
    refine wq_zeq rfl (by first | omega | decide | exact Nat.lt_of_le_of_lt Nat.and_le_right (by decide) | exact ⟨by omega, by omega⟩) (fun c4 => ?_) (fun c => absurd (show _ from by omega) c)
    refine wq_cN (m := 0) rfl rfl ?_
    refine wq_nret rfl (by decide) ?_
    have K' := K
    simp only [G_change, ec, oq_s, oq_n, oq_c] at K'
    first | exact K' _ (hi_refl _) hI | (rw [if_pos (by omega)] at K'; exact K' _ (hi_refl _) hI) | (rw [if_neg (by omega)] at K'; exact K' _ (hi_refl _) hI)
theorem cg_keep0 {n : Nat} {A : Sy} (hn : n < 512) (hA : Aok n A) (a0 : Int32) : COk ax_cd131 [.int a0, .int (nI 0)] A (G_keep A a0 0).1 (G_keep A a0 0).2 := by
  intro xs d σ Q hI K
  obtain ⟨hPok, ⟨hok, hhr72, hzq, hsum⟩, hAH, hAZ, hAn, hAh, hTok, hAl⟩ := hA
  have hP' := hPok
  obtain ⟨hP1, hP2, hP3, hP4, hP5, hP6, hP7, hP8, hPv, hPm, hPo, hPw, hPl⟩ := hP'
  have hok' := hok
  obtain ⟨hot, hoh, hosc, hokp⟩ := hok'
  have hI0 := hI
  obtain ⟨hC, hS, ⟨ST, hT⟩, hD, hR⟩ := hI0
  have hR0 := hR
  obtain ⟨hH, ⟨nx, hy⟩, hZ, ⟨ft, hf1, hf2, hf3⟩, ⟨⟨r0, r1, r2, r3, r4, hrd1⟩, hrd2, hrd3⟩⟩ := hR0
  show Wq xs (d + 12) ax_cd131 0 [(0, .ref 0), (1, .int a0), (2, .int (nI 0))] [] σ Q
  refine wq_go rfl (fun _ => rfl) ?_
  refine wq_getf rfl (by first | rfl | assumption) (by first | decide | omega | assumption) (cw_c0 hC) rfl ?_
  refine wq_go rfl (fun _ => rfl) ?_
  refine wq_callV rfl rfl (by first | rfl | assumption) (by first | decide | omega | assumption) (Nat.le_of_ble_eq_true rfl) (Nat.le_of_ble_eq_true rfl) rfl rfl ?_
  refine c_hasVisitD hC (fun i li qi ei => ?_) (fun ei => ?_)
  · subst qi
    refine wq_zeq rfl (by first | omega | decide | exact Nat.lt_of_le_of_lt Nat.and_le_right (by decide) | exact ⟨by omega, by omega⟩) (fun c => absurd c (by omega)) (fun c4 => ?_)
    refine wq_go rfl (fun _ => rfl) ?_
    refine wq_getf rfl (by first | rfl | assumption) (by first | decide | omega | assumption) (cw_c0 hC) rfl ?_
    refine wq_go rfl (fun _ => rfl) ?_
    refine wq_callV rfl rfl (by first | rfl | assumption) (by first | decide | omega | assumption) (Nat.le_of_ble_eq_true rfl) (Nat.le_of_ble_eq_true rfl) rfl rfl ?_
    refine c_State_isKept k35 hS (by omega) hokp (fun eb => ?_) (fun eb => ?_)
    · skip
      refine wq_go rfl (fun _ => rfl) ?_
      refine wq_cne rfl (by first | omega | decide | exact Nat.lt_of_le_of_lt Nat.and_le_right (by decide) | exact ⟨by omega, by omega⟩) (by first | omega | decide | exact Nat.lt_of_le_of_lt Nat.and_le_right (by decide) | exact ⟨by omega, by omega⟩) (fun c10 => ?_) (fun c => absurd (show _ from by omega) c)
      refine wq_go rfl (fun _ => rfl) ?_
      refine wq_getf rfl (by first | rfl | assumption) (by first | decide | omega | assumption) (cw_c0 hC) rfl ?_
      refine wq_go rfl (fun _ => rfl) ?_
      refine wq_getf rfl (by first | rfl | assumption) (by first | decide | omega | assumption) (cw_c0 hC) rfl ?_
      refine wq_callV rfl rfl (by first | rfl | assumption) (by first | decide | omega | assumption) (Nat.le_of_ble_eq_true rfl) (Nat.le_of_ble_eq_true rfl) rfl rfl ?_
      obtain ⟨SX, hX⟩ := hy.2.2.2.1 nx hy.1
      refine c_History_remember hy.2.1 hy.2.2.1 hy.1 hAn rfl hX hS (fun σ1 F1 e1 X1 => ?_)
      have I1 := ci_rem hI hAn hy F1 e1 X1
      have H1 := hi_rem F1 hy.1
      have C1 : CW (AP A) σ1 := I1.1
      have S1 : StIs σ1 35 (AS A) := I1.2.1
      refine wq_go rfl (fun _ => rfl) ?_
      refine wq_getf rfl (by first | rfl | assumption) (by first | decide | omega | assumption) (cw_c0 C1) rfl ?_
      refine wq_go rfl (fun _ => rfl) ?_
      refine wq_go rfl (fun _ => rfl) ?_
      refine wq_callV rfl rfl (by first | rfl | assumption) (by first | decide | omega | assumption) (Nat.le_of_ble_eq_true rfl) (Nat.le_of_ble_eq_true rfl) rfl rfl ?_
      refine c_State_setKept0 k35 S1 (by omega) hokp (fun σ2 F2' S2 => ?_)
      have C2 := cw_35 C1 F2'
      have F2 := fr_mono F2' xk_S
      have H2 := hi_trans H1 (hi_35 F2)
      refine wq_cN (m := 1) rfl rfl ?_
      refine wq_nret rfl (by decide) ?_
      have hbn : bitN (Skp (AS A)) i = 1 := if_pos eb
      have K' := K
      simp only [G_keep, ei, oq_s, oq_n, oq_c, hbn] at K'
      first | exact K' _ H2 (ci_35 I1 F2 C2 rfl rfl S2) | (rw [if_pos rfl] at K'; exact K' _ H2 (ci_35 I1 F2 C2 rfl rfl S2)) | (rw [if_neg (by decide)] at K'; exact K' _ H2 (ci_35 I1 F2 C2 rfl rfl S2))
    · skip
      refine wq_go rfl (fun _ => rfl) ?_
      refine wq_cne rfl (by first | omega | decide | exact Nat.lt_of_le_of_lt Nat.and_le_right (by decide) | exact ⟨by omega, by omega⟩) (by first | omega | decide | exact Nat.lt_of_le_of_lt Nat.and_le_right (by decide) | exact ⟨by omega, by omega⟩) (fun c => absurd c (by omega)) (fun c10 => ?_)
      refine wq_cN (m := 0) rfl rfl ?_
      refine wq_nret rfl (by decide) ?_
      have hbn : bitN (Skp (AS A)) i = 0 := if_neg (by rw [eb]; decide)
      have K' := K
      simp only [G_keep, ei, oq_s, oq_n, oq_c, hbn] at K'
      first | exact K' _ (hi_refl _) hI | (rw [if_pos rfl] at K'; exact K' _ (hi_refl _) hI) | (rw [if_neg (by decide)] at K'; exact K' _ (hi_refl _) hI)
  · skip
    refine wq_zeq rfl (by first | omega | decide | exact Nat.lt_of_le_of_lt Nat.and_le_right (by decide) | exact ⟨by omega, by omega⟩) (fun c4 => ?_) (fun c => absurd (show _ from by omega) c)
    refine wq_cN (m := 0) rfl rfl ?_
    refine wq_nret rfl (by decide) ?_
    have K' := K
    simp only [G_keep, ei, oq_s, oq_n, oq_c] at K'
    exact K' _ (hi_refl _) hI
theorem cg_keep1 {n : Nat} {A : Sy} (hn : n < 512) (hA : Aok n A) (a0 : Int32) : COk ax_cd131 [.int a0, .int (nI 1)] A (G_keep A a0 1).1 (G_keep A a0 1).2 := by
  intro xs d σ Q hI K
  obtain ⟨hPok, ⟨hok, hhr72, hzq, hsum⟩, hAH, hAZ, hAn, hAh, hTok, hAl⟩ := hA
  have hP' := hPok
  obtain ⟨hP1, hP2, hP3, hP4, hP5, hP6, hP7, hP8, hPv, hPm, hPo, hPw, hPl⟩ := hP'
  have hok' := hok
  obtain ⟨hot, hoh, hosc, hokp⟩ := hok'
  have hI0 := hI
  obtain ⟨hC, hS, ⟨ST, hT⟩, hD, hR⟩ := hI0
  have hR0 := hR
  obtain ⟨hH, ⟨nx, hy⟩, hZ, ⟨ft, hf1, hf2, hf3⟩, ⟨⟨r0, r1, r2, r3, r4, hrd1⟩, hrd2, hrd3⟩⟩ := hR0
  show Wq xs (d + 12) ax_cd131 0 [(0, .ref 0), (1, .int a0), (2, .int (nI 1))] [] σ Q
  refine wq_go rfl (fun _ => rfl) ?_
  refine wq_getf rfl (by first | rfl | assumption) (by first | decide | omega | assumption) (cw_c0 hC) rfl ?_
  refine wq_go rfl (fun _ => rfl) ?_
  refine wq_callV rfl rfl (by first | rfl | assumption) (by first | decide | omega | assumption) (Nat.le_of_ble_eq_true rfl) (Nat.le_of_ble_eq_true rfl) rfl rfl ?_
  refine c_hasVisitD hC (fun i li qi ei => ?_) (fun ei => ?_)
  · subst qi
    refine wq_zeq rfl (by first | omega | decide | exact Nat.lt_of_le_of_lt Nat.and_le_right (by decide) | exact ⟨by omega, by omega⟩) (fun c => absurd c (by omega)) (fun c4 => ?_)
    refine wq_go rfl (fun _ => rfl) ?_
    refine wq_getf rfl (by first | rfl | assumption) (by first | decide | omega | assumption) (cw_c0 hC) rfl ?_
    refine wq_go rfl (fun _ => rfl) ?_
    refine wq_callV rfl rfl (by first | rfl | assumption) (by first | decide | omega | assumption) (Nat.le_of_ble_eq_true rfl) (Nat.le_of_ble_eq_true rfl) rfl rfl ?_
    refine c_State_isKept k35 hS (by omega) hokp (fun eb => ?_) (fun eb => ?_)
    · skip
      refine wq_go rfl (fun _ => rfl) ?_
      refine wq_cne rfl (by first | omega | decide | exact Nat.lt_of_le_of_lt Nat.and_le_right (by decide) | exact ⟨by omega, by omega⟩) (by first | omega | decide | exact Nat.lt_of_le_of_lt Nat.and_le_right (by decide) | exact ⟨by omega, by omega⟩) (fun c => absurd c (by omega)) (fun c10 => ?_)
      refine wq_cN (m := 0) rfl rfl ?_
      refine wq_nret rfl (by decide) ?_
      have hbn : bitN (Skp (AS A)) i = 1 := if_pos eb
      have K' := K
      simp only [G_keep, ei, oq_s, oq_n, oq_c, hbn] at K'
      first | exact K' _ (hi_refl _) hI | (rw [if_pos rfl] at K'; exact K' _ (hi_refl _) hI) | (rw [if_neg (by decide)] at K'; exact K' _ (hi_refl _) hI)
    · skip
      refine wq_go rfl (fun _ => rfl) ?_
      refine wq_cne rfl (by first | omega | decide | exact Nat.lt_of_le_of_lt Nat.and_le_right (by decide) | exact ⟨by omega, by omega⟩) (by first | omega | decide | exact Nat.lt_of_le_of_lt Nat.and_le_right (by decide) | exact ⟨by omega, by omega⟩) (fun c10 => ?_) (fun c => absurd (show _ from by omega) c)
      refine wq_go rfl (fun _ => rfl) ?_
      refine wq_getf rfl (by first | rfl | assumption) (by first | decide | omega | assumption) (cw_c0 hC) rfl ?_
      refine wq_go rfl (fun _ => rfl) ?_
      refine wq_getf rfl (by first | rfl | assumption) (by first | decide | omega | assumption) (cw_c0 hC) rfl ?_
      refine wq_callV rfl rfl (by first | rfl | assumption) (by first | decide | omega | assumption) (Nat.le_of_ble_eq_true rfl) (Nat.le_of_ble_eq_true rfl) rfl rfl ?_
      obtain ⟨SX, hX⟩ := hy.2.2.2.1 nx hy.1
      refine c_History_remember hy.2.1 hy.2.2.1 hy.1 hAn rfl hX hS (fun σ1 F1 e1 X1 => ?_)
      have I1 := ci_rem hI hAn hy F1 e1 X1
      have H1 := hi_rem F1 hy.1
      have C1 : CW (AP A) σ1 := I1.1
      have S1 : StIs σ1 35 (AS A) := I1.2.1
      refine wq_go rfl (fun _ => rfl) ?_
      refine wq_getf rfl (by first | rfl | assumption) (by first | decide | omega | assumption) (cw_c0 C1) rfl ?_
      refine wq_go rfl (fun _ => rfl) ?_
      refine wq_go rfl (fun _ => rfl) ?_
      refine wq_callV rfl rfl (by first | rfl | assumption) (by first | decide | omega | assumption) (Nat.le_of_ble_eq_true rfl) (Nat.le_of_ble_eq_true rfl) rfl rfl ?_
      refine c_State_setKept1 k35 S1 (by omega) hokp (fun σ2 F2' S2 => ?_)
      have C2 := cw_35 C1 F2'
      have F2 := fr_mono F2' xk_S
      have H2 := hi_trans H1 (hi_35 F2)
      refine wq_cN (m := 1) rfl rfl ?_
      refine wq_nret rfl (by decide) ?_
      have hbn : bitN (Skp (AS A)) i = 0 := if_neg (by rw [eb]; decide)
      have K' := K
      simp only [G_keep, ei, oq_s, oq_n, oq_c, hbn] at K'
      first | exact K' _ H2 (ci_35 I1 F2 C2 rfl rfl S2) | (rw [if_pos rfl] at K'; exact K' _ H2 (ci_35 I1 F2 C2 rfl rfl S2)) | (rw [if_neg (by decide)] at K'; exact K' _ H2 (ci_35 I1 F2 C2 rfl rfl S2))
  · skip
    refine wq_zeq rfl (by first | omega | decide | exact Nat.lt_of_le_of_lt Nat.and_le_right (by decide) | exact ⟨by omega, by omega⟩) (fun c4 => ?_) (fun c => absurd (show _ from by omega) c)
    refine wq_cN (m := 0) rfl rfl ?_
    refine wq_nret rfl (by decide) ?_
    have K' := K
    simp only [G_keep, ei, oq_s, oq_n, oq_c] at K'
    exact K' _ (hi_refl _) hI
theorem cg_hours {n : Nat} {A : Sy} (hn : n < 512) (hA : Aok n A) (a0 : Int32) : COk ax_cd133 [.int a0] A (G_hours A a0).1 (G_hours A a0).2 := by
  intro xs d σ Q hI K
  obtain ⟨hPok, ⟨hok, hhr72, hzq, hsum⟩, hAH, hAZ, hAn, hAh, hTok, hAl⟩ := hA
  have hP' := hPok
  obtain ⟨hP1, hP2, hP3, hP4, hP5, hP6, hP7, hP8, hPv, hPm, hPo, hPw, hPl⟩ := hP'
  have hok' := hok
  obtain ⟨hot, hoh, hosc, hokp⟩ := hok'
  have hI0 := hI
  obtain ⟨hC, hS, ⟨ST, hT⟩, hD, hR⟩ := hI0
  have hR0 := hR
  obtain ⟨hH, ⟨nx, hy⟩, hZ, ⟨ft, hf1, hf2, hf3⟩, ⟨⟨r0, r1, r2, r3, r4, hrd1⟩, hrd2, hrd3⟩⟩ := hR0
  show Wq xs (d + 12) ax_cd133 0 [(0, .ref 0), (1, .int a0)] [] σ Q
  refine wq_go rfl (fun _ => rfl) ?_
  refine wq_callS rfl (Nat.le_of_ble_eq_true rfl) rfl (Nat.le_of_ble_eq_true rfl) (Nat.le_of_ble_eq_true rfl) rfl rfl ?_
  refine c_isHoursD  (fun n ln qn en => ?_) (fun en => ?_)
  · subst qn
    refine wq_zne rfl (by first | omega | decide | exact Nat.lt_of_le_of_lt Nat.and_le_right (by decide) | exact ⟨by omega, by omega⟩) (fun c2 => ?_) (fun c => absurd (show _ from by omega) c)
    refine wq_go rfl (fun _ => rfl) ?_
    refine wq_zle rfl (by first | omega | decide | exact Nat.lt_of_le_of_lt Nat.and_le_right (by decide) | exact ⟨by omega, by omega⟩) (fun c6 => ?_) (fun c6 => ?_)
    · skip
      refine wq_go rfl (fun _ => rfl) ?_
      refine wq_getf rfl (by first | rfl | assumption) (by first | decide | omega | assumption) (cw_c0 hC) rfl ?_
      refine wq_getf rfl (by first | rfl | assumption) (by first | decide | omega | assumption) hS.1 rfl ?_
      refine wq_iret rfl ?_
      have K' := K
      simp only [G_hours, en, oq_s, oq_n, oq_c] at K'
      first | exact K' _ (hi_refl _) hI | (rw [if_pos (by omega)] at K'; exact K' _ (hi_refl _) hI) | (rw [if_neg (by omega)] at K'; exact ansQ (K' _ (hi_refl _) hI) (congrArg nI (go_hr _ _ _ _ _)))
    · skip
      refine wq_go rfl (fun _ => rfl) ?_
      refine wq_getf rfl (by first | rfl | assumption) (by first | decide | omega | assumption) (cw_c0 hC) rfl ?_
      refine wq_go rfl (fun _ => rfl) ?_
      refine wq_getf rfl (by first | rfl | assumption) (by first | decide | omega | assumption) (cw_c0 hC) rfl ?_
      refine wq_callV rfl rfl (by first | rfl | assumption) (by first | decide | omega | assumption) (Nat.le_of_ble_eq_true rfl) (Nat.le_of_ble_eq_true rfl) rfl rfl ?_
      obtain ⟨SX, hX⟩ := hy.2.2.2.1 nx hy.1
      refine c_History_remember hy.2.1 hy.2.2.1 hy.1 hAn rfl hX hS (fun σ1 F1 e1 X1 => ?_)
      have I1 := ci_rem hI hAn hy F1 e1 X1
      have H1 := hi_rem F1 hy.1
      have C1 : CW (AP A) σ1 := I1.1
      have S1 : StIs σ1 35 (AS A) := I1.2.1
      refine wq_go rfl (fun _ => rfl) ?_
      refine wq_getf rfl (by first | rfl | assumption) (by first | decide | omega | assumption) (cw_c0 C1) rfl ?_
      refine wq_go rfl (fun _ => rfl) ?_
      refine wq_getf rfl (by first | rfl | assumption) (by first | decide | omega | assumption) (cw_c0 C1) rfl ?_
      refine wq_go rfl (fun _ => rfl) ?_
      refine wq_cN (m := 1) rfl rfl ?_
      refine wq_go rfl (fun _ => rfl) ?_
      refine wq_getf rfl (by first | rfl | assumption) (by first | decide | omega | assumption) (cw_c0 C1) rfl ?_
      refine wq_getf rfl (by first | rfl | assumption) (by first | decide | omega | assumption) (cw_c21 C1) rfl ?_
      refine wq_callV rfl rfl (by first | rfl | assumption) (by first | decide | omega | assumption) (Nat.le_of_ble_eq_true rfl) (Nat.le_of_ble_eq_true rfl) rfl rfl ?_
      refine c_House_pass k35 S1 C1 hok (by omega) (by decide) (by omega) (fun σ2 F2 C2 S2 => ?_)
      have H2 := hi_trans H1 (hi_35 F2)
      refine wq_go rfl (fun _ => rfl) ?_
      refine wq_getf rfl (by first | rfl | assumption) (by first | decide | omega | assumption) (cw_c0 C2) rfl ?_
      refine wq_getf rfl (by first | rfl | assumption) (by first | decide | omega | assumption) S2.1 rfl ?_
      refine wq_iret rfl ?_
      have K' := K
      simp only [G_hours, en, oq_s, oq_n, oq_c] at K'
      first | exact K' _ H2 (ci_35 I1 F2 C2 rfl rfl S2) | (rw [if_pos (by omega)] at K'; exact K' _ H2 (ci_35 I1 F2 C2 rfl rfl S2)) | (rw [if_neg (by omega)] at K'; exact ansQ (K' _ H2 (ci_35 I1 F2 C2 rfl rfl S2)) (congrArg nI (go_hr _ _ _ _ _)))
  · skip
    refine wq_zne rfl (by first | omega | decide | exact Nat.lt_of_le_of_lt Nat.and_le_right (by decide) | exact ⟨by omega, by omega⟩) (fun c => absurd c (by omega)) (fun c2 => ?_)
    refine wq_go rfl (fun _ => rfl) ?_
    refine wq_iret rfl ?_
    have K' := K
    simp only [G_hours, en, oq_s, oq_n, oq_c] at K'
    first | exact K' _ (hi_refl _) hI | (rw [if_pos (by omega)] at K'; exact K' _ (hi_refl _) hI) | (rw [if_neg (by omega)] at K'; exact ansQ (K' _ (hi_refl _) hI) (congrArg nI (go_hr _ _ _ _ _)))
theorem hy_pop {σ σ' : Nat → List Value} {nx n py : Nat} {H : Nat → St} (h : HyIs σ nx n H) (hn : n ≤ 40) (hn0 : 0 < n) (hpy : py = (nx + 40 - 1) % 40) (hF : Fr (xH 35) σ σ') (e68 : σ' 68 = [.ref 69, .int (nI py), .int (nI (n - 1))]) : HyIs σ' py (n - 1) H := by
  obtain ⟨h0, h1, h2, h3, h4⟩ := h
  have o : ∀ j, 69 ≤ j → σ' j = σ j := fun j hj => hF j (by
    have e1 : (j == 68) = false := by simp; omega
    have e2 : inS 35 j = false := by
      unfold inS
      rw [show Nat.ble j (35 + 4) = false from ble_f (by omega)]; simp
    simp only [xH, e1, e2, Bool.or_false])
  refine ⟨by omega, e68, (o 69 (by omega)).trans h2, fun i hi => ?_, fun j hj => ?_⟩
  · obtain ⟨S', hS⟩ := h3 i hi
    exact ⟨S', st_eq hS (fun j a b => o j (by omega))⟩
  · have := h4 j (by omega)
    rw [show (nx + 40 - n + j) % 40 = (py + 40 - (n - 1) + j) % 40 by omega] at this
    exact st_eq this (fun j a b => o j (by omega))
theorem xH35 {j : Nat} (h : j ≤ 34 ∨ (40 ≤ j ∧ ¬ j = 68)) : xH 35 j = false := by
  have e1 : (j == 68) = false := by simp; omega
  have e2 : inS 35 j = false := by
    unfold inS
    rcases Nat.lt_or_ge j 35 with q | q
    · rw [ble_f q]; rfl
    · rw [show Nat.ble j (35 + 4) = false from ble_f (by omega)]; simp
  simp only [xH, e1, e2, Bool.or_false]
theorem ci_new {A A' : Sy} {σ σ' : Nat → List Value} (h : CI A σ) (e : ∀ j, j ≤ 0 ∨ (21 ≤ j ∧ j ≤ 34) ∨ (40 ≤ j ∧ j ≤ 62) → σ' j = σ j) (hP : AP A' = AP A) (hS : StIs σ' 35 (AS A')) (hR : CR A' σ') : CI A' σ' := by
  obtain ⟨h1, h2, ⟨S', h3⟩, h4, h5⟩ := h
  have hF : Fr (fun j => !(decide (j ≤ 0 ∨ (21 ≤ j ∧ j ≤ 34) ∨ (40 ≤ j ∧ j ≤ 62)))) σ σ' := fun j hj => e j (by
    have hj : (!(decide (j ≤ 0 ∨ (21 ≤ j ∧ j ≤ 34) ∨ (40 ≤ j ∧ j ≤ 62)))) = false := hj
    rw [Bool.not_eq_false'] at hj
    exact of_decide_eq_true hj)
  refine ⟨?_, hS, ⟨S', st_eq h3 (fun j a b => e j (by omega))⟩, fun q q1 q2 => ?_, hR⟩
  · rw [hP]
    exact cw_fr h1 hF (by decide) (isA_eq (e 31 (by omega)) (cw_c31 h1)) (isA_eq (e 33 (by omega)) (cw_c33 h1)) (isA_eq (e 34 (by omega)) (cw_c34 h1)) (isA_eq (e 47 (by omega)) (cw_c47 h1))
  · obtain ⟨S2, hS2⟩ := h4 q q1 q2
    exact ⟨S2, st_eq hS2 (fun j a b => e j (by omega))⟩
theorem cg_undo {n : Nat} {A : Sy} (hn : n < 512) (hA : Aok n A) : COk ax_cd143 [] A (G_undo A).1 (G_undo A).2 := by
  intro xs d σ Q hI K
  obtain ⟨hPok, ⟨hok, hhr72, hzq, hsum⟩, hAH, hAZ, hAn, hAh, hTok, hAl⟩ := hA
  have hP' := hPok
  obtain ⟨hP1, hP2, hP3, hP4, hP5, hP6, hP7, hP8, hPv, hPm, hPo, hPw, hPl⟩ := hP'
  have hok' := hok
  obtain ⟨hot, hoh, hosc, hokp⟩ := hok'
  have hI0 := hI
  obtain ⟨hC, hS, ⟨ST, hT⟩, hD, hR⟩ := hI0
  have hR0 := hR
  obtain ⟨hH, ⟨nx, hy⟩, hZ, ⟨ft, hf1, hf2, hf3⟩, ⟨⟨r0, r1, r2, r3, r4, hrd1⟩, hrd2, hrd3⟩⟩ := hR0
  show Wq xs (d + 12) ax_cd143 0 [(0, .ref 0)] [] σ Q
  refine wq_go rfl (fun _ => rfl) ?_
  refine wq_getf rfl (by first | rfl | assumption) (by first | decide | omega | assumption) (cw_c0 hC) rfl ?_
  refine wq_go rfl (fun _ => rfl) ?_
  refine wq_getf rfl (by first | rfl | assumption) (by first | decide | omega | assumption) (cw_c0 hC) rfl ?_
  refine wq_callV rfl rfl (by first | rfl | assumption) (by first | decide | omega | assumption) (Nat.le_of_ble_eq_true rfl) (Nat.le_of_ble_eq_true rfl) rfl rfl ?_
  by_cases hz : An A = 0
  · have hy1 := hy.2.1
    rw [hz] at hy1
    refine c_takeBack0 hy1 ?_
    refine wq_nret rfl (by decide) ?_
    have K' := K
    simp only [G_undo, if_pos hz, oq_s, oq_n, oq_c] at K'
    exact K' _ (hi_refl _) hI
  · have hY := hy.2.2.2.2 (An A - 1) (by omega)
    rw [show (nx + 40 - An A + (An A - 1)) % 40 = (nx + 40 - 1) % 40 by omega] at hY
    refine c_History_takeBack hy.2.1 hy.2.2.1 hy.1 (by omega) hAn rfl rfl hY hS (fun σ1 F1 e1 S1 => ?_)
    have hy' := hy_pop hy hAn (by omega) rfl F1 e1
    have o : ∀ j, j ≤ 34 ∨ (40 ≤ j ∧ ¬ j = 68) → σ1 j = σ j := fun j hj => F1 j (xH35 hj)
    obtain ⟨r1, _, r3, r4, r5⟩ := hR
    have I1 : CI (undoA A) σ1 := ci_new hI (fun j hj => o j (by omega)) rfl S1 ⟨hs_eq r1 (fun j a b => o j (by omega)), ⟨_, hy'⟩, sl_eq r3 (fun j a b => o j (by omega)), tp_eq r4 (fun j a b => o j (by omega)), rd_eq r5 (fun j a b => o j (by omega))⟩
    refine wq_nret rfl (by decide) ?_
    have K' := K
    simp only [G_undo, if_neg hz, oq_s, oq_n, oq_c] at K'
    exact K' _ (fun j hj => o j (by omega)) I1
theorem xHs_lo {j : Nat} (h : j ≤ 62 ∨ 68 ≤ j) : xHs j = false := by
  unfold xHs
  rcases Nat.lt_or_ge j 63 with q | q
  · rw [ble_f q]; rfl
  · rw [show Nat.ble j 67 = false from ble_f (by omega)]; simp
theorem ci_hs {A : Sy} {σ σ' : Nat → List Value} {T : Tl} (hI : CI A σ) (hF : Fr xHs σ σ') (hT : HsIs σ' T) : CI (setAT A T) σ' := by
  have o : ∀ j, j ≤ 62 ∨ 68 ≤ j → σ' j = σ j := fun j hj => hF j (xHs_lo hj)
  obtain ⟨r1, ⟨nx, r2⟩, r3, r4, r5⟩ := hI.2.2.2.2
  exact ci_fr hI hF rfl rfl (fun j hj => xHs_lo (by omega)) ⟨hT, ⟨nx, hy_eq r2 (fun j a b => o j (by omega))⟩, sl_eq r3 (fun j a b => o j (by omega)), tp_eq r4 (fun j a b => o j (by omega)), rd_eq r5 (fun j a b => o j (by omega))⟩
theorem cg_tell0 {n : Nat} {A : Sy} (hn : n < 512) (hA : Aok n A) (a0 a1 a2 : Int32) : COk ax_cd191 [.int a0, .int a1, .int a2, .int (nI 0)] A (G_tell A a0 a1 a2 0).1 (G_tell A a0 a1 a2 0).2 := by
  intro xs d σ Q hI K
  obtain ⟨hPok, ⟨hok, hhr72, hzq, hsum⟩, hAH, hAZ, hAn, hAh, hTok, hAl⟩ := hA
  have hP' := hPok
  obtain ⟨hP1, hP2, hP3, hP4, hP5, hP6, hP7, hP8, hPv, hPm, hPo, hPw, hPl⟩ := hP'
  have hok' := hok
  obtain ⟨hot, hoh, hosc, hokp⟩ := hok'
  have hI0 := hI
  obtain ⟨hC, hS, ⟨ST, hT⟩, hD, hR⟩ := hI0
  have hR0 := hR
  obtain ⟨hH, ⟨nx, hy⟩, hZ, ⟨ft, hf1, hf2, hf3⟩, ⟨⟨r0, r1, r2, r3, r4, hrd1⟩, hrd2, hrd3⟩⟩ := hR0
  have hTn := hTok.1
  show Wq xs (d + 12) ax_cd191 0 [(0, .ref 0), (1, .int a0), (2, .int a1), (3, .int a2), (4, .int (nI 0))] [] σ Q
  refine wq_go rfl (fun _ => rfl) ?_
  refine wq_getf rfl (by first | rfl | assumption) (by first | decide | omega | assumption) (cw_c0 hC) rfl ?_
  refine wq_go rfl (fun _ => rfl) ?_
  refine wq_callV rfl rfl (by first | rfl | assumption) (by first | decide | omega | assumption) (Nat.le_of_ble_eq_true rfl) (Nat.le_of_ble_eq_true rfl) rfl rfl ?_
  refine c_hasChairD hC (fun c lc qc ec => ?_) (fun ec => ?_)
  · subst qc
    refine wq_zeq rfl (by first | omega | decide | exact Nat.lt_of_le_of_lt Nat.and_le_right (by decide) | exact ⟨by omega, by omega⟩) (fun c => absurd c (by omega)) (fun c4 => ?_)
    refine wq_go rfl (fun _ => rfl) ?_
    refine wq_callS rfl (Nat.le_of_ble_eq_true rfl) rfl (Nat.le_of_ble_eq_true rfl) (Nat.le_of_ble_eq_true rfl) rfl rfl ?_
    refine c_isThoughtD  (fun t lt qt et => ?_) (fun et => ?_)
    · subst qt
      refine wq_zeq rfl (by first | omega | decide | exact Nat.lt_of_le_of_lt Nat.and_le_right (by decide) | exact ⟨by omega, by omega⟩) (fun c => absurd c (by omega)) (fun c7 => ?_)
      refine wq_go rfl (fun _ => rfl) ?_
      refine wq_callS rfl (Nat.le_of_ble_eq_true rfl) rfl (Nat.le_of_ble_eq_true rfl) (Nat.le_of_ble_eq_true rfl) rfl rfl ?_
      refine c_isAmountD  (fun w lw qw ew => ?_) (fun ew => ?_)
      · subst qw
        refine wq_zne rfl (by first | omega | decide | exact Nat.lt_of_le_of_lt Nat.and_le_right (by decide) | exact ⟨by omega, by omega⟩) (fun c10 => ?_) (fun c => absurd (show _ from by omega) c)
        refine wq_go rfl (fun _ => rfl) ?_
        refine wq_getf rfl (by first | rfl | assumption) (by first | decide | omega | assumption) (cw_c0 hC) rfl ?_
        refine wq_go rfl (fun _ => rfl) ?_
        refine wq_go rfl (fun _ => rfl) ?_
        refine wq_go rfl (fun _ => rfl) ?_
        refine wq_go rfl (fun _ => rfl) ?_
        refine wq_callV rfl rfl (by first | rfl | assumption) (by first | decide | omega | assumption) (Nat.le_of_ble_eq_true rfl) (Nat.le_of_ble_eq_true rfl) rfl rfl ?_
        by_cases hz : Tn (AT A) = 20
        · refine c_note_full hH (by decide) hz ?_
          refine wq_iret rfl ?_
          have K' := K
          simp only [G_tell, ec, et, ew, if_pos hz, oq_s, oq_n, oq_c] at K'
          exact K' _ (hi_refl _) hI
        · refine c_Hearsay_note hH (by decide) (by omega) (fun σ1 F1 T1 => ?_)
          refine wq_iret rfl ?_
          have K' := K
          simp only [G_tell, ec, et, ew, if_neg hz, oq_s, oq_n, oq_c] at K'
          exact K' _ (fun j hj => F1 j (xHs_lo (by omega))) (ci_hs hI F1 T1)
      · skip
        refine wq_zne rfl (by first | omega | decide | exact Nat.lt_of_le_of_lt Nat.and_le_right (by decide) | exact ⟨by omega, by omega⟩) (fun c => absurd c (by omega)) (fun c10 => ?_)
        refine wq_go rfl (fun _ => rfl) ?_
        refine wq_iret rfl ?_
        have K' := K
        simp only [G_tell, ec, et, ew, oq_s, oq_n, oq_c] at K'
        exact K' _ (hi_refl _) hI
    · skip
      refine wq_zeq rfl (by first | omega | decide | exact Nat.lt_of_le_of_lt Nat.and_le_right (by decide) | exact ⟨by omega, by omega⟩) (fun c7 => ?_) (fun c => absurd (show _ from by omega) c)
      refine wq_go rfl (fun _ => rfl) ?_
      refine wq_iret rfl ?_
      have K' := K
      simp only [G_tell, ec, et, oq_s, oq_n, oq_c] at K'
      exact K' _ (hi_refl _) hI
  · skip
    refine wq_zeq rfl (by first | omega | decide | exact Nat.lt_of_le_of_lt Nat.and_le_right (by decide) | exact ⟨by omega, by omega⟩) (fun c4 => ?_) (fun c => absurd (show _ from by omega) c)
    refine wq_go rfl (fun _ => rfl) ?_
    refine wq_iret rfl ?_
    have K' := K
    simp only [G_tell, ec, oq_s, oq_n, oq_c] at K'
    exact K' _ (hi_refl _) hI
theorem cg_tell1 {n : Nat} {A : Sy} (hn : n < 512) (hA : Aok n A) (a0 a1 a2 : Int32) : COk ax_cd191 [.int a0, .int a1, .int a2, .int (nI 1)] A (G_tell A a0 a1 a2 1).1 (G_tell A a0 a1 a2 1).2 := by
  intro xs d σ Q hI K
  obtain ⟨hPok, ⟨hok, hhr72, hzq, hsum⟩, hAH, hAZ, hAn, hAh, hTok, hAl⟩ := hA
  have hP' := hPok
  obtain ⟨hP1, hP2, hP3, hP4, hP5, hP6, hP7, hP8, hPv, hPm, hPo, hPw, hPl⟩ := hP'
  have hok' := hok
  obtain ⟨hot, hoh, hosc, hokp⟩ := hok'
  have hI0 := hI
  obtain ⟨hC, hS, ⟨ST, hT⟩, hD, hR⟩ := hI0
  have hR0 := hR
  obtain ⟨hH, ⟨nx, hy⟩, hZ, ⟨ft, hf1, hf2, hf3⟩, ⟨⟨r0, r1, r2, r3, r4, hrd1⟩, hrd2, hrd3⟩⟩ := hR0
  have hTn := hTok.1
  show Wq xs (d + 12) ax_cd191 0 [(0, .ref 0), (1, .int a0), (2, .int a1), (3, .int a2), (4, .int (nI 1))] [] σ Q
  refine wq_go rfl (fun _ => rfl) ?_
  refine wq_getf rfl (by first | rfl | assumption) (by first | decide | omega | assumption) (cw_c0 hC) rfl ?_
  refine wq_go rfl (fun _ => rfl) ?_
  refine wq_callV rfl rfl (by first | rfl | assumption) (by first | decide | omega | assumption) (Nat.le_of_ble_eq_true rfl) (Nat.le_of_ble_eq_true rfl) rfl rfl ?_
  refine c_hasChairD hC (fun c lc qc ec => ?_) (fun ec => ?_)
  · subst qc
    refine wq_zeq rfl (by first | omega | decide | exact Nat.lt_of_le_of_lt Nat.and_le_right (by decide) | exact ⟨by omega, by omega⟩) (fun c => absurd c (by omega)) (fun c4 => ?_)
    refine wq_go rfl (fun _ => rfl) ?_
    refine wq_callS rfl (Nat.le_of_ble_eq_true rfl) rfl (Nat.le_of_ble_eq_true rfl) (Nat.le_of_ble_eq_true rfl) rfl rfl ?_
    refine c_isThoughtD  (fun t lt qt et => ?_) (fun et => ?_)
    · subst qt
      refine wq_zeq rfl (by first | omega | decide | exact Nat.lt_of_le_of_lt Nat.and_le_right (by decide) | exact ⟨by omega, by omega⟩) (fun c => absurd c (by omega)) (fun c7 => ?_)
      refine wq_go rfl (fun _ => rfl) ?_
      refine wq_callS rfl (Nat.le_of_ble_eq_true rfl) rfl (Nat.le_of_ble_eq_true rfl) (Nat.le_of_ble_eq_true rfl) rfl rfl ?_
      refine c_isAmountD  (fun w lw qw ew => ?_) (fun ew => ?_)
      · subst qw
        refine wq_zne rfl (by first | omega | decide | exact Nat.lt_of_le_of_lt Nat.and_le_right (by decide) | exact ⟨by omega, by omega⟩) (fun c10 => ?_) (fun c => absurd (show _ from by omega) c)
        refine wq_go rfl (fun _ => rfl) ?_
        refine wq_getf rfl (by first | rfl | assumption) (by first | decide | omega | assumption) (cw_c0 hC) rfl ?_
        refine wq_go rfl (fun _ => rfl) ?_
        refine wq_go rfl (fun _ => rfl) ?_
        refine wq_go rfl (fun _ => rfl) ?_
        refine wq_go rfl (fun _ => rfl) ?_
        refine wq_callV rfl rfl (by first | rfl | assumption) (by first | decide | omega | assumption) (Nat.le_of_ble_eq_true rfl) (Nat.le_of_ble_eq_true rfl) rfl rfl ?_
        by_cases hz : Tn (AT A) = 20
        · refine c_note_full hH (by decide) hz ?_
          refine wq_iret rfl ?_
          have K' := K
          simp only [G_tell, ec, et, ew, if_pos hz, oq_s, oq_n, oq_c] at K'
          exact K' _ (hi_refl _) hI
        · refine c_Hearsay_note hH (by decide) (by omega) (fun σ1 F1 T1 => ?_)
          refine wq_iret rfl ?_
          have K' := K
          simp only [G_tell, ec, et, ew, if_neg hz, oq_s, oq_n, oq_c] at K'
          exact K' _ (fun j hj => F1 j (xHs_lo (by omega))) (ci_hs hI F1 T1)
      · skip
        refine wq_zne rfl (by first | omega | decide | exact Nat.lt_of_le_of_lt Nat.and_le_right (by decide) | exact ⟨by omega, by omega⟩) (fun c => absurd c (by omega)) (fun c10 => ?_)
        refine wq_go rfl (fun _ => rfl) ?_
        refine wq_iret rfl ?_
        have K' := K
        simp only [G_tell, ec, et, ew, oq_s, oq_n, oq_c] at K'
        exact K' _ (hi_refl _) hI
    · skip
      refine wq_zeq rfl (by first | omega | decide | exact Nat.lt_of_le_of_lt Nat.and_le_right (by decide) | exact ⟨by omega, by omega⟩) (fun c7 => ?_) (fun c => absurd (show _ from by omega) c)
      refine wq_go rfl (fun _ => rfl) ?_
      refine wq_iret rfl ?_
      have K' := K
      simp only [G_tell, ec, et, oq_s, oq_n, oq_c] at K'
      exact K' _ (hi_refl _) hI
  · skip
    refine wq_zeq rfl (by first | omega | decide | exact Nat.lt_of_le_of_lt Nat.and_le_right (by decide) | exact ⟨by omega, by omega⟩) (fun c4 => ?_) (fun c => absurd (show _ from by omega) c)
    refine wq_go rfl (fun _ => rfl) ?_
    refine wq_iret rfl ?_
    have K' := K
    simp only [G_tell, ec, oq_s, oq_n, oq_c] at K'
    exact K' _ (hi_refl _) hI
theorem cg_forget {n : Nat} {A : Sy} (hn : n < 512) (hA : Aok n A) : COk ax_cd194 [] A (G_forget A).1 (G_forget A).2 := by
  intro xs d σ Q hI K
  obtain ⟨hPok, ⟨hok, hhr72, hzq, hsum⟩, hAH, hAZ, hAn, hAh, hTok, hAl⟩ := hA
  have hP' := hPok
  obtain ⟨hP1, hP2, hP3, hP4, hP5, hP6, hP7, hP8, hPv, hPm, hPo, hPw, hPl⟩ := hP'
  have hok' := hok
  obtain ⟨hot, hoh, hosc, hokp⟩ := hok'
  have hI0 := hI
  obtain ⟨hC, hS, ⟨ST, hT⟩, hD, hR⟩ := hI0
  have hR0 := hR
  obtain ⟨hH, ⟨nx, hy⟩, hZ, ⟨ft, hf1, hf2, hf3⟩, ⟨⟨r0, r1, r2, r3, r4, hrd1⟩, hrd2, hrd3⟩⟩ := hR0
  show Wq xs (d + 12) ax_cd194 0 [(0, .ref 0)] [] σ Q
  refine wq_go rfl (fun _ => rfl) ?_
  refine wq_getf rfl (by first | rfl | assumption) (by first | decide | omega | assumption) (cw_c0 hC) rfl ?_
  refine wq_callV rfl rfl (by first | rfl | assumption) (by first | decide | omega | assumption) (Nat.le_of_ble_eq_true rfl) (Nat.le_of_ble_eq_true rfl) rfl rfl ?_
  refine c_Hearsay_size hH ?_
  refine wq_go rfl (fun _ => rfl) ?_
  refine wq_go rfl (fun _ => rfl) ?_
  refine wq_getf rfl (by first | rfl | assumption) (by first | decide | omega | assumption) (cw_c0 hC) rfl ?_
  refine wq_callV rfl rfl (by first | rfl | assumption) (by first | decide | omega | assumption) (Nat.le_of_ble_eq_true rfl) (Nat.le_of_ble_eq_true rfl) rfl rfl ?_
  refine c_Hearsay_clear hH (fun σ1 F1 T1 => ?_)
  refine wq_go rfl (fun _ => rfl) ?_
  refine wq_iret rfl ?_
  have K' := K
  simp only [G_forget, oq_s, oq_n, oq_c] at K'
  exact K' _ (fun j hj => F1 j (xHs_lo (by omega))) (ci_hs hI F1 T1)
theorem xZ_lo {s j : Nat} (h : j ≤ 269 ∨ j = 271 ∨ 287 ≤ j) (hs : s < 3) : xZ (272 + 5 * s) j = false := by
  have e1 : (j == 270) = false := by simp; omega
  have e2 : inS (272 + 5 * s) j = false := by
    unfold inS
    rcases Nat.lt_or_ge j (272 + 5 * s) with q | q
    · rw [ble_f q]; rfl
    · rw [show Nat.ble j (272 + 5 * s + 4) = false from ble_f (by omega)]; simp
  simp only [xZ, e1, e2, Bool.or_false]
theorem or_tb (x s j : Nat) : (x ||| 2 ^ s).testBit j = (x.testBit j || decide (j = s)) := by
  rw [Nat.testBit_or, Nat.testBit_two_pow]
  congr 1
  exact decide_eq_decide.mpr ⟨fun e => e.symm, fun e => e.symm⟩
theorem sl_put {σ σ' : Nat → List Value} {Z : Nat → St} {hl s : Nat} {S : St} (h : SlIs σ Z hl) (hs : s < 3) (hF : Fr (xZ (272 + 5 * s)) σ σ') (e270 : σ' 270 = [.ref 271, .int (nI (hl ||| 2 ^ s))]) (hS : StIs σ' (272 + 5 * s) S) : SlIs σ' (fun j => if j = s then S else Z j) (hl ||| 2 ^ s) := by
  obtain ⟨h1, h2, h3, h4⟩ := h
  have o : ∀ i S0, i < 3 → ¬ i = s → StIs σ (272 + 5 * i) S0 → StIs σ' (272 + 5 * i) S0 := by
    intro i S0 hi hne h0
    refine st_fr h0 hF (fun j a b => ?_)
    have e1 : (j == 270) = false := by simp; omega
    have e2 : inS (272 + 5 * s) j = false := by
      unfold inS
      rcases Nat.lt_or_ge j (272 + 5 * s) with q | q
      · rw [ble_f q]; rfl
      · rw [show Nat.ble j (272 + 5 * s + 4) = false from ble_f (by omega)]; simp
    simp only [xZ, e1, e2, Bool.or_false]
  refine ⟨e270, (hF 271 (xZ_lo (by omega) hs)).trans h2, fun i hi => ?_, fun i hi hb => ?_⟩
  · by_cases e : i = s
    · subst e; exact ⟨S, hS⟩
    · obtain ⟨S', hS'⟩ := h3 i hi
      exact ⟨S', o i S' hi e hS'⟩
  · show StIs σ' (272 + 5 * i) (if i = s then S else Z i)
    by_cases e : i = s
    · subst e; rw [if_pos rfl]; exact hS
    · rw [if_neg e]
      rw [or_tb, decide_eq_false e, Bool.or_false] at hb
      exact o i _ hi e (h4 i hi hb)
theorem ci_put {A : Sy} {σ σ' : Nat → List Value} {s : Nat} (hI : CI A σ) (hs : s < 3) (hF : Fr (xZ (272 + 5 * s)) σ σ') (e270 : σ' 270 = [.ref 271, .int (nI (Ah A ||| 2 ^ s))]) (hS : StIs σ' (272 + 5 * s) (AS A)) : CI (holdA A s) σ' := by
  have o : ∀ j, j ≤ 269 → σ' j = σ j := fun j hj => hF j (xZ_lo (by omega) hs)
  obtain ⟨r1, ⟨nx, r2⟩, r3, r4, r5⟩ := hI.2.2.2.2
  exact ci_fr hI hF rfl rfl (fun j hj => xZ_lo (by omega) hs) ⟨hs_eq r1 (fun j a b => o j (by omega)), ⟨nx, hy_eq r2 (fun j a b => o j (by omega))⟩, sl_put r3 hs hF e270 hS, tp_eq r4 (fun j a b => o j (by omega)), rd_eq r5 (fun j a b => o j (by omega))⟩
theorem cg_hold {n : Nat} {A : Sy} (hn : n < 512) (hA : Aok n A) (a0 : Int32) : COk ax_cd202 [.int a0] A (G_hold A a0).1 (G_hold A a0).2 := by
  intro xs d σ Q hI K
  obtain ⟨hPok, ⟨hok, hhr72, hzq, hsum⟩, hAH, hAZ, hAn, hAh, hTok, hAl⟩ := hA
  have hP' := hPok
  obtain ⟨hP1, hP2, hP3, hP4, hP5, hP6, hP7, hP8, hPv, hPm, hPo, hPw, hPl⟩ := hP'
  have hok' := hok
  obtain ⟨hot, hoh, hosc, hokp⟩ := hok'
  have hI0 := hI
  obtain ⟨hC, hS, ⟨ST, hT⟩, hD, hR⟩ := hI0
  have hR0 := hR
  obtain ⟨hH, ⟨nx, hy⟩, hZ, ⟨ft, hf1, hf2, hf3⟩, ⟨⟨r0, r1, r2, r3, r4, hrd1⟩, hrd2, hrd3⟩⟩ := hR0
  show Wq xs (d + 12) ax_cd202 0 [(0, .ref 0), (1, .int a0)] [] σ Q
  refine wq_go rfl (fun _ => rfl) ?_
  refine wq_getf rfl (by first | rfl | assumption) (by first | decide | omega | assumption) (cw_c0 hC) rfl ?_
  refine wq_go rfl (fun _ => rfl) ?_
  refine wq_go rfl (fun _ => rfl) ?_
  refine wq_getf rfl (by first | rfl | assumption) (by first | decide | omega | assumption) (cw_c0 hC) rfl ?_
  refine wq_callV rfl rfl (by first | rfl | assumption) (by first | decide | omega | assumption) (Nat.le_of_ble_eq_true rfl) (Nat.le_of_ble_eq_true rfl) rfl rfl ?_
  rcases dec_cases (n := 3) (by decide) a0 with ⟨es, hx⟩ | ⟨s, ls, q, es⟩
  · refine c_Slots_put_bad hZ.1 hZ.2.1 hx ?_
    refine wq_nret rfl (by decide) ?_
    have K' := K
    simp only [G_hold, es, oq_s, oq_n, oq_c] at K'
    exact K' _ (hi_refl _) hI
  · subst q
    obtain ⟨SZ, hSZ⟩ := hZ.2.2.1 s ls
    refine c_Slots_put hZ.1 hZ.2.1 hAh ls rfl hSZ hS (fun σ1 F1 e1 S1 => ?_)
    refine wq_nret rfl (by decide) ?_
    have K' := K
    simp only [G_hold, es, oq_s, oq_n, oq_c] at K'
    exact K' _ (fun j hj => F1 j (xZ_lo (by omega) ls)) (ci_put hI ls F1 e1 S1)
theorem x68_lo {j : Nat} (h : ¬ j = 68) : x68 j = false := by
  simp only [x68, beq_eq_false_iff_ne]
  exact h
theorem xk35 {j : Nat} (h : j ≤ 34 ∨ 40 ≤ j) : xk 35 j = false := by
  unfold xk inS
  rcases Nat.lt_or_ge j 35 with q | q
  · rw [ble_f q]; rfl
  · rw [show Nat.ble j (35 + 4) = false from ble_f (by omega)]; simp
theorem ci_res {A : Sy} {σ σ' σ'' : Nat → List Value} {s nx : Nat} (hI : CI A σ) (hy : HyIs σ nx (An A) (AH A)) (hF : Fr (xk 35) σ σ') (hS : StIs σ' 35 (AZ A s)) (hF2 : Fr x68 σ' σ'') (e68 : σ'' 68 = [.ref 69, .int (nI nx), .int (nI 0)]) : CI (resA A s) σ'' := by
  have o2 : ∀ j, ¬ j = 68 → σ'' j = σ' j := fun j hj => hF2 j (x68_lo hj)
  have o : ∀ j, (j ≤ 34 ∨ 40 ≤ j) ∧ ¬ j = 68 → σ'' j = σ j := fun j hj => (o2 j hj.2).trans (hF j (xk35 hj.1))
  obtain ⟨r1, _, r3, r4, r5⟩ := hI.2.2.2.2
  obtain ⟨y1, y2, y3, y4, y5⟩ := hy
  refine ci_new hI (fun j hj => o j (by omega)) rfl (st_eq hS (fun j a b => o2 j (by omega))) ⟨hs_eq r1 (fun j a b => o j (by omega)), ⟨nx, y1, e68, (o 69 (by omega)).trans y3, fun i hi => ?_, fun j hj => absurd hj (Nat.not_lt_zero j)⟩, sl_eq r3 (fun j a b => o j (by omega)), tp_eq r4 (fun j a b => o j (by omega)), rd_eq r5 (fun j a b => o j (by omega))⟩
  obtain ⟨S', hS'⟩ := y4 i hi
  exact ⟨S', st_eq hS' (fun j a b => o j (by omega))⟩
theorem cg_restore {n : Nat} {A : Sy} (hn : n < 512) (hA : Aok n A) (a0 : Int32) : COk ax_cd204 [.int a0] A (G_restore A a0).1 (G_restore A a0).2 := by
  intro xs d σ Q hI K
  obtain ⟨hPok, ⟨hok, hhr72, hzq, hsum⟩, hAH, hAZ, hAn, hAh, hTok, hAl⟩ := hA
  have hP' := hPok
  obtain ⟨hP1, hP2, hP3, hP4, hP5, hP6, hP7, hP8, hPv, hPm, hPo, hPw, hPl⟩ := hP'
  have hok' := hok
  obtain ⟨hot, hoh, hosc, hokp⟩ := hok'
  have hI0 := hI
  obtain ⟨hC, hS, ⟨ST, hT⟩, hD, hR⟩ := hI0
  have hR0 := hR
  obtain ⟨hH, ⟨nx, hy⟩, hZ, ⟨ft, hf1, hf2, hf3⟩, ⟨⟨r0, r1, r2, r3, r4, hrd1⟩, hrd2, hrd3⟩⟩ := hR0
  show Wq xs (d + 12) ax_cd204 0 [(0, .ref 0), (1, .int a0)] [] σ Q
  refine wq_go rfl (fun _ => rfl) ?_
  refine wq_getf rfl (by first | rfl | assumption) (by first | decide | omega | assumption) (cw_c0 hC) rfl ?_
  refine wq_go rfl (fun _ => rfl) ?_
  refine wq_go rfl (fun _ => rfl) ?_
  refine wq_getf rfl (by first | rfl | assumption) (by first | decide | omega | assumption) (cw_c0 hC) rfl ?_
  refine wq_callV rfl rfl (by first | rfl | assumption) (by first | decide | omega | assumption) (Nat.le_of_ble_eq_true rfl) (Nat.le_of_ble_eq_true rfl) rfl rfl ?_
  rcases dec_cases (n := 3) (by decide) a0 with ⟨es, hx⟩ | ⟨s, ls, q, es⟩
  · refine c_Slots_fetch_bad hZ.1 hZ.2.1 hx ?_
    refine wq_zne rfl (by first | omega | decide | exact Nat.lt_of_le_of_lt Nat.and_le_right (by decide) | exact ⟨by omega, by omega⟩) (fun c => absurd c (by omega)) (fun c6 => ?_)
    refine wq_cN (m := 0) rfl rfl ?_
    refine wq_nret rfl (by decide) ?_
    have K' := K
    simp only [G_restore, es, oq_s, oq_n, oq_c] at K'
    exact K' _ (hi_refl _) hI
  · subst q
    cases hb : (Ah A).testBit s with
    | false =>
      refine c_Slots_fetch0 hZ.1 hZ.2.1 hAh ls hb ?_
      refine wq_zne rfl (by first | omega | decide | exact Nat.lt_of_le_of_lt Nat.and_le_right (by decide) | exact ⟨by omega, by omega⟩) (fun c => absurd c (by omega)) (fun c6 => ?_)
      refine wq_cN (m := 0) rfl rfl ?_
      refine wq_nret rfl (by decide) ?_
      have K' := K
      simp only [G_restore, es, hb, oq_s, oq_n, oq_c, Bool.false_eq_true, if_false] at K'
      exact K' _ (hi_refl _) hI
    | true =>
      refine c_Slots_fetch hZ.1 hZ.2.1 hAh ls rfl (hZ.2.2.2 s ls hb) hS hb (fun σ1 F1 S1 => ?_)
      have e68 : σ1 68 = _ := (F1 68 (xk35 (by omega))).trans hy.2.1
      refine wq_zne rfl (by first | omega | decide | exact Nat.lt_of_le_of_lt Nat.and_le_right (by decide) | exact ⟨by omega, by omega⟩) (fun c6 => ?_) (fun c => absurd (show _ from by omega) c)
      refine wq_go rfl (fun _ => rfl) ?_
      refine wq_getf rfl (by first | rfl | assumption) (by first | decide | omega | assumption) (cw_c0 (cw_35 hC F1)) rfl ?_
      refine wq_callV rfl rfl (by first | rfl | assumption) (by first | decide | omega | assumption) (Nat.le_of_ble_eq_true rfl) (Nat.le_of_ble_eq_true rfl) rfl rfl ?_
      refine c_History_clear e68 (fun σ2 F2 e2 => ?_)
      refine wq_cN (m := 1) rfl rfl ?_
      refine wq_nret rfl (by decide) ?_
      have K' := K
      simp only [G_restore, es, hb, oq_s, oq_n, oq_c, if_true] at K'
      exact K' _ (fun j hj => (F2 j (x68_lo (by omega))).trans (F1 j (xk35 (by omega)))) (ci_res hI hy F1 S1 F2 e2)
