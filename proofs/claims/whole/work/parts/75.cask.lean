/-! CALLS THAT ASK: the class -/
def od (o : Option Nat) (b : Int32) (k : Nat → Int32) : Int32 := match o with
  | some h => k h
  | none => b
theorem od_s (h : Nat) (b : Int32) (k : Nat → Int32) : od (some h) b k = k h := rfl
theorem od_n (b : Int32) (k : Nat → Int32) : od none b k = b := rfl
theorem od_c (o : Option Nat) (b : Int32) : od o b (fun _ => b) = b := by cases o <;> rfl

def F_place (A : Sy) : Int32 := Ap A
def F_chair (A : Sy) (x : Int32) (y : Int32) : Int32 := od (dec (Pch (AP A)) x) (-1) fun c => od (dec 7 y) (-1) fun w => if w < 4 then nI (Ssq (AS A) (c * 4 + w)) else if w = 4 then nI (Pme (AP A) c) else if w = 5 then nI (bitN (Ssc (AS A)) c) else nI (Ssi (AS A) c)
def F_head (A : Sy) (x : Int32) (y : Int32) : Int32 := od (dec (Phd (AP A)) x) (-1) fun h => od (dec 7 y) (-1) fun w => if w < 4 then nI (Sow (AS A) (h * 4 + w)) else if w = 4 then nI (Poi (AP A) h) else if w = 5 then nI (bset (fun t => says1 (AS A) (Psa (AP A)) h t) 4) else nI (Ssb (AS A) h)
def F_visit (A : Sy) (x : Int32) (y : Int32) : Int32 := od (dec (Pvs (AP A)) x) (-1) fun i => od (dec 4 y) (-1) fun w => if w = 0 then nI (Pvh (AP A) i) else if w = 1 then nI (Pvc (AP A) i) else if w = 2 then nI (Pvt (AP A) i) else nI (bitN (Skp (AS A)) i)
def F_tells (A : Sy) (x : Int32) (y : Int32) (z : Int32) (u : Int32) : Int32 := od (dec 4 z) (-1) fun t => od (dec 4 u) (-1) fun w => if w = 3 then (od (dec (Phd (AP A)) y) (-1) fun h => nI (fadeN (AP A) (AS A) h t)) else od (dec (Pch (AP A)) x) (-1) fun c => if w = 2 then nI (washN (AP A) (AS A) c t) else od (dec (Phd (AP A)) y) (-1) fun h => if w = 0 then nI (keptN (AP A) (AS A) h c t) else nI (passN (AP A) (AS A) h c t)
def F_sittings (A : Sy) (x : Int32) (y : Int32) (z : Int32) : Int32 := od (dec (Phd (AP A)) x) (-1) fun h => od (dec 4 y) (-1) fun t => if z = -1 then fewI (AP A) (AS A) h t else od (dec 3 z) (-1) fun w => if fewI (AP A) (AS A) h t = -2 then -2 else if w < (fewL (AP A) (AS A) h t).length then nI ((fewL (AP A) (AS A) h t).getD w 0) else -1
def F_alone (A : Sy) (x : Int32) (y : Int32) (z : Int32) : Int32 := od (dec (Phd (AP A)) x) (-1) fun h => od (dec (Pch (AP A)) y) (-1) fun c => od (dec 4 z) (-1) fun t => fsF (fun u => says1 (seatN (AP A) (AS A) h c u) (Psa (AP A)) h t) 61 0
def F_gain (A : Sy) (x : Int32) (y : Int32) (z : Int32) : Int32 := od (dec (Phd (AP A)) x) (-100000) fun h => od (dec (Pch (AP A)) y) (-100000) fun c => od (dec 4 z) (-100000) fun t => zI (gainZ (AP A) (AS A) h c t)
def F_bestChair (A : Sy) (x : Int32) (y : Int32) : Int32 := od (dec (Phd (AP A)) x) (-1) fun h => od (dec 4 y) (-1) fun t => oI (am (fun c => gainZ (AP A) (AS A) h c t) (List.range (Pch (AP A))))
def F_most (A : Sy) (x : Int32) (y : Int32) : Int32 := od (dec 4 x) (-1) fun t => od (dec 2 y) (-1) fun w => if w = 0 then oI (am (fun i => (Sow (AS A) (t + i * 4) : Int)) (List.range (Phd (AP A)))) else oI (am (fun i => (Ssq (AS A) (t + i * 4) : Int)) (List.range (Pch (AP A))))
def F_when (A : Sy) (x : Int32) (y : Int32) : Int32 := od (dec (Phd (AP A)) x) (-1) fun h => od (dec 4 y) (-1) fun t => fsF (fun u => says1 (goS (AP A) 0 (Psd (AP A)) (AS A) u) (Psa (AP A)) h t) 201 0
def F_meet (A : Sy) (x : Int32) (y : Int32) (z : Int32) : Int32 := od (dec 4 x) (-1) fun t => od (dec 4 y) (-1) fun o => if t = o then -1 else od (dec 73 z) (-1) fun n => nI (bset (fun h => says1 (goS (AP A) 0 (Psd (AP A)) (AS A) n) (Psa (AP A)) h t) (Phd (AP A)) &&& bset (fun h => says1 (goS (AP A) 0 (Psd (AP A)) (AS A) n) (Psa (AP A)) h o) (Phd (AP A)))
def F_without (A : Sy) (x : Int32) (y : Int32) (z : Int32) : Int32 := od (dec (Pvs (AP A)) x) (-1) fun i => od (dec 4 y) (-1) fun t => od (dec 73 z) (-1) fun n => if n = 0 then -1 else nI (Sow (goS (AP A) 0 (Psd (AP A)) (setKp (AS A) (clr (Skp (AS A)) i)) n) (Pvh (AP A) i * 4 + t))
def F_alike (A : Sy) (x : Int32) : Int32 := od (dec 2 x) (-1) fun w => match am (far2 (Ssq (AS A))) (pls (Pch (AP A)) (Pch (AP A))) with | none => -2 | some b => if w = 0 then nI b else nI (dist (Ssq (AS A)) (b / 10) (b % 10))
def F_agree (A : Sy) (x : Int32) : Int32 := od (dec 2 x) (-1) fun w => match am (far2 (Sow (AS A))) (pls (Phd (AP A)) (Phd (AP A))) with | none => -2 | some b => if w = 0 then nI b else nI (dist (Sow (AS A)) (b / 10) (b % 10))
def F_fullest (A : Sy) (x : Int32) : Int32 := od (dec 2 x) (-1) fun w => match am (fun h => (s4 (Sow (AS A)) (h * 4) : Int)) (List.range (Phd (AP A))) with | none => -2 | some b => if w = 0 then nI b else nI (s4 (Sow (AS A)) (b * 4))
def F_share (A : Sy) (x : Int32) (y : Int32) : Int32 := od (dec (Pch (AP A)) x) (-1) fun c => od (dec 4 y) (-1) fun t => if s4 (Ssq (AS A)) (c * 4) = 0 then 0 else nI (1000 * Ssq (AS A) (c * 4 + t) / s4 (Ssq (AS A)) (c * 4))
def F_foremost (A : Sy) (x : Int32) : Int32 := od (dec (Phd (AP A)) x) (-1) fun h => oI (am (fun i => (Sow (AS A) (h * 4 + i * 1) : Int)) (List.range 4))
def F_saysIn (A : Sy) (x : Int32) (y : Int32) : Int32 := od (dec (Phd (AP A)) x) (-1) fun h => od (dec 73 y) (-1) fun n => nI (bset (fun t => says1 (goS (AP A) 1 (Psd (AP A)) (AS A) n) (Psa (AP A)) h t) 4)
def F_silent (A : Sy) (x : Int32) : Int32 := od (dec 4 x) (-1) fun t => fsF (fun u => decide (bset (fun h => says1 (goS (AP A) 0 (Psd (AP A)) (AS A) u) (Psa (AP A)) h t) (Phd (AP A)) = 0)) 201 0
def F_lost (A : Sy) (x : Int32) : Int32 := od (dec 73 x) (-1) fun n => zI ((Ssd (goS (AP A) 0 (Psd (AP A)) (AS A) n) : Int) - (Ssd (AS A) : Int))
def F_clean (A : Sy) (x : Int32) : Int32 := od (dec 2 x) (-1) fun w => match am (fun c => ((sumF (washN (AP A) (AS A) c) 4 : Nat) : Int)) (List.range (Pch (AP A))) with | none => -2 | some b => if w = 0 then nI b else nI (sumF (washN (AP A) (AS A) b) 4)
def F_headIn (A : Sy) (x : Int32) (y : Int32) (z : Int32) : Int32 := od (dec (Phd (AP A)) x) (-1) fun h => od (dec 4 y) (-1) fun t => od (dec 73 z) (-1) fun n => nI (Sow (goS (AP A) 1 (Psd (AP A)) (AS A) n) (h * 4 + t))
def F_chairIn (A : Sy) (x : Int32) (y : Int32) (z : Int32) : Int32 := od (dec (Pch (AP A)) x) (-1) fun c => od (dec 4 y) (-1) fun t => od (dec 73 z) (-1) fun n => nI (Ssq (goS (AP A) 1 (Psd (AP A)) (AS A) n) (c * 4 + t))
def F_then (A : Sy) (x : Int32) (y : Int32) : Int32 := od (dec 73 x) (-1) fun n => od (dec 5 y) (-1) fun w => if w = 4 then nI (Ssd (goS (AP A) 1 (Psd (AP A)) (AS A) n)) else nI (bset (fun h => says1 (goS (AP A) 1 (Psd (AP A)) (AS A) n) (Psa (AP A)) h w) (Phd (AP A)))
def F_year (A : Sy) (x : Int32) (y : Int32) (z : Int32) (u : Int32) : Int32 := od (dec (Phd (AP A)) x) (-1) fun h => od (dec 4 y) (-1) fun t => od (dec 73 z) (-1) fun n => od (dec 21 u) (-1) fun w => if w = 0 then -1 else nI (if 0 < Pmt (AP A) then sumF (fun i => if says1 (goS (AP A) 1 (Psd (AP A) + i) (AS A) n) (Psa (AP A)) h t = true then 1 else 0) w else sumF (fun i => if says1 (goS (AP A) 1 (Psd (AP A) + i) (AS A) n) (Psa (AP A)) h t = true then 1 else 0) 1 * w)
def F_who (A : Sy) (x : Int32) (y : Int32) : Int32 := od (dec (Tn (AT A) + 1) x) (-1) fun k => od (dec 2 y) (-1) fun w => if w = 0 then nI (pc (leftN (AP A) (AS A) (AT A) k)) else nI (leftN (AP A) (AS A) (AT A) k)
def F_look (A : Sy) (x : Int32) (y : Int32) : Int32 := od (dec (Tn (AT A) + 1) x) (-1) fun k => od (dec 1000 y) (-1) fun w => lookI (AP A) (AS A) (leftN (AP A) (AS A) (AT A) k) w
def F_count (A : Sy) (x : Int32) : Int32 := od (dec 19 x) (-1) fun w => if w = 0 then nI (Pch (AP A)) else if w = 1 then nI (Phd (AP A)) else if w = 2 then nI (Pvs (AP A)) else if w = 3 then nI (Shr (AS A)) else if w = 4 then nI (Shr (AS A) % 24) else if w = 5 then nI (Ssd (AS A)) else if w = 6 then nI (sumF (fun c => s4 (Ssq (AS A)) (c * 4)) 4 + sumF (fun h => s4 (Sow (AS A)) (h * 4)) 5) else if w = 7 then nI (Ssc (AS A)) else if w = 8 then nI (Al A) else if w = 9 then nI (An A) else if w = 10 then nI (Tn (AT A)) else if w = 11 then nI (pc (Ah A)) else if w = 12 then (if mothB (AP A) (Psd (AP A)) (AS A) = true then nI 1 else nI 0) else if w = 13 then nI (orF (fun t => bset (fun h => says1 (AS A) (Psa (AP A)) h t) (Phd (AP A))) 4) else if w = 14 then nI (Skp (AS A)) else if w = 15 then nI (bset (fun c => decide (s4 (Ssq (AS A)) (c * 4) = 0)) (Pch (AP A))) else if w = 16 then nI (sumF (Ssb (AS A)) 5) else if w = 17 then nI (orF (fun i => if 0 < Ssq (AS A) i then 2 ^ (i % 4) else 0) 16) else nI (sumF (Poi (AP A)) (Phd (AP A)))
theorem c_hasChairD {xs : List Int32} {d : Nat} {σ : Nat → List Value} {Q : Option Value → (Nat → List Value) → Prop} {P : Pl} (hC : CW P σ) {x : Int32} (K1 : ∀ h, h < Pch P → x = nI h → dec (Pch P) x = some h → Q (some (.int (nI 1))) σ) (K0 : dec (Pch P) x = none → Q (some (.int (nI 0))) σ) : Wq xs (d + 0) ax_cd86 0 [(0, .ref 21), (1, .int x)] [] σ Q := by
  have hPk := cw_pok hC
  obtain ⟨hP1, hP2, hP3, _⟩ := hPk
  exact c_hasChair hC (fun h e hh => K1 h hh e (by rw [e]; exact dec_some hh (by omega))) (fun hx => K0 (dec_none hx))
theorem c_hasHeadD {xs : List Int32} {d : Nat} {σ : Nat → List Value} {Q : Option Value → (Nat → List Value) → Prop} {P : Pl} (hC : CW P σ) {x : Int32} (K1 : ∀ h, h < Phd P → x = nI h → dec (Phd P) x = some h → Q (some (.int (nI 1))) σ) (K0 : dec (Phd P) x = none → Q (some (.int (nI 0))) σ) : Wq xs (d + 0) ax_cd78 0 [(0, .ref 21), (1, .int x)] [] σ Q := by
  have hPk := cw_pok hC
  obtain ⟨hP1, hP2, hP3, _⟩ := hPk
  exact c_hasHead hC (fun h e hh => K1 h hh e (by rw [e]; exact dec_some hh (by omega))) (fun hx => K0 (dec_none hx))
theorem c_hasVisitD {xs : List Int32} {d : Nat} {σ : Nat → List Value} {Q : Option Value → (Nat → List Value) → Prop} {P : Pl} (hC : CW P σ) {x : Int32} (K1 : ∀ h, h < Pvs P → x = nI h → dec (Pvs P) x = some h → Q (some (.int (nI 1))) σ) (K0 : dec (Pvs P) x = none → Q (some (.int (nI 0))) σ) : Wq xs (d + 0) ax_cd97 0 [(0, .ref 21), (1, .int x)] [] σ Q := by
  have hPk := cw_pok hC
  obtain ⟨hP1, hP2, hP3, _⟩ := hPk
  exact c_hasVisit hC (fun h e hh => K1 h hh e (by rw [e]; exact dec_some hh (by omega))) (fun hx => K0 (dec_none hx))
theorem c_isThoughtD {xs : List Int32} {d : Nat} {σ : Nat → List Value} {Q : Option Value → (Nat → List Value) → Prop} {x : Int32} (K1 : ∀ h, h < 4 → x = nI h → dec 4 x = some h → Q (some (.int (nI 1))) σ) (K0 : dec 4 x = none → Q (some (.int (nI 0))) σ) : Wq xs (d + 0) ax_cd103 0 [(0, .int x)] [] σ Q := by
  obtain ⟨p, hp, e⟩ := zI_of x
  subst e
  have hp' := hp
  obtain ⟨hp1, hp2⟩ := hp'
  refine wq_go rfl (fun _ => rfl) ?_
  refine wq_ylt rfl rfl (by first | omega | decide | exact Nat.lt_of_le_of_lt Nat.and_le_right (by decide) | exact ⟨by omega, by omega⟩) (fun c1 => ?_) (fun c1 => ?_)
  · skip
    refine wq_cN (m := 0) rfl rfl ?_
    refine wq_nret rfl (by decide) ?_
    first | exact K1 p.toNat (by omega) (by rw [nI_z]; congr 1; omega) (by rw [dec_zI (by decide) hp, if_pos ⟨by omega, by omega⟩]) | exact K0 (by rw [dec_zI (by decide) hp, if_neg (by omega)])
  · skip
    refine wq_go rfl (fun _ => rfl) ?_
    refine wq_cN (m := 4) rfl rfl ?_
    refine wq_dge rfl rfl (nI_z _) (by first | omega | decide | exact Nat.lt_of_le_of_lt Nat.and_le_right (by decide) | exact ⟨by omega, by omega⟩) (by first | omega | decide | exact Nat.lt_of_le_of_lt Nat.and_le_right (by decide) | exact ⟨by omega, by omega⟩) (fun c4 => ?_) (fun c4 => ?_)
    · skip
      refine wq_cN (m := 0) rfl rfl ?_
      refine wq_nret rfl (by decide) ?_
      first | exact K1 p.toNat (by omega) (by rw [nI_z]; congr 1; omega) (by rw [dec_zI (by decide) hp, if_pos ⟨by omega, by omega⟩]) | exact K0 (by rw [dec_zI (by decide) hp, if_neg (by omega)])
    · skip
      refine wq_cN (m := 1) rfl rfl ?_
      refine wq_go rfl (fun _ => rfl) ?_
      refine wq_nret rfl (by decide) ?_
      first | exact K1 p.toNat (by omega) (by rw [nI_z]; congr 1; omega) (by rw [dec_zI (by decide) hp, if_pos ⟨by omega, by omega⟩]) | exact K0 (by rw [dec_zI (by decide) hp, if_neg (by omega)])
theorem c_isHoursD {xs : List Int32} {d : Nat} {σ : Nat → List Value} {Q : Option Value → (Nat → List Value) → Prop} {x : Int32} (K1 : ∀ h, h < 73 → x = nI h → dec 73 x = some h → Q (some (.int (nI 1))) σ) (K0 : dec 73 x = none → Q (some (.int (nI 0))) σ) : Wq xs (d + 0) ax_cd134 0 [(0, .int x)] [] σ Q := by
  obtain ⟨p, hp, e⟩ := zI_of x
  subst e
  have hp' := hp
  obtain ⟨hp1, hp2⟩ := hp'
  refine wq_go rfl (fun _ => rfl) ?_
  refine wq_ylt rfl rfl (by first | omega | decide | exact Nat.lt_of_le_of_lt Nat.and_le_right (by decide) | exact ⟨by omega, by omega⟩) (fun c1 => ?_) (fun c1 => ?_)
  · skip
    refine wq_cN (m := 0) rfl rfl ?_
    refine wq_nret rfl (by decide) ?_
    first | exact K1 p.toNat (by omega) (by rw [nI_z]; congr 1; omega) (by rw [dec_zI (by decide) hp, if_pos ⟨by omega, by omega⟩]) | exact K0 (by rw [dec_zI (by decide) hp, if_neg (by omega)])
  · skip
    refine wq_go rfl (fun _ => rfl) ?_
    refine wq_cN (m := 72) rfl rfl ?_
    refine wq_dgt rfl rfl (nI_z _) (by first | omega | decide | exact Nat.lt_of_le_of_lt Nat.and_le_right (by decide) | exact ⟨by omega, by omega⟩) (by first | omega | decide | exact Nat.lt_of_le_of_lt Nat.and_le_right (by decide) | exact ⟨by omega, by omega⟩) (fun c4 => ?_) (fun c4 => ?_)
    · skip
      refine wq_cN (m := 0) rfl rfl ?_
      refine wq_nret rfl (by decide) ?_
      first | exact K1 p.toNat (by omega) (by rw [nI_z]; congr 1; omega) (by rw [dec_zI (by decide) hp, if_pos ⟨by omega, by omega⟩]) | exact K0 (by rw [dec_zI (by decide) hp, if_neg (by omega)])
    · skip
      refine wq_cN (m := 1) rfl rfl ?_
      refine wq_go rfl (fun _ => rfl) ?_
      refine wq_nret rfl (by decide) ?_
      first | exact K1 p.toNat (by omega) (by rw [nI_z]; congr 1; omega) (by rw [dec_zI (by decide) hp, if_pos ⟨by omega, by omega⟩]) | exact K0 (by rw [dec_zI (by decide) hp, if_neg (by omega)])
theorem c_isAmountD {xs : List Int32} {d : Nat} {σ : Nat → List Value} {Q : Option Value → (Nat → List Value) → Prop} {x : Int32} (K1 : ∀ h, h < 1000 → x = nI h → dec 1000 x = some h → Q (some (.int (nI 1))) σ) (K0 : dec 1000 x = none → Q (some (.int (nI 0))) σ) : Wq xs (d + 0) ax_cd192 0 [(0, .int x)] [] σ Q := by
  obtain ⟨p, hp, e⟩ := zI_of x
  subst e
  have hp' := hp
  obtain ⟨hp1, hp2⟩ := hp'
  refine wq_go rfl (fun _ => rfl) ?_
  refine wq_ylt rfl rfl (by first | omega | decide | exact Nat.lt_of_le_of_lt Nat.and_le_right (by decide) | exact ⟨by omega, by omega⟩) (fun c1 => ?_) (fun c1 => ?_)
  · skip
    refine wq_cN (m := 0) rfl rfl ?_
    refine wq_nret rfl (by decide) ?_
    first | exact K1 p.toNat (by omega) (by rw [nI_z]; congr 1; omega) (by rw [dec_zI (by decide) hp, if_pos ⟨by omega, by omega⟩]) | exact K0 (by rw [dec_zI (by decide) hp, if_neg (by omega)])
  · skip
    refine wq_go rfl (fun _ => rfl) ?_
    refine wq_cN (m := 999) rfl rfl ?_
    refine wq_dgt rfl rfl (nI_z _) (by first | omega | decide | exact Nat.lt_of_le_of_lt Nat.and_le_right (by decide) | exact ⟨by omega, by omega⟩) (by first | omega | decide | exact Nat.lt_of_le_of_lt Nat.and_le_right (by decide) | exact ⟨by omega, by omega⟩) (fun c4 => ?_) (fun c4 => ?_)
    · skip
      refine wq_cN (m := 0) rfl rfl ?_
      refine wq_nret rfl (by decide) ?_
      first | exact K1 p.toNat (by omega) (by rw [nI_z]; congr 1; omega) (by rw [dec_zI (by decide) hp, if_pos ⟨by omega, by omega⟩]) | exact K0 (by rw [dec_zI (by decide) hp, if_neg (by omega)])
    · skip
      refine wq_cN (m := 1) rfl rfl ?_
      refine wq_go rfl (fun _ => rfl) ?_
      refine wq_nret rfl (by decide) ?_
      first | exact K1 p.toNat (by omega) (by rw [nI_z]; congr 1; omega) (by rw [dec_zI (by decide) hp, if_pos ⟨by omega, by omega⟩]) | exact K0 (by rw [dec_zI (by decide) hp, if_neg (by omega)])
theorem c_faultPlace {xs : List Int32} {d : Nat} {σ : Nat → List Value} {Q : Option Value → (Nat → List Value) → Prop} {r0 r1 r2 r3 r4 pl : Int32} (h3 : σ 3 = [.ref 15, .ref 4, .ref 13, .ref 14, .int r0, .int r1, .int r2, .int r3, .int r4, .int pl]) (K : Q (some (.int pl)) σ) : Wq xs (d + 0) ax_cd84 0 [(0, .ref 3)] [] σ Q := by
  refine wq_go rfl (fun _ => rfl) ?_
  refine wq_getf rfl (by first | rfl | assumption) (by first | decide | omega | assumption) h3 rfl ?_
  refine wq_iret rfl ?_
  exact K
theorem ck_place {n : Nat} {A : Sy} (hn : n < 512) (hA : Aok n A) : COk ax_cd83 [] A A (F_place A) := by
  intro xs d σ Q hI K
  obtain ⟨hPok, ⟨hok, hhr72, hzq, hsum⟩, hAH, hAZ, hAn, hAh, hTok, hAl⟩ := hA
  have hP' := hPok
  obtain ⟨hP1, hP2, hP3, hP4, hP5, hP6, hP7, hP8, hPv, hPm, hPo, hPw, hPl⟩ := hP'
  have hok' := hok
  obtain ⟨hot, hoh, hosc, hokp⟩ := hok'
  have hI0 := hI
  obtain ⟨hC, hS, ⟨ST, hT⟩, hD, hR⟩ := hI0
  have hR0 := hR
  obtain ⟨hH, ⟨nx, hy⟩, hZ, ⟨ft, hf1, hf2, hf3⟩, ⟨⟨r0, r1, r2, r3, r4, hrd1⟩, hrd2, hrd3⟩⟩ := hR0
  show Wq xs (d + 12) ax_cd83 0 [(0, .ref 0)] [] σ Q
  refine wq_go rfl (fun _ => rfl) ?_
  refine wq_getf rfl (by first | rfl | assumption) (by first | decide | omega | assumption) (cw_c0 hC) rfl ?_
  refine wq_callV rfl rfl (by first | rfl | assumption) (by first | decide | omega | assumption) (Nat.le_of_ble_eq_true rfl) (Nat.le_of_ble_eq_true rfl) rfl rfl ?_
  refine c_faultPlace hrd1 ?_
  refine wq_iret rfl ?_
  exact ansQ (K _ (hi_refl _) hI) (by simp only [F_place, od_s, od_n, od_c] <;> first | rfl | simp [od_c])
theorem ck_chair {n : Nat} {A : Sy} (hn : n < 512) (hA : Aok n A) (a0 a1 : Int32) : COk ax_cd85 [.int a0, .int a1] A A (F_chair A a0 a1) := by
  intro xs d σ Q hI K
  obtain ⟨hPok, ⟨hok, hhr72, hzq, hsum⟩, hAH, hAZ, hAn, hAh, hTok, hAl⟩ := hA
  have hP' := hPok
  obtain ⟨hP1, hP2, hP3, hP4, hP5, hP6, hP7, hP8, hPv, hPm, hPo, hPw, hPl⟩ := hP'
  have hok' := hok
  obtain ⟨hot, hoh, hosc, hokp⟩ := hok'
  have hI0 := hI
  obtain ⟨hC, hS, ⟨ST, hT⟩, hD, hR⟩ := hI0
  have hR0 := hR
  obtain ⟨hH, ⟨nx, hy⟩, hZ, ⟨ft, hf1, hf2, hf3⟩, ⟨⟨r0, r1, r2, r3, r4, hrd1⟩, hrd2, hrd3⟩⟩ := hR0
  show Wq xs (d + 12) ax_cd85 0 [(0, .ref 0), (1, .int a0), (2, .int a1)] [] σ Q
  refine wq_go rfl (fun _ => rfl) ?_
  refine wq_getf rfl (by first | rfl | assumption) (by first | decide | omega | assumption) (cw_c0 hC) rfl ?_
  refine wq_go rfl (fun _ => rfl) ?_
  refine wq_callV rfl rfl (by first | rfl | assumption) (by first | decide | omega | assumption) (Nat.le_of_ble_eq_true rfl) (Nat.le_of_ble_eq_true rfl) rfl rfl ?_
  refine c_hasChairD hC (fun c lc qc ec => ?_) (fun ec => ?_)
  · subst qc
    refine wq_zne rfl (by first | omega | decide | exact Nat.lt_of_le_of_lt Nat.and_le_right (by decide) | exact ⟨by omega, by omega⟩) (fun c4 => ?_) (fun c => absurd (show _ from by omega) c)
    refine wq_go rfl (fun _ => rfl) ?_
    rcases dec_cases (n := 7) (by decide) a1 with ⟨ew, hw⟩ | ⟨w, lw, qw, ew⟩
    · refine wq_swD 7 rfl (by decide) (by decide) hw ?_
      refine wq_go rfl (fun _ => rfl) ?_
      refine wq_iret rfl ?_
      exact ansQ (K _ (hi_refl _) hI) (by simp only [F_chair, ec, ew, od_s, od_n, od_c] <;> first | rfl | (rw [show bitN (Ssc (AS A)) c = _ from if_pos eb]; rfl) | (rw [show bitN (Ssc (AS A)) c = 0 from if_neg (by rw [eb]; decide)]; rfl))
    · subst qw
      have ow : w = 0 ∨ w = 1 ∨ w = 2 ∨ w = 3 ∨ w = 4 ∨ w = 5 ∨ w = 6 := by omega
      rcases ow with rfl | rfl | rfl | rfl | rfl | rfl | rfl
      · refine wq_swN rfl rfl (by decide) rfl ?_
        refine wq_go rfl (fun _ => rfl) ?_
        refine wq_getf rfl (by first | rfl | assumption) (by first | decide | omega | assumption) (cw_c0 hC) rfl ?_
        refine wq_go rfl (fun _ => rfl) ?_
        refine wq_go rfl (fun _ => rfl) ?_
        refine wq_callV rfl rfl (by first | rfl | assumption) (by first | decide | omega | assumption) (Nat.le_of_ble_eq_true rfl) (Nat.le_of_ble_eq_true rfl) rfl rfl ?_
        refine c_State_cloth k35 hS (by omega) (by omega) ?_
        refine wq_iret rfl ?_
        exact ansQ (K _ (hi_refl _) hI) (by simp only [F_chair, ec, ew, od_s, od_n, od_c] <;> first | rfl | (rw [show bitN (Ssc (AS A)) c = _ from if_pos eb]; rfl) | (rw [show bitN (Ssc (AS A)) c = 0 from if_neg (by rw [eb]; decide)]; rfl))
      · refine wq_swN rfl rfl (by decide) rfl ?_
        refine wq_go rfl (fun _ => rfl) ?_
        refine wq_getf rfl (by first | rfl | assumption) (by first | decide | omega | assumption) (cw_c0 hC) rfl ?_
        refine wq_go rfl (fun _ => rfl) ?_
        refine wq_go rfl (fun _ => rfl) ?_
        refine wq_callV rfl rfl (by first | rfl | assumption) (by first | decide | omega | assumption) (Nat.le_of_ble_eq_true rfl) (Nat.le_of_ble_eq_true rfl) rfl rfl ?_
        refine c_State_cloth k35 hS (by omega) (by omega) ?_
        refine wq_iret rfl ?_
        exact ansQ (K _ (hi_refl _) hI) (by simp only [F_chair, ec, ew, od_s, od_n, od_c] <;> first | rfl | (rw [show bitN (Ssc (AS A)) c = _ from if_pos eb]; rfl) | (rw [show bitN (Ssc (AS A)) c = 0 from if_neg (by rw [eb]; decide)]; rfl))
      · refine wq_swN rfl rfl (by decide) rfl ?_
        refine wq_go rfl (fun _ => rfl) ?_
        refine wq_getf rfl (by first | rfl | assumption) (by first | decide | omega | assumption) (cw_c0 hC) rfl ?_
        refine wq_go rfl (fun _ => rfl) ?_
        refine wq_go rfl (fun _ => rfl) ?_
        refine wq_callV rfl rfl (by first | rfl | assumption) (by first | decide | omega | assumption) (Nat.le_of_ble_eq_true rfl) (Nat.le_of_ble_eq_true rfl) rfl rfl ?_
        refine c_State_cloth k35 hS (by omega) (by omega) ?_
        refine wq_iret rfl ?_
        exact ansQ (K _ (hi_refl _) hI) (by simp only [F_chair, ec, ew, od_s, od_n, od_c] <;> first | rfl | (rw [show bitN (Ssc (AS A)) c = _ from if_pos eb]; rfl) | (rw [show bitN (Ssc (AS A)) c = 0 from if_neg (by rw [eb]; decide)]; rfl))
      · refine wq_swN rfl rfl (by decide) rfl ?_
        refine wq_go rfl (fun _ => rfl) ?_
        refine wq_getf rfl (by first | rfl | assumption) (by first | decide | omega | assumption) (cw_c0 hC) rfl ?_
        refine wq_go rfl (fun _ => rfl) ?_
        refine wq_go rfl (fun _ => rfl) ?_
        refine wq_callV rfl rfl (by first | rfl | assumption) (by first | decide | omega | assumption) (Nat.le_of_ble_eq_true rfl) (Nat.le_of_ble_eq_true rfl) rfl rfl ?_
        refine c_State_cloth k35 hS (by omega) (by omega) ?_
        refine wq_iret rfl ?_
        exact ansQ (K _ (hi_refl _) hI) (by simp only [F_chair, ec, ew, od_s, od_n, od_c] <;> first | rfl | (rw [show bitN (Ssc (AS A)) c = _ from if_pos eb]; rfl) | (rw [show bitN (Ssc (AS A)) c = 0 from if_neg (by rw [eb]; decide)]; rfl))
      · refine wq_swN rfl rfl (by decide) rfl ?_
        refine wq_go rfl (fun _ => rfl) ?_
        refine wq_getf rfl (by first | rfl | assumption) (by first | decide | omega | assumption) (cw_c0 hC) rfl ?_
        refine wq_go rfl (fun _ => rfl) ?_
        refine wq_callV rfl rfl (by first | rfl | assumption) (by first | decide | omega | assumption) (Nat.le_of_ble_eq_true rfl) (Nat.le_of_ble_eq_true rfl) rfl rfl ?_
        refine c_Plan_meshOf hC (by omega) ?_
        refine wq_iret rfl ?_
        exact ansQ (K _ (hi_refl _) hI) (by simp only [F_chair, ec, ew, od_s, od_n, od_c] <;> first | rfl | (rw [show bitN (Ssc (AS A)) c = _ from if_pos eb]; rfl) | (rw [show bitN (Ssc (AS A)) c = 0 from if_neg (by rw [eb]; decide)]; rfl))
      · refine wq_swN rfl rfl (by decide) rfl ?_
        refine wq_go rfl (fun _ => rfl) ?_
        refine wq_getf rfl (by first | rfl | assumption) (by first | decide | omega | assumption) (cw_c0 hC) rfl ?_
        refine wq_go rfl (fun _ => rfl) ?_
        refine wq_callV rfl rfl (by first | rfl | assumption) (by first | decide | omega | assumption) (Nat.le_of_ble_eq_true rfl) (Nat.le_of_ble_eq_true rfl) rfl rfl ?_
        refine c_State_isStarched k35 hS (by omega) hosc (fun eb => ?_) (fun eb => ?_)
        · skip
          refine wq_zeq rfl (by first | omega | decide | exact Nat.lt_of_le_of_lt Nat.and_le_right (by decide) | exact ⟨by omega, by omega⟩) (fun c => absurd c (by omega)) (fun c24 => ?_)
          refine wq_cN (m := 1) rfl rfl ?_
          refine wq_go rfl (fun _ => rfl) ?_
          refine wq_iret rfl ?_
          exact ansQ (K _ (hi_refl _) hI) (by simp only [F_chair, ec, ew, od_s, od_n, od_c] <;> first | rfl | (rw [show bitN (Ssc (AS A)) c = _ from if_pos eb]; rfl) | (rw [show bitN (Ssc (AS A)) c = 0 from if_neg (by rw [eb]; decide)]; rfl))
        · skip
          refine wq_zeq rfl (by first | omega | decide | exact Nat.lt_of_le_of_lt Nat.and_le_right (by decide) | exact ⟨by omega, by omega⟩) (fun c24 => ?_) (fun c => absurd (show _ from by omega) c)
          refine wq_cN (m := 0) rfl rfl ?_
          refine wq_iret rfl ?_
          exact ansQ (K _ (hi_refl _) hI) (by simp only [F_chair, ec, ew, od_s, od_n, od_c] <;> first | rfl | (rw [show bitN (Ssc (AS A)) c = _ from if_pos eb]; rfl) | (rw [show bitN (Ssc (AS A)) c = 0 from if_neg (by rw [eb]; decide)]; rfl))
      · refine wq_swN rfl rfl (by decide) rfl ?_
        refine wq_go rfl (fun _ => rfl) ?_
        refine wq_getf rfl (by first | rfl | assumption) (by first | decide | omega | assumption) (cw_c0 hC) rfl ?_
        refine wq_go rfl (fun _ => rfl) ?_
        refine wq_callV rfl rfl (by first | rfl | assumption) (by first | decide | omega | assumption) (Nat.le_of_ble_eq_true rfl) (Nat.le_of_ble_eq_true rfl) rfl rfl ?_
        refine c_State_satIn k35 hS (by omega) ?_
        refine wq_iret rfl ?_
        exact ansQ (K _ (hi_refl _) hI) (by simp only [F_chair, ec, ew, od_s, od_n, od_c] <;> first | rfl | (rw [show bitN (Ssc (AS A)) c = _ from if_pos eb]; rfl) | (rw [show bitN (Ssc (AS A)) c = 0 from if_neg (by rw [eb]; decide)]; rfl))
  · skip
    refine wq_zne rfl (by first | omega | decide | exact Nat.lt_of_le_of_lt Nat.and_le_right (by decide) | exact ⟨by omega, by omega⟩) (fun c => absurd c (by omega)) (fun c4 => ?_)
    refine wq_go rfl (fun _ => rfl) ?_
    refine wq_iret rfl ?_
    exact ansQ (K _ (hi_refl _) hI) (by simp only [F_chair, ec, od_s, od_n, od_c] <;> first | rfl | (rw [show bitN (Ssc (AS A)) c = _ from if_pos eb]; rfl) | (rw [show bitN (Ssc (AS A)) c = 0 from if_neg (by rw [eb]; decide)]; rfl))
theorem ck_head {n : Nat} {A : Sy} (hn : n < 512) (hA : Aok n A) (a0 a1 : Int32) : COk ax_cd91 [.int a0, .int a1] A A (F_head A a0 a1) := by
  intro xs d σ Q hI K
  obtain ⟨hPok, ⟨hok, hhr72, hzq, hsum⟩, hAH, hAZ, hAn, hAh, hTok, hAl⟩ := hA
  have hP' := hPok
  obtain ⟨hP1, hP2, hP3, hP4, hP5, hP6, hP7, hP8, hPv, hPm, hPo, hPw, hPl⟩ := hP'
  have hok' := hok
  obtain ⟨hot, hoh, hosc, hokp⟩ := hok'
  have hI0 := hI
  obtain ⟨hC, hS, ⟨ST, hT⟩, hD, hR⟩ := hI0
  have hR0 := hR
  obtain ⟨hH, ⟨nx, hy⟩, hZ, ⟨ft, hf1, hf2, hf3⟩, ⟨⟨r0, r1, r2, r3, r4, hrd1⟩, hrd2, hrd3⟩⟩ := hR0
  show Wq xs (d + 12) ax_cd91 0 [(0, .ref 0), (1, .int a0), (2, .int a1)] [] σ Q
  refine wq_go rfl (fun _ => rfl) ?_
  refine wq_getf rfl (by first | rfl | assumption) (by first | decide | omega | assumption) (cw_c0 hC) rfl ?_
  refine wq_go rfl (fun _ => rfl) ?_
  refine wq_callV rfl rfl (by first | rfl | assumption) (by first | decide | omega | assumption) (Nat.le_of_ble_eq_true rfl) (Nat.le_of_ble_eq_true rfl) rfl rfl ?_
  refine c_hasHeadD hC (fun h lh qh eh => ?_) (fun eh => ?_)
  · subst qh
    refine wq_zne rfl (by first | omega | decide | exact Nat.lt_of_le_of_lt Nat.and_le_right (by decide) | exact ⟨by omega, by omega⟩) (fun c4 => ?_) (fun c => absurd (show _ from by omega) c)
    refine wq_go rfl (fun _ => rfl) ?_
    rcases dec_cases (n := 7) (by decide) a1 with ⟨ew, hw⟩ | ⟨w, lw, qw, ew⟩
    · refine wq_swD 7 rfl (by decide) (by decide) hw ?_
      refine wq_go rfl (fun _ => rfl) ?_
      refine wq_iret rfl ?_
      exact ansQ (K _ (hi_refl _) hI) (by simp only [F_head, eh, ew, od_s, od_n, od_c] <;> first | rfl | simp [od_c])
    · subst qw
      have ow : w = 0 ∨ w = 1 ∨ w = 2 ∨ w = 3 ∨ w = 4 ∨ w = 5 ∨ w = 6 := by omega
      rcases ow with rfl | rfl | rfl | rfl | rfl | rfl | rfl
      · refine wq_swN rfl rfl (by decide) rfl ?_
        refine wq_go rfl (fun _ => rfl) ?_
        refine wq_getf rfl (by first | rfl | assumption) (by first | decide | omega | assumption) (cw_c0 hC) rfl ?_
        refine wq_go rfl (fun _ => rfl) ?_
        refine wq_go rfl (fun _ => rfl) ?_
        refine wq_callV rfl rfl (by first | rfl | assumption) (by first | decide | omega | assumption) (Nat.le_of_ble_eq_true rfl) (Nat.le_of_ble_eq_true rfl) rfl rfl ?_
        refine c_State_own k35 hS (by omega) (by omega) ?_
        refine wq_iret rfl ?_
        exact ansQ (K _ (hi_refl _) hI) (by simp only [F_head, eh, ew, od_s, od_n, od_c] <;> first | rfl | simp [od_c])
      · refine wq_swN rfl rfl (by decide) rfl ?_
        refine wq_go rfl (fun _ => rfl) ?_
        refine wq_getf rfl (by first | rfl | assumption) (by first | decide | omega | assumption) (cw_c0 hC) rfl ?_
        refine wq_go rfl (fun _ => rfl) ?_
        refine wq_go rfl (fun _ => rfl) ?_
        refine wq_callV rfl rfl (by first | rfl | assumption) (by first | decide | omega | assumption) (Nat.le_of_ble_eq_true rfl) (Nat.le_of_ble_eq_true rfl) rfl rfl ?_
        refine c_State_own k35 hS (by omega) (by omega) ?_
        refine wq_iret rfl ?_
        exact ansQ (K _ (hi_refl _) hI) (by simp only [F_head, eh, ew, od_s, od_n, od_c] <;> first | rfl | simp [od_c])
      · refine wq_swN rfl rfl (by decide) rfl ?_
        refine wq_go rfl (fun _ => rfl) ?_
        refine wq_getf rfl (by first | rfl | assumption) (by first | decide | omega | assumption) (cw_c0 hC) rfl ?_
        refine wq_go rfl (fun _ => rfl) ?_
        refine wq_go rfl (fun _ => rfl) ?_
        refine wq_callV rfl rfl (by first | rfl | assumption) (by first | decide | omega | assumption) (Nat.le_of_ble_eq_true rfl) (Nat.le_of_ble_eq_true rfl) rfl rfl ?_
        refine c_State_own k35 hS (by omega) (by omega) ?_
        refine wq_iret rfl ?_
        exact ansQ (K _ (hi_refl _) hI) (by simp only [F_head, eh, ew, od_s, od_n, od_c] <;> first | rfl | simp [od_c])
      · refine wq_swN rfl rfl (by decide) rfl ?_
        refine wq_go rfl (fun _ => rfl) ?_
        refine wq_getf rfl (by first | rfl | assumption) (by first | decide | omega | assumption) (cw_c0 hC) rfl ?_
        refine wq_go rfl (fun _ => rfl) ?_
        refine wq_go rfl (fun _ => rfl) ?_
        refine wq_callV rfl rfl (by first | rfl | assumption) (by first | decide | omega | assumption) (Nat.le_of_ble_eq_true rfl) (Nat.le_of_ble_eq_true rfl) rfl rfl ?_
        refine c_State_own k35 hS (by omega) (by omega) ?_
        refine wq_iret rfl ?_
        exact ansQ (K _ (hi_refl _) hI) (by simp only [F_head, eh, ew, od_s, od_n, od_c] <;> first | rfl | simp [od_c])
      · refine wq_swN rfl rfl (by decide) rfl ?_
        refine wq_go rfl (fun _ => rfl) ?_
        refine wq_getf rfl (by first | rfl | assumption) (by first | decide | omega | assumption) (cw_c0 hC) rfl ?_
        refine wq_go rfl (fun _ => rfl) ?_
        refine wq_callV rfl rfl (by first | rfl | assumption) (by first | decide | omega | assumption) (Nat.le_of_ble_eq_true rfl) (Nat.le_of_ble_eq_true rfl) rfl rfl ?_
        refine c_Plan_oilOf hC (by omega) ?_
        refine wq_iret rfl ?_
        exact ansQ (K _ (hi_refl _) hI) (by simp only [F_head, eh, ew, od_s, od_n, od_c] <;> first | rfl | simp [od_c])
      · refine wq_swN rfl rfl (by decide) rfl ?_
        refine wq_go rfl (fun _ => rfl) ?_
        refine wq_getf rfl (by first | rfl | assumption) (by first | decide | omega | assumption) (cw_c0 hC) rfl ?_
        refine wq_go rfl (fun _ => rfl) ?_
        refine wq_go rfl (fun _ => rfl) ?_
        refine wq_getf rfl (by first | rfl | assumption) (by first | decide | omega | assumption) (cw_c0 hC) rfl ?_
        refine wq_getf rfl (by first | rfl | assumption) (by first | decide | omega | assumption) (cw_c21 hC) rfl ?_
        refine wq_callV rfl rfl (by first | rfl | assumption) (by first | decide | omega | assumption) (Nat.le_of_ble_eq_true rfl) (Nat.le_of_ble_eq_true rfl) rfl rfl ?_
        refine c_State_saidBy k35 hS hok (by omega) (by omega) ?_
        refine wq_iret rfl ?_
        exact ansQ (K _ (hi_refl _) hI) (by simp only [F_head, eh, ew, od_s, od_n, od_c] <;> first | rfl | simp [od_c])
      · refine wq_swN rfl rfl (by decide) rfl ?_
        refine wq_go rfl (fun _ => rfl) ?_
        refine wq_getf rfl (by first | rfl | assumption) (by first | decide | omega | assumption) (cw_c0 hC) rfl ?_
        refine wq_go rfl (fun _ => rfl) ?_
        refine wq_callV rfl rfl (by first | rfl | assumption) (by first | decide | omega | assumption) (Nat.le_of_ble_eq_true rfl) (Nat.le_of_ble_eq_true rfl) rfl rfl ?_
        refine c_State_satBy k35 hS (by omega) ?_
        refine wq_iret rfl ?_
        exact ansQ (K _ (hi_refl _) hI) (by simp only [F_head, eh, ew, od_s, od_n, od_c] <;> first | rfl | simp [od_c])
  · skip
    refine wq_zne rfl (by first | omega | decide | exact Nat.lt_of_le_of_lt Nat.and_le_right (by decide) | exact ⟨by omega, by omega⟩) (fun c => absurd c (by omega)) (fun c4 => ?_)
    refine wq_go rfl (fun _ => rfl) ?_
    refine wq_iret rfl ?_
    exact ansQ (K _ (hi_refl _) hI) (by simp only [F_head, eh, od_s, od_n, od_c] <;> first | rfl | simp [od_c])
theorem ck_visit {n : Nat} {A : Sy} (hn : n < 512) (hA : Aok n A) (a0 a1 : Int32) : COk ax_cd96 [.int a0, .int a1] A A (F_visit A a0 a1) := by
  intro xs d σ Q hI K
  obtain ⟨hPok, ⟨hok, hhr72, hzq, hsum⟩, hAH, hAZ, hAn, hAh, hTok, hAl⟩ := hA
  have hP' := hPok
  obtain ⟨hP1, hP2, hP3, hP4, hP5, hP6, hP7, hP8, hPv, hPm, hPo, hPw, hPl⟩ := hP'
  have hok' := hok
  obtain ⟨hot, hoh, hosc, hokp⟩ := hok'
  have hI0 := hI
  obtain ⟨hC, hS, ⟨ST, hT⟩, hD, hR⟩ := hI0
  have hR0 := hR
  obtain ⟨hH, ⟨nx, hy⟩, hZ, ⟨ft, hf1, hf2, hf3⟩, ⟨⟨r0, r1, r2, r3, r4, hrd1⟩, hrd2, hrd3⟩⟩ := hR0
  show Wq xs (d + 12) ax_cd96 0 [(0, .ref 0), (1, .int a0), (2, .int a1)] [] σ Q
  refine wq_go rfl (fun _ => rfl) ?_
  refine wq_getf rfl (by first | rfl | assumption) (by first | decide | omega | assumption) (cw_c0 hC) rfl ?_
  refine wq_go rfl (fun _ => rfl) ?_
  refine wq_callV rfl rfl (by first | rfl | assumption) (by first | decide | omega | assumption) (Nat.le_of_ble_eq_true rfl) (Nat.le_of_ble_eq_true rfl) rfl rfl ?_
  refine c_hasVisitD hC (fun i li qi ei => ?_) (fun ei => ?_)
  · subst qi
    refine wq_zne rfl (by first | omega | decide | exact Nat.lt_of_le_of_lt Nat.and_le_right (by decide) | exact ⟨by omega, by omega⟩) (fun c4 => ?_) (fun c => absurd (show _ from by omega) c)
    refine wq_go rfl (fun _ => rfl) ?_
    rcases dec_cases (n := 4) (by decide) a1 with ⟨ew, hw⟩ | ⟨w, lw, qw, ew⟩
    · refine wq_swD 4 rfl (by decide) (by decide) hw ?_
      refine wq_go rfl (fun _ => rfl) ?_
      refine wq_iret rfl ?_
      exact ansQ (K _ (hi_refl _) hI) (by simp only [F_visit, ei, ew, od_s, od_n, od_c] <;> first | rfl | (rw [show bitN (Skp (AS A)) i = _ from if_pos eb]; rfl) | (rw [show bitN (Skp (AS A)) i = 0 from if_neg (by rw [eb]; decide)]; rfl))
    · subst qw
      have ow : w = 0 ∨ w = 1 ∨ w = 2 ∨ w = 3 := by omega
      rcases ow with rfl | rfl | rfl | rfl
      · refine wq_swN rfl rfl (by decide) rfl ?_
        refine wq_go rfl (fun _ => rfl) ?_
        refine wq_getf rfl (by first | rfl | assumption) (by first | decide | omega | assumption) (cw_c0 hC) rfl ?_
        refine wq_go rfl (fun _ => rfl) ?_
        refine wq_callV rfl rfl (by first | rfl | assumption) (by first | decide | omega | assumption) (Nat.le_of_ble_eq_true rfl) (Nat.le_of_ble_eq_true rfl) rfl rfl ?_
        refine c_Plan_visitHead hC (by omega) ?_
        refine wq_iret rfl ?_
        exact ansQ (K _ (hi_refl _) hI) (by simp only [F_visit, ei, ew, od_s, od_n, od_c] <;> first | rfl | (rw [show bitN (Skp (AS A)) i = _ from if_pos eb]; rfl) | (rw [show bitN (Skp (AS A)) i = 0 from if_neg (by rw [eb]; decide)]; rfl))
      · refine wq_swN rfl rfl (by decide) rfl ?_
        refine wq_go rfl (fun _ => rfl) ?_
        refine wq_getf rfl (by first | rfl | assumption) (by first | decide | omega | assumption) (cw_c0 hC) rfl ?_
        refine wq_go rfl (fun _ => rfl) ?_
        refine wq_callV rfl rfl (by first | rfl | assumption) (by first | decide | omega | assumption) (Nat.le_of_ble_eq_true rfl) (Nat.le_of_ble_eq_true rfl) rfl rfl ?_
        refine c_Plan_visitChair hC (by omega) ?_
        refine wq_iret rfl ?_
        exact ansQ (K _ (hi_refl _) hI) (by simp only [F_visit, ei, ew, od_s, od_n, od_c] <;> first | rfl | (rw [show bitN (Skp (AS A)) i = _ from if_pos eb]; rfl) | (rw [show bitN (Skp (AS A)) i = 0 from if_neg (by rw [eb]; decide)]; rfl))
      · refine wq_swN rfl rfl (by decide) rfl ?_
        refine wq_go rfl (fun _ => rfl) ?_
        refine wq_getf rfl (by first | rfl | assumption) (by first | decide | omega | assumption) (cw_c0 hC) rfl ?_
        refine wq_go rfl (fun _ => rfl) ?_
        refine wq_callV rfl rfl (by first | rfl | assumption) (by first | decide | omega | assumption) (Nat.le_of_ble_eq_true rfl) (Nat.le_of_ble_eq_true rfl) rfl rfl ?_
        refine c_Plan_visitHour hC (by omega) ?_
        refine wq_iret rfl ?_
        exact ansQ (K _ (hi_refl _) hI) (by simp only [F_visit, ei, ew, od_s, od_n, od_c] <;> first | rfl | (rw [show bitN (Skp (AS A)) i = _ from if_pos eb]; rfl) | (rw [show bitN (Skp (AS A)) i = 0 from if_neg (by rw [eb]; decide)]; rfl))
      · refine wq_swN rfl rfl (by decide) rfl ?_
        refine wq_go rfl (fun _ => rfl) ?_
        refine wq_getf rfl (by first | rfl | assumption) (by first | decide | omega | assumption) (cw_c0 hC) rfl ?_
        refine wq_go rfl (fun _ => rfl) ?_
        refine wq_callV rfl rfl (by first | rfl | assumption) (by first | decide | omega | assumption) (Nat.le_of_ble_eq_true rfl) (Nat.le_of_ble_eq_true rfl) rfl rfl ?_
        refine c_State_isKept k35 hS (by omega) hokp (fun eb => ?_) (fun eb => ?_)
        · skip
          refine wq_zeq rfl (by first | omega | decide | exact Nat.lt_of_le_of_lt Nat.and_le_right (by decide) | exact ⟨by omega, by omega⟩) (fun c => absurd c (by omega)) (fun c28 => ?_)
          refine wq_cN (m := 1) rfl rfl ?_
          refine wq_go rfl (fun _ => rfl) ?_
          refine wq_iret rfl ?_
          exact ansQ (K _ (hi_refl _) hI) (by simp only [F_visit, ei, ew, od_s, od_n, od_c] <;> first | rfl | (rw [show bitN (Skp (AS A)) i = _ from if_pos eb]; rfl) | (rw [show bitN (Skp (AS A)) i = 0 from if_neg (by rw [eb]; decide)]; rfl))
        · skip
          refine wq_zeq rfl (by first | omega | decide | exact Nat.lt_of_le_of_lt Nat.and_le_right (by decide) | exact ⟨by omega, by omega⟩) (fun c28 => ?_) (fun c => absurd (show _ from by omega) c)
          refine wq_cN (m := 0) rfl rfl ?_
          refine wq_iret rfl ?_
          exact ansQ (K _ (hi_refl _) hI) (by simp only [F_visit, ei, ew, od_s, od_n, od_c] <;> first | rfl | (rw [show bitN (Skp (AS A)) i = _ from if_pos eb]; rfl) | (rw [show bitN (Skp (AS A)) i = 0 from if_neg (by rw [eb]; decide)]; rfl))
  · skip
    refine wq_zne rfl (by first | omega | decide | exact Nat.lt_of_le_of_lt Nat.and_le_right (by decide) | exact ⟨by omega, by omega⟩) (fun c => absurd c (by omega)) (fun c4 => ?_)
    refine wq_go rfl (fun _ => rfl) ?_
    refine wq_iret rfl ?_
    exact ansQ (K _ (hi_refl _) hI) (by simp only [F_visit, ei, od_s, od_n, od_c] <;> first | rfl | (rw [show bitN (Skp (AS A)) i = _ from if_pos eb]; rfl) | (rw [show bitN (Skp (AS A)) i = 0 from if_neg (by rw [eb]; decide)]; rfl))
theorem ck_tells {n : Nat} {A : Sy} (hn : n < 512) (hA : Aok n A) (a0 a1 a2 a3 : Int32) : COk ax_cd102 [.int a0, .int a1, .int a2, .int a3] A A (F_tells A a0 a1 a2 a3) := by
  intro xs d σ Q hI K
  obtain ⟨hPok, ⟨hok, hhr72, hzq, hsum⟩, hAH, hAZ, hAn, hAh, hTok, hAl⟩ := hA
  have hP' := hPok
  obtain ⟨hP1, hP2, hP3, hP4, hP5, hP6, hP7, hP8, hPv, hPm, hPo, hPw, hPl⟩ := hP'
  have hok' := hok
  obtain ⟨hot, hoh, hosc, hokp⟩ := hok'
  have hI0 := hI
  obtain ⟨hC, hS, ⟨ST, hT⟩, hD, hR⟩ := hI0
  have hR0 := hR
  obtain ⟨hH, ⟨nx, hy⟩, hZ, ⟨ft, hf1, hf2, hf3⟩, ⟨⟨r0, r1, r2, r3, r4, hrd1⟩, hrd2, hrd3⟩⟩ := hR0
  show Wq xs (d + 12) ax_cd102 0 [(0, .ref 0), (1, .int a0), (2, .int a1), (3, .int a2), (4, .int a3)] [] σ Q
  rcases dec_cases (n := 4) (by decide) a3 with ⟨ew, hw⟩ | ⟨w, lw, qw, ew⟩
  · skip
    refine wq_go rfl (fun _ => rfl) ?_
    refine wq_cN (m := 3) rfl rfl ?_
    refine wq_cmp rfl (fun c => absurd (c.symm.trans (decide_eq_false (fun e => hw 3 (by decide) e))) (by decide)) (fun c2 => ?_)
    refine wq_go rfl (fun _ => rfl) ?_
    refine wq_getf rfl (by first | rfl | assumption) (by first | decide | omega | assumption) (cw_c0 hC) rfl ?_
    refine wq_go rfl (fun _ => rfl) ?_
    refine wq_callV rfl rfl (by first | rfl | assumption) (by first | decide | omega | assumption) (Nat.le_of_ble_eq_true rfl) (Nat.le_of_ble_eq_true rfl) rfl rfl ?_
    refine c_hasChairD hC (fun c lc qc ec => ?_) (fun ec => ?_)
    · subst qc
      refine wq_zeq rfl (by first | omega | decide | exact Nat.lt_of_le_of_lt Nat.and_le_right (by decide) | exact ⟨by omega, by omega⟩) (fun c => absurd c (by omega)) (fun c7 => ?_)
      refine wq_cN (m := 1) rfl rfl ?_
      refine wq_go rfl (fun _ => rfl) ?_
      refine wq_go rfl (fun _ => rfl) ?_
      refine wq_go rfl (fun _ => rfl) ?_
      refine wq_cN (m := 2) rfl rfl ?_
      refine wq_cmp rfl (fun c => absurd (c.symm.trans (decide_eq_false (fun e => hw 2 (by decide) e))) (by decide)) (fun c14 => ?_)
      refine wq_go rfl (fun _ => rfl) ?_
      refine wq_getf rfl (by first | rfl | assumption) (by first | decide | omega | assumption) (cw_c0 hC) rfl ?_
      refine wq_go rfl (fun _ => rfl) ?_
      refine wq_callV rfl rfl (by first | rfl | assumption) (by first | decide | omega | assumption) (Nat.le_of_ble_eq_true rfl) (Nat.le_of_ble_eq_true rfl) rfl rfl ?_
      refine c_hasHeadD hC (fun h lh qh eh => ?_) (fun eh => ?_)
      · subst qh
        refine wq_zeq rfl (by first | omega | decide | exact Nat.lt_of_le_of_lt Nat.and_le_right (by decide) | exact ⟨by omega, by omega⟩) (fun c => absurd c (by omega)) (fun c19 => ?_)
        refine wq_cN (m := 1) rfl rfl ?_
        refine wq_go rfl (fun _ => rfl) ?_
        refine wq_go rfl (fun _ => rfl) ?_
        refine wq_go rfl (fun _ => rfl) ?_
        refine wq_zeq rfl (by first | omega | decide | exact Nat.lt_of_le_of_lt Nat.and_le_right (by decide) | exact ⟨by omega, by omega⟩) (fun c => absurd c (by omega)) (fun c25 => ?_)
        refine wq_go rfl (fun _ => rfl) ?_
        refine wq_zeq rfl (by first | omega | decide | exact Nat.lt_of_le_of_lt Nat.and_le_right (by decide) | exact ⟨by omega, by omega⟩) (fun c => absurd c (by omega)) (fun c27 => ?_)
        refine wq_go rfl (fun _ => rfl) ?_
        refine wq_callS rfl (Nat.le_of_ble_eq_true rfl) rfl (Nat.le_of_ble_eq_true rfl) (Nat.le_of_ble_eq_true rfl) rfl rfl ?_
        refine c_isThoughtD  (fun t lt qt et => ?_) (fun et => ?_)
        · subst qt
          refine wq_zne rfl (by first | omega | decide | exact Nat.lt_of_le_of_lt Nat.and_le_right (by decide) | exact ⟨by omega, by omega⟩) (fun c30 => ?_) (fun c => absurd (show _ from by omega) c)
          refine wq_go rfl (fun _ => rfl) ?_
          refine wq_swD 4 rfl (by decide) (by decide) hw ?_
          refine wq_go rfl (fun _ => rfl) ?_
          refine wq_iret rfl ?_
          exact ansQ (K _ (hi_refl _) hI) (by simp only [F_tells, ew, ec, eh, et, od_s, od_n, od_c] <;> first | rfl | simp [od_c])
        · skip
          refine wq_zne rfl (by first | omega | decide | exact Nat.lt_of_le_of_lt Nat.and_le_right (by decide) | exact ⟨by omega, by omega⟩) (fun c => absurd c (by omega)) (fun c30 => ?_)
          refine wq_go rfl (fun _ => rfl) ?_
          refine wq_iret rfl ?_
          exact ansQ (K _ (hi_refl _) hI) (by simp only [F_tells, ew, ec, eh, et, od_s, od_n, od_c] <;> first | rfl | simp [od_c])
      · skip
        refine wq_zeq rfl (by first | omega | decide | exact Nat.lt_of_le_of_lt Nat.and_le_right (by decide) | exact ⟨by omega, by omega⟩) (fun c19 => ?_) (fun c => absurd (show _ from by omega) c)
        refine wq_cN (m := 0) rfl rfl ?_
        refine wq_go rfl (fun _ => rfl) ?_
        refine wq_go rfl (fun _ => rfl) ?_
        refine wq_zeq rfl (by first | omega | decide | exact Nat.lt_of_le_of_lt Nat.and_le_right (by decide) | exact ⟨by omega, by omega⟩) (fun c => absurd c (by omega)) (fun c25 => ?_)
        refine wq_go rfl (fun _ => rfl) ?_
        refine wq_zeq rfl (by first | omega | decide | exact Nat.lt_of_le_of_lt Nat.and_le_right (by decide) | exact ⟨by omega, by omega⟩) (fun c27 => ?_) (fun c => absurd (show _ from by omega) c)
        refine wq_go rfl (fun _ => rfl) ?_
        refine wq_iret rfl ?_
        exact ansQ (K _ (hi_refl _) hI) (by simp only [F_tells, ew, ec, eh, od_s, od_n, od_c] <;> first | rfl | simp [od_c])
    · skip
      refine wq_zeq rfl (by first | omega | decide | exact Nat.lt_of_le_of_lt Nat.and_le_right (by decide) | exact ⟨by omega, by omega⟩) (fun c7 => ?_) (fun c => absurd (show _ from by omega) c)
      refine wq_cN (m := 0) rfl rfl ?_
      refine wq_go rfl (fun _ => rfl) ?_
      refine wq_go rfl (fun _ => rfl) ?_
      refine wq_cN (m := 2) rfl rfl ?_
      refine wq_cmp rfl (fun c => absurd (c.symm.trans (decide_eq_false (fun e => hw 2 (by decide) e))) (by decide)) (fun c14 => ?_)
      refine wq_go rfl (fun _ => rfl) ?_
      refine wq_getf rfl (by first | rfl | assumption) (by first | decide | omega | assumption) (cw_c0 hC) rfl ?_
      refine wq_go rfl (fun _ => rfl) ?_
      refine wq_callV rfl rfl (by first | rfl | assumption) (by first | decide | omega | assumption) (Nat.le_of_ble_eq_true rfl) (Nat.le_of_ble_eq_true rfl) rfl rfl ?_
      refine c_hasHeadD hC (fun h lh qh eh => ?_) (fun eh => ?_)
      · subst qh
        refine wq_zeq rfl (by first | omega | decide | exact Nat.lt_of_le_of_lt Nat.and_le_right (by decide) | exact ⟨by omega, by omega⟩) (fun c => absurd c (by omega)) (fun c19 => ?_)
        refine wq_cN (m := 1) rfl rfl ?_
        refine wq_go rfl (fun _ => rfl) ?_
        refine wq_go rfl (fun _ => rfl) ?_
        refine wq_go rfl (fun _ => rfl) ?_
        refine wq_zeq rfl (by first | omega | decide | exact Nat.lt_of_le_of_lt Nat.and_le_right (by decide) | exact ⟨by omega, by omega⟩) (fun c25 => ?_) (fun c => absurd (show _ from by omega) c)
        refine wq_go rfl (fun _ => rfl) ?_
        refine wq_iret rfl ?_
        exact ansQ (K _ (hi_refl _) hI) (by simp only [F_tells, ew, ec, eh, od_s, od_n, od_c] <;> first | rfl | simp [od_c])
      · skip
        refine wq_zeq rfl (by first | omega | decide | exact Nat.lt_of_le_of_lt Nat.and_le_right (by decide) | exact ⟨by omega, by omega⟩) (fun c19 => ?_) (fun c => absurd (show _ from by omega) c)
        refine wq_cN (m := 0) rfl rfl ?_
        refine wq_go rfl (fun _ => rfl) ?_
        refine wq_go rfl (fun _ => rfl) ?_
        refine wq_zeq rfl (by first | omega | decide | exact Nat.lt_of_le_of_lt Nat.and_le_right (by decide) | exact ⟨by omega, by omega⟩) (fun c25 => ?_) (fun c => absurd (show _ from by omega) c)
        refine wq_go rfl (fun _ => rfl) ?_
        refine wq_iret rfl ?_
        exact ansQ (K _ (hi_refl _) hI) (by simp only [F_tells, ew, ec, eh, od_s, od_n, od_c] <;> first | rfl | simp [od_c])
  · subst qw
    have ow : w = 0 ∨ w = 1 ∨ w = 2 ∨ w = 3 := by omega
    rcases ow with rfl | rfl | rfl | rfl
    · skip
      refine wq_go rfl (fun _ => rfl) ?_
      refine wq_cN (m := 3) rfl rfl ?_
      refine wq_ceq rfl (by first | omega | decide | exact Nat.lt_of_le_of_lt Nat.and_le_right (by decide) | exact ⟨by omega, by omega⟩) (by first | omega | decide | exact Nat.lt_of_le_of_lt Nat.and_le_right (by decide) | exact ⟨by omega, by omega⟩) (fun c => absurd c (by omega)) (fun c2 => ?_)
      refine wq_go rfl (fun _ => rfl) ?_
      refine wq_getf rfl (by first | rfl | assumption) (by first | decide | omega | assumption) (cw_c0 hC) rfl ?_
      refine wq_go rfl (fun _ => rfl) ?_
      refine wq_callV rfl rfl (by first | rfl | assumption) (by first | decide | omega | assumption) (Nat.le_of_ble_eq_true rfl) (Nat.le_of_ble_eq_true rfl) rfl rfl ?_
      refine c_hasChairD hC (fun c lc qc ec => ?_) (fun ec => ?_)
      · subst qc
        refine wq_zeq rfl (by first | omega | decide | exact Nat.lt_of_le_of_lt Nat.and_le_right (by decide) | exact ⟨by omega, by omega⟩) (fun c => absurd c (by omega)) (fun c7 => ?_)
        refine wq_cN (m := 1) rfl rfl ?_
        refine wq_go rfl (fun _ => rfl) ?_
        refine wq_go rfl (fun _ => rfl) ?_
        refine wq_go rfl (fun _ => rfl) ?_
        refine wq_cN (m := 2) rfl rfl ?_
        refine wq_ceq rfl (by first | omega | decide | exact Nat.lt_of_le_of_lt Nat.and_le_right (by decide) | exact ⟨by omega, by omega⟩) (by first | omega | decide | exact Nat.lt_of_le_of_lt Nat.and_le_right (by decide) | exact ⟨by omega, by omega⟩) (fun c => absurd c (by omega)) (fun c14 => ?_)
        refine wq_go rfl (fun _ => rfl) ?_
        refine wq_getf rfl (by first | rfl | assumption) (by first | decide | omega | assumption) (cw_c0 hC) rfl ?_
        refine wq_go rfl (fun _ => rfl) ?_
        refine wq_callV rfl rfl (by first | rfl | assumption) (by first | decide | omega | assumption) (Nat.le_of_ble_eq_true rfl) (Nat.le_of_ble_eq_true rfl) rfl rfl ?_
        refine c_hasHeadD hC (fun h lh qh eh => ?_) (fun eh => ?_)
        · subst qh
          refine wq_zeq rfl (by first | omega | decide | exact Nat.lt_of_le_of_lt Nat.and_le_right (by decide) | exact ⟨by omega, by omega⟩) (fun c => absurd c (by omega)) (fun c19 => ?_)
          refine wq_cN (m := 1) rfl rfl ?_
          refine wq_go rfl (fun _ => rfl) ?_
          refine wq_go rfl (fun _ => rfl) ?_
          refine wq_go rfl (fun _ => rfl) ?_
          refine wq_zeq rfl (by first | omega | decide | exact Nat.lt_of_le_of_lt Nat.and_le_right (by decide) | exact ⟨by omega, by omega⟩) (fun c => absurd c (by omega)) (fun c25 => ?_)
          refine wq_go rfl (fun _ => rfl) ?_
          refine wq_zeq rfl (by first | omega | decide | exact Nat.lt_of_le_of_lt Nat.and_le_right (by decide) | exact ⟨by omega, by omega⟩) (fun c => absurd c (by omega)) (fun c27 => ?_)
          refine wq_go rfl (fun _ => rfl) ?_
          refine wq_callS rfl (Nat.le_of_ble_eq_true rfl) rfl (Nat.le_of_ble_eq_true rfl) (Nat.le_of_ble_eq_true rfl) rfl rfl ?_
          refine c_isThoughtD  (fun t lt qt et => ?_) (fun et => ?_)
          · subst qt
            refine wq_zne rfl (by first | omega | decide | exact Nat.lt_of_le_of_lt Nat.and_le_right (by decide) | exact ⟨by omega, by omega⟩) (fun c30 => ?_) (fun c => absurd (show _ from by omega) c)
            refine wq_go rfl (fun _ => rfl) ?_
            refine wq_swN rfl rfl (by decide) rfl ?_
            refine wq_go rfl (fun _ => rfl) ?_
            refine wq_getf rfl (by first | rfl | assumption) (by first | decide | omega | assumption) (cw_c0 hC) rfl ?_
            refine wq_go rfl (fun _ => rfl) ?_
            refine wq_getf rfl (by first | rfl | assumption) (by first | decide | omega | assumption) (cw_c0 hC) rfl ?_
            refine wq_go rfl (fun _ => rfl) ?_
            refine wq_go rfl (fun _ => rfl) ?_
            refine wq_go rfl (fun _ => rfl) ?_
            refine wq_callV rfl rfl (by first | rfl | assumption) (by first | decide | omega | assumption) (Nat.le_of_ble_eq_true rfl) (Nat.le_of_ble_eq_true rfl) rfl rfl ?_
            refine c_House_keptOf k35 hS hC hok (by omega) (by omega) (by omega) (fun σ13 F13 C13 => ?_)
            have S13 := st_sc k35 F13 hS
            have H13 := hs_sc hH F13
            refine wq_iret rfl ?_
            exact ansQ (K _ (hi_scr scr_sc F13) (ci_sc hI F13 C13)) (by simp only [F_tells, ew, ec, eh, et, od_s, od_n, od_c] <;> first | rfl | simp [od_c])
          · skip
            refine wq_zne rfl (by first | omega | decide | exact Nat.lt_of_le_of_lt Nat.and_le_right (by decide) | exact ⟨by omega, by omega⟩) (fun c => absurd c (by omega)) (fun c30 => ?_)
            refine wq_go rfl (fun _ => rfl) ?_
            refine wq_iret rfl ?_
            exact ansQ (K _ (hi_refl _) hI) (by simp only [F_tells, ew, ec, eh, et, od_s, od_n, od_c] <;> first | rfl | simp [od_c])
        · skip
          refine wq_zeq rfl (by first | omega | decide | exact Nat.lt_of_le_of_lt Nat.and_le_right (by decide) | exact ⟨by omega, by omega⟩) (fun c19 => ?_) (fun c => absurd (show _ from by omega) c)
          refine wq_cN (m := 0) rfl rfl ?_
          refine wq_go rfl (fun _ => rfl) ?_
          refine wq_go rfl (fun _ => rfl) ?_
          refine wq_zeq rfl (by first | omega | decide | exact Nat.lt_of_le_of_lt Nat.and_le_right (by decide) | exact ⟨by omega, by omega⟩) (fun c => absurd c (by omega)) (fun c25 => ?_)
          refine wq_go rfl (fun _ => rfl) ?_
          refine wq_zeq rfl (by first | omega | decide | exact Nat.lt_of_le_of_lt Nat.and_le_right (by decide) | exact ⟨by omega, by omega⟩) (fun c27 => ?_) (fun c => absurd (show _ from by omega) c)
          refine wq_go rfl (fun _ => rfl) ?_
          refine wq_iret rfl ?_
          exact ansQ (K _ (hi_refl _) hI) (by simp only [F_tells, ew, ec, eh, od_s, od_n, od_c] <;> first | rfl | simp [od_c])
      · skip
        refine wq_zeq rfl (by first | omega | decide | exact Nat.lt_of_le_of_lt Nat.and_le_right (by decide) | exact ⟨by omega, by omega⟩) (fun c7 => ?_) (fun c => absurd (show _ from by omega) c)
        refine wq_cN (m := 0) rfl rfl ?_
        refine wq_go rfl (fun _ => rfl) ?_
        refine wq_go rfl (fun _ => rfl) ?_
        refine wq_cN (m := 2) rfl rfl ?_
        refine wq_ceq rfl (by first | omega | decide | exact Nat.lt_of_le_of_lt Nat.and_le_right (by decide) | exact ⟨by omega, by omega⟩) (by first | omega | decide | exact Nat.lt_of_le_of_lt Nat.and_le_right (by decide) | exact ⟨by omega, by omega⟩) (fun c => absurd c (by omega)) (fun c14 => ?_)
        refine wq_go rfl (fun _ => rfl) ?_
        refine wq_getf rfl (by first | rfl | assumption) (by first | decide | omega | assumption) (cw_c0 hC) rfl ?_
        refine wq_go rfl (fun _ => rfl) ?_
        refine wq_callV rfl rfl (by first | rfl | assumption) (by first | decide | omega | assumption) (Nat.le_of_ble_eq_true rfl) (Nat.le_of_ble_eq_true rfl) rfl rfl ?_
        refine c_hasHeadD hC (fun h lh qh eh => ?_) (fun eh => ?_)
        · subst qh
          refine wq_zeq rfl (by first | omega | decide | exact Nat.lt_of_le_of_lt Nat.and_le_right (by decide) | exact ⟨by omega, by omega⟩) (fun c => absurd c (by omega)) (fun c19 => ?_)
          refine wq_cN (m := 1) rfl rfl ?_
          refine wq_go rfl (fun _ => rfl) ?_
          refine wq_go rfl (fun _ => rfl) ?_
          refine wq_go rfl (fun _ => rfl) ?_
          refine wq_zeq rfl (by first | omega | decide | exact Nat.lt_of_le_of_lt Nat.and_le_right (by decide) | exact ⟨by omega, by omega⟩) (fun c25 => ?_) (fun c => absurd (show _ from by omega) c)
          refine wq_go rfl (fun _ => rfl) ?_
          refine wq_iret rfl ?_
          exact ansQ (K _ (hi_refl _) hI) (by simp only [F_tells, ew, ec, eh, od_s, od_n, od_c] <;> first | rfl | simp [od_c])
        · skip
          refine wq_zeq rfl (by first | omega | decide | exact Nat.lt_of_le_of_lt Nat.and_le_right (by decide) | exact ⟨by omega, by omega⟩) (fun c19 => ?_) (fun c => absurd (show _ from by omega) c)
          refine wq_cN (m := 0) rfl rfl ?_
          refine wq_go rfl (fun _ => rfl) ?_
          refine wq_go rfl (fun _ => rfl) ?_
          refine wq_zeq rfl (by first | omega | decide | exact Nat.lt_of_le_of_lt Nat.and_le_right (by decide) | exact ⟨by omega, by omega⟩) (fun c25 => ?_) (fun c => absurd (show _ from by omega) c)
          refine wq_go rfl (fun _ => rfl) ?_
          refine wq_iret rfl ?_
          exact ansQ (K _ (hi_refl _) hI) (by simp only [F_tells, ew, ec, eh, od_s, od_n, od_c] <;> first | rfl | simp [od_c])
    · skip
      refine wq_go rfl (fun _ => rfl) ?_
      refine wq_cN (m := 3) rfl rfl ?_
      refine wq_ceq rfl (by first | omega | decide | exact Nat.lt_of_le_of_lt Nat.and_le_right (by decide) | exact ⟨by omega, by omega⟩) (by first | omega | decide | exact Nat.lt_of_le_of_lt Nat.and_le_right (by decide) | exact ⟨by omega, by omega⟩) (fun c => absurd c (by omega)) (fun c2 => ?_)
      refine wq_go rfl (fun _ => rfl) ?_
      refine wq_getf rfl (by first | rfl | assumption) (by first | decide | omega | assumption) (cw_c0 hC) rfl ?_
      refine wq_go rfl (fun _ => rfl) ?_
      refine wq_callV rfl rfl (by first | rfl | assumption) (by first | decide | omega | assumption) (Nat.le_of_ble_eq_true rfl) (Nat.le_of_ble_eq_true rfl) rfl rfl ?_
      refine c_hasChairD hC (fun c lc qc ec => ?_) (fun ec => ?_)
      · subst qc
        refine wq_zeq rfl (by first | omega | decide | exact Nat.lt_of_le_of_lt Nat.and_le_right (by decide) | exact ⟨by omega, by omega⟩) (fun c => absurd c (by omega)) (fun c7 => ?_)
        refine wq_cN (m := 1) rfl rfl ?_
        refine wq_go rfl (fun _ => rfl) ?_
        refine wq_go rfl (fun _ => rfl) ?_
        refine wq_go rfl (fun _ => rfl) ?_
        refine wq_cN (m := 2) rfl rfl ?_
        refine wq_ceq rfl (by first | omega | decide | exact Nat.lt_of_le_of_lt Nat.and_le_right (by decide) | exact ⟨by omega, by omega⟩) (by first | omega | decide | exact Nat.lt_of_le_of_lt Nat.and_le_right (by decide) | exact ⟨by omega, by omega⟩) (fun c => absurd c (by omega)) (fun c14 => ?_)
        refine wq_go rfl (fun _ => rfl) ?_
        refine wq_getf rfl (by first | rfl | assumption) (by first | decide | omega | assumption) (cw_c0 hC) rfl ?_
        refine wq_go rfl (fun _ => rfl) ?_
        refine wq_callV rfl rfl (by first | rfl | assumption) (by first | decide | omega | assumption) (Nat.le_of_ble_eq_true rfl) (Nat.le_of_ble_eq_true rfl) rfl rfl ?_
        refine c_hasHeadD hC (fun h lh qh eh => ?_) (fun eh => ?_)
        · subst qh
          refine wq_zeq rfl (by first | omega | decide | exact Nat.lt_of_le_of_lt Nat.and_le_right (by decide) | exact ⟨by omega, by omega⟩) (fun c => absurd c (by omega)) (fun c19 => ?_)
          refine wq_cN (m := 1) rfl rfl ?_
          refine wq_go rfl (fun _ => rfl) ?_
          refine wq_go rfl (fun _ => rfl) ?_
          refine wq_go rfl (fun _ => rfl) ?_
          refine wq_zeq rfl (by first | omega | decide | exact Nat.lt_of_le_of_lt Nat.and_le_right (by decide) | exact ⟨by omega, by omega⟩) (fun c => absurd c (by omega)) (fun c25 => ?_)
          refine wq_go rfl (fun _ => rfl) ?_
          refine wq_zeq rfl (by first | omega | decide | exact Nat.lt_of_le_of_lt Nat.and_le_right (by decide) | exact ⟨by omega, by omega⟩) (fun c => absurd c (by omega)) (fun c27 => ?_)
          refine wq_go rfl (fun _ => rfl) ?_
          refine wq_callS rfl (Nat.le_of_ble_eq_true rfl) rfl (Nat.le_of_ble_eq_true rfl) (Nat.le_of_ble_eq_true rfl) rfl rfl ?_
          refine c_isThoughtD  (fun t lt qt et => ?_) (fun et => ?_)
          · subst qt
            refine wq_zne rfl (by first | omega | decide | exact Nat.lt_of_le_of_lt Nat.and_le_right (by decide) | exact ⟨by omega, by omega⟩) (fun c30 => ?_) (fun c => absurd (show _ from by omega) c)
            refine wq_go rfl (fun _ => rfl) ?_
            refine wq_swN rfl rfl (by decide) rfl ?_
            refine wq_go rfl (fun _ => rfl) ?_
            refine wq_getf rfl (by first | rfl | assumption) (by first | decide | omega | assumption) (cw_c0 hC) rfl ?_
            refine wq_go rfl (fun _ => rfl) ?_
            refine wq_getf rfl (by first | rfl | assumption) (by first | decide | omega | assumption) (cw_c0 hC) rfl ?_
            refine wq_go rfl (fun _ => rfl) ?_
            refine wq_go rfl (fun _ => rfl) ?_
            refine wq_go rfl (fun _ => rfl) ?_
            refine wq_callV rfl rfl (by first | rfl | assumption) (by first | decide | omega | assumption) (Nat.le_of_ble_eq_true rfl) (Nat.le_of_ble_eq_true rfl) rfl rfl ?_
            refine c_House_passedOf k35 hS hC hok (by omega) (by omega) (by omega) (fun σ18 F18 C18 => ?_)
            have S18 := st_sc k35 F18 hS
            have H18 := hs_sc hH F18
            refine wq_iret rfl ?_
            exact ansQ (K _ (hi_scr scr_sc F18) (ci_sc hI F18 C18)) (by simp only [F_tells, ew, ec, eh, et, od_s, od_n, od_c] <;> first | rfl | simp [od_c])
          · skip
            refine wq_zne rfl (by first | omega | decide | exact Nat.lt_of_le_of_lt Nat.and_le_right (by decide) | exact ⟨by omega, by omega⟩) (fun c => absurd c (by omega)) (fun c30 => ?_)
            refine wq_go rfl (fun _ => rfl) ?_
            refine wq_iret rfl ?_
            exact ansQ (K _ (hi_refl _) hI) (by simp only [F_tells, ew, ec, eh, et, od_s, od_n, od_c] <;> first | rfl | simp [od_c])
        · skip
          refine wq_zeq rfl (by first | omega | decide | exact Nat.lt_of_le_of_lt Nat.and_le_right (by decide) | exact ⟨by omega, by omega⟩) (fun c19 => ?_) (fun c => absurd (show _ from by omega) c)
          refine wq_cN (m := 0) rfl rfl ?_
          refine wq_go rfl (fun _ => rfl) ?_
          refine wq_go rfl (fun _ => rfl) ?_
          refine wq_zeq rfl (by first | omega | decide | exact Nat.lt_of_le_of_lt Nat.and_le_right (by decide) | exact ⟨by omega, by omega⟩) (fun c => absurd c (by omega)) (fun c25 => ?_)
          refine wq_go rfl (fun _ => rfl) ?_
          refine wq_zeq rfl (by first | omega | decide | exact Nat.lt_of_le_of_lt Nat.and_le_right (by decide) | exact ⟨by omega, by omega⟩) (fun c27 => ?_) (fun c => absurd (show _ from by omega) c)
          refine wq_go rfl (fun _ => rfl) ?_
          refine wq_iret rfl ?_
          exact ansQ (K _ (hi_refl _) hI) (by simp only [F_tells, ew, ec, eh, od_s, od_n, od_c] <;> first | rfl | simp [od_c])
      · skip
        refine wq_zeq rfl (by first | omega | decide | exact Nat.lt_of_le_of_lt Nat.and_le_right (by decide) | exact ⟨by omega, by omega⟩) (fun c7 => ?_) (fun c => absurd (show _ from by omega) c)
        refine wq_cN (m := 0) rfl rfl ?_
        refine wq_go rfl (fun _ => rfl) ?_
        refine wq_go rfl (fun _ => rfl) ?_
        refine wq_cN (m := 2) rfl rfl ?_
        refine wq_ceq rfl (by first | omega | decide | exact Nat.lt_of_le_of_lt Nat.and_le_right (by decide) | exact ⟨by omega, by omega⟩) (by first | omega | decide | exact Nat.lt_of_le_of_lt Nat.and_le_right (by decide) | exact ⟨by omega, by omega⟩) (fun c => absurd c (by omega)) (fun c14 => ?_)
        refine wq_go rfl (fun _ => rfl) ?_
        refine wq_getf rfl (by first | rfl | assumption) (by first | decide | omega | assumption) (cw_c0 hC) rfl ?_
        refine wq_go rfl (fun _ => rfl) ?_
        refine wq_callV rfl rfl (by first | rfl | assumption) (by first | decide | omega | assumption) (Nat.le_of_ble_eq_true rfl) (Nat.le_of_ble_eq_true rfl) rfl rfl ?_
        refine c_hasHeadD hC (fun h lh qh eh => ?_) (fun eh => ?_)
        · subst qh
          refine wq_zeq rfl (by first | omega | decide | exact Nat.lt_of_le_of_lt Nat.and_le_right (by decide) | exact ⟨by omega, by omega⟩) (fun c => absurd c (by omega)) (fun c19 => ?_)
          refine wq_cN (m := 1) rfl rfl ?_
          refine wq_go rfl (fun _ => rfl) ?_
          refine wq_go rfl (fun _ => rfl) ?_
          refine wq_go rfl (fun _ => rfl) ?_
          refine wq_zeq rfl (by first | omega | decide | exact Nat.lt_of_le_of_lt Nat.and_le_right (by decide) | exact ⟨by omega, by omega⟩) (fun c25 => ?_) (fun c => absurd (show _ from by omega) c)
          refine wq_go rfl (fun _ => rfl) ?_
          refine wq_iret rfl ?_
          exact ansQ (K _ (hi_refl _) hI) (by simp only [F_tells, ew, ec, eh, od_s, od_n, od_c] <;> first | rfl | simp [od_c])
        · skip
          refine wq_zeq rfl (by first | omega | decide | exact Nat.lt_of_le_of_lt Nat.and_le_right (by decide) | exact ⟨by omega, by omega⟩) (fun c19 => ?_) (fun c => absurd (show _ from by omega) c)
          refine wq_cN (m := 0) rfl rfl ?_
          refine wq_go rfl (fun _ => rfl) ?_
          refine wq_go rfl (fun _ => rfl) ?_
          refine wq_zeq rfl (by first | omega | decide | exact Nat.lt_of_le_of_lt Nat.and_le_right (by decide) | exact ⟨by omega, by omega⟩) (fun c25 => ?_) (fun c => absurd (show _ from by omega) c)
          refine wq_go rfl (fun _ => rfl) ?_
          refine wq_iret rfl ?_
          exact ansQ (K _ (hi_refl _) hI) (by simp only [F_tells, ew, ec, eh, od_s, od_n, od_c] <;> first | rfl | simp [od_c])
    · skip
      refine wq_go rfl (fun _ => rfl) ?_
      refine wq_cN (m := 3) rfl rfl ?_
      refine wq_ceq rfl (by first | omega | decide | exact Nat.lt_of_le_of_lt Nat.and_le_right (by decide) | exact ⟨by omega, by omega⟩) (by first | omega | decide | exact Nat.lt_of_le_of_lt Nat.and_le_right (by decide) | exact ⟨by omega, by omega⟩) (fun c => absurd c (by omega)) (fun c2 => ?_)
      refine wq_go rfl (fun _ => rfl) ?_
      refine wq_getf rfl (by first | rfl | assumption) (by first | decide | omega | assumption) (cw_c0 hC) rfl ?_
      refine wq_go rfl (fun _ => rfl) ?_
      refine wq_callV rfl rfl (by first | rfl | assumption) (by first | decide | omega | assumption) (Nat.le_of_ble_eq_true rfl) (Nat.le_of_ble_eq_true rfl) rfl rfl ?_
      refine c_hasChairD hC (fun c lc qc ec => ?_) (fun ec => ?_)
      · subst qc
        refine wq_zeq rfl (by first | omega | decide | exact Nat.lt_of_le_of_lt Nat.and_le_right (by decide) | exact ⟨by omega, by omega⟩) (fun c => absurd c (by omega)) (fun c7 => ?_)
        refine wq_cN (m := 1) rfl rfl ?_
        refine wq_go rfl (fun _ => rfl) ?_
        refine wq_go rfl (fun _ => rfl) ?_
        refine wq_go rfl (fun _ => rfl) ?_
        refine wq_cN (m := 2) rfl rfl ?_
        refine wq_ceq rfl (by first | omega | decide | exact Nat.lt_of_le_of_lt Nat.and_le_right (by decide) | exact ⟨by omega, by omega⟩) (by first | omega | decide | exact Nat.lt_of_le_of_lt Nat.and_le_right (by decide) | exact ⟨by omega, by omega⟩) (fun c14 => ?_) (fun c => absurd (show _ from by omega) c)
        refine wq_cN (m := 1) rfl rfl ?_
        refine wq_go rfl (fun _ => rfl) ?_
        refine wq_go rfl (fun _ => rfl) ?_
        refine wq_go rfl (fun _ => rfl) ?_
        refine wq_zeq rfl (by first | omega | decide | exact Nat.lt_of_le_of_lt Nat.and_le_right (by decide) | exact ⟨by omega, by omega⟩) (fun c => absurd c (by omega)) (fun c25 => ?_)
        refine wq_go rfl (fun _ => rfl) ?_
        refine wq_zeq rfl (by first | omega | decide | exact Nat.lt_of_le_of_lt Nat.and_le_right (by decide) | exact ⟨by omega, by omega⟩) (fun c => absurd c (by omega)) (fun c27 => ?_)
        refine wq_go rfl (fun _ => rfl) ?_
        refine wq_callS rfl (Nat.le_of_ble_eq_true rfl) rfl (Nat.le_of_ble_eq_true rfl) (Nat.le_of_ble_eq_true rfl) rfl rfl ?_
        refine c_isThoughtD  (fun t lt qt et => ?_) (fun et => ?_)
        · subst qt
          refine wq_zne rfl (by first | omega | decide | exact Nat.lt_of_le_of_lt Nat.and_le_right (by decide) | exact ⟨by omega, by omega⟩) (fun c30 => ?_) (fun c => absurd (show _ from by omega) c)
          refine wq_go rfl (fun _ => rfl) ?_
          refine wq_swN rfl rfl (by decide) rfl ?_
          refine wq_go rfl (fun _ => rfl) ?_
          refine wq_getf rfl (by first | rfl | assumption) (by first | decide | omega | assumption) (cw_c0 hC) rfl ?_
          refine wq_go rfl (fun _ => rfl) ?_
          refine wq_getf rfl (by first | rfl | assumption) (by first | decide | omega | assumption) (cw_c0 hC) rfl ?_
          refine wq_go rfl (fun _ => rfl) ?_
          refine wq_go rfl (fun _ => rfl) ?_
          refine wq_callV rfl rfl (by first | rfl | assumption) (by first | decide | omega | assumption) (Nat.le_of_ble_eq_true rfl) (Nat.le_of_ble_eq_true rfl) rfl rfl ?_
          refine c_House_washedOf k35 hS hC hok (by omega) (by omega) (fun σ22 F22 C22 => ?_)
          have S22 := st_sc k35 F22 hS
          have H22 := hs_sc hH F22
          refine wq_iret rfl ?_
          exact ansQ (K _ (hi_scr scr_sc F22) (ci_sc hI F22 C22)) (by simp only [F_tells, ew, ec, et, od_s, od_n, od_c] <;> first | rfl | simp [od_c])
        · skip
          refine wq_zne rfl (by first | omega | decide | exact Nat.lt_of_le_of_lt Nat.and_le_right (by decide) | exact ⟨by omega, by omega⟩) (fun c => absurd c (by omega)) (fun c30 => ?_)
          refine wq_go rfl (fun _ => rfl) ?_
          refine wq_iret rfl ?_
          exact ansQ (K _ (hi_refl _) hI) (by simp only [F_tells, ew, ec, et, od_s, od_n, od_c] <;> first | rfl | simp [od_c])
      · skip
        refine wq_zeq rfl (by first | omega | decide | exact Nat.lt_of_le_of_lt Nat.and_le_right (by decide) | exact ⟨by omega, by omega⟩) (fun c7 => ?_) (fun c => absurd (show _ from by omega) c)
        refine wq_cN (m := 0) rfl rfl ?_
        refine wq_go rfl (fun _ => rfl) ?_
        refine wq_go rfl (fun _ => rfl) ?_
        refine wq_cN (m := 2) rfl rfl ?_
        refine wq_ceq rfl (by first | omega | decide | exact Nat.lt_of_le_of_lt Nat.and_le_right (by decide) | exact ⟨by omega, by omega⟩) (by first | omega | decide | exact Nat.lt_of_le_of_lt Nat.and_le_right (by decide) | exact ⟨by omega, by omega⟩) (fun c14 => ?_) (fun c => absurd (show _ from by omega) c)
        refine wq_cN (m := 1) rfl rfl ?_
        refine wq_go rfl (fun _ => rfl) ?_
        refine wq_go rfl (fun _ => rfl) ?_
        refine wq_go rfl (fun _ => rfl) ?_
        refine wq_zeq rfl (by first | omega | decide | exact Nat.lt_of_le_of_lt Nat.and_le_right (by decide) | exact ⟨by omega, by omega⟩) (fun c25 => ?_) (fun c => absurd (show _ from by omega) c)
        refine wq_go rfl (fun _ => rfl) ?_
        refine wq_iret rfl ?_
        exact ansQ (K _ (hi_refl _) hI) (by simp only [F_tells, ew, ec, od_s, od_n, od_c] <;> first | rfl | simp [od_c])
    · skip
      refine wq_go rfl (fun _ => rfl) ?_
      refine wq_cN (m := 3) rfl rfl ?_
      refine wq_ceq rfl (by first | omega | decide | exact Nat.lt_of_le_of_lt Nat.and_le_right (by decide) | exact ⟨by omega, by omega⟩) (by first | omega | decide | exact Nat.lt_of_le_of_lt Nat.and_le_right (by decide) | exact ⟨by omega, by omega⟩) (fun c2 => ?_) (fun c => absurd (show _ from by omega) c)
      refine wq_cN (m := 1) rfl rfl ?_
      refine wq_go rfl (fun _ => rfl) ?_
      refine wq_go rfl (fun _ => rfl) ?_
      refine wq_go rfl (fun _ => rfl) ?_
      refine wq_cN (m := 2) rfl rfl ?_
      refine wq_ceq rfl (by first | omega | decide | exact Nat.lt_of_le_of_lt Nat.and_le_right (by decide) | exact ⟨by omega, by omega⟩) (by first | omega | decide | exact Nat.lt_of_le_of_lt Nat.and_le_right (by decide) | exact ⟨by omega, by omega⟩) (fun c => absurd c (by omega)) (fun c14 => ?_)
      refine wq_go rfl (fun _ => rfl) ?_
      refine wq_getf rfl (by first | rfl | assumption) (by first | decide | omega | assumption) (cw_c0 hC) rfl ?_
      refine wq_go rfl (fun _ => rfl) ?_
      refine wq_callV rfl rfl (by first | rfl | assumption) (by first | decide | omega | assumption) (Nat.le_of_ble_eq_true rfl) (Nat.le_of_ble_eq_true rfl) rfl rfl ?_
      refine c_hasHeadD hC (fun h lh qh eh => ?_) (fun eh => ?_)
      · subst qh
        refine wq_zeq rfl (by first | omega | decide | exact Nat.lt_of_le_of_lt Nat.and_le_right (by decide) | exact ⟨by omega, by omega⟩) (fun c => absurd c (by omega)) (fun c19 => ?_)
        refine wq_cN (m := 1) rfl rfl ?_
        refine wq_go rfl (fun _ => rfl) ?_
        refine wq_go rfl (fun _ => rfl) ?_
        refine wq_go rfl (fun _ => rfl) ?_
        refine wq_zeq rfl (by first | omega | decide | exact Nat.lt_of_le_of_lt Nat.and_le_right (by decide) | exact ⟨by omega, by omega⟩) (fun c => absurd c (by omega)) (fun c25 => ?_)
        refine wq_go rfl (fun _ => rfl) ?_
        refine wq_zeq rfl (by first | omega | decide | exact Nat.lt_of_le_of_lt Nat.and_le_right (by decide) | exact ⟨by omega, by omega⟩) (fun c => absurd c (by omega)) (fun c27 => ?_)
        refine wq_go rfl (fun _ => rfl) ?_
        refine wq_callS rfl (Nat.le_of_ble_eq_true rfl) rfl (Nat.le_of_ble_eq_true rfl) (Nat.le_of_ble_eq_true rfl) rfl rfl ?_
        refine c_isThoughtD  (fun t lt qt et => ?_) (fun et => ?_)
        · subst qt
          refine wq_zne rfl (by first | omega | decide | exact Nat.lt_of_le_of_lt Nat.and_le_right (by decide) | exact ⟨by omega, by omega⟩) (fun c30 => ?_) (fun c => absurd (show _ from by omega) c)
          refine wq_go rfl (fun _ => rfl) ?_
          refine wq_swN rfl rfl (by decide) rfl ?_
          refine wq_go rfl (fun _ => rfl) ?_
          refine wq_getf rfl (by first | rfl | assumption) (by first | decide | omega | assumption) (cw_c0 hC) rfl ?_
          refine wq_go rfl (fun _ => rfl) ?_
          refine wq_getf rfl (by first | rfl | assumption) (by first | decide | omega | assumption) (cw_c0 hC) rfl ?_
          refine wq_go rfl (fun _ => rfl) ?_
          refine wq_go rfl (fun _ => rfl) ?_
          refine wq_callV rfl rfl (by first | rfl | assumption) (by first | decide | omega | assumption) (Nat.le_of_ble_eq_true rfl) (Nat.le_of_ble_eq_true rfl) rfl rfl ?_
          refine c_House_fadedOf k35 hS hC hok (by omega) (by omega) (fun σ25 F25 C25 => ?_)
          have S25 := st_sc k35 F25 hS
          have H25 := hs_sc hH F25
          refine wq_iret rfl ?_
          exact ansQ (K _ (hi_scr scr_sc F25) (ci_sc hI F25 C25)) (by simp only [F_tells, ew, eh, et, od_s, od_n, od_c] <;> first | rfl | simp [od_c])
        · skip
          refine wq_zne rfl (by first | omega | decide | exact Nat.lt_of_le_of_lt Nat.and_le_right (by decide) | exact ⟨by omega, by omega⟩) (fun c => absurd c (by omega)) (fun c30 => ?_)
          refine wq_go rfl (fun _ => rfl) ?_
          refine wq_iret rfl ?_
          exact ansQ (K _ (hi_refl _) hI) (by simp only [F_tells, ew, eh, et, od_s, od_n, od_c] <;> first | rfl | simp [od_c])
      · skip
        refine wq_zeq rfl (by first | omega | decide | exact Nat.lt_of_le_of_lt Nat.and_le_right (by decide) | exact ⟨by omega, by omega⟩) (fun c19 => ?_) (fun c => absurd (show _ from by omega) c)
        refine wq_cN (m := 0) rfl rfl ?_
        refine wq_go rfl (fun _ => rfl) ?_
        refine wq_go rfl (fun _ => rfl) ?_
        refine wq_zeq rfl (by first | omega | decide | exact Nat.lt_of_le_of_lt Nat.and_le_right (by decide) | exact ⟨by omega, by omega⟩) (fun c => absurd c (by omega)) (fun c25 => ?_)
        refine wq_go rfl (fun _ => rfl) ?_
        refine wq_zeq rfl (by first | omega | decide | exact Nat.lt_of_le_of_lt Nat.and_le_right (by decide) | exact ⟨by omega, by omega⟩) (fun c27 => ?_) (fun c => absurd (show _ from by omega) c)
        refine wq_go rfl (fun _ => rfl) ?_
        refine wq_iret rfl ?_
        exact ansQ (K _ (hi_refl _) hI) (by simp only [F_tells, ew, eh, od_s, od_n, od_c] <;> first | rfl | simp [od_c])
theorem ck_alone {n : Nat} {A : Sy} (hn : n < 512) (hA : Aok n A) (a0 a1 a2 : Int32) : COk ax_cd150 [.int a0, .int a1, .int a2] A A (F_alone A a0 a1 a2) := by
  intro xs d σ Q hI K
  obtain ⟨hPok, ⟨hok, hhr72, hzq, hsum⟩, hAH, hAZ, hAn, hAh, hTok, hAl⟩ := hA
  have hP' := hPok
  obtain ⟨hP1, hP2, hP3, hP4, hP5, hP6, hP7, hP8, hPv, hPm, hPo, hPw, hPl⟩ := hP'
  have hok' := hok
  obtain ⟨hot, hoh, hosc, hokp⟩ := hok'
  have hI0 := hI
  obtain ⟨hC, hS, ⟨ST, hT⟩, hD, hR⟩ := hI0
  have hR0 := hR
  obtain ⟨hH, ⟨nx, hy⟩, hZ, ⟨ft, hf1, hf2, hf3⟩, ⟨⟨r0, r1, r2, r3, r4, hrd1⟩, hrd2, hrd3⟩⟩ := hR0
  show Wq xs (d + 12) ax_cd150 0 [(0, .ref 0), (1, .int a0), (2, .int a1), (3, .int a2)] [] σ Q
  refine wq_go rfl (fun _ => rfl) ?_
  refine wq_getf rfl (by first | rfl | assumption) (by first | decide | omega | assumption) (cw_c0 hC) rfl ?_
  refine wq_go rfl (fun _ => rfl) ?_
  refine wq_callV rfl rfl (by first | rfl | assumption) (by first | decide | omega | assumption) (Nat.le_of_ble_eq_true rfl) (Nat.le_of_ble_eq_true rfl) rfl rfl ?_
  refine c_hasHeadD hC (fun h lh qh eh => ?_) (fun eh => ?_)
  · subst qh
    refine wq_zeq rfl (by first | omega | decide | exact Nat.lt_of_le_of_lt Nat.and_le_right (by decide) | exact ⟨by omega, by omega⟩) (fun c => absurd c (by omega)) (fun c4 => ?_)
    refine wq_go rfl (fun _ => rfl) ?_
    refine wq_getf rfl (by first | rfl | assumption) (by first | decide | omega | assumption) (cw_c0 hC) rfl ?_
    refine wq_go rfl (fun _ => rfl) ?_
    refine wq_callV rfl rfl (by first | rfl | assumption) (by first | decide | omega | assumption) (Nat.le_of_ble_eq_true rfl) (Nat.le_of_ble_eq_true rfl) rfl rfl ?_
    refine c_hasChairD hC (fun c lc qc ec => ?_) (fun ec => ?_)
    · subst qc
      refine wq_zeq rfl (by first | omega | decide | exact Nat.lt_of_le_of_lt Nat.and_le_right (by decide) | exact ⟨by omega, by omega⟩) (fun c => absurd c (by omega)) (fun c9 => ?_)
      refine wq_go rfl (fun _ => rfl) ?_
      refine wq_callS rfl (Nat.le_of_ble_eq_true rfl) rfl (Nat.le_of_ble_eq_true rfl) (Nat.le_of_ble_eq_true rfl) rfl rfl ?_
      refine c_isThoughtD  (fun t lt qt et => ?_) (fun et => ?_)
      · subst qt
        refine wq_zne rfl (by first | omega | decide | exact Nat.lt_of_le_of_lt Nat.and_le_right (by decide) | exact ⟨by omega, by omega⟩) (fun c12 => ?_) (fun c => absurd (show _ from by omega) c)
        refine wq_go rfl (fun _ => rfl) ?_
        refine wq_getf rfl (by first | rfl | assumption) (by first | decide | omega | assumption) (cw_c0 hC) rfl ?_
        refine wq_go rfl (fun _ => rfl) ?_
        refine wq_go rfl (fun _ => rfl) ?_
        refine wq_go rfl (fun _ => rfl) ?_
        refine wq_callV rfl rfl (by first | rfl | assumption) (by first | decide | omega | assumption) (Nat.le_of_ble_eq_true rfl) (Nat.le_of_ble_eq_true rfl) rfl rfl ?_
        refine c_Foresight_sittingsAlone hS hC hok hT lh lc lt (fun σ9 T0 F9 C9 T9 => ?_)
        have S9 := st_S k35 k41 (by decide) F9 hS
        refine wq_iret rfl ?_
        exact ansQ (K _ (hi_scr scr_41 F9) (ci_41 hI F9 C9 T9)) (by simp only [F_alone, eh, ec, et, od_s, od_n, od_c] <;> first | rfl | simp [od_c])
      · skip
        refine wq_zne rfl (by first | omega | decide | exact Nat.lt_of_le_of_lt Nat.and_le_right (by decide) | exact ⟨by omega, by omega⟩) (fun c => absurd c (by omega)) (fun c12 => ?_)
        refine wq_go rfl (fun _ => rfl) ?_
        refine wq_iret rfl ?_
        exact ansQ (K _ (hi_refl _) hI) (by simp only [F_alone, eh, ec, et, od_s, od_n, od_c] <;> first | rfl | simp [od_c])
    · skip
      refine wq_zeq rfl (by first | omega | decide | exact Nat.lt_of_le_of_lt Nat.and_le_right (by decide) | exact ⟨by omega, by omega⟩) (fun c9 => ?_) (fun c => absurd (show _ from by omega) c)
      refine wq_go rfl (fun _ => rfl) ?_
      refine wq_iret rfl ?_
      exact ansQ (K _ (hi_refl _) hI) (by simp only [F_alone, eh, ec, od_s, od_n, od_c] <;> first | rfl | simp [od_c])
  · skip
    refine wq_zeq rfl (by first | omega | decide | exact Nat.lt_of_le_of_lt Nat.and_le_right (by decide) | exact ⟨by omega, by omega⟩) (fun c4 => ?_) (fun c => absurd (show _ from by omega) c)
    refine wq_go rfl (fun _ => rfl) ?_
    refine wq_iret rfl ?_
    exact ansQ (K _ (hi_refl _) hI) (by simp only [F_alone, eh, od_s, od_n, od_c] <;> first | rfl | simp [od_c])
theorem ck_gain {n : Nat} {A : Sy} (hn : n < 512) (hA : Aok n A) (a0 a1 a2 : Int32) : COk ax_cd152 [.int a0, .int a1, .int a2] A A (F_gain A a0 a1 a2) := by
  intro xs d σ Q hI K
  obtain ⟨hPok, ⟨hok, hhr72, hzq, hsum⟩, hAH, hAZ, hAn, hAh, hTok, hAl⟩ := hA
  have hP' := hPok
  obtain ⟨hP1, hP2, hP3, hP4, hP5, hP6, hP7, hP8, hPv, hPm, hPo, hPw, hPl⟩ := hP'
  have hok' := hok
  obtain ⟨hot, hoh, hosc, hokp⟩ := hok'
  have hI0 := hI
  obtain ⟨hC, hS, ⟨ST, hT⟩, hD, hR⟩ := hI0
  have hR0 := hR
  obtain ⟨hH, ⟨nx, hy⟩, hZ, ⟨ft, hf1, hf2, hf3⟩, ⟨⟨r0, r1, r2, r3, r4, hrd1⟩, hrd2, hrd3⟩⟩ := hR0
  show Wq xs (d + 12) ax_cd152 0 [(0, .ref 0), (1, .int a0), (2, .int a1), (3, .int a2)] [] σ Q
  refine wq_go rfl (fun _ => rfl) ?_
  refine wq_getf rfl (by first | rfl | assumption) (by first | decide | omega | assumption) (cw_c0 hC) rfl ?_
  refine wq_go rfl (fun _ => rfl) ?_
  refine wq_callV rfl rfl (by first | rfl | assumption) (by first | decide | omega | assumption) (Nat.le_of_ble_eq_true rfl) (Nat.le_of_ble_eq_true rfl) rfl rfl ?_
  refine c_hasHeadD hC (fun h lh qh eh => ?_) (fun eh => ?_)
  · subst qh
    refine wq_zeq rfl (by first | omega | decide | exact Nat.lt_of_le_of_lt Nat.and_le_right (by decide) | exact ⟨by omega, by omega⟩) (fun c => absurd c (by omega)) (fun c4 => ?_)
    refine wq_go rfl (fun _ => rfl) ?_
    refine wq_getf rfl (by first | rfl | assumption) (by first | decide | omega | assumption) (cw_c0 hC) rfl ?_
    refine wq_go rfl (fun _ => rfl) ?_
    refine wq_callV rfl rfl (by first | rfl | assumption) (by first | decide | omega | assumption) (Nat.le_of_ble_eq_true rfl) (Nat.le_of_ble_eq_true rfl) rfl rfl ?_
    refine c_hasChairD hC (fun c lc qc ec => ?_) (fun ec => ?_)
    · subst qc
      refine wq_zeq rfl (by first | omega | decide | exact Nat.lt_of_le_of_lt Nat.and_le_right (by decide) | exact ⟨by omega, by omega⟩) (fun c => absurd c (by omega)) (fun c9 => ?_)
      refine wq_go rfl (fun _ => rfl) ?_
      refine wq_callS rfl (Nat.le_of_ble_eq_true rfl) rfl (Nat.le_of_ble_eq_true rfl) (Nat.le_of_ble_eq_true rfl) rfl rfl ?_
      refine c_isThoughtD  (fun t lt qt et => ?_) (fun et => ?_)
      · subst qt
        refine wq_zne rfl (by first | omega | decide | exact Nat.lt_of_le_of_lt Nat.and_le_right (by decide) | exact ⟨by omega, by omega⟩) (fun c12 => ?_) (fun c => absurd (show _ from by omega) c)
        refine wq_go rfl (fun _ => rfl) ?_
        refine wq_getf rfl (by first | rfl | assumption) (by first | decide | omega | assumption) (cw_c0 hC) rfl ?_
        refine wq_go rfl (fun _ => rfl) ?_
        refine wq_getf rfl (by first | rfl | assumption) (by first | decide | omega | assumption) (cw_c0 hC) rfl ?_
        refine wq_go rfl (fun _ => rfl) ?_
        refine wq_go rfl (fun _ => rfl) ?_
        refine wq_go rfl (fun _ => rfl) ?_
        refine wq_callV rfl rfl (by first | rfl | assumption) (by first | decide | omega | assumption) (Nat.le_of_ble_eq_true rfl) (Nat.le_of_ble_eq_true rfl) rfl rfl ?_
        refine c_House_gainOf k35 hS hC hok lh lc lt (fun σ9 F9 C9 => ?_)
        have S9 := st_sc k35 F9 hS
        have H9 := hs_sc hH F9
        refine wq_iret rfl ?_
        exact ansQ (K _ (hi_scr scr_sc F9) (ci_sc hI F9 C9)) (by simp only [F_gain, eh, ec, et, od_s, od_n, od_c] <;> first | rfl | simp [od_c])
      · skip
        refine wq_zne rfl (by first | omega | decide | exact Nat.lt_of_le_of_lt Nat.and_le_right (by decide) | exact ⟨by omega, by omega⟩) (fun c => absurd c (by omega)) (fun c12 => ?_)
        refine wq_go rfl (fun _ => rfl) ?_
        refine wq_iret rfl ?_
        exact ansQ (K _ (hi_refl _) hI) (by simp only [F_gain, eh, ec, et, od_s, od_n, od_c] <;> first | rfl | simp [od_c])
    · skip
      refine wq_zeq rfl (by first | omega | decide | exact Nat.lt_of_le_of_lt Nat.and_le_right (by decide) | exact ⟨by omega, by omega⟩) (fun c9 => ?_) (fun c => absurd (show _ from by omega) c)
      refine wq_go rfl (fun _ => rfl) ?_
      refine wq_iret rfl ?_
      exact ansQ (K _ (hi_refl _) hI) (by simp only [F_gain, eh, ec, od_s, od_n, od_c] <;> first | rfl | simp [od_c])
  · skip
    refine wq_zeq rfl (by first | omega | decide | exact Nat.lt_of_le_of_lt Nat.and_le_right (by decide) | exact ⟨by omega, by omega⟩) (fun c4 => ?_) (fun c => absurd (show _ from by omega) c)
    refine wq_go rfl (fun _ => rfl) ?_
    refine wq_iret rfl ?_
    exact ansQ (K _ (hi_refl _) hI) (by simp only [F_gain, eh, od_s, od_n, od_c] <;> first | rfl | simp [od_c])
theorem ck_bestChair {n : Nat} {A : Sy} (hn : n < 512) (hA : Aok n A) (a0 a1 : Int32) : COk ax_cd153 [.int a0, .int a1] A A (F_bestChair A a0 a1) := by
  intro xs d σ Q hI K
  obtain ⟨hPok, ⟨hok, hhr72, hzq, hsum⟩, hAH, hAZ, hAn, hAh, hTok, hAl⟩ := hA
  have hP' := hPok
  obtain ⟨hP1, hP2, hP3, hP4, hP5, hP6, hP7, hP8, hPv, hPm, hPo, hPw, hPl⟩ := hP'
  have hok' := hok
  obtain ⟨hot, hoh, hosc, hokp⟩ := hok'
  have hI0 := hI
  obtain ⟨hC, hS, ⟨ST, hT⟩, hD, hR⟩ := hI0
  have hR0 := hR
  obtain ⟨hH, ⟨nx, hy⟩, hZ, ⟨ft, hf1, hf2, hf3⟩, ⟨⟨r0, r1, r2, r3, r4, hrd1⟩, hrd2, hrd3⟩⟩ := hR0
  show Wq xs (d + 12) ax_cd153 0 [(0, .ref 0), (1, .int a0), (2, .int a1)] [] σ Q
  refine wq_go rfl (fun _ => rfl) ?_
  refine wq_getf rfl (by first | rfl | assumption) (by first | decide | omega | assumption) (cw_c0 hC) rfl ?_
  refine wq_go rfl (fun _ => rfl) ?_
  refine wq_callV rfl rfl (by first | rfl | assumption) (by first | decide | omega | assumption) (Nat.le_of_ble_eq_true rfl) (Nat.le_of_ble_eq_true rfl) rfl rfl ?_
  refine c_hasHeadD hC (fun h lh qh eh => ?_) (fun eh => ?_)
  · subst qh
    refine wq_zeq rfl (by first | omega | decide | exact Nat.lt_of_le_of_lt Nat.and_le_right (by decide) | exact ⟨by omega, by omega⟩) (fun c => absurd c (by omega)) (fun c4 => ?_)
    refine wq_go rfl (fun _ => rfl) ?_
    refine wq_callS rfl (Nat.le_of_ble_eq_true rfl) rfl (Nat.le_of_ble_eq_true rfl) (Nat.le_of_ble_eq_true rfl) rfl rfl ?_
    refine c_isThoughtD  (fun t lt qt et => ?_) (fun et => ?_)
    · subst qt
      refine wq_zne rfl (by first | omega | decide | exact Nat.lt_of_le_of_lt Nat.and_le_right (by decide) | exact ⟨by omega, by omega⟩) (fun c7 => ?_) (fun c => absurd (show _ from by omega) c)
      refine wq_go rfl (fun _ => rfl) ?_
      refine wq_getf rfl (by first | rfl | assumption) (by first | decide | omega | assumption) (cw_c0 hC) rfl ?_
      refine wq_go rfl (fun _ => rfl) ?_
      refine wq_go rfl (fun _ => rfl) ?_
      refine wq_callV rfl rfl (by first | rfl | assumption) (by first | decide | omega | assumption) (Nat.le_of_ble_eq_true rfl) (Nat.le_of_ble_eq_true rfl) rfl rfl ?_
      refine c_Foresight_chairOfMostGain hS hC hok lh lt (fun σ8 F8 C8 => ?_)
      have S8 := st_sc k35 F8 hS
      have H8 := hs_sc hH F8
      refine wq_iret rfl ?_
      exact ansQ (K _ (hi_scr scr_sc F8) (ci_sc hI F8 C8)) (by simp only [F_bestChair, eh, et, od_s, od_n, od_c] <;> first | rfl | simp [od_c])
    · skip
      refine wq_zne rfl (by first | omega | decide | exact Nat.lt_of_le_of_lt Nat.and_le_right (by decide) | exact ⟨by omega, by omega⟩) (fun c => absurd c (by omega)) (fun c7 => ?_)
      refine wq_go rfl (fun _ => rfl) ?_
      refine wq_iret rfl ?_
      exact ansQ (K _ (hi_refl _) hI) (by simp only [F_bestChair, eh, et, od_s, od_n, od_c] <;> first | rfl | simp [od_c])
  · skip
    refine wq_zeq rfl (by first | omega | decide | exact Nat.lt_of_le_of_lt Nat.and_le_right (by decide) | exact ⟨by omega, by omega⟩) (fun c4 => ?_) (fun c => absurd (show _ from by omega) c)
    refine wq_go rfl (fun _ => rfl) ?_
    refine wq_iret rfl ?_
    exact ansQ (K _ (hi_refl _) hI) (by simp only [F_bestChair, eh, od_s, od_n, od_c] <;> first | rfl | simp [od_c])
theorem ck_most {n : Nat} {A : Sy} (hn : n < 512) (hA : Aok n A) (a0 a1 : Int32) : COk ax_cd155 [.int a0, .int a1] A A (F_most A a0 a1) := by
  intro xs d σ Q hI K
  obtain ⟨hPok, ⟨hok, hhr72, hzq, hsum⟩, hAH, hAZ, hAn, hAh, hTok, hAl⟩ := hA
  have hP' := hPok
  obtain ⟨hP1, hP2, hP3, hP4, hP5, hP6, hP7, hP8, hPv, hPm, hPo, hPw, hPl⟩ := hP'
  have hok' := hok
  obtain ⟨hot, hoh, hosc, hokp⟩ := hok'
  have hI0 := hI
  obtain ⟨hC, hS, ⟨ST, hT⟩, hD, hR⟩ := hI0
  have hR0 := hR
  obtain ⟨hH, ⟨nx, hy⟩, hZ, ⟨ft, hf1, hf2, hf3⟩, ⟨⟨r0, r1, r2, r3, r4, hrd1⟩, hrd2, hrd3⟩⟩ := hR0
  show Wq xs (d + 12) ax_cd155 0 [(0, .ref 0), (1, .int a0), (2, .int a1)] [] σ Q
  refine wq_go rfl (fun _ => rfl) ?_
  refine wq_callS rfl (Nat.le_of_ble_eq_true rfl) rfl (Nat.le_of_ble_eq_true rfl) (Nat.le_of_ble_eq_true rfl) rfl rfl ?_
  refine c_isThoughtD  (fun t lt qt et => ?_) (fun et => ?_)
  · subst qt
    refine wq_zne rfl (by first | omega | decide | exact Nat.lt_of_le_of_lt Nat.and_le_right (by decide) | exact ⟨by omega, by omega⟩) (fun c2 => ?_) (fun c => absurd (show _ from by omega) c)
    refine wq_go rfl (fun _ => rfl) ?_
    rcases dec_cases (n := 2) (by decide) a1 with ⟨ew, hw⟩ | ⟨w, lw, qw, ew⟩
    · refine wq_swD 2 rfl (by decide) (by decide) hw ?_
      refine wq_go rfl (fun _ => rfl) ?_
      refine wq_iret rfl ?_
      exact ansQ (K _ (hi_refl _) hI) (by simp only [F_most, et, ew, od_s, od_n, od_c] <;> first | rfl | simp [od_c])
    · subst qw
      have ow : w = 0 ∨ w = 1 := by omega
      rcases ow with rfl | rfl
      · refine wq_swN rfl rfl (by decide) rfl ?_
        refine wq_go rfl (fun _ => rfl) ?_
        refine wq_getf rfl (by first | rfl | assumption) (by first | decide | omega | assumption) (cw_c0 hC) rfl ?_
        refine wq_go rfl (fun _ => rfl) ?_
        refine wq_go rfl (fun _ => rfl) ?_
        refine wq_getf rfl (by first | rfl | assumption) (by first | decide | omega | assumption) (cw_c0 hC) rfl ?_
        refine wq_getf rfl (by first | rfl | assumption) (by first | decide | omega | assumption) (cw_c21 hC) rfl ?_
        refine wq_callV rfl rfl (by first | rfl | assumption) (by first | decide | omega | assumption) (Nat.le_of_ble_eq_true rfl) (Nat.le_of_ble_eq_true rfl) rfl rfl ?_
        refine c_State_headWithMost k35 hS hok lt (by omega) ?_
        refine wq_iret rfl ?_
        exact ansQ (K _ (hi_refl _) hI) (by simp only [F_most, et, ew, od_s, od_n, od_c] <;> first | rfl | simp [od_c])
      · refine wq_swN rfl rfl (by decide) rfl ?_
        refine wq_go rfl (fun _ => rfl) ?_
        refine wq_getf rfl (by first | rfl | assumption) (by first | decide | omega | assumption) (cw_c0 hC) rfl ?_
        refine wq_go rfl (fun _ => rfl) ?_
        refine wq_go rfl (fun _ => rfl) ?_
        refine wq_getf rfl (by first | rfl | assumption) (by first | decide | omega | assumption) (cw_c0 hC) rfl ?_
        refine wq_getf rfl (by first | rfl | assumption) (by first | decide | omega | assumption) (cw_c21 hC) rfl ?_
        refine wq_callV rfl rfl (by first | rfl | assumption) (by first | decide | omega | assumption) (Nat.le_of_ble_eq_true rfl) (Nat.le_of_ble_eq_true rfl) rfl rfl ?_
        refine c_State_chairWithMost k35 hS hok lt (by omega) ?_
        refine wq_iret rfl ?_
        exact ansQ (K _ (hi_refl _) hI) (by simp only [F_most, et, ew, od_s, od_n, od_c] <;> first | rfl | simp [od_c])
  · skip
    refine wq_zne rfl (by first | omega | decide | exact Nat.lt_of_le_of_lt Nat.and_le_right (by decide) | exact ⟨by omega, by omega⟩) (fun c => absurd c (by omega)) (fun c2 => ?_)
    refine wq_go rfl (fun _ => rfl) ?_
    refine wq_iret rfl ?_
    exact ansQ (K _ (hi_refl _) hI) (by simp only [F_most, et, od_s, od_n, od_c] <;> first | rfl | simp [od_c])
theorem ck_when {n : Nat} {A : Sy} (hn : n < 512) (hA : Aok n A) (a0 a1 : Int32) : COk ax_cd159 [.int a0, .int a1] A A (F_when A a0 a1) := by
  intro xs d σ Q hI K
  obtain ⟨hPok, ⟨hok, hhr72, hzq, hsum⟩, hAH, hAZ, hAn, hAh, hTok, hAl⟩ := hA
  have hP' := hPok
  obtain ⟨hP1, hP2, hP3, hP4, hP5, hP6, hP7, hP8, hPv, hPm, hPo, hPw, hPl⟩ := hP'
  have hok' := hok
  obtain ⟨hot, hoh, hosc, hokp⟩ := hok'
  have hI0 := hI
  obtain ⟨hC, hS, ⟨ST, hT⟩, hD, hR⟩ := hI0
  have hR0 := hR
  obtain ⟨hH, ⟨nx, hy⟩, hZ, ⟨ft, hf1, hf2, hf3⟩, ⟨⟨r0, r1, r2, r3, r4, hrd1⟩, hrd2, hrd3⟩⟩ := hR0
  show Wq xs (d + 12) ax_cd159 0 [(0, .ref 0), (1, .int a0), (2, .int a1)] [] σ Q
  refine wq_go rfl (fun _ => rfl) ?_
  refine wq_getf rfl (by first | rfl | assumption) (by first | decide | omega | assumption) (cw_c0 hC) rfl ?_
  refine wq_go rfl (fun _ => rfl) ?_
  refine wq_callV rfl rfl (by first | rfl | assumption) (by first | decide | omega | assumption) (Nat.le_of_ble_eq_true rfl) (Nat.le_of_ble_eq_true rfl) rfl rfl ?_
  refine c_hasHeadD hC (fun h lh qh eh => ?_) (fun eh => ?_)
  · subst qh
    refine wq_zeq rfl (by first | omega | decide | exact Nat.lt_of_le_of_lt Nat.and_le_right (by decide) | exact ⟨by omega, by omega⟩) (fun c => absurd c (by omega)) (fun c4 => ?_)
    refine wq_go rfl (fun _ => rfl) ?_
    refine wq_callS rfl (Nat.le_of_ble_eq_true rfl) rfl (Nat.le_of_ble_eq_true rfl) (Nat.le_of_ble_eq_true rfl) rfl rfl ?_
    refine c_isThoughtD  (fun t lt qt et => ?_) (fun et => ?_)
    · subst qt
      refine wq_zne rfl (by first | omega | decide | exact Nat.lt_of_le_of_lt Nat.and_le_right (by decide) | exact ⟨by omega, by omega⟩) (fun c7 => ?_) (fun c => absurd (show _ from by omega) c)
      refine wq_go rfl (fun _ => rfl) ?_
      refine wq_getf rfl (by first | rfl | assumption) (by first | decide | omega | assumption) (cw_c0 hC) rfl ?_
      refine wq_go rfl (fun _ => rfl) ?_
      refine wq_go rfl (fun _ => rfl) ?_
      refine wq_callV rfl rfl (by first | rfl | assumption) (by first | decide | omega | assumption) (Nat.le_of_ble_eq_true rfl) (Nat.le_of_ble_eq_true rfl) rfl rfl ?_
      refine c_Foresight_hoursUntilSaid hS hC hok hT lh lt (by omega) (fun σ8 T0 F8 C8 T8 => ?_)
      have S8 := st_S k35 k41 (by decide) F8 hS
      refine wq_iret rfl ?_
      exact ansQ (K _ (hi_scr scr_41 F8) (ci_41 hI F8 C8 T8)) (by simp only [F_when, eh, et, od_s, od_n, od_c] <;> first | rfl | simp [od_c])
    · skip
      refine wq_zne rfl (by first | omega | decide | exact Nat.lt_of_le_of_lt Nat.and_le_right (by decide) | exact ⟨by omega, by omega⟩) (fun c => absurd c (by omega)) (fun c7 => ?_)
      refine wq_go rfl (fun _ => rfl) ?_
      refine wq_iret rfl ?_
      exact ansQ (K _ (hi_refl _) hI) (by simp only [F_when, eh, et, od_s, od_n, od_c] <;> first | rfl | simp [od_c])
  · skip
    refine wq_zeq rfl (by first | omega | decide | exact Nat.lt_of_le_of_lt Nat.and_le_right (by decide) | exact ⟨by omega, by omega⟩) (fun c4 => ?_) (fun c => absurd (show _ from by omega) c)
    refine wq_go rfl (fun _ => rfl) ?_
    refine wq_iret rfl ?_
    exact ansQ (K _ (hi_refl _) hI) (by simp only [F_when, eh, od_s, od_n, od_c] <;> first | rfl | simp [od_c])
theorem ck_meet {n : Nat} {A : Sy} (hn : n < 512) (hA : Aok n A) (a0 a1 a2 : Int32) : COk ax_cd161 [.int a0, .int a1, .int a2] A A (F_meet A a0 a1 a2) := by
  intro xs d σ Q hI K
  obtain ⟨hPok, ⟨hok, hhr72, hzq, hsum⟩, hAH, hAZ, hAn, hAh, hTok, hAl⟩ := hA
  have hP' := hPok
  obtain ⟨hP1, hP2, hP3, hP4, hP5, hP6, hP7, hP8, hPv, hPm, hPo, hPw, hPl⟩ := hP'
  have hok' := hok
  obtain ⟨hot, hoh, hosc, hokp⟩ := hok'
  have hI0 := hI
  obtain ⟨hC, hS, ⟨ST, hT⟩, hD, hR⟩ := hI0
  have hR0 := hR
  obtain ⟨hH, ⟨nx, hy⟩, hZ, ⟨ft, hf1, hf2, hf3⟩, ⟨⟨r0, r1, r2, r3, r4, hrd1⟩, hrd2, hrd3⟩⟩ := hR0
  show Wq xs (d + 12) ax_cd161 0 [(0, .ref 0), (1, .int a0), (2, .int a1), (3, .int a2)] [] σ Q
  refine wq_go rfl (fun _ => rfl) ?_
  refine wq_callS rfl (Nat.le_of_ble_eq_true rfl) rfl (Nat.le_of_ble_eq_true rfl) (Nat.le_of_ble_eq_true rfl) rfl rfl ?_
  refine c_isThoughtD  (fun t lt qt et => ?_) (fun et => ?_)
  · subst qt
    refine wq_zeq rfl (by first | omega | decide | exact Nat.lt_of_le_of_lt Nat.and_le_right (by decide) | exact ⟨by omega, by omega⟩) (fun c => absurd c (by omega)) (fun c2 => ?_)
    refine wq_go rfl (fun _ => rfl) ?_
    refine wq_callS rfl (Nat.le_of_ble_eq_true rfl) rfl (Nat.le_of_ble_eq_true rfl) (Nat.le_of_ble_eq_true rfl) rfl rfl ?_
    refine c_isThoughtD  (fun o lo qo eo => ?_) (fun eo => ?_)
    · subst qo
      refine wq_zeq rfl (by first | omega | decide | exact Nat.lt_of_le_of_lt Nat.and_le_right (by decide) | exact ⟨by omega, by omega⟩) (fun c => absurd c (by omega)) (fun c5 => ?_)
      refine wq_go rfl (fun _ => rfl) ?_
      refine wq_go rfl (fun _ => rfl) ?_
      refine wq_ceq rfl (by first | omega | decide | exact Nat.lt_of_le_of_lt Nat.and_le_right (by decide) | exact ⟨by omega, by omega⟩) (by first | omega | decide | exact Nat.lt_of_le_of_lt Nat.and_le_right (by decide) | exact ⟨by omega, by omega⟩) (fun c8 => ?_) (fun c8 => ?_)
      · skip
        refine wq_go rfl (fun _ => rfl) ?_
        refine wq_iret rfl ?_
        exact ansQ (K _ (hi_refl _) hI) (by simp only [F_meet, et, eo, od_s, od_n, od_c] <;> first | rfl | exact (if_pos (by omega)).symm | exact (if_neg (by omega)).symm | (split <;> rfl))
      · skip
        refine wq_go rfl (fun _ => rfl) ?_
        refine wq_callS rfl (Nat.le_of_ble_eq_true rfl) rfl (Nat.le_of_ble_eq_true rfl) (Nat.le_of_ble_eq_true rfl) rfl rfl ?_
        refine c_isHoursD  (fun n ln qn en => ?_) (fun en => ?_)
        · subst qn
          refine wq_zne rfl (by first | omega | decide | exact Nat.lt_of_le_of_lt Nat.and_le_right (by decide) | exact ⟨by omega, by omega⟩) (fun c11 => ?_) (fun c => absurd (show _ from by omega) c)
          refine wq_go rfl (fun _ => rfl) ?_
          refine wq_getf rfl (by first | rfl | assumption) (by first | decide | omega | assumption) (cw_c0 hC) rfl ?_
          refine wq_go rfl (fun _ => rfl) ?_
          refine wq_cN (m := 0) rfl rfl ?_
          refine wq_callV rfl rfl (by first | rfl | assumption) (by first | decide | omega | assumption) (Nat.le_of_ble_eq_true rfl) (Nat.le_of_ble_eq_true rfl) rfl rfl ?_
          refine c_Foresight_after hS hC hok hT (by omega) (by decide) (by omega) (fun σ9 F9 C9 T9 => ?_)
          have S9 := st_S k35 k41 (by decide) F9 hS
          refine wq_go rfl (fun _ => rfl) ?_
          refine wq_go rfl (fun _ => rfl) ?_
          refine wq_go rfl (fun _ => rfl) ?_
          refine wq_go rfl (fun _ => rfl) ?_
          refine wq_getf rfl (by first | rfl | assumption) (by first | decide | omega | assumption) (cw_c0 C9) rfl ?_
          refine wq_getf rfl (by first | rfl | assumption) (by first | decide | omega | assumption) (cw_c21 C9) rfl ?_
          refine wq_go rfl (fun _ => rfl) ?_
          refine wq_getf rfl (by first | rfl | assumption) (by first | decide | omega | assumption) (cw_c0 C9) rfl ?_
          refine wq_getf rfl (by first | rfl | assumption) (by first | decide | omega | assumption) (cw_c21 C9) rfl ?_
          refine wq_callV rfl rfl (by first | rfl | assumption) (by first | decide | omega | assumption) (Nat.le_of_ble_eq_true rfl) (Nat.le_of_ble_eq_true rfl) rfl rfl ?_
          refine c_State_sayersOf k41 T9 (go_ok hPok hok 0 (Psd (AP A)) n (by omega)) (by omega) (by omega) (by omega) ?_
          refine wq_go rfl (fun _ => rfl) ?_
          refine wq_go rfl (fun _ => rfl) ?_
          refine wq_go rfl (fun _ => rfl) ?_
          refine wq_getf rfl (by first | rfl | assumption) (by first | decide | omega | assumption) (cw_c0 C9) rfl ?_
          refine wq_getf rfl (by first | rfl | assumption) (by first | decide | omega | assumption) (cw_c21 C9) rfl ?_
          refine wq_go rfl (fun _ => rfl) ?_
          refine wq_getf rfl (by first | rfl | assumption) (by first | decide | omega | assumption) (cw_c0 C9) rfl ?_
          refine wq_getf rfl (by first | rfl | assumption) (by first | decide | omega | assumption) (cw_c21 C9) rfl ?_
          refine wq_callV rfl rfl (by first | rfl | assumption) (by first | decide | omega | assumption) (Nat.le_of_ble_eq_true rfl) (Nat.le_of_ble_eq_true rfl) rfl rfl ?_
          refine c_State_sayersOf k41 T9 (go_ok hPok hok 0 (Psd (AP A)) n (by omega)) (by omega) (by omega) (by omega) ?_
          refine wq_andN rfl ?_
          refine wq_iret rfl ?_
          exact ansQ (K _ (hi_scr scr_41 F9) (ci_41 hI F9 C9 T9)) (by simp only [F_meet, et, eo, en, od_s, od_n, od_c] <;> first | rfl | exact (if_pos (by omega)).symm | exact (if_neg (by omega)).symm | (split <;> rfl))
        · skip
          refine wq_zne rfl (by first | omega | decide | exact Nat.lt_of_le_of_lt Nat.and_le_right (by decide) | exact ⟨by omega, by omega⟩) (fun c => absurd c (by omega)) (fun c11 => ?_)
          refine wq_go rfl (fun _ => rfl) ?_
          refine wq_iret rfl ?_
          exact ansQ (K _ (hi_refl _) hI) (by simp only [F_meet, et, eo, en, od_s, od_n, od_c] <;> first | rfl | exact (if_pos (by omega)).symm | exact (if_neg (by omega)).symm | (split <;> rfl))
    · skip
      refine wq_zeq rfl (by first | omega | decide | exact Nat.lt_of_le_of_lt Nat.and_le_right (by decide) | exact ⟨by omega, by omega⟩) (fun c5 => ?_) (fun c => absurd (show _ from by omega) c)
      refine wq_go rfl (fun _ => rfl) ?_
      refine wq_iret rfl ?_
      exact ansQ (K _ (hi_refl _) hI) (by simp only [F_meet, et, eo, od_s, od_n, od_c] <;> first | rfl | exact (if_pos (by omega)).symm | exact (if_neg (by omega)).symm | (split <;> rfl))
  · skip
    refine wq_zeq rfl (by first | omega | decide | exact Nat.lt_of_le_of_lt Nat.and_le_right (by decide) | exact ⟨by omega, by omega⟩) (fun c2 => ?_) (fun c => absurd (show _ from by omega) c)
    refine wq_go rfl (fun _ => rfl) ?_
    refine wq_iret rfl ?_
    exact ansQ (K _ (hi_refl _) hI) (by simp only [F_meet, et, od_s, od_n, od_c] <;> first | rfl | exact (if_pos (by omega)).symm | exact (if_neg (by omega)).symm | (split <;> rfl))
theorem wo_lt {z : Int32} {N : Nat} (hN : N < 2 ^ 31) (h : ax_cmp 2 z (nI 1) = true) (k : Nat → Int32) : od (dec N z) (-1) (fun n => if n = 0 then -1 else k n) = -1 := by
  cases e : dec N z with
  | none => rfl
  | some n =>
    obtain ⟨h1, h2⟩ := dec_lt e
    subst h2
    have h3 := (nI_ltI (by omega) (by decide)).mp (of_decide_eq_true h)
    exact if_pos (by omega)
theorem wo_ge {n : Nat} (h : ax_cmp 2 (nI n) (nI 1) = false) : ¬ n = 0 := by
  intro e
  subst e
  exact absurd h (by decide)
theorem ck_without {n : Nat} {A : Sy} (hn : n < 512) (hA : Aok n A) (a0 a1 a2 : Int32) : COk ax_cd164 [.int a0, .int a1, .int a2] A A (F_without A a0 a1 a2) := by
  intro xs d σ Q hI K
  obtain ⟨hPok, ⟨hok, hhr72, hzq, hsum⟩, hAH, hAZ, hAn, hAh, hTok, hAl⟩ := hA
  have hP' := hPok
  obtain ⟨hP1, hP2, hP3, hP4, hP5, hP6, hP7, hP8, hPv, hPm, hPo, hPw, hPl⟩ := hP'
  have hok' := hok
  obtain ⟨hot, hoh, hosc, hokp⟩ := hok'
  have hI0 := hI
  obtain ⟨hC, hS, ⟨ST, hT⟩, hD, hR⟩ := hI0
  have hR0 := hR
  obtain ⟨hH, ⟨nx, hy⟩, hZ, ⟨ft, hf1, hf2, hf3⟩, ⟨⟨r0, r1, r2, r3, r4, hrd1⟩, hrd2, hrd3⟩⟩ := hR0
  show Wq xs (d + 12) ax_cd164 0 [(0, .ref 0), (1, .int a0), (2, .int a1), (3, .int a2)] [] σ Q
  refine wq_go rfl (fun _ => rfl) ?_
  refine wq_getf rfl (by first | rfl | assumption) (by first | decide | omega | assumption) (cw_c0 hC) rfl ?_
  refine wq_go rfl (fun _ => rfl) ?_
  refine wq_callV rfl rfl (by first | rfl | assumption) (by first | decide | omega | assumption) (Nat.le_of_ble_eq_true rfl) (Nat.le_of_ble_eq_true rfl) rfl rfl ?_
  refine c_hasVisitD hC (fun i li qi ei => ?_) (fun ei => ?_)
  · subst qi
    refine wq_zeq rfl (by first | omega | decide | exact Nat.lt_of_le_of_lt Nat.and_le_right (by decide) | exact ⟨by omega, by omega⟩) (fun c => absurd c (by omega)) (fun c4 => ?_)
    refine wq_go rfl (fun _ => rfl) ?_
    refine wq_callS rfl (Nat.le_of_ble_eq_true rfl) rfl (Nat.le_of_ble_eq_true rfl) (Nat.le_of_ble_eq_true rfl) rfl rfl ?_
    refine c_isThoughtD  (fun t lt qt et => ?_) (fun et => ?_)
    · subst qt
      refine wq_zeq rfl (by first | omega | decide | exact Nat.lt_of_le_of_lt Nat.and_le_right (by decide) | exact ⟨by omega, by omega⟩) (fun c => absurd c (by omega)) (fun c7 => ?_)
      refine wq_go rfl (fun _ => rfl) ?_
      refine wq_cN (m := 1) rfl rfl ?_
      refine wq_cmp rfl  (fun c10 => ?_) (fun c10 => ?_)
      · skip
        refine wq_go rfl (fun _ => rfl) ?_
        refine wq_iret rfl ?_
        exact ansQ (K _ (hi_refl _) hI) (by simp only [F_without, ei, et, od_s, od_n, od_c] <;> first | rfl | exact (wo_lt (by decide) c10 _).symm | exact (if_neg (wo_ge c10)).symm)
      · skip
        refine wq_go rfl (fun _ => rfl) ?_
        refine wq_callS rfl (Nat.le_of_ble_eq_true rfl) rfl (Nat.le_of_ble_eq_true rfl) (Nat.le_of_ble_eq_true rfl) rfl rfl ?_
        refine c_isHoursD  (fun n ln qn en => ?_) (fun en => ?_)
        · subst qn
          refine wq_zne rfl (by first | omega | decide | exact Nat.lt_of_le_of_lt Nat.and_le_right (by decide) | exact ⟨by omega, by omega⟩) (fun c13 => ?_) (fun c => absurd (show _ from by omega) c)
          refine wq_go rfl (fun _ => rfl) ?_
          refine wq_getf rfl (by first | rfl | assumption) (by first | decide | omega | assumption) (cw_c0 hC) rfl ?_
          refine wq_go rfl (fun _ => rfl) ?_
          refine wq_go rfl (fun _ => rfl) ?_
          refine wq_callV rfl rfl (by first | rfl | assumption) (by first | decide | omega | assumption) (Nat.le_of_ble_eq_true rfl) (Nat.le_of_ble_eq_true rfl) rfl rfl ?_
          refine c_Foresight_afterGivingUp hS hC hok hT (by omega) (by omega) (by omega) (fun σ9 F9 C9 T9 => ?_)
          have S9 := st_S k35 k41 (by decide) F9 hS
          refine wq_go rfl (fun _ => rfl) ?_
          refine wq_getf rfl (by first | rfl | assumption) (by first | decide | omega | assumption) (cw_c0 C9) rfl ?_
          refine wq_go rfl (fun _ => rfl) ?_
          have hpv := hPv i li
          refine wq_callV rfl rfl (by first | rfl | assumption) (by first | decide | omega | assumption) (Nat.le_of_ble_eq_true rfl) (Nat.le_of_ble_eq_true rfl) rfl rfl ?_
          refine c_Plan_visitHead C9 (by omega) ?_
          refine wq_go rfl (fun _ => rfl) ?_
          refine wq_callV rfl rfl (by first | rfl | assumption) (by first | decide | omega | assumption) (Nat.le_of_ble_eq_true rfl) (Nat.le_of_ble_eq_true rfl) rfl rfl ?_
          refine c_State_own k41 T9 (by omega) (by omega) ?_
          refine wq_iret rfl ?_
          exact ansQ (K _ (hi_scr scr_41 F9) (ci_41 hI F9 C9 T9)) (by simp only [F_without, ei, et, en, od_s, od_n, od_c] <;> first | rfl | exact (wo_lt (by decide) c10 _).symm | exact (if_neg (wo_ge c10)).symm)
        · skip
          refine wq_zne rfl (by first | omega | decide | exact Nat.lt_of_le_of_lt Nat.and_le_right (by decide) | exact ⟨by omega, by omega⟩) (fun c => absurd c (by omega)) (fun c13 => ?_)
          refine wq_go rfl (fun _ => rfl) ?_
          refine wq_iret rfl ?_
          exact ansQ (K _ (hi_refl _) hI) (by simp only [F_without, ei, et, en, od_s, od_n, od_c] <;> first | rfl | exact (wo_lt (by decide) c10 _).symm | exact (if_neg (wo_ge c10)).symm)
    · skip
      refine wq_zeq rfl (by first | omega | decide | exact Nat.lt_of_le_of_lt Nat.and_le_right (by decide) | exact ⟨by omega, by omega⟩) (fun c7 => ?_) (fun c => absurd (show _ from by omega) c)
      refine wq_go rfl (fun _ => rfl) ?_
      refine wq_iret rfl ?_
      exact ansQ (K _ (hi_refl _) hI) (by simp only [F_without, ei, et, od_s, od_n, od_c] <;> first | rfl | exact (wo_lt (by decide) c10 _).symm | exact (if_neg (wo_ge c10)).symm)
  · skip
    refine wq_zeq rfl (by first | omega | decide | exact Nat.lt_of_le_of_lt Nat.and_le_right (by decide) | exact ⟨by omega, by omega⟩) (fun c4 => ?_) (fun c => absurd (show _ from by omega) c)
    refine wq_go rfl (fun _ => rfl) ?_
    refine wq_iret rfl ?_
    exact ansQ (K _ (hi_refl _) hI) (by simp only [F_without, ei, od_s, od_n, od_c] <;> first | rfl | exact (wo_lt (by decide) c10 _).symm | exact (if_neg (wo_ge c10)).symm)
theorem ck_alike {n : Nat} {A : Sy} (hn : n < 512) (hA : Aok n A) (a0 : Int32) : COk ax_cd166 [.int a0] A A (F_alike A a0) := by
  intro xs d σ Q hI K
  obtain ⟨hPok, ⟨hok, hhr72, hzq, hsum⟩, hAH, hAZ, hAn, hAh, hTok, hAl⟩ := hA
  have hP' := hPok
  obtain ⟨hP1, hP2, hP3, hP4, hP5, hP6, hP7, hP8, hPv, hPm, hPo, hPw, hPl⟩ := hP'
  have hok' := hok
  obtain ⟨hot, hoh, hosc, hokp⟩ := hok'
  have hI0 := hI
  obtain ⟨hC, hS, ⟨ST, hT⟩, hD, hR⟩ := hI0
  have hR0 := hR
  obtain ⟨hH, ⟨nx, hy⟩, hZ, ⟨ft, hf1, hf2, hf3⟩, ⟨⟨r0, r1, r2, r3, r4, hrd1⟩, hrd2, hrd3⟩⟩ := hR0
  show Wq xs (d + 12) ax_cd166 0 [(0, .ref 0), (1, .int a0)] [] σ Q
  rcases dec_cases (n := 2) (by decide) a0 with ⟨ew, hw⟩ | ⟨w, lw, qw, ew⟩
  · skip
    refine wq_go rfl (fun _ => rfl) ?_
    refine wq_if rfl (fun c => absurd (c.symm.trans (decide_eq_false (fun e => hw 0 (by decide) e))) (by decide)) (fun c1 => ?_)
    refine wq_go rfl (fun _ => rfl) ?_
    refine wq_cN (m := 1) rfl rfl ?_
    refine wq_cmp rfl (fun c => absurd (c.symm.trans (decide_eq_false (fun e => hw 1 (by decide) e))) (by decide)) (fun c4 => ?_)
    refine wq_go rfl (fun _ => rfl) ?_
    refine wq_iret rfl ?_
    exact ansQ (K _ (hi_refl _) hI) (by simp only [F_alike, ew, od_s, od_n, od_c] <;> rfl)
  · subst qw
    have ow : w = 0 ∨ w = 1 := by omega
    rcases ow with rfl | rfl
    · skip
      refine wq_go rfl (fun _ => rfl) ?_
      refine wq_zeq rfl (by first | omega | decide | exact Nat.lt_of_le_of_lt Nat.and_le_right (by decide) | exact ⟨by omega, by omega⟩) (fun c1 => ?_) (fun c => absurd (show _ from by omega) c)
      refine wq_go rfl (fun _ => rfl) ?_
      refine wq_getf rfl (by first | rfl | assumption) (by first | decide | omega | assumption) (cw_c0 hC) rfl ?_
      refine wq_go rfl (fun _ => rfl) ?_
      refine wq_getf rfl (by first | rfl | assumption) (by first | decide | omega | assumption) (cw_c0 hC) rfl ?_
      refine wq_getf rfl (by first | rfl | assumption) (by first | decide | omega | assumption) (cw_c21 hC) rfl ?_
      refine wq_callV rfl rfl (by first | rfl | assumption) (by first | decide | omega | assumption) (Nat.le_of_ble_eq_true rfl) (Nat.le_of_ble_eq_true rfl) rfl rfl ?_
      refine c_State_closestChairs k35 hS hok (by omega) ?_
      cases hb : am (far2 (Ssq (AS A))) (pls (Pch (AP A)) (Pch (AP A))) with
      | none =>
        refine wq_go rfl (fun _ => rfl) ?_
        refine wq_go rfl (fun _ => rfl) ?_
        refine wq_go rfl (fun _ => rfl) ?_
        refine wq_deq rfl (show (_ : Int32) = zI (-2) from by decide) (show (_ : Int32) = zI (-2) from by decide) (by first | omega | decide | exact Nat.lt_of_le_of_lt Nat.and_le_right (by decide) | exact ⟨by omega, by omega⟩) (by first | omega | decide | exact Nat.lt_of_le_of_lt Nat.and_le_right (by decide) | exact ⟨by omega, by omega⟩) (fun c16 => ?_) (fun c => absurd (show _ from by omega) c)
        refine wq_go rfl (fun _ => rfl) ?_
        refine wq_go rfl (fun _ => rfl) ?_
        refine wq_iret rfl ?_
        exact ansQ (K _ (hi_refl _) hI) (by simp only [F_alike, ew, od_s, od_n, od_c, hb] <;> rfl)
      | some b =>
        have hbl := pls_lt (by omega) _ b (Nat.le_refl _) (am_mem hb)
        have hbb : b < 100 := by omega
        refine wq_go rfl (fun _ => rfl) ?_
        refine wq_go rfl (fun _ => rfl) ?_
        refine wq_go rfl (fun _ => rfl) ?_
        refine wq_deq rfl (nI_z _) (show (_ : Int32) = zI (-2) from by decide) (by first | omega | decide | exact Nat.lt_of_le_of_lt Nat.and_le_right (by decide) | exact ⟨by omega, by omega⟩) (by first | omega | decide | exact Nat.lt_of_le_of_lt Nat.and_le_right (by decide) | exact ⟨by omega, by omega⟩) (fun c => absurd c (by omega)) (fun c16 => ?_)
        refine wq_go rfl (fun _ => rfl) ?_
        refine wq_zne rfl (by first | omega | decide | exact Nat.lt_of_le_of_lt Nat.and_le_right (by decide) | exact ⟨by omega, by omega⟩) (fun c => absurd c (by omega)) (fun c18 => ?_)
        refine wq_go rfl (fun _ => rfl) ?_
        refine wq_go rfl (fun _ => rfl) ?_
        refine wq_iret rfl ?_
        exact ansQ (K _ (hi_refl _) hI) (by simp only [F_alike, ew, od_s, od_n, od_c, hb] <;> rfl)
    · skip
      refine wq_go rfl (fun _ => rfl) ?_
      refine wq_zeq rfl (by first | omega | decide | exact Nat.lt_of_le_of_lt Nat.and_le_right (by decide) | exact ⟨by omega, by omega⟩) (fun c => absurd c (by omega)) (fun c1 => ?_)
      refine wq_go rfl (fun _ => rfl) ?_
      refine wq_cN (m := 1) rfl rfl ?_
      refine wq_ceq rfl (by first | omega | decide | exact Nat.lt_of_le_of_lt Nat.and_le_right (by decide) | exact ⟨by omega, by omega⟩) (by first | omega | decide | exact Nat.lt_of_le_of_lt Nat.and_le_right (by decide) | exact ⟨by omega, by omega⟩) (fun c4 => ?_) (fun c => absurd (show _ from by omega) c)
      refine wq_go rfl (fun _ => rfl) ?_
      refine wq_getf rfl (by first | rfl | assumption) (by first | decide | omega | assumption) (cw_c0 hC) rfl ?_
      refine wq_go rfl (fun _ => rfl) ?_
      refine wq_getf rfl (by first | rfl | assumption) (by first | decide | omega | assumption) (cw_c0 hC) rfl ?_
      refine wq_getf rfl (by first | rfl | assumption) (by first | decide | omega | assumption) (cw_c21 hC) rfl ?_
      refine wq_callV rfl rfl (by first | rfl | assumption) (by first | decide | omega | assumption) (Nat.le_of_ble_eq_true rfl) (Nat.le_of_ble_eq_true rfl) rfl rfl ?_
      refine c_State_closestChairs k35 hS hok (by omega) ?_
      cases hb : am (far2 (Ssq (AS A))) (pls (Pch (AP A)) (Pch (AP A))) with
      | none =>
        refine wq_go rfl (fun _ => rfl) ?_
        refine wq_go rfl (fun _ => rfl) ?_
        refine wq_go rfl (fun _ => rfl) ?_
        refine wq_deq rfl (show (_ : Int32) = zI (-2) from by decide) (show (_ : Int32) = zI (-2) from by decide) (by first | omega | decide | exact Nat.lt_of_le_of_lt Nat.and_le_right (by decide) | exact ⟨by omega, by omega⟩) (by first | omega | decide | exact Nat.lt_of_le_of_lt Nat.and_le_right (by decide) | exact ⟨by omega, by omega⟩) (fun c16 => ?_) (fun c => absurd (show _ from by omega) c)
        refine wq_go rfl (fun _ => rfl) ?_
        refine wq_go rfl (fun _ => rfl) ?_
        refine wq_iret rfl ?_
        exact ansQ (K _ (hi_refl _) hI) (by simp only [F_alike, ew, od_s, od_n, od_c, hb] <;> rfl)
      | some b =>
        have hbl := pls_lt (by omega) _ b (Nat.le_refl _) (am_mem hb)
        have hbb : b < 100 := by omega
        refine wq_go rfl (fun _ => rfl) ?_
        refine wq_go rfl (fun _ => rfl) ?_
        refine wq_go rfl (fun _ => rfl) ?_
        refine wq_deq rfl (nI_z _) (show (_ : Int32) = zI (-2) from by decide) (by first | omega | decide | exact Nat.lt_of_le_of_lt Nat.and_le_right (by decide) | exact ⟨by omega, by omega⟩) (by first | omega | decide | exact Nat.lt_of_le_of_lt Nat.and_le_right (by decide) | exact ⟨by omega, by omega⟩) (fun c => absurd c (by omega)) (fun c16 => ?_)
        refine wq_go rfl (fun _ => rfl) ?_
        refine wq_zne rfl (by first | omega | decide | exact Nat.lt_of_le_of_lt Nat.and_le_right (by decide) | exact ⟨by omega, by omega⟩) (fun c18 => ?_) (fun c => absurd (show _ from by omega) c)
        refine wq_go rfl (fun _ => rfl) ?_
        refine wq_getf rfl (by first | rfl | assumption) (by first | decide | omega | assumption) (cw_c0 hC) rfl ?_
        refine wq_go rfl (fun _ => rfl) ?_
        refine wq_cN (m := 10) rfl rfl ?_
        refine wq_divN rfl (by first | decide | omega) (by first | decide | omega) (by first | decide | omega) ?_
        refine wq_go rfl (fun _ => rfl) ?_
        refine wq_cN (m := 10) rfl rfl ?_
        refine wq_remN rfl (by first | decide | omega) (by first | decide | omega) (by first | decide | omega) ?_
        refine wq_callV rfl rfl (by first | rfl | assumption) (by first | decide | omega | assumption) (Nat.le_of_ble_eq_true rfl) (Nat.le_of_ble_eq_true rfl) rfl rfl ?_
        refine c_State_squaresApart k35 hS hok (by omega) (by omega) ?_
        refine wq_iret rfl ?_
        exact ansQ (K _ (hi_refl _) hI) (by simp only [F_alike, ew, od_s, od_n, od_c, hb] <;> rfl)
theorem ck_agree {n : Nat} {A : Sy} (hn : n < 512) (hA : Aok n A) (a0 : Int32) : COk ax_cd171 [.int a0] A A (F_agree A a0) := by
  intro xs d σ Q hI K
  obtain ⟨hPok, ⟨hok, hhr72, hzq, hsum⟩, hAH, hAZ, hAn, hAh, hTok, hAl⟩ := hA
  have hP' := hPok
  obtain ⟨hP1, hP2, hP3, hP4, hP5, hP6, hP7, hP8, hPv, hPm, hPo, hPw, hPl⟩ := hP'
  have hok' := hok
  obtain ⟨hot, hoh, hosc, hokp⟩ := hok'
  have hI0 := hI
  obtain ⟨hC, hS, ⟨ST, hT⟩, hD, hR⟩ := hI0
  have hR0 := hR
  obtain ⟨hH, ⟨nx, hy⟩, hZ, ⟨ft, hf1, hf2, hf3⟩, ⟨⟨r0, r1, r2, r3, r4, hrd1⟩, hrd2, hrd3⟩⟩ := hR0
  show Wq xs (d + 12) ax_cd171 0 [(0, .ref 0), (1, .int a0)] [] σ Q
  rcases dec_cases (n := 2) (by decide) a0 with ⟨ew, hw⟩ | ⟨w, lw, qw, ew⟩
  · skip
    refine wq_go rfl (fun _ => rfl) ?_
    refine wq_if rfl (fun c => absurd (c.symm.trans (decide_eq_false (fun e => hw 0 (by decide) e))) (by decide)) (fun c1 => ?_)
    refine wq_go rfl (fun _ => rfl) ?_
    refine wq_cN (m := 1) rfl rfl ?_
    refine wq_cmp rfl (fun c => absurd (c.symm.trans (decide_eq_false (fun e => hw 1 (by decide) e))) (by decide)) (fun c4 => ?_)
    refine wq_go rfl (fun _ => rfl) ?_
    refine wq_iret rfl ?_
    exact ansQ (K _ (hi_refl _) hI) (by simp only [F_agree, ew, od_s, od_n, od_c] <;> rfl)
  · subst qw
    have ow : w = 0 ∨ w = 1 := by omega
    rcases ow with rfl | rfl
    · skip
      refine wq_go rfl (fun _ => rfl) ?_
      refine wq_zeq rfl (by first | omega | decide | exact Nat.lt_of_le_of_lt Nat.and_le_right (by decide) | exact ⟨by omega, by omega⟩) (fun c1 => ?_) (fun c => absurd (show _ from by omega) c)
      refine wq_go rfl (fun _ => rfl) ?_
      refine wq_getf rfl (by first | rfl | assumption) (by first | decide | omega | assumption) (cw_c0 hC) rfl ?_
      refine wq_go rfl (fun _ => rfl) ?_
      refine wq_getf rfl (by first | rfl | assumption) (by first | decide | omega | assumption) (cw_c0 hC) rfl ?_
      refine wq_getf rfl (by first | rfl | assumption) (by first | decide | omega | assumption) (cw_c21 hC) rfl ?_
      refine wq_callV rfl rfl (by first | rfl | assumption) (by first | decide | omega | assumption) (Nat.le_of_ble_eq_true rfl) (Nat.le_of_ble_eq_true rfl) rfl rfl ?_
      refine c_State_closestHeads k35 hS hok (by omega) ?_
      cases hb : am (far2 (Sow (AS A))) (pls (Phd (AP A)) (Phd (AP A))) with
      | none =>
        refine wq_go rfl (fun _ => rfl) ?_
        refine wq_go rfl (fun _ => rfl) ?_
        refine wq_go rfl (fun _ => rfl) ?_
        refine wq_deq rfl (show (_ : Int32) = zI (-2) from by decide) (show (_ : Int32) = zI (-2) from by decide) (by first | omega | decide | exact Nat.lt_of_le_of_lt Nat.and_le_right (by decide) | exact ⟨by omega, by omega⟩) (by first | omega | decide | exact Nat.lt_of_le_of_lt Nat.and_le_right (by decide) | exact ⟨by omega, by omega⟩) (fun c16 => ?_) (fun c => absurd (show _ from by omega) c)
        refine wq_go rfl (fun _ => rfl) ?_
        refine wq_go rfl (fun _ => rfl) ?_
        refine wq_iret rfl ?_
        exact ansQ (K _ (hi_refl _) hI) (by simp only [F_agree, ew, od_s, od_n, od_c, hb] <;> rfl)
      | some b =>
        have hbl := pls_lt (by omega) _ b (Nat.le_refl _) (am_mem hb)
        have hbb : b < 100 := by omega
        refine wq_go rfl (fun _ => rfl) ?_
        refine wq_go rfl (fun _ => rfl) ?_
        refine wq_go rfl (fun _ => rfl) ?_
        refine wq_deq rfl (nI_z _) (show (_ : Int32) = zI (-2) from by decide) (by first | omega | decide | exact Nat.lt_of_le_of_lt Nat.and_le_right (by decide) | exact ⟨by omega, by omega⟩) (by first | omega | decide | exact Nat.lt_of_le_of_lt Nat.and_le_right (by decide) | exact ⟨by omega, by omega⟩) (fun c => absurd c (by omega)) (fun c16 => ?_)
        refine wq_go rfl (fun _ => rfl) ?_
        refine wq_zne rfl (by first | omega | decide | exact Nat.lt_of_le_of_lt Nat.and_le_right (by decide) | exact ⟨by omega, by omega⟩) (fun c => absurd c (by omega)) (fun c18 => ?_)
        refine wq_go rfl (fun _ => rfl) ?_
        refine wq_go rfl (fun _ => rfl) ?_
        refine wq_iret rfl ?_
        exact ansQ (K _ (hi_refl _) hI) (by simp only [F_agree, ew, od_s, od_n, od_c, hb] <;> rfl)
    · skip
      refine wq_go rfl (fun _ => rfl) ?_
      refine wq_zeq rfl (by first | omega | decide | exact Nat.lt_of_le_of_lt Nat.and_le_right (by decide) | exact ⟨by omega, by omega⟩) (fun c => absurd c (by omega)) (fun c1 => ?_)
      refine wq_go rfl (fun _ => rfl) ?_
      refine wq_cN (m := 1) rfl rfl ?_
      refine wq_ceq rfl (by first | omega | decide | exact Nat.lt_of_le_of_lt Nat.and_le_right (by decide) | exact ⟨by omega, by omega⟩) (by first | omega | decide | exact Nat.lt_of_le_of_lt Nat.and_le_right (by decide) | exact ⟨by omega, by omega⟩) (fun c4 => ?_) (fun c => absurd (show _ from by omega) c)
      refine wq_go rfl (fun _ => rfl) ?_
      refine wq_getf rfl (by first | rfl | assumption) (by first | decide | omega | assumption) (cw_c0 hC) rfl ?_
      refine wq_go rfl (fun _ => rfl) ?_
      refine wq_getf rfl (by first | rfl | assumption) (by first | decide | omega | assumption) (cw_c0 hC) rfl ?_
      refine wq_getf rfl (by first | rfl | assumption) (by first | decide | omega | assumption) (cw_c21 hC) rfl ?_
      refine wq_callV rfl rfl (by first | rfl | assumption) (by first | decide | omega | assumption) (Nat.le_of_ble_eq_true rfl) (Nat.le_of_ble_eq_true rfl) rfl rfl ?_
      refine c_State_closestHeads k35 hS hok (by omega) ?_
      cases hb : am (far2 (Sow (AS A))) (pls (Phd (AP A)) (Phd (AP A))) with
      | none =>
        refine wq_go rfl (fun _ => rfl) ?_
        refine wq_go rfl (fun _ => rfl) ?_
        refine wq_go rfl (fun _ => rfl) ?_
        refine wq_deq rfl (show (_ : Int32) = zI (-2) from by decide) (show (_ : Int32) = zI (-2) from by decide) (by first | omega | decide | exact Nat.lt_of_le_of_lt Nat.and_le_right (by decide) | exact ⟨by omega, by omega⟩) (by first | omega | decide | exact Nat.lt_of_le_of_lt Nat.and_le_right (by decide) | exact ⟨by omega, by omega⟩) (fun c16 => ?_) (fun c => absurd (show _ from by omega) c)
        refine wq_go rfl (fun _ => rfl) ?_
        refine wq_go rfl (fun _ => rfl) ?_
        refine wq_iret rfl ?_
        exact ansQ (K _ (hi_refl _) hI) (by simp only [F_agree, ew, od_s, od_n, od_c, hb] <;> rfl)
      | some b =>
        have hbl := pls_lt (by omega) _ b (Nat.le_refl _) (am_mem hb)
        have hbb : b < 100 := by omega
        refine wq_go rfl (fun _ => rfl) ?_
        refine wq_go rfl (fun _ => rfl) ?_
        refine wq_go rfl (fun _ => rfl) ?_
        refine wq_deq rfl (nI_z _) (show (_ : Int32) = zI (-2) from by decide) (by first | omega | decide | exact Nat.lt_of_le_of_lt Nat.and_le_right (by decide) | exact ⟨by omega, by omega⟩) (by first | omega | decide | exact Nat.lt_of_le_of_lt Nat.and_le_right (by decide) | exact ⟨by omega, by omega⟩) (fun c => absurd c (by omega)) (fun c16 => ?_)
        refine wq_go rfl (fun _ => rfl) ?_
        refine wq_zne rfl (by first | omega | decide | exact Nat.lt_of_le_of_lt Nat.and_le_right (by decide) | exact ⟨by omega, by omega⟩) (fun c18 => ?_) (fun c => absurd (show _ from by omega) c)
        refine wq_go rfl (fun _ => rfl) ?_
        refine wq_getf rfl (by first | rfl | assumption) (by first | decide | omega | assumption) (cw_c0 hC) rfl ?_
        refine wq_go rfl (fun _ => rfl) ?_
        refine wq_cN (m := 10) rfl rfl ?_
        refine wq_divN rfl (by first | decide | omega) (by first | decide | omega) (by first | decide | omega) ?_
        refine wq_go rfl (fun _ => rfl) ?_
        refine wq_cN (m := 10) rfl rfl ?_
        refine wq_remN rfl (by first | decide | omega) (by first | decide | omega) (by first | decide | omega) ?_
        refine wq_callV rfl rfl (by first | rfl | assumption) (by first | decide | omega | assumption) (Nat.le_of_ble_eq_true rfl) (Nat.le_of_ble_eq_true rfl) rfl rfl ?_
        refine c_State_headsApart k35 hS hok (by omega) (by omega) ?_
        refine wq_iret rfl ?_
        exact ansQ (K _ (hi_refl _) hI) (by simp only [F_agree, ew, od_s, od_n, od_c, hb] <;> rfl)
theorem ck_fullest {n : Nat} {A : Sy} (hn : n < 512) (hA : Aok n A) (a0 : Int32) : COk ax_cd174 [.int a0] A A (F_fullest A a0) := by
  intro xs d σ Q hI K
  obtain ⟨hPok, ⟨hok, hhr72, hzq, hsum⟩, hAH, hAZ, hAn, hAh, hTok, hAl⟩ := hA
  have hP' := hPok
  obtain ⟨hP1, hP2, hP3, hP4, hP5, hP6, hP7, hP8, hPv, hPm, hPo, hPw, hPl⟩ := hP'
  have hok' := hok
  obtain ⟨hot, hoh, hosc, hokp⟩ := hok'
  have hI0 := hI
  obtain ⟨hC, hS, ⟨ST, hT⟩, hD, hR⟩ := hI0
  have hR0 := hR
  obtain ⟨hH, ⟨nx, hy⟩, hZ, ⟨ft, hf1, hf2, hf3⟩, ⟨⟨r0, r1, r2, r3, r4, hrd1⟩, hrd2, hrd3⟩⟩ := hR0
  show Wq xs (d + 12) ax_cd174 0 [(0, .ref 0), (1, .int a0)] [] σ Q
  rcases dec_cases (n := 2) (by decide) a0 with ⟨ew, hw⟩ | ⟨w, lw, qw, ew⟩
  · skip
    refine wq_go rfl (fun _ => rfl) ?_
    refine wq_if rfl (fun c => absurd (c.symm.trans (decide_eq_false (fun e => hw 0 (by decide) e))) (by decide)) (fun c1 => ?_)
    refine wq_go rfl (fun _ => rfl) ?_
    refine wq_cN (m := 1) rfl rfl ?_
    refine wq_cmp rfl (fun c => absurd (c.symm.trans (decide_eq_false (fun e => hw 1 (by decide) e))) (by decide)) (fun c4 => ?_)
    refine wq_go rfl (fun _ => rfl) ?_
    refine wq_iret rfl ?_
    exact ansQ (K _ (hi_refl _) hI) (by simp only [F_fullest, ew, od_s, od_n, od_c] <;> rfl)
  · subst qw
    have ow : w = 0 ∨ w = 1 := by omega
    rcases ow with rfl | rfl
    · skip
      refine wq_go rfl (fun _ => rfl) ?_
      refine wq_zeq rfl (by first | omega | decide | exact Nat.lt_of_le_of_lt Nat.and_le_right (by decide) | exact ⟨by omega, by omega⟩) (fun c1 => ?_) (fun c => absurd (show _ from by omega) c)
      refine wq_go rfl (fun _ => rfl) ?_
      refine wq_getf rfl (by first | rfl | assumption) (by first | decide | omega | assumption) (cw_c0 hC) rfl ?_
      refine wq_go rfl (fun _ => rfl) ?_
      refine wq_getf rfl (by first | rfl | assumption) (by first | decide | omega | assumption) (cw_c0 hC) rfl ?_
      refine wq_getf rfl (by first | rfl | assumption) (by first | decide | omega | assumption) (cw_c21 hC) rfl ?_
      refine wq_callV rfl rfl (by first | rfl | assumption) (by first | decide | omega | assumption) (Nat.le_of_ble_eq_true rfl) (Nat.le_of_ble_eq_true rfl) rfl rfl ?_
      refine c_State_fullestHead k35 hS hok (by omega) ?_
      cases hb : am (fun h => (s4 (Sow (AS A)) (h * 4) : Int)) (List.range (Phd (AP A))) with
      | none =>
        refine wq_go rfl (fun _ => rfl) ?_
        refine wq_go rfl (fun _ => rfl) ?_
        refine wq_go rfl (fun _ => rfl) ?_
        refine wq_deq rfl (show (_ : Int32) = zI (-2) from by decide) (show (_ : Int32) = zI (-2) from by decide) (by first | omega | decide | exact Nat.lt_of_le_of_lt Nat.and_le_right (by decide) | exact ⟨by omega, by omega⟩) (by first | omega | decide | exact Nat.lt_of_le_of_lt Nat.and_le_right (by decide) | exact ⟨by omega, by omega⟩) (fun c16 => ?_) (fun c => absurd (show _ from by omega) c)
        refine wq_go rfl (fun _ => rfl) ?_
        refine wq_go rfl (fun _ => rfl) ?_
        refine wq_iret rfl ?_
        exact ansQ (K _ (hi_refl _) hI) (by simp only [F_fullest, ew, od_s, od_n, od_c, hb] <;> rfl)
      | some b =>
        have hbl := am_rlt hb
        have hbb : b < 100 := by omega
        refine wq_go rfl (fun _ => rfl) ?_
        refine wq_go rfl (fun _ => rfl) ?_
        refine wq_go rfl (fun _ => rfl) ?_
        refine wq_deq rfl (nI_z _) (show (_ : Int32) = zI (-2) from by decide) (by first | omega | decide | exact Nat.lt_of_le_of_lt Nat.and_le_right (by decide) | exact ⟨by omega, by omega⟩) (by first | omega | decide | exact Nat.lt_of_le_of_lt Nat.and_le_right (by decide) | exact ⟨by omega, by omega⟩) (fun c => absurd c (by omega)) (fun c16 => ?_)
        refine wq_go rfl (fun _ => rfl) ?_
        refine wq_zne rfl (by first | omega | decide | exact Nat.lt_of_le_of_lt Nat.and_le_right (by decide) | exact ⟨by omega, by omega⟩) (fun c => absurd c (by omega)) (fun c18 => ?_)
        refine wq_go rfl (fun _ => rfl) ?_
        refine wq_go rfl (fun _ => rfl) ?_
        refine wq_iret rfl ?_
        exact ansQ (K _ (hi_refl _) hI) (by simp only [F_fullest, ew, od_s, od_n, od_c, hb] <;> rfl)
    · skip
      refine wq_go rfl (fun _ => rfl) ?_
      refine wq_zeq rfl (by first | omega | decide | exact Nat.lt_of_le_of_lt Nat.and_le_right (by decide) | exact ⟨by omega, by omega⟩) (fun c => absurd c (by omega)) (fun c1 => ?_)
      refine wq_go rfl (fun _ => rfl) ?_
      refine wq_cN (m := 1) rfl rfl ?_
      refine wq_ceq rfl (by first | omega | decide | exact Nat.lt_of_le_of_lt Nat.and_le_right (by decide) | exact ⟨by omega, by omega⟩) (by first | omega | decide | exact Nat.lt_of_le_of_lt Nat.and_le_right (by decide) | exact ⟨by omega, by omega⟩) (fun c4 => ?_) (fun c => absurd (show _ from by omega) c)
      refine wq_go rfl (fun _ => rfl) ?_
      refine wq_getf rfl (by first | rfl | assumption) (by first | decide | omega | assumption) (cw_c0 hC) rfl ?_
      refine wq_go rfl (fun _ => rfl) ?_
      refine wq_getf rfl (by first | rfl | assumption) (by first | decide | omega | assumption) (cw_c0 hC) rfl ?_
      refine wq_getf rfl (by first | rfl | assumption) (by first | decide | omega | assumption) (cw_c21 hC) rfl ?_
      refine wq_callV rfl rfl (by first | rfl | assumption) (by first | decide | omega | assumption) (Nat.le_of_ble_eq_true rfl) (Nat.le_of_ble_eq_true rfl) rfl rfl ?_
      refine c_State_fullestHead k35 hS hok (by omega) ?_
      cases hb : am (fun h => (s4 (Sow (AS A)) (h * 4) : Int)) (List.range (Phd (AP A))) with
      | none =>
        refine wq_go rfl (fun _ => rfl) ?_
        refine wq_go rfl (fun _ => rfl) ?_
        refine wq_go rfl (fun _ => rfl) ?_
        refine wq_deq rfl (show (_ : Int32) = zI (-2) from by decide) (show (_ : Int32) = zI (-2) from by decide) (by first | omega | decide | exact Nat.lt_of_le_of_lt Nat.and_le_right (by decide) | exact ⟨by omega, by omega⟩) (by first | omega | decide | exact Nat.lt_of_le_of_lt Nat.and_le_right (by decide) | exact ⟨by omega, by omega⟩) (fun c16 => ?_) (fun c => absurd (show _ from by omega) c)
        refine wq_go rfl (fun _ => rfl) ?_
        refine wq_go rfl (fun _ => rfl) ?_
        refine wq_iret rfl ?_
        exact ansQ (K _ (hi_refl _) hI) (by simp only [F_fullest, ew, od_s, od_n, od_c, hb] <;> rfl)
      | some b =>
        have hbl := am_rlt hb
        have hbb : b < 100 := by omega
        refine wq_go rfl (fun _ => rfl) ?_
        refine wq_go rfl (fun _ => rfl) ?_
        refine wq_go rfl (fun _ => rfl) ?_
        refine wq_deq rfl (nI_z _) (show (_ : Int32) = zI (-2) from by decide) (by first | omega | decide | exact Nat.lt_of_le_of_lt Nat.and_le_right (by decide) | exact ⟨by omega, by omega⟩) (by first | omega | decide | exact Nat.lt_of_le_of_lt Nat.and_le_right (by decide) | exact ⟨by omega, by omega⟩) (fun c => absurd c (by omega)) (fun c16 => ?_)
        refine wq_go rfl (fun _ => rfl) ?_
        refine wq_zne rfl (by first | omega | decide | exact Nat.lt_of_le_of_lt Nat.and_le_right (by decide) | exact ⟨by omega, by omega⟩) (fun c18 => ?_) (fun c => absurd (show _ from by omega) c)
        refine wq_go rfl (fun _ => rfl) ?_
        refine wq_getf rfl (by first | rfl | assumption) (by first | decide | omega | assumption) (cw_c0 hC) rfl ?_
        refine wq_go rfl (fun _ => rfl) ?_
        refine wq_callV rfl rfl (by first | rfl | assumption) (by first | decide | omega | assumption) (Nat.le_of_ble_eq_true rfl) (Nat.le_of_ble_eq_true rfl) rfl rfl ?_
        refine c_State_ownAll k35 hS (by omega) ?_
        refine wq_iret rfl ?_
        exact ansQ (K _ (hi_refl _) hI) (by simp only [F_fullest, ew, od_s, od_n, od_c, hb] <;> rfl)
theorem ck_clean {n : Nat} {A : Sy} (hn : n < 512) (hA : Aok n A) (a0 : Int32) : COk ax_cd183 [.int a0] A A (F_clean A a0) := by
  intro xs d σ Q hI K
  obtain ⟨hPok, ⟨hok, hhr72, hzq, hsum⟩, hAH, hAZ, hAn, hAh, hTok, hAl⟩ := hA
  have hP' := hPok
  obtain ⟨hP1, hP2, hP3, hP4, hP5, hP6, hP7, hP8, hPv, hPm, hPo, hPw, hPl⟩ := hP'
  have hok' := hok
  obtain ⟨hot, hoh, hosc, hokp⟩ := hok'
  have hI0 := hI
  obtain ⟨hC, hS, ⟨ST, hT⟩, hD, hR⟩ := hI0
  have hR0 := hR
  obtain ⟨hH, ⟨nx, hy⟩, hZ, ⟨ft, hf1, hf2, hf3⟩, ⟨⟨r0, r1, r2, r3, r4, hrd1⟩, hrd2, hrd3⟩⟩ := hR0
  show Wq xs (d + 12) ax_cd183 0 [(0, .ref 0), (1, .int a0)] [] σ Q
  rcases dec_cases (n := 2) (by decide) a0 with ⟨ew, hw⟩ | ⟨w, lw, qw, ew⟩
  · skip
    refine wq_go rfl (fun _ => rfl) ?_
    refine wq_if rfl (fun c => absurd (c.symm.trans (decide_eq_false (fun e => hw 0 (by decide) e))) (by decide)) (fun c1 => ?_)
    refine wq_go rfl (fun _ => rfl) ?_
    refine wq_cN (m := 1) rfl rfl ?_
    refine wq_cmp rfl (fun c => absurd (c.symm.trans (decide_eq_false (fun e => hw 1 (by decide) e))) (by decide)) (fun c4 => ?_)
    refine wq_go rfl (fun _ => rfl) ?_
    refine wq_iret rfl ?_
    exact ansQ (K _ (hi_refl _) hI) (by simp only [F_clean, ew, od_s, od_n, od_c] <;> rfl)
  · subst qw
    have ow : w = 0 ∨ w = 1 := by omega
    rcases ow with rfl | rfl
    · skip
      refine wq_go rfl (fun _ => rfl) ?_
      refine wq_zeq rfl (by first | omega | decide | exact Nat.lt_of_le_of_lt Nat.and_le_right (by decide) | exact ⟨by omega, by omega⟩) (fun c1 => ?_) (fun c => absurd (show _ from by omega) c)
      refine wq_go rfl (fun _ => rfl) ?_
      refine wq_getf rfl (by first | rfl | assumption) (by first | decide | omega | assumption) (cw_c0 hC) rfl ?_
      refine wq_callV rfl rfl (by first | rfl | assumption) (by first | decide | omega | assumption) (Nat.le_of_ble_eq_true rfl) (Nat.le_of_ble_eq_true rfl) rfl rfl ?_
      refine c_Foresight_chairOfMostSuds hS hC hok  (fun σ6 F6 C6 => ?_)
      have S6 := st_sc k35 F6 hS
      have H6 := hs_sc hH F6
      cases hb : am (fun c => ((sumF (washN (AP A) (AS A) c) 4 : Nat) : Int)) (List.range (Pch (AP A))) with
      | none =>
        refine wq_go rfl (fun _ => rfl) ?_
        refine wq_go rfl (fun _ => rfl) ?_
        refine wq_go rfl (fun _ => rfl) ?_
        refine wq_deq rfl (show (_ : Int32) = zI (-2) from by decide) (show (_ : Int32) = zI (-2) from by decide) (by first | omega | decide | exact Nat.lt_of_le_of_lt Nat.and_le_right (by decide) | exact ⟨by omega, by omega⟩) (by first | omega | decide | exact Nat.lt_of_le_of_lt Nat.and_le_right (by decide) | exact ⟨by omega, by omega⟩) (fun c13 => ?_) (fun c => absurd (show _ from by omega) c)
        refine wq_go rfl (fun _ => rfl) ?_
        refine wq_go rfl (fun _ => rfl) ?_
        refine wq_iret rfl ?_
        exact ansQ (K _ (hi_scr scr_sc F6) (ci_sc hI F6 C6)) (by simp only [F_clean, ew, od_s, od_n, od_c, hb] <;> rfl)
      | some b =>
        have hbl := am_rlt hb
        have hbb : b < 100 := by omega
        refine wq_go rfl (fun _ => rfl) ?_
        refine wq_go rfl (fun _ => rfl) ?_
        refine wq_go rfl (fun _ => rfl) ?_
        refine wq_deq rfl (nI_z _) (show (_ : Int32) = zI (-2) from by decide) (by first | omega | decide | exact Nat.lt_of_le_of_lt Nat.and_le_right (by decide) | exact ⟨by omega, by omega⟩) (by first | omega | decide | exact Nat.lt_of_le_of_lt Nat.and_le_right (by decide) | exact ⟨by omega, by omega⟩) (fun c => absurd c (by omega)) (fun c13 => ?_)
        refine wq_go rfl (fun _ => rfl) ?_
        refine wq_zne rfl (by first | omega | decide | exact Nat.lt_of_le_of_lt Nat.and_le_right (by decide) | exact ⟨by omega, by omega⟩) (fun c => absurd c (by omega)) (fun c15 => ?_)
        refine wq_go rfl (fun _ => rfl) ?_
        refine wq_go rfl (fun _ => rfl) ?_
        refine wq_iret rfl ?_
        exact ansQ (K _ (hi_scr scr_sc F6) (ci_sc hI F6 C6)) (by simp only [F_clean, ew, od_s, od_n, od_c, hb] <;> rfl)
    · skip
      refine wq_go rfl (fun _ => rfl) ?_
      refine wq_zeq rfl (by first | omega | decide | exact Nat.lt_of_le_of_lt Nat.and_le_right (by decide) | exact ⟨by omega, by omega⟩) (fun c => absurd c (by omega)) (fun c1 => ?_)
      refine wq_go rfl (fun _ => rfl) ?_
      refine wq_cN (m := 1) rfl rfl ?_
      refine wq_ceq rfl (by first | omega | decide | exact Nat.lt_of_le_of_lt Nat.and_le_right (by decide) | exact ⟨by omega, by omega⟩) (by first | omega | decide | exact Nat.lt_of_le_of_lt Nat.and_le_right (by decide) | exact ⟨by omega, by omega⟩) (fun c4 => ?_) (fun c => absurd (show _ from by omega) c)
      refine wq_go rfl (fun _ => rfl) ?_
      refine wq_getf rfl (by first | rfl | assumption) (by first | decide | omega | assumption) (cw_c0 hC) rfl ?_
      refine wq_callV rfl rfl (by first | rfl | assumption) (by first | decide | omega | assumption) (Nat.le_of_ble_eq_true rfl) (Nat.le_of_ble_eq_true rfl) rfl rfl ?_
      refine c_Foresight_chairOfMostSuds hS hC hok  (fun σ7 F7 C7 => ?_)
      have S7 := st_sc k35 F7 hS
      have H7 := hs_sc hH F7
      cases hb : am (fun c => ((sumF (washN (AP A) (AS A) c) 4 : Nat) : Int)) (List.range (Pch (AP A))) with
      | none =>
        refine wq_go rfl (fun _ => rfl) ?_
        refine wq_go rfl (fun _ => rfl) ?_
        refine wq_go rfl (fun _ => rfl) ?_
        refine wq_deq rfl (show (_ : Int32) = zI (-2) from by decide) (show (_ : Int32) = zI (-2) from by decide) (by first | omega | decide | exact Nat.lt_of_le_of_lt Nat.and_le_right (by decide) | exact ⟨by omega, by omega⟩) (by first | omega | decide | exact Nat.lt_of_le_of_lt Nat.and_le_right (by decide) | exact ⟨by omega, by omega⟩) (fun c13 => ?_) (fun c => absurd (show _ from by omega) c)
        refine wq_go rfl (fun _ => rfl) ?_
        refine wq_go rfl (fun _ => rfl) ?_
        refine wq_iret rfl ?_
        exact ansQ (K _ (hi_scr scr_sc F7) (ci_sc hI F7 C7)) (by simp only [F_clean, ew, od_s, od_n, od_c, hb] <;> rfl)
      | some b =>
        have hbl := am_rlt hb
        have hbb : b < 100 := by omega
        refine wq_go rfl (fun _ => rfl) ?_
        refine wq_go rfl (fun _ => rfl) ?_
        refine wq_go rfl (fun _ => rfl) ?_
        refine wq_deq rfl (nI_z _) (show (_ : Int32) = zI (-2) from by decide) (by first | omega | decide | exact Nat.lt_of_le_of_lt Nat.and_le_right (by decide) | exact ⟨by omega, by omega⟩) (by first | omega | decide | exact Nat.lt_of_le_of_lt Nat.and_le_right (by decide) | exact ⟨by omega, by omega⟩) (fun c => absurd c (by omega)) (fun c13 => ?_)
        refine wq_go rfl (fun _ => rfl) ?_
        refine wq_zne rfl (by first | omega | decide | exact Nat.lt_of_le_of_lt Nat.and_le_right (by decide) | exact ⟨by omega, by omega⟩) (fun c15 => ?_) (fun c => absurd (show _ from by omega) c)
        refine wq_go rfl (fun _ => rfl) ?_
        refine wq_getf rfl (by first | rfl | assumption) (by first | decide | omega | assumption) (cw_c0 C7) rfl ?_
        refine wq_go rfl (fun _ => rfl) ?_
        refine wq_getf rfl (by first | rfl | assumption) (by first | decide | omega | assumption) (cw_c0 C7) rfl ?_
        refine wq_go rfl (fun _ => rfl) ?_
        refine wq_callV rfl rfl (by first | rfl | assumption) (by first | decide | omega | assumption) (Nat.le_of_ble_eq_true rfl) (Nat.le_of_ble_eq_true rfl) rfl rfl ?_
        refine c_House_washedOfAll k35 S7 C7 hok (by omega) (fun σ8 F8 C8 => ?_)
        have S8 := st_sc k35 F8 S7
        have H8 := hs_sc H7 F8
        refine wq_iret rfl ?_
        exact ansQ (K _ (hi_scr scr_sc (fr_trans F7 F8)) (ci_sc hI (fr_trans F7 F8) C8)) (by simp only [F_clean, ew, od_s, od_n, od_c, hb] <;> rfl)
theorem ck_share {n : Nat} {A : Sy} (hn : n < 512) (hA : Aok n A) (a0 a1 : Int32) : COk ax_cd176 [.int a0, .int a1] A A (F_share A a0 a1) := by
  intro xs d σ Q hI K
  obtain ⟨hPok, ⟨hok, hhr72, hzq, hsum⟩, hAH, hAZ, hAn, hAh, hTok, hAl⟩ := hA
  have hP' := hPok
  obtain ⟨hP1, hP2, hP3, hP4, hP5, hP6, hP7, hP8, hPv, hPm, hPo, hPw, hPl⟩ := hP'
  have hok' := hok
  obtain ⟨hot, hoh, hosc, hokp⟩ := hok'
  have hI0 := hI
  obtain ⟨hC, hS, ⟨ST, hT⟩, hD, hR⟩ := hI0
  have hR0 := hR
  obtain ⟨hH, ⟨nx, hy⟩, hZ, ⟨ft, hf1, hf2, hf3⟩, ⟨⟨r0, r1, r2, r3, r4, hrd1⟩, hrd2, hrd3⟩⟩ := hR0
  show Wq xs (d + 12) ax_cd176 0 [(0, .ref 0), (1, .int a0), (2, .int a1)] [] σ Q
  refine wq_go rfl (fun _ => rfl) ?_
  refine wq_getf rfl (by first | rfl | assumption) (by first | decide | omega | assumption) (cw_c0 hC) rfl ?_
  refine wq_go rfl (fun _ => rfl) ?_
  refine wq_callV rfl rfl (by first | rfl | assumption) (by first | decide | omega | assumption) (Nat.le_of_ble_eq_true rfl) (Nat.le_of_ble_eq_true rfl) rfl rfl ?_
  refine c_hasChairD hC (fun c lc qc ec => ?_) (fun ec => ?_)
  · subst qc
    refine wq_zeq rfl (by first | omega | decide | exact Nat.lt_of_le_of_lt Nat.and_le_right (by decide) | exact ⟨by omega, by omega⟩) (fun c => absurd c (by omega)) (fun c4 => ?_)
    refine wq_go rfl (fun _ => rfl) ?_
    refine wq_callS rfl (Nat.le_of_ble_eq_true rfl) rfl (Nat.le_of_ble_eq_true rfl) (Nat.le_of_ble_eq_true rfl) rfl rfl ?_
    refine c_isThoughtD  (fun t lt qt et => ?_) (fun et => ?_)
    · subst qt
      refine wq_zne rfl (by first | omega | decide | exact Nat.lt_of_le_of_lt Nat.and_le_right (by decide) | exact ⟨by omega, by omega⟩) (fun c7 => ?_) (fun c => absurd (show _ from by omega) c)
      refine wq_go rfl (fun _ => rfl) ?_
      refine wq_getf rfl (by first | rfl | assumption) (by first | decide | omega | assumption) (cw_c0 hC) rfl ?_
      refine wq_go rfl (fun _ => rfl) ?_
      refine wq_callV rfl rfl (by first | rfl | assumption) (by first | decide | omega | assumption) (Nat.le_of_ble_eq_true rfl) (Nat.le_of_ble_eq_true rfl) rfl rfl ?_
      refine c_State_clothAll k35 hS (by omega) ?_
      refine wq_go rfl (fun _ => rfl) ?_
      refine wq_go rfl (fun _ => rfl) ?_
      have hs4 : s4 (Ssq (AS A)) (c * 4) ≤ 4 * 1980 := s4_le (b := 1980) (fun j hj => sq_le hok (by omega))
      have hsq := sq_le hok (i := c * 4 + t) (by omega)
      refine wq_zle rfl (by first | omega | decide | exact Nat.lt_of_le_of_lt Nat.and_le_right (by decide) | exact ⟨by omega, by omega⟩) (fun c16 => ?_) (fun c16 => ?_)
      · skip
        refine wq_cN (m := 0) rfl rfl ?_
        refine wq_iret rfl ?_
        exact ansQ (K _ (hi_refl _) hI) (by simp only [F_share, ec, et, od_s, od_n, od_c] <;> first | rfl | exact (if_pos (by omega)).symm | exact (if_neg (by omega)).symm)
      · skip
        refine wq_cN (m := 1000) rfl rfl ?_
        refine wq_go rfl (fun _ => rfl) ?_
        refine wq_getf rfl (by first | rfl | assumption) (by first | decide | omega | assumption) (cw_c0 hC) rfl ?_
        refine wq_go rfl (fun _ => rfl) ?_
        refine wq_go rfl (fun _ => rfl) ?_
        refine wq_callV rfl rfl (by first | rfl | assumption) (by first | decide | omega | assumption) (Nat.le_of_ble_eq_true rfl) (Nat.le_of_ble_eq_true rfl) rfl rfl ?_
        refine c_State_cloth k35 hS (by omega) (by omega) ?_
        refine wq_mulN rfl ?_
        refine wq_go rfl (fun _ => rfl) ?_
        refine wq_divN rfl (by first | decide | omega) (by first | decide | omega) (by first | decide | omega) ?_
        refine wq_go rfl (fun _ => rfl) ?_
        refine wq_iret rfl ?_
        exact ansQ (K _ (hi_refl _) hI) (by simp only [F_share, ec, et, od_s, od_n, od_c] <;> first | rfl | exact (if_pos (by omega)).symm | exact (if_neg (by omega)).symm)
    · skip
      refine wq_zne rfl (by first | omega | decide | exact Nat.lt_of_le_of_lt Nat.and_le_right (by decide) | exact ⟨by omega, by omega⟩) (fun c => absurd c (by omega)) (fun c7 => ?_)
      refine wq_go rfl (fun _ => rfl) ?_
      refine wq_iret rfl ?_
      exact ansQ (K _ (hi_refl _) hI) (by simp only [F_share, ec, et, od_s, od_n, od_c] <;> first | rfl | exact (if_pos (by omega)).symm | exact (if_neg (by omega)).symm)
  · skip
    refine wq_zeq rfl (by first | omega | decide | exact Nat.lt_of_le_of_lt Nat.and_le_right (by decide) | exact ⟨by omega, by omega⟩) (fun c4 => ?_) (fun c => absurd (show _ from by omega) c)
    refine wq_go rfl (fun _ => rfl) ?_
    refine wq_iret rfl ?_
    exact ansQ (K _ (hi_refl _) hI) (by simp only [F_share, ec, od_s, od_n, od_c] <;> first | rfl | exact (if_pos (by omega)).symm | exact (if_neg (by omega)).symm)
theorem ck_foremost {n : Nat} {A : Sy} (hn : n < 512) (hA : Aok n A) (a0 : Int32) : COk ax_cd177 [.int a0] A A (F_foremost A a0) := by
  intro xs d σ Q hI K
  obtain ⟨hPok, ⟨hok, hhr72, hzq, hsum⟩, hAH, hAZ, hAn, hAh, hTok, hAl⟩ := hA
  have hP' := hPok
  obtain ⟨hP1, hP2, hP3, hP4, hP5, hP6, hP7, hP8, hPv, hPm, hPo, hPw, hPl⟩ := hP'
  have hok' := hok
  obtain ⟨hot, hoh, hosc, hokp⟩ := hok'
  have hI0 := hI
  obtain ⟨hC, hS, ⟨ST, hT⟩, hD, hR⟩ := hI0
  have hR0 := hR
  obtain ⟨hH, ⟨nx, hy⟩, hZ, ⟨ft, hf1, hf2, hf3⟩, ⟨⟨r0, r1, r2, r3, r4, hrd1⟩, hrd2, hrd3⟩⟩ := hR0
  show Wq xs (d + 12) ax_cd177 0 [(0, .ref 0), (1, .int a0)] [] σ Q
  refine wq_go rfl (fun _ => rfl) ?_
  refine wq_getf rfl (by first | rfl | assumption) (by first | decide | omega | assumption) (cw_c0 hC) rfl ?_
  refine wq_go rfl (fun _ => rfl) ?_
  refine wq_callV rfl rfl (by first | rfl | assumption) (by first | decide | omega | assumption) (Nat.le_of_ble_eq_true rfl) (Nat.le_of_ble_eq_true rfl) rfl rfl ?_
  refine c_hasHeadD hC (fun h lh qh eh => ?_) (fun eh => ?_)
  · subst qh
    refine wq_zeq rfl (by first | omega | decide | exact Nat.lt_of_le_of_lt Nat.and_le_right (by decide) | exact ⟨by omega, by omega⟩) (fun c => absurd c (by omega)) (fun c4 => ?_)
    refine wq_go rfl (fun _ => rfl) ?_
    refine wq_getf rfl (by first | rfl | assumption) (by first | decide | omega | assumption) (cw_c0 hC) rfl ?_
    refine wq_go rfl (fun _ => rfl) ?_
    refine wq_callV rfl rfl (by first | rfl | assumption) (by first | decide | omega | assumption) (Nat.le_of_ble_eq_true rfl) (Nat.le_of_ble_eq_true rfl) rfl rfl ?_
    refine c_State_thoughtWithMost k35 hS hok (by omega) ?_
    refine wq_go rfl (fun _ => rfl) ?_
    refine wq_iret rfl ?_
    exact ansQ (K _ (hi_refl _) hI) (by simp only [F_foremost, eh, od_s, od_n, od_c] <;> first | rfl | simp [od_c])
  · skip
    refine wq_zeq rfl (by first | omega | decide | exact Nat.lt_of_le_of_lt Nat.and_le_right (by decide) | exact ⟨by omega, by omega⟩) (fun c4 => ?_) (fun c => absurd (show _ from by omega) c)
    refine wq_go rfl (fun _ => rfl) ?_
    refine wq_iret rfl ?_
    exact ansQ (K _ (hi_refl _) hI) (by simp only [F_foremost, eh, od_s, od_n, od_c] <;> first | rfl | simp [od_c])
theorem ck_saysIn {n : Nat} {A : Sy} (hn : n < 512) (hA : Aok n A) (a0 a1 : Int32) : COk ax_cd179 [.int a0, .int a1] A A (F_saysIn A a0 a1) := by
  intro xs d σ Q hI K
  obtain ⟨hPok, ⟨hok, hhr72, hzq, hsum⟩, hAH, hAZ, hAn, hAh, hTok, hAl⟩ := hA
  have hP' := hPok
  obtain ⟨hP1, hP2, hP3, hP4, hP5, hP6, hP7, hP8, hPv, hPm, hPo, hPw, hPl⟩ := hP'
  have hok' := hok
  obtain ⟨hot, hoh, hosc, hokp⟩ := hok'
  have hI0 := hI
  obtain ⟨hC, hS, ⟨ST, hT⟩, hD, hR⟩ := hI0
  have hR0 := hR
  obtain ⟨hH, ⟨nx, hy⟩, hZ, ⟨ft, hf1, hf2, hf3⟩, ⟨⟨r0, r1, r2, r3, r4, hrd1⟩, hrd2, hrd3⟩⟩ := hR0
  show Wq xs (d + 12) ax_cd179 0 [(0, .ref 0), (1, .int a0), (2, .int a1)] [] σ Q
  refine wq_go rfl (fun _ => rfl) ?_
  refine wq_getf rfl (by first | rfl | assumption) (by first | decide | omega | assumption) (cw_c0 hC) rfl ?_
  refine wq_go rfl (fun _ => rfl) ?_
  refine wq_callV rfl rfl (by first | rfl | assumption) (by first | decide | omega | assumption) (Nat.le_of_ble_eq_true rfl) (Nat.le_of_ble_eq_true rfl) rfl rfl ?_
  refine c_hasHeadD hC (fun h lh qh eh => ?_) (fun eh => ?_)
  · subst qh
    refine wq_zeq rfl (by first | omega | decide | exact Nat.lt_of_le_of_lt Nat.and_le_right (by decide) | exact ⟨by omega, by omega⟩) (fun c => absurd c (by omega)) (fun c4 => ?_)
    refine wq_go rfl (fun _ => rfl) ?_
    refine wq_callS rfl (Nat.le_of_ble_eq_true rfl) rfl (Nat.le_of_ble_eq_true rfl) (Nat.le_of_ble_eq_true rfl) rfl rfl ?_
    refine c_isHoursD  (fun n ln qn en => ?_) (fun en => ?_)
    · subst qn
      refine wq_zne rfl (by first | omega | decide | exact Nat.lt_of_le_of_lt Nat.and_le_right (by decide) | exact ⟨by omega, by omega⟩) (fun c7 => ?_) (fun c => absurd (show _ from by omega) c)
      refine wq_go rfl (fun _ => rfl) ?_
      refine wq_getf rfl (by first | rfl | assumption) (by first | decide | omega | assumption) (cw_c0 hC) rfl ?_
      refine wq_go rfl (fun _ => rfl) ?_
      refine wq_cN (m := 1) rfl rfl ?_
      refine wq_callV rfl rfl (by first | rfl | assumption) (by first | decide | omega | assumption) (Nat.le_of_ble_eq_true rfl) (Nat.le_of_ble_eq_true rfl) rfl rfl ?_
      refine c_Foresight_after hS hC hok hT (by omega) (by decide) (by omega) (fun σ8 F8 C8 T8 => ?_)
      have S8 := st_S k35 k41 (by decide) F8 hS
      refine wq_go rfl (fun _ => rfl) ?_
      refine wq_go rfl (fun _ => rfl) ?_
      refine wq_getf rfl (by first | rfl | assumption) (by first | decide | omega | assumption) (cw_c0 C8) rfl ?_
      refine wq_getf rfl (by first | rfl | assumption) (by first | decide | omega | assumption) (cw_c21 C8) rfl ?_
      refine wq_callV rfl rfl (by first | rfl | assumption) (by first | decide | omega | assumption) (Nat.le_of_ble_eq_true rfl) (Nat.le_of_ble_eq_true rfl) rfl rfl ?_
      refine c_State_saidBy k41 T8 (go_ok hPok hok 1 (Psd (AP A)) n (by omega)) (by omega) (by omega) ?_
      refine wq_iret rfl ?_
      exact ansQ (K _ (hi_scr scr_41 F8) (ci_41 hI F8 C8 T8)) (by simp only [F_saysIn, eh, en, od_s, od_n, od_c] <;> first | rfl | simp [od_c])
    · skip
      refine wq_zne rfl (by first | omega | decide | exact Nat.lt_of_le_of_lt Nat.and_le_right (by decide) | exact ⟨by omega, by omega⟩) (fun c => absurd c (by omega)) (fun c7 => ?_)
      refine wq_go rfl (fun _ => rfl) ?_
      refine wq_iret rfl ?_
      exact ansQ (K _ (hi_refl _) hI) (by simp only [F_saysIn, eh, en, od_s, od_n, od_c] <;> first | rfl | simp [od_c])
  · skip
    refine wq_zeq rfl (by first | omega | decide | exact Nat.lt_of_le_of_lt Nat.and_le_right (by decide) | exact ⟨by omega, by omega⟩) (fun c4 => ?_) (fun c => absurd (show _ from by omega) c)
    refine wq_go rfl (fun _ => rfl) ?_
    refine wq_iret rfl ?_
    exact ansQ (K _ (hi_refl _) hI) (by simp only [F_saysIn, eh, od_s, od_n, od_c] <;> first | rfl | simp [od_c])
theorem ck_silent {n : Nat} {A : Sy} (hn : n < 512) (hA : Aok n A) (a0 : Int32) : COk ax_cd180 [.int a0] A A (F_silent A a0) := by
  intro xs d σ Q hI K
  obtain ⟨hPok, ⟨hok, hhr72, hzq, hsum⟩, hAH, hAZ, hAn, hAh, hTok, hAl⟩ := hA
  have hP' := hPok
  obtain ⟨hP1, hP2, hP3, hP4, hP5, hP6, hP7, hP8, hPv, hPm, hPo, hPw, hPl⟩ := hP'
  have hok' := hok
  obtain ⟨hot, hoh, hosc, hokp⟩ := hok'
  have hI0 := hI
  obtain ⟨hC, hS, ⟨ST, hT⟩, hD, hR⟩ := hI0
  have hR0 := hR
  obtain ⟨hH, ⟨nx, hy⟩, hZ, ⟨ft, hf1, hf2, hf3⟩, ⟨⟨r0, r1, r2, r3, r4, hrd1⟩, hrd2, hrd3⟩⟩ := hR0
  show Wq xs (d + 12) ax_cd180 0 [(0, .ref 0), (1, .int a0)] [] σ Q
  refine wq_go rfl (fun _ => rfl) ?_
  refine wq_callS rfl (Nat.le_of_ble_eq_true rfl) rfl (Nat.le_of_ble_eq_true rfl) (Nat.le_of_ble_eq_true rfl) rfl rfl ?_
  refine c_isThoughtD  (fun t lt qt et => ?_) (fun et => ?_)
  · subst qt
    refine wq_zeq rfl (by first | omega | decide | exact Nat.lt_of_le_of_lt Nat.and_le_right (by decide) | exact ⟨by omega, by omega⟩) (fun c => absurd c (by omega)) (fun c2 => ?_)
    refine wq_go rfl (fun _ => rfl) ?_
    refine wq_getf rfl (by first | rfl | assumption) (by first | decide | omega | assumption) (cw_c0 hC) rfl ?_
    refine wq_go rfl (fun _ => rfl) ?_
    refine wq_callV rfl rfl (by first | rfl | assumption) (by first | decide | omega | assumption) (Nat.le_of_ble_eq_true rfl) (Nat.le_of_ble_eq_true rfl) rfl rfl ?_
    refine c_Foresight_hoursUntilSilent hS hC hok hT lt (by omega) (fun σ7 T0 F7 C7 T7 => ?_)
    have S7 := st_S k35 k41 (by decide) F7 hS
    refine wq_go rfl (fun _ => rfl) ?_
    refine wq_iret rfl ?_
    exact ansQ (K _ (hi_scr scr_41 F7) (ci_41 hI F7 C7 T7)) (by simp only [F_silent, et, od_s, od_n, od_c] <;> first | rfl | simp [od_c])
  · skip
    refine wq_zeq rfl (by first | omega | decide | exact Nat.lt_of_le_of_lt Nat.and_le_right (by decide) | exact ⟨by omega, by omega⟩) (fun c2 => ?_) (fun c => absurd (show _ from by omega) c)
    refine wq_go rfl (fun _ => rfl) ?_
    refine wq_iret rfl ?_
    exact ansQ (K _ (hi_refl _) hI) (by simp only [F_silent, et, od_s, od_n, od_c] <;> first | rfl | simp [od_c])
theorem ck_lost {n : Nat} {A : Sy} (hn : n < 512) (hA : Aok n A) (a0 : Int32) : COk ax_cd182 [.int a0] A A (F_lost A a0) := by
  intro xs d σ Q hI K
  obtain ⟨hPok, ⟨hok, hhr72, hzq, hsum⟩, hAH, hAZ, hAn, hAh, hTok, hAl⟩ := hA
  have hP' := hPok
  obtain ⟨hP1, hP2, hP3, hP4, hP5, hP6, hP7, hP8, hPv, hPm, hPo, hPw, hPl⟩ := hP'
  have hok' := hok
  obtain ⟨hot, hoh, hosc, hokp⟩ := hok'
  have hI0 := hI
  obtain ⟨hC, hS, ⟨ST, hT⟩, hD, hR⟩ := hI0
  have hR0 := hR
  obtain ⟨hH, ⟨nx, hy⟩, hZ, ⟨ft, hf1, hf2, hf3⟩, ⟨⟨r0, r1, r2, r3, r4, hrd1⟩, hrd2, hrd3⟩⟩ := hR0
  show Wq xs (d + 12) ax_cd182 0 [(0, .ref 0), (1, .int a0)] [] σ Q
  refine wq_go rfl (fun _ => rfl) ?_
  refine wq_callS rfl (Nat.le_of_ble_eq_true rfl) rfl (Nat.le_of_ble_eq_true rfl) (Nat.le_of_ble_eq_true rfl) rfl rfl ?_
  refine c_isHoursD  (fun n ln qn en => ?_) (fun en => ?_)
  · subst qn
    refine wq_zeq rfl (by first | omega | decide | exact Nat.lt_of_le_of_lt Nat.and_le_right (by decide) | exact ⟨by omega, by omega⟩) (fun c => absurd c (by omega)) (fun c2 => ?_)
    refine wq_go rfl (fun _ => rfl) ?_
    refine wq_getf rfl (by first | rfl | assumption) (by first | decide | omega | assumption) (cw_c0 hC) rfl ?_
    refine wq_go rfl (fun _ => rfl) ?_
    refine wq_cN (m := 0) rfl rfl ?_
    refine wq_callV rfl rfl (by first | rfl | assumption) (by first | decide | omega | assumption) (Nat.le_of_ble_eq_true rfl) (Nat.le_of_ble_eq_true rfl) rfl rfl ?_
    refine c_Foresight_after hS hC hok hT (by omega) (by decide) (by omega) (fun σ7 F7 C7 T7 => ?_)
    have S7 := st_S k35 k41 (by decide) F7 hS
    refine wq_getf rfl (by first | rfl | assumption) (by first | decide | omega | assumption) T7.1 rfl ?_
    refine wq_go rfl (fun _ => rfl) ?_
    refine wq_getf rfl (by first | rfl | assumption) (by first | decide | omega | assumption) (cw_c0 C7) rfl ?_
    refine wq_getf rfl (by first | rfl | assumption) (by first | decide | omega | assumption) S7.1 rfl ?_
    refine wq_subZ rfl (nI_z _) (nI_z _) ?_
    refine wq_go rfl (fun _ => rfl) ?_
    refine wq_iret rfl ?_
    exact ansQ (K _ (hi_scr scr_41 F7) (ci_41 hI F7 C7 T7)) (by simp only [F_lost, en, od_s, od_n, od_c] <;> first | rfl | simp [od_c])
  · skip
    refine wq_zeq rfl (by first | omega | decide | exact Nat.lt_of_le_of_lt Nat.and_le_right (by decide) | exact ⟨by omega, by omega⟩) (fun c2 => ?_) (fun c => absurd (show _ from by omega) c)
    refine wq_go rfl (fun _ => rfl) ?_
    refine wq_iret rfl ?_
    exact ansQ (K _ (hi_refl _) hI) (by simp only [F_lost, en, od_s, od_n, od_c] <;> first | rfl | simp [od_c])
theorem ck_headIn {n : Nat} {A : Sy} (hn : n < 512) (hA : Aok n A) (a0 a1 a2 : Int32) : COk ax_cd186 [.int a0, .int a1, .int a2] A A (F_headIn A a0 a1 a2) := by
  intro xs d σ Q hI K
  obtain ⟨hPok, ⟨hok, hhr72, hzq, hsum⟩, hAH, hAZ, hAn, hAh, hTok, hAl⟩ := hA
  have hP' := hPok
  obtain ⟨hP1, hP2, hP3, hP4, hP5, hP6, hP7, hP8, hPv, hPm, hPo, hPw, hPl⟩ := hP'
  have hok' := hok
  obtain ⟨hot, hoh, hosc, hokp⟩ := hok'
  have hI0 := hI
  obtain ⟨hC, hS, ⟨ST, hT⟩, hD, hR⟩ := hI0
  have hR0 := hR
  obtain ⟨hH, ⟨nx, hy⟩, hZ, ⟨ft, hf1, hf2, hf3⟩, ⟨⟨r0, r1, r2, r3, r4, hrd1⟩, hrd2, hrd3⟩⟩ := hR0
  show Wq xs (d + 12) ax_cd186 0 [(0, .ref 0), (1, .int a0), (2, .int a1), (3, .int a2)] [] σ Q
  refine wq_go rfl (fun _ => rfl) ?_
  refine wq_getf rfl (by first | rfl | assumption) (by first | decide | omega | assumption) (cw_c0 hC) rfl ?_
  refine wq_go rfl (fun _ => rfl) ?_
  refine wq_callV rfl rfl (by first | rfl | assumption) (by first | decide | omega | assumption) (Nat.le_of_ble_eq_true rfl) (Nat.le_of_ble_eq_true rfl) rfl rfl ?_
  refine c_hasHeadD hC (fun h lh qh eh => ?_) (fun eh => ?_)
  · subst qh
    refine wq_zeq rfl (by first | omega | decide | exact Nat.lt_of_le_of_lt Nat.and_le_right (by decide) | exact ⟨by omega, by omega⟩) (fun c => absurd c (by omega)) (fun c4 => ?_)
    refine wq_go rfl (fun _ => rfl) ?_
    refine wq_callS rfl (Nat.le_of_ble_eq_true rfl) rfl (Nat.le_of_ble_eq_true rfl) (Nat.le_of_ble_eq_true rfl) rfl rfl ?_
    refine c_isThoughtD  (fun t lt qt et => ?_) (fun et => ?_)
    · subst qt
      refine wq_zeq rfl (by first | omega | decide | exact Nat.lt_of_le_of_lt Nat.and_le_right (by decide) | exact ⟨by omega, by omega⟩) (fun c => absurd c (by omega)) (fun c7 => ?_)
      refine wq_go rfl (fun _ => rfl) ?_
      refine wq_callS rfl (Nat.le_of_ble_eq_true rfl) rfl (Nat.le_of_ble_eq_true rfl) (Nat.le_of_ble_eq_true rfl) rfl rfl ?_
      refine c_isHoursD  (fun n ln qn en => ?_) (fun en => ?_)
      · subst qn
        refine wq_zne rfl (by first | omega | decide | exact Nat.lt_of_le_of_lt Nat.and_le_right (by decide) | exact ⟨by omega, by omega⟩) (fun c10 => ?_) (fun c => absurd (show _ from by omega) c)
        refine wq_go rfl (fun _ => rfl) ?_
        refine wq_getf rfl (by first | rfl | assumption) (by first | decide | omega | assumption) (cw_c0 hC) rfl ?_
        refine wq_go rfl (fun _ => rfl) ?_
        refine wq_cN (m := 1) rfl rfl ?_
        refine wq_callV rfl rfl (by first | rfl | assumption) (by first | decide | omega | assumption) (Nat.le_of_ble_eq_true rfl) (Nat.le_of_ble_eq_true rfl) rfl rfl ?_
        refine c_Foresight_after hS hC hok hT (by omega) (by decide) (by omega) (fun σ9 F9 C9 T9 => ?_)
        have S9 := st_S k35 k41 (by decide) F9 hS
        refine wq_go rfl (fun _ => rfl) ?_
        refine wq_go rfl (fun _ => rfl) ?_
        refine wq_callV rfl rfl (by first | rfl | assumption) (by first | decide | omega | assumption) (Nat.le_of_ble_eq_true rfl) (Nat.le_of_ble_eq_true rfl) rfl rfl ?_
        refine c_State_own k41 T9 (by omega) (by omega) ?_
        refine wq_iret rfl ?_
        exact ansQ (K _ (hi_scr scr_41 F9) (ci_41 hI F9 C9 T9)) (by simp only [F_headIn, eh, et, en, od_s, od_n, od_c] <;> first | rfl | simp [od_c])
      · skip
        refine wq_zne rfl (by first | omega | decide | exact Nat.lt_of_le_of_lt Nat.and_le_right (by decide) | exact ⟨by omega, by omega⟩) (fun c => absurd c (by omega)) (fun c10 => ?_)
        refine wq_go rfl (fun _ => rfl) ?_
        refine wq_iret rfl ?_
        exact ansQ (K _ (hi_refl _) hI) (by simp only [F_headIn, eh, et, en, od_s, od_n, od_c] <;> first | rfl | simp [od_c])
    · skip
      refine wq_zeq rfl (by first | omega | decide | exact Nat.lt_of_le_of_lt Nat.and_le_right (by decide) | exact ⟨by omega, by omega⟩) (fun c7 => ?_) (fun c => absurd (show _ from by omega) c)
      refine wq_go rfl (fun _ => rfl) ?_
      refine wq_iret rfl ?_
      exact ansQ (K _ (hi_refl _) hI) (by simp only [F_headIn, eh, et, od_s, od_n, od_c] <;> first | rfl | simp [od_c])
  · skip
    refine wq_zeq rfl (by first | omega | decide | exact Nat.lt_of_le_of_lt Nat.and_le_right (by decide) | exact ⟨by omega, by omega⟩) (fun c4 => ?_) (fun c => absurd (show _ from by omega) c)
    refine wq_go rfl (fun _ => rfl) ?_
    refine wq_iret rfl ?_
    exact ansQ (K _ (hi_refl _) hI) (by simp only [F_headIn, eh, od_s, od_n, od_c] <;> first | rfl | simp [od_c])
theorem ck_chairIn {n : Nat} {A : Sy} (hn : n < 512) (hA : Aok n A) (a0 a1 a2 : Int32) : COk ax_cd187 [.int a0, .int a1, .int a2] A A (F_chairIn A a0 a1 a2) := by
  intro xs d σ Q hI K
  obtain ⟨hPok, ⟨hok, hhr72, hzq, hsum⟩, hAH, hAZ, hAn, hAh, hTok, hAl⟩ := hA
  have hP' := hPok
  obtain ⟨hP1, hP2, hP3, hP4, hP5, hP6, hP7, hP8, hPv, hPm, hPo, hPw, hPl⟩ := hP'
  have hok' := hok
  obtain ⟨hot, hoh, hosc, hokp⟩ := hok'
  have hI0 := hI
  obtain ⟨hC, hS, ⟨ST, hT⟩, hD, hR⟩ := hI0
  have hR0 := hR
  obtain ⟨hH, ⟨nx, hy⟩, hZ, ⟨ft, hf1, hf2, hf3⟩, ⟨⟨r0, r1, r2, r3, r4, hrd1⟩, hrd2, hrd3⟩⟩ := hR0
  show Wq xs (d + 12) ax_cd187 0 [(0, .ref 0), (1, .int a0), (2, .int a1), (3, .int a2)] [] σ Q
  refine wq_go rfl (fun _ => rfl) ?_
  refine wq_getf rfl (by first | rfl | assumption) (by first | decide | omega | assumption) (cw_c0 hC) rfl ?_
  refine wq_go rfl (fun _ => rfl) ?_
  refine wq_callV rfl rfl (by first | rfl | assumption) (by first | decide | omega | assumption) (Nat.le_of_ble_eq_true rfl) (Nat.le_of_ble_eq_true rfl) rfl rfl ?_
  refine c_hasChairD hC (fun c lc qc ec => ?_) (fun ec => ?_)
  · subst qc
    refine wq_zeq rfl (by first | omega | decide | exact Nat.lt_of_le_of_lt Nat.and_le_right (by decide) | exact ⟨by omega, by omega⟩) (fun c => absurd c (by omega)) (fun c4 => ?_)
    refine wq_go rfl (fun _ => rfl) ?_
    refine wq_callS rfl (Nat.le_of_ble_eq_true rfl) rfl (Nat.le_of_ble_eq_true rfl) (Nat.le_of_ble_eq_true rfl) rfl rfl ?_
    refine c_isThoughtD  (fun t lt qt et => ?_) (fun et => ?_)
    · subst qt
      refine wq_zeq rfl (by first | omega | decide | exact Nat.lt_of_le_of_lt Nat.and_le_right (by decide) | exact ⟨by omega, by omega⟩) (fun c => absurd c (by omega)) (fun c7 => ?_)
      refine wq_go rfl (fun _ => rfl) ?_
      refine wq_callS rfl (Nat.le_of_ble_eq_true rfl) rfl (Nat.le_of_ble_eq_true rfl) (Nat.le_of_ble_eq_true rfl) rfl rfl ?_
      refine c_isHoursD  (fun n ln qn en => ?_) (fun en => ?_)
      · subst qn
        refine wq_zne rfl (by first | omega | decide | exact Nat.lt_of_le_of_lt Nat.and_le_right (by decide) | exact ⟨by omega, by omega⟩) (fun c10 => ?_) (fun c => absurd (show _ from by omega) c)
        refine wq_go rfl (fun _ => rfl) ?_
        refine wq_getf rfl (by first | rfl | assumption) (by first | decide | omega | assumption) (cw_c0 hC) rfl ?_
        refine wq_go rfl (fun _ => rfl) ?_
        refine wq_cN (m := 1) rfl rfl ?_
        refine wq_callV rfl rfl (by first | rfl | assumption) (by first | decide | omega | assumption) (Nat.le_of_ble_eq_true rfl) (Nat.le_of_ble_eq_true rfl) rfl rfl ?_
        refine c_Foresight_after hS hC hok hT (by omega) (by decide) (by omega) (fun σ9 F9 C9 T9 => ?_)
        have S9 := st_S k35 k41 (by decide) F9 hS
        refine wq_go rfl (fun _ => rfl) ?_
        refine wq_go rfl (fun _ => rfl) ?_
        refine wq_callV rfl rfl (by first | rfl | assumption) (by first | decide | omega | assumption) (Nat.le_of_ble_eq_true rfl) (Nat.le_of_ble_eq_true rfl) rfl rfl ?_
        refine c_State_cloth k41 T9 (by omega) (by omega) ?_
        refine wq_iret rfl ?_
        exact ansQ (K _ (hi_scr scr_41 F9) (ci_41 hI F9 C9 T9)) (by simp only [F_chairIn, ec, et, en, od_s, od_n, od_c] <;> first | rfl | simp [od_c])
      · skip
        refine wq_zne rfl (by first | omega | decide | exact Nat.lt_of_le_of_lt Nat.and_le_right (by decide) | exact ⟨by omega, by omega⟩) (fun c => absurd c (by omega)) (fun c10 => ?_)
        refine wq_go rfl (fun _ => rfl) ?_
        refine wq_iret rfl ?_
        exact ansQ (K _ (hi_refl _) hI) (by simp only [F_chairIn, ec, et, en, od_s, od_n, od_c] <;> first | rfl | simp [od_c])
    · skip
      refine wq_zeq rfl (by first | omega | decide | exact Nat.lt_of_le_of_lt Nat.and_le_right (by decide) | exact ⟨by omega, by omega⟩) (fun c7 => ?_) (fun c => absurd (show _ from by omega) c)
      refine wq_go rfl (fun _ => rfl) ?_
      refine wq_iret rfl ?_
      exact ansQ (K _ (hi_refl _) hI) (by simp only [F_chairIn, ec, et, od_s, od_n, od_c] <;> first | rfl | simp [od_c])
  · skip
    refine wq_zeq rfl (by first | omega | decide | exact Nat.lt_of_le_of_lt Nat.and_le_right (by decide) | exact ⟨by omega, by omega⟩) (fun c4 => ?_) (fun c => absurd (show _ from by omega) c)
    refine wq_go rfl (fun _ => rfl) ?_
    refine wq_iret rfl ?_
    exact ansQ (K _ (hi_refl _) hI) (by simp only [F_chairIn, ec, od_s, od_n, od_c] <;> first | rfl | simp [od_c])
theorem ck_then {n : Nat} {A : Sy} (hn : n < 512) (hA : Aok n A) (a0 a1 : Int32) : COk ax_cd188 [.int a0, .int a1] A A (F_then A a0 a1) := by
  intro xs d σ Q hI K
  obtain ⟨hPok, ⟨hok, hhr72, hzq, hsum⟩, hAH, hAZ, hAn, hAh, hTok, hAl⟩ := hA
  have hP' := hPok
  obtain ⟨hP1, hP2, hP3, hP4, hP5, hP6, hP7, hP8, hPv, hPm, hPo, hPw, hPl⟩ := hP'
  have hok' := hok
  obtain ⟨hot, hoh, hosc, hokp⟩ := hok'
  have hI0 := hI
  obtain ⟨hC, hS, ⟨ST, hT⟩, hD, hR⟩ := hI0
  have hR0 := hR
  obtain ⟨hH, ⟨nx, hy⟩, hZ, ⟨ft, hf1, hf2, hf3⟩, ⟨⟨r0, r1, r2, r3, r4, hrd1⟩, hrd2, hrd3⟩⟩ := hR0
  show Wq xs (d + 12) ax_cd188 0 [(0, .ref 0), (1, .int a0), (2, .int a1)] [] σ Q
  refine wq_go rfl (fun _ => rfl) ?_
  refine wq_callS rfl (Nat.le_of_ble_eq_true rfl) rfl (Nat.le_of_ble_eq_true rfl) (Nat.le_of_ble_eq_true rfl) rfl rfl ?_
  refine c_isHoursD  (fun n ln qn en => ?_) (fun en => ?_)
  · subst qn
    refine wq_zeq rfl (by first | omega | decide | exact Nat.lt_of_le_of_lt Nat.and_le_right (by decide) | exact ⟨by omega, by omega⟩) (fun c => absurd c (by omega)) (fun c2 => ?_)
    rcases pk_ix a1 (n := 5) (by omega) with hw | hw | ⟨w, lw, qw⟩
    · have ew : dec (5) a1 = none := dec_none (fun h hh e => by subst e; exact nI_pos (by omega) hw)
      refine wq_go rfl (fun _ => rfl) ?_
      refine wq_if rfl (fun c4 => ?_) (fun c => absurd (c.symm.trans (decide_eq_true hw)) (by decide))
      refine wq_go rfl (fun _ => rfl) ?_
      refine wq_iret rfl ?_
      exact ansQ (K _ (hi_refl _) hI) (by simp only [F_then, en, ew, od_s, od_n, od_c] <;> first | rfl | simp [od_c])
    · have ew : dec (5) a1 = none := dec_none (fun h hh e => by subst e; exact nI_ge hh (by omega) hw)
      refine wq_go rfl (fun _ => rfl) ?_
      refine wq_if rfl (fun c => absurd (c.symm.trans (decide_eq_false (fun e => by have h1 := Int32.lt_of_le_of_lt hw e; exact nI_pos (by omega) h1))) (by decide)) (fun c4 => ?_)
      refine wq_go rfl (fun _ => rfl) ?_
      refine wq_cN (m := 4) rfl rfl ?_
      refine wq_cmp rfl (fun c => absurd (c.symm.trans (decide_eq_false (fun e => by have h1 := Int32.le_trans hw e; rw [nI_leI (by omega) (by omega)] at h1; omega))) (by decide)) (fun c7 => ?_)
      refine wq_go rfl (fun _ => rfl) ?_
      refine wq_iret rfl ?_
      exact ansQ (K _ (hi_refl _) hI) (by simp only [F_then, en, ew, od_s, od_n, od_c] <;> first | rfl | simp [od_c])
    · subst qw
      have ew : dec (5) (nI w) = some w := dec_some lw (by omega)
      have ow : w = 0 ∨ w = 1 ∨ w = 2 ∨ w = 3 ∨ w = 4 := by omega
      rcases ow with rfl | rfl | rfl | rfl | rfl
      · skip
        refine wq_go rfl (fun _ => rfl) ?_
        refine wq_zlt rfl (by first | omega | decide | exact Nat.lt_of_le_of_lt Nat.and_le_right (by decide) | exact ⟨by omega, by omega⟩) (fun c => absurd c (by omega)) (fun c4 => ?_)
        refine wq_go rfl (fun _ => rfl) ?_
        refine wq_cN (m := 4) rfl rfl ?_
        refine wq_cle rfl (by first | omega | decide | exact Nat.lt_of_le_of_lt Nat.and_le_right (by decide) | exact ⟨by omega, by omega⟩) (by first | omega | decide | exact Nat.lt_of_le_of_lt Nat.and_le_right (by decide) | exact ⟨by omega, by omega⟩) (fun c7 => ?_) (fun c => absurd (show _ from by omega) c)
        refine wq_go rfl (fun _ => rfl) ?_
        refine wq_getf rfl (by first | rfl | assumption) (by first | decide | omega | assumption) (cw_c0 hC) rfl ?_
        refine wq_go rfl (fun _ => rfl) ?_
        refine wq_cN (m := 1) rfl rfl ?_
        refine wq_callV rfl rfl (by first | rfl | assumption) (by first | decide | omega | assumption) (Nat.le_of_ble_eq_true rfl) (Nat.le_of_ble_eq_true rfl) rfl rfl ?_
        refine c_Foresight_after hS hC hok hT (by omega) (by decide) (by omega) (fun σ7 F7 C7 T7 => ?_)
        have S7 := st_S k35 k41 (by decide) F7 hS
        refine wq_go rfl (fun _ => rfl) ?_
        refine wq_go rfl (fun _ => rfl) ?_
        refine wq_cN (m := 4) rfl rfl ?_
        refine wq_cne rfl (by first | omega | decide | exact Nat.lt_of_le_of_lt Nat.and_le_right (by decide) | exact ⟨by omega, by omega⟩) (by first | omega | decide | exact Nat.lt_of_le_of_lt Nat.and_le_right (by decide) | exact ⟨by omega, by omega⟩) (fun c18 => ?_) (fun c => absurd (show _ from by omega) c)
        refine wq_go rfl (fun _ => rfl) ?_
        refine wq_go rfl (fun _ => rfl) ?_
        refine wq_go rfl (fun _ => rfl) ?_
        refine wq_getf rfl (by first | rfl | assumption) (by first | decide | omega | assumption) (cw_c0 C7) rfl ?_
        refine wq_getf rfl (by first | rfl | assumption) (by first | decide | omega | assumption) (cw_c21 C7) rfl ?_
        refine wq_go rfl (fun _ => rfl) ?_
        refine wq_getf rfl (by first | rfl | assumption) (by first | decide | omega | assumption) (cw_c0 C7) rfl ?_
        refine wq_getf rfl (by first | rfl | assumption) (by first | decide | omega | assumption) (cw_c21 C7) rfl ?_
        refine wq_callV rfl rfl (by first | rfl | assumption) (by first | decide | omega | assumption) (Nat.le_of_ble_eq_true rfl) (Nat.le_of_ble_eq_true rfl) rfl rfl ?_
        refine c_State_sayersOf k41 T7 (go_ok hPok hok 1 (Psd (AP A)) n (by omega)) (by omega) (by omega) (by omega) ?_
        refine wq_iret rfl ?_
        exact ansQ (K _ (hi_scr scr_41 F7) (ci_41 hI F7 C7 T7)) (by simp only [F_then, en, ew, od_s, od_n, od_c] <;> first | rfl | simp [od_c])
      · skip
        refine wq_go rfl (fun _ => rfl) ?_
        refine wq_zlt rfl (by first | omega | decide | exact Nat.lt_of_le_of_lt Nat.and_le_right (by decide) | exact ⟨by omega, by omega⟩) (fun c => absurd c (by omega)) (fun c4 => ?_)
        refine wq_go rfl (fun _ => rfl) ?_
        refine wq_cN (m := 4) rfl rfl ?_
        refine wq_cle rfl (by first | omega | decide | exact Nat.lt_of_le_of_lt Nat.and_le_right (by decide) | exact ⟨by omega, by omega⟩) (by first | omega | decide | exact Nat.lt_of_le_of_lt Nat.and_le_right (by decide) | exact ⟨by omega, by omega⟩) (fun c7 => ?_) (fun c => absurd (show _ from by omega) c)
        refine wq_go rfl (fun _ => rfl) ?_
        refine wq_getf rfl (by first | rfl | assumption) (by first | decide | omega | assumption) (cw_c0 hC) rfl ?_
        refine wq_go rfl (fun _ => rfl) ?_
        refine wq_cN (m := 1) rfl rfl ?_
        refine wq_callV rfl rfl (by first | rfl | assumption) (by first | decide | omega | assumption) (Nat.le_of_ble_eq_true rfl) (Nat.le_of_ble_eq_true rfl) rfl rfl ?_
        refine c_Foresight_after hS hC hok hT (by omega) (by decide) (by omega) (fun σ9 F9 C9 T9 => ?_)
        have S9 := st_S k35 k41 (by decide) F9 hS
        refine wq_go rfl (fun _ => rfl) ?_
        refine wq_go rfl (fun _ => rfl) ?_
        refine wq_cN (m := 4) rfl rfl ?_
        refine wq_cne rfl (by first | omega | decide | exact Nat.lt_of_le_of_lt Nat.and_le_right (by decide) | exact ⟨by omega, by omega⟩) (by first | omega | decide | exact Nat.lt_of_le_of_lt Nat.and_le_right (by decide) | exact ⟨by omega, by omega⟩) (fun c18 => ?_) (fun c => absurd (show _ from by omega) c)
        refine wq_go rfl (fun _ => rfl) ?_
        refine wq_go rfl (fun _ => rfl) ?_
        refine wq_go rfl (fun _ => rfl) ?_
        refine wq_getf rfl (by first | rfl | assumption) (by first | decide | omega | assumption) (cw_c0 C9) rfl ?_
        refine wq_getf rfl (by first | rfl | assumption) (by first | decide | omega | assumption) (cw_c21 C9) rfl ?_
        refine wq_go rfl (fun _ => rfl) ?_
        refine wq_getf rfl (by first | rfl | assumption) (by first | decide | omega | assumption) (cw_c0 C9) rfl ?_
        refine wq_getf rfl (by first | rfl | assumption) (by first | decide | omega | assumption) (cw_c21 C9) rfl ?_
        refine wq_callV rfl rfl (by first | rfl | assumption) (by first | decide | omega | assumption) (Nat.le_of_ble_eq_true rfl) (Nat.le_of_ble_eq_true rfl) rfl rfl ?_
        refine c_State_sayersOf k41 T9 (go_ok hPok hok 1 (Psd (AP A)) n (by omega)) (by omega) (by omega) (by omega) ?_
        refine wq_iret rfl ?_
        exact ansQ (K _ (hi_scr scr_41 F9) (ci_41 hI F9 C9 T9)) (by simp only [F_then, en, ew, od_s, od_n, od_c] <;> first | rfl | simp [od_c])
      · skip
        refine wq_go rfl (fun _ => rfl) ?_
        refine wq_zlt rfl (by first | omega | decide | exact Nat.lt_of_le_of_lt Nat.and_le_right (by decide) | exact ⟨by omega, by omega⟩) (fun c => absurd c (by omega)) (fun c4 => ?_)
        refine wq_go rfl (fun _ => rfl) ?_
        refine wq_cN (m := 4) rfl rfl ?_
        refine wq_cle rfl (by first | omega | decide | exact Nat.lt_of_le_of_lt Nat.and_le_right (by decide) | exact ⟨by omega, by omega⟩) (by first | omega | decide | exact Nat.lt_of_le_of_lt Nat.and_le_right (by decide) | exact ⟨by omega, by omega⟩) (fun c7 => ?_) (fun c => absurd (show _ from by omega) c)
        refine wq_go rfl (fun _ => rfl) ?_
        refine wq_getf rfl (by first | rfl | assumption) (by first | decide | omega | assumption) (cw_c0 hC) rfl ?_
        refine wq_go rfl (fun _ => rfl) ?_
        refine wq_cN (m := 1) rfl rfl ?_
        refine wq_callV rfl rfl (by first | rfl | assumption) (by first | decide | omega | assumption) (Nat.le_of_ble_eq_true rfl) (Nat.le_of_ble_eq_true rfl) rfl rfl ?_
        refine c_Foresight_after hS hC hok hT (by omega) (by decide) (by omega) (fun σ11 F11 C11 T11 => ?_)
        have S11 := st_S k35 k41 (by decide) F11 hS
        refine wq_go rfl (fun _ => rfl) ?_
        refine wq_go rfl (fun _ => rfl) ?_
        refine wq_cN (m := 4) rfl rfl ?_
        refine wq_cne rfl (by first | omega | decide | exact Nat.lt_of_le_of_lt Nat.and_le_right (by decide) | exact ⟨by omega, by omega⟩) (by first | omega | decide | exact Nat.lt_of_le_of_lt Nat.and_le_right (by decide) | exact ⟨by omega, by omega⟩) (fun c18 => ?_) (fun c => absurd (show _ from by omega) c)
        refine wq_go rfl (fun _ => rfl) ?_
        refine wq_go rfl (fun _ => rfl) ?_
        refine wq_go rfl (fun _ => rfl) ?_
        refine wq_getf rfl (by first | rfl | assumption) (by first | decide | omega | assumption) (cw_c0 C11) rfl ?_
        refine wq_getf rfl (by first | rfl | assumption) (by first | decide | omega | assumption) (cw_c21 C11) rfl ?_
        refine wq_go rfl (fun _ => rfl) ?_
        refine wq_getf rfl (by first | rfl | assumption) (by first | decide | omega | assumption) (cw_c0 C11) rfl ?_
        refine wq_getf rfl (by first | rfl | assumption) (by first | decide | omega | assumption) (cw_c21 C11) rfl ?_
        refine wq_callV rfl rfl (by first | rfl | assumption) (by first | decide | omega | assumption) (Nat.le_of_ble_eq_true rfl) (Nat.le_of_ble_eq_true rfl) rfl rfl ?_
        refine c_State_sayersOf k41 T11 (go_ok hPok hok 1 (Psd (AP A)) n (by omega)) (by omega) (by omega) (by omega) ?_
        refine wq_iret rfl ?_
        exact ansQ (K _ (hi_scr scr_41 F11) (ci_41 hI F11 C11 T11)) (by simp only [F_then, en, ew, od_s, od_n, od_c] <;> first | rfl | simp [od_c])
      · skip
        refine wq_go rfl (fun _ => rfl) ?_
        refine wq_zlt rfl (by first | omega | decide | exact Nat.lt_of_le_of_lt Nat.and_le_right (by decide) | exact ⟨by omega, by omega⟩) (fun c => absurd c (by omega)) (fun c4 => ?_)
        refine wq_go rfl (fun _ => rfl) ?_
        refine wq_cN (m := 4) rfl rfl ?_
        refine wq_cle rfl (by first | omega | decide | exact Nat.lt_of_le_of_lt Nat.and_le_right (by decide) | exact ⟨by omega, by omega⟩) (by first | omega | decide | exact Nat.lt_of_le_of_lt Nat.and_le_right (by decide) | exact ⟨by omega, by omega⟩) (fun c7 => ?_) (fun c => absurd (show _ from by omega) c)
        refine wq_go rfl (fun _ => rfl) ?_
        refine wq_getf rfl (by first | rfl | assumption) (by first | decide | omega | assumption) (cw_c0 hC) rfl ?_
        refine wq_go rfl (fun _ => rfl) ?_
        refine wq_cN (m := 1) rfl rfl ?_
        refine wq_callV rfl rfl (by first | rfl | assumption) (by first | decide | omega | assumption) (Nat.le_of_ble_eq_true rfl) (Nat.le_of_ble_eq_true rfl) rfl rfl ?_
        refine c_Foresight_after hS hC hok hT (by omega) (by decide) (by omega) (fun σ13 F13 C13 T13 => ?_)
        have S13 := st_S k35 k41 (by decide) F13 hS
        refine wq_go rfl (fun _ => rfl) ?_
        refine wq_go rfl (fun _ => rfl) ?_
        refine wq_cN (m := 4) rfl rfl ?_
        refine wq_cne rfl (by first | omega | decide | exact Nat.lt_of_le_of_lt Nat.and_le_right (by decide) | exact ⟨by omega, by omega⟩) (by first | omega | decide | exact Nat.lt_of_le_of_lt Nat.and_le_right (by decide) | exact ⟨by omega, by omega⟩) (fun c18 => ?_) (fun c => absurd (show _ from by omega) c)
        refine wq_go rfl (fun _ => rfl) ?_
        refine wq_go rfl (fun _ => rfl) ?_
        refine wq_go rfl (fun _ => rfl) ?_
        refine wq_getf rfl (by first | rfl | assumption) (by first | decide | omega | assumption) (cw_c0 C13) rfl ?_
        refine wq_getf rfl (by first | rfl | assumption) (by first | decide | omega | assumption) (cw_c21 C13) rfl ?_
        refine wq_go rfl (fun _ => rfl) ?_
        refine wq_getf rfl (by first | rfl | assumption) (by first | decide | omega | assumption) (cw_c0 C13) rfl ?_
        refine wq_getf rfl (by first | rfl | assumption) (by first | decide | omega | assumption) (cw_c21 C13) rfl ?_
        refine wq_callV rfl rfl (by first | rfl | assumption) (by first | decide | omega | assumption) (Nat.le_of_ble_eq_true rfl) (Nat.le_of_ble_eq_true rfl) rfl rfl ?_
        refine c_State_sayersOf k41 T13 (go_ok hPok hok 1 (Psd (AP A)) n (by omega)) (by omega) (by omega) (by omega) ?_
        refine wq_iret rfl ?_
        exact ansQ (K _ (hi_scr scr_41 F13) (ci_41 hI F13 C13 T13)) (by simp only [F_then, en, ew, od_s, od_n, od_c] <;> first | rfl | simp [od_c])
      · skip
        refine wq_go rfl (fun _ => rfl) ?_
        refine wq_zlt rfl (by first | omega | decide | exact Nat.lt_of_le_of_lt Nat.and_le_right (by decide) | exact ⟨by omega, by omega⟩) (fun c => absurd c (by omega)) (fun c4 => ?_)
        refine wq_go rfl (fun _ => rfl) ?_
        refine wq_cN (m := 4) rfl rfl ?_
        refine wq_cle rfl (by first | omega | decide | exact Nat.lt_of_le_of_lt Nat.and_le_right (by decide) | exact ⟨by omega, by omega⟩) (by first | omega | decide | exact Nat.lt_of_le_of_lt Nat.and_le_right (by decide) | exact ⟨by omega, by omega⟩) (fun c7 => ?_) (fun c => absurd (show _ from by omega) c)
        refine wq_go rfl (fun _ => rfl) ?_
        refine wq_getf rfl (by first | rfl | assumption) (by first | decide | omega | assumption) (cw_c0 hC) rfl ?_
        refine wq_go rfl (fun _ => rfl) ?_
        refine wq_cN (m := 1) rfl rfl ?_
        refine wq_callV rfl rfl (by first | rfl | assumption) (by first | decide | omega | assumption) (Nat.le_of_ble_eq_true rfl) (Nat.le_of_ble_eq_true rfl) rfl rfl ?_
        refine c_Foresight_after hS hC hok hT (by omega) (by decide) (by omega) (fun σ15 F15 C15 T15 => ?_)
        have S15 := st_S k35 k41 (by decide) F15 hS
        refine wq_go rfl (fun _ => rfl) ?_
        refine wq_go rfl (fun _ => rfl) ?_
        refine wq_cN (m := 4) rfl rfl ?_
        refine wq_cne rfl (by first | omega | decide | exact Nat.lt_of_le_of_lt Nat.and_le_right (by decide) | exact ⟨by omega, by omega⟩) (by first | omega | decide | exact Nat.lt_of_le_of_lt Nat.and_le_right (by decide) | exact ⟨by omega, by omega⟩) (fun c => absurd c (by omega)) (fun c18 => ?_)
        refine wq_go rfl (fun _ => rfl) ?_
        refine wq_getf rfl (by first | rfl | assumption) (by first | decide | omega | assumption) T15.1 rfl ?_
        refine wq_go rfl (fun _ => rfl) ?_
        refine wq_iret rfl ?_
        exact ansQ (K _ (hi_scr scr_41 F15) (ci_41 hI F15 C15 T15)) (by simp only [F_then, en, ew, od_s, od_n, od_c] <;> first | rfl | simp [od_c])
  · skip
    refine wq_zeq rfl (by first | omega | decide | exact Nat.lt_of_le_of_lt Nat.and_le_right (by decide) | exact ⟨by omega, by omega⟩) (fun c2 => ?_) (fun c => absurd (show _ from by omega) c)
    refine wq_go rfl (fun _ => rfl) ?_
    refine wq_iret rfl ?_
    exact ansQ (K _ (hi_refl _) hI) (by simp only [F_then, en, od_s, od_n, od_c] <;> first | rfl | simp [od_c])
theorem ck_year {n : Nat} {A : Sy} (hn : n < 512) (hA : Aok n A) (a0 a1 a2 a3 : Int32) : COk ax_cd189 [.int a0, .int a1, .int a2, .int a3] A A (F_year A a0 a1 a2 a3) := by
  intro xs d σ Q hI K
  obtain ⟨hPok, ⟨hok, hhr72, hzq, hsum⟩, hAH, hAZ, hAn, hAh, hTok, hAl⟩ := hA
  have hP' := hPok
  obtain ⟨hP1, hP2, hP3, hP4, hP5, hP6, hP7, hP8, hPv, hPm, hPo, hPw, hPl⟩ := hP'
  have hok' := hok
  obtain ⟨hot, hoh, hosc, hokp⟩ := hok'
  have hI0 := hI
  obtain ⟨hC, hS, ⟨ST, hT⟩, hD, hR⟩ := hI0
  have hR0 := hR
  obtain ⟨hH, ⟨nx, hy⟩, hZ, ⟨ft, hf1, hf2, hf3⟩, ⟨⟨r0, r1, r2, r3, r4, hrd1⟩, hrd2, hrd3⟩⟩ := hR0
  show Wq xs (d + 12) ax_cd189 0 [(0, .ref 0), (1, .int a0), (2, .int a1), (3, .int a2), (4, .int a3)] [] σ Q
  refine wq_go rfl (fun _ => rfl) ?_
  refine wq_getf rfl (by first | rfl | assumption) (by first | decide | omega | assumption) (cw_c0 hC) rfl ?_
  refine wq_go rfl (fun _ => rfl) ?_
  refine wq_callV rfl rfl (by first | rfl | assumption) (by first | decide | omega | assumption) (Nat.le_of_ble_eq_true rfl) (Nat.le_of_ble_eq_true rfl) rfl rfl ?_
  refine c_hasHeadD hC (fun h lh qh eh => ?_) (fun eh => ?_)
  · subst qh
    refine wq_zeq rfl (by first | omega | decide | exact Nat.lt_of_le_of_lt Nat.and_le_right (by decide) | exact ⟨by omega, by omega⟩) (fun c => absurd c (by omega)) (fun c4 => ?_)
    refine wq_go rfl (fun _ => rfl) ?_
    refine wq_callS rfl (Nat.le_of_ble_eq_true rfl) rfl (Nat.le_of_ble_eq_true rfl) (Nat.le_of_ble_eq_true rfl) rfl rfl ?_
    refine c_isThoughtD  (fun t lt qt et => ?_) (fun et => ?_)
    · subst qt
      refine wq_zeq rfl (by first | omega | decide | exact Nat.lt_of_le_of_lt Nat.and_le_right (by decide) | exact ⟨by omega, by omega⟩) (fun c => absurd c (by omega)) (fun c7 => ?_)
      refine wq_go rfl (fun _ => rfl) ?_
      refine wq_callS rfl (Nat.le_of_ble_eq_true rfl) rfl (Nat.le_of_ble_eq_true rfl) (Nat.le_of_ble_eq_true rfl) rfl rfl ?_
      refine c_isHoursD  (fun n ln qn en => ?_) (fun en => ?_)
      · subst qn
        refine wq_zeq rfl (by first | omega | decide | exact Nat.lt_of_le_of_lt Nat.and_le_right (by decide) | exact ⟨by omega, by omega⟩) (fun c => absurd c (by omega)) (fun c10 => ?_)
        rcases pk_ix a3 (n := 21) (by omega) with hw | hw | ⟨w, lw, qw⟩
        · have ew : dec (21) a3 = none := dec_none (fun h hh e => by subst e; exact nI_pos (by omega) hw)
          refine wq_go rfl (fun _ => rfl) ?_
          refine wq_cN (m := 1) rfl rfl ?_
          refine wq_cmp rfl (fun c13 => ?_) (fun c => absurd (c.symm.trans (decide_eq_true (Int32.lt_trans hw (by decide)))) (by decide))
          refine wq_go rfl (fun _ => rfl) ?_
          refine wq_iret rfl ?_
          exact ansQ (K _ (hi_refl _) hI) (by simp only [F_year, eh, et, en, ew, od_s, od_n, od_c] <;> first | rfl | exact (if_pos (by omega)).symm | exact (if_neg (by omega)).symm)
        · have ew : dec (21) a3 = none := dec_none (fun h hh e => by subst e; exact nI_ge hh (by omega) hw)
          refine wq_go rfl (fun _ => rfl) ?_
          refine wq_cN (m := 1) rfl rfl ?_
          refine wq_cmp rfl (fun c => absurd (c.symm.trans (decide_eq_false (fun e => by have h1 := Int32.lt_of_le_of_lt hw e; exact absurd h1 (by decide)))) (by decide)) (fun c13 => ?_)
          refine wq_go rfl (fun _ => rfl) ?_
          refine wq_cN (m := 20) rfl rfl ?_
          refine wq_cmp rfl (fun c => absurd (c.symm.trans (decide_eq_false (fun e => by have h1 := Int32.le_trans hw e; rw [nI_leI (by omega) (by omega)] at h1; omega))) (by decide)) (fun c16 => ?_)
          refine wq_go rfl (fun _ => rfl) ?_
          refine wq_iret rfl ?_
          exact ansQ (K _ (hi_refl _) hI) (by simp only [F_year, eh, et, en, ew, od_s, od_n, od_c] <;> first | rfl | exact (if_pos (by omega)).symm | exact (if_neg (by omega)).symm)
        · subst qw
          have ew : dec (21) (nI w) = some w := dec_some lw (by omega)
          refine wq_go rfl (fun _ => rfl) ?_
          refine wq_cN (m := 1) rfl rfl ?_
          refine wq_clt rfl (by first | omega | decide | exact Nat.lt_of_le_of_lt Nat.and_le_right (by decide) | exact ⟨by omega, by omega⟩) (by first | omega | decide | exact Nat.lt_of_le_of_lt Nat.and_le_right (by decide) | exact ⟨by omega, by omega⟩) (fun c13 => ?_) (fun c13 => ?_)
          · skip
            refine wq_go rfl (fun _ => rfl) ?_
            refine wq_iret rfl ?_
            exact ansQ (K _ (hi_refl _) hI) (by simp only [F_year, eh, et, en, ew, od_s, od_n, od_c] <;> first | rfl | exact (if_pos (by omega)).symm | exact (if_neg (by omega)).symm)
          · skip
            refine wq_go rfl (fun _ => rfl) ?_
            refine wq_cN (m := 20) rfl rfl ?_
            refine wq_cle rfl (by first | omega | decide | exact Nat.lt_of_le_of_lt Nat.and_le_right (by decide) | exact ⟨by omega, by omega⟩) (by first | omega | decide | exact Nat.lt_of_le_of_lt Nat.and_le_right (by decide) | exact ⟨by omega, by omega⟩) (fun c16 => ?_) (fun c => absurd (show _ from by omega) c)
            refine wq_go rfl (fun _ => rfl) ?_
            refine wq_getf rfl (by first | rfl | assumption) (by first | decide | omega | assumption) (cw_c0 hC) rfl ?_
            refine wq_go rfl (fun _ => rfl) ?_
            refine wq_go rfl (fun _ => rfl) ?_
            refine wq_go rfl (fun _ => rfl) ?_
            refine wq_go rfl (fun _ => rfl) ?_
            refine wq_callV rfl rfl (by first | rfl | assumption) (by first | decide | omega | assumption) (Nat.le_of_ble_eq_true rfl) (Nat.le_of_ble_eq_true rfl) rfl rfl ?_
            refine c_Foresight_seedsThatSay hS hC hok hT lh lt (by omega) (by omega) (by omega) (fun σ9 T0 F9 C9 T9 => ?_)
            have S9 := st_S k35 k41 (by decide) F9 hS
            refine wq_iret rfl ?_
            exact ansQ (K _ (hi_scr scr_41 F9) (ci_41 hI F9 C9 T9)) (by simp only [F_year, eh, et, en, ew, od_s, od_n, od_c] <;> first | rfl | exact (if_pos (by omega)).symm | exact (if_neg (by omega)).symm)
      · skip
        refine wq_zeq rfl (by first | omega | decide | exact Nat.lt_of_le_of_lt Nat.and_le_right (by decide) | exact ⟨by omega, by omega⟩) (fun c10 => ?_) (fun c => absurd (show _ from by omega) c)
        refine wq_go rfl (fun _ => rfl) ?_
        refine wq_iret rfl ?_
        exact ansQ (K _ (hi_refl _) hI) (by simp only [F_year, eh, et, en, od_s, od_n, od_c] <;> first | rfl | exact (if_pos (by omega)).symm | exact (if_neg (by omega)).symm)
    · skip
      refine wq_zeq rfl (by first | omega | decide | exact Nat.lt_of_le_of_lt Nat.and_le_right (by decide) | exact ⟨by omega, by omega⟩) (fun c7 => ?_) (fun c => absurd (show _ from by omega) c)
      refine wq_go rfl (fun _ => rfl) ?_
      refine wq_iret rfl ?_
      exact ansQ (K _ (hi_refl _) hI) (by simp only [F_year, eh, et, od_s, od_n, od_c] <;> first | rfl | exact (if_pos (by omega)).symm | exact (if_neg (by omega)).symm)
  · skip
    refine wq_zeq rfl (by first | omega | decide | exact Nat.lt_of_le_of_lt Nat.and_le_right (by decide) | exact ⟨by omega, by omega⟩) (fun c4 => ?_) (fun c => absurd (show _ from by omega) c)
    refine wq_go rfl (fun _ => rfl) ?_
    refine wq_iret rfl ?_
    exact ansQ (K _ (hi_refl _) hI) (by simp only [F_year, eh, od_s, od_n, od_c] <;> first | rfl | exact (if_pos (by omega)).symm | exact (if_neg (by omega)).symm)
