/-! PAIRS OF CALLS -/
theorem sfu_seat {n : Nat} {P : Pl} {S : St} (h : Sfu n P S) {i c : Nat} (hi : i < 5) (hc : c < 4) (hp : c < Pch P) : Sfu (n + 1) P (seatS P S i c) := ⟨seat_ok P h.1 hi hc, by have e : Shr (seatS P S i c) = Shr S := rfl; rw [e]; have := h.2.1; omega, fun q => absurd hp (by omega), seat_sum P S hi hc h.2.2.2⟩
theorem sfu_wash {n : Nat} {P : Pl} {S : St} (h : Sfu n P S) {c : Nat} (hc : c < 4) (hp : c < Pch P) : Sfu (n + 1) P (washS P S c) := ⟨wash_ok P h.1 hc, by have e : Shr (washS P S c) = Shr S := rfl; rw [e]; have := h.2.1; omega, fun q => absurd hp (by omega), h.2.2.2⟩
theorem sfu_sc {n : Nat} {P : Pl} {S : St} (h : Sfu n P S) {x : Nat} (hx : x < 16) : Sfu (n + 1) P (setSc S x) := ⟨⟨h.1.1, h.1.2.1, hx, h.1.2.2.2⟩, (sfu_s h).2.1, h.2.2.1, h.2.2.2⟩
theorem sfu_kp {n : Nat} {P : Pl} {S : St} (h : Sfu n P S) {x : Nat} (hx : x < 1024) : Sfu (n + 1) P (setKp S x) := ⟨⟨h.1.1, h.1.2.1, h.1.2.2.1, hx⟩, (sfu_s h).2.1, h.2.2.1, h.2.2.2⟩
theorem sfu_ch {n : Nat} {P : Pl} {S : St} (h : Sfu n P S) {a b : Nat} (ha : a < 4) (hb : b < 4) (hab : a ≠ b) (hp : a < Pch P) : Sfu (n + 1) P (chS S a b) := ⟨ch_ok h.1 ha hb hab, (sfu_s h).2.1, fun q => absurd hp (by omega), h.2.2.2⟩
theorem sfu_go {n : Nat} {P : Pl} {S : St} (hP : Pok P) (hn : n < 512) (h : Sfu n P S) {u : Nat} (hu : u < 73) : Sfu (n + 1) P (goS P 1 (Psd P) S u) := by
  have h2 := h.2.1
  have e := go_hr P 1 (Psd P) S u
  exact ⟨go_ok hP h.1 1 _ u (by omega), by omega, go_z hP h.2.2.1 1 _ u, go_sum hP h.2.2.2 1 _ u⟩
theorem aok_tell {n : Nat} {A : Sy} {T : Tl} (h : Aok n A) (hT : Tok (AP A) T) : Aok (n + 1) (setAT A T) := ⟨h.1, (aok_s h).2.1, (aok_s h).2.2.1, (aok_s h).2.2.2.1, h.2.2.2.2.1, h.2.2.2.2.2.1, hT, h.2.2.2.2.2.2.2⟩
theorem aok_undo {n : Nat} {A : Sy} (h : Aok n A) (h0 : ¬ An A = 0) : Aok (n + 1) (undoA A) := by
  have h := aok_s h
  refine ⟨h.1, h.2.2.1 (An A - 1) (by omega), fun j hj => h.2.2.1 j (by have hj : j < An A - 1 := hj; omega), h.2.2.2.1, ?_, h.2.2.2.2.2⟩
  have := h.2.2.2.2.1
  show An A - 1 ≤ 40
  omega
theorem or_8 {x i : Nat} (hx : x < 8) (hi : i < 3) : x ||| 2 ^ i < 8 := Nat.or_lt_two_pow (n := 3) hx (Nat.pow_lt_pow_right (by decide) hi)
theorem aok_hold {n : Nat} {A : Sy} (h : Aok n A) {s : Nat} (hs : s < 3) : Aok (n + 1) (holdA A s) := by
  have h := aok_s h
  refine ⟨h.1, h.2.1, h.2.2.1, fun j hj hb => ?_, h.2.2.2.2.1, or_8 h.2.2.2.2.2.1 hs, h.2.2.2.2.2.2⟩
  show Sfu (n + 1) (AP A) (if j = s then AS A else AZ A j)
  split
  · exact h.2.1
  · next ne =>
    refine h.2.2.2.1 j hj ?_
    have hb : (Ah A ||| 2 ^ s).testBit j = true := hb
    rw [Nat.testBit_or, Nat.testBit_two_pow, decide_eq_false (fun e => ne e.symm), Bool.or_false] at hb
    exact hb
theorem aok_res {n : Nat} {A : Sy} (h : Aok n A) {s : Nat} (hs : s < 3) (hb : (Ah A).testBit s = true) : Aok (n + 1) (resA A s) := by
  have h := aok_s h
  exact ⟨h.1, h.2.2.2.1 s hs hb, fun j hj => absurd hj (Nat.not_lt_zero j), h.2.2.2.1, Nat.zero_le _, h.2.2.2.2.2⟩
theorem tok_add {P : Pl} {T : Tl} (h : Tok P T) {c t a s : Nat} (hn : ¬ Tn T = 20) (hc : c < Pch P) (ht : t < 4) (ha : a < 1000) (hs : s < 2) : Tok P (tlAdd T c t a s) := by
  have h1 := h.1
  refine ⟨by show Tn T + 1 ≤ 20; omega, fun i hi => ?_⟩
  have hi : i < Tn T + 1 := hi
  show updN (Tc T) (Tn T) c i < Pch P ∧ updN (Tt T) (Tn T) t i < 4 ∧ updN (Ta T) (Tn T) a i ≤ 999 ∧ updN (Ts T) (Tn T) s i < 2
  unfold updN
  by_cases e : i = Tn T
  · simp only [if_pos e]
    exact ⟨hc, ht, by omega, hs⟩
  · simp only [if_neg e]
    exact h.2 i (by omega)
theorem oq_ok {n : Nat} {A : Sy} (hA : Aok n A) {m : Nat} {x v : Int32} {k : Nat → Sy × Int32} (h : ∀ i, i < m → Aok (n + 1) (k i).1) : Aok (n + 1) (oq (dec m x) (A, v) k).1 := by
  cases e : dec m x with
  | none => exact aok_s hA
  | some i => exact h i (dec_lt e).1
theorem go_sit {n : Nat} {A : Sy} (hA : Aok n A) (a0 a1 : Int32) : Aok (n + 1) (G_sit A a0 a1).1 := oq_ok hA (fun i hi => oq_ok hA (fun c hc => rec_ok hA (sfu_seat hA.2.1 (by have := hA.1.2.1; omega) (by have := hA.1.1; omega) hc)))
theorem go_wash {n : Nat} {A : Sy} (hA : Aok n A) (a0 : Int32) : Aok (n + 1) (G_wash A a0).1 := oq_ok hA (fun c hc => rec_ok hA (sfu_wash hA.2.1 (by have := hA.1.1; omega) hc))
theorem go_starch {n : Nat} {A : Sy} (hA : Aok n A) (a0 : Int32) : Aok (n + 1) (G_starch A a0).1 := oq_ok hA (fun c hc => by
  split
  · exact aok_s hA
  · exact rec_ok hA (sfu_sc hA.2.1 (or_16 hA.2.1.1.2.2.1 (by have := hA.1.1; omega))))
theorem go_change {n : Nat} {A : Sy} (hA : Aok n A) (a0 a1 : Int32) : Aok (n + 1) (G_change A a0 a1).1 := oq_ok hA (fun c hc => oq_ok hA (fun o ho => by
  have h4 := hA.1.1
  split
  · exact aok_s hA
  · next ne => exact rec_ok hA (sfu_ch hA.2.1 (by omega) (by omega) ne hc)))
theorem go_keep {n : Nat} {A : Sy} (hA : Aok n A) (a0 : Int32) (b : Nat) : Aok (n + 1) (G_keep A a0 b).1 := oq_ok hA (fun i hi => by
  have h4 := hA.1.2.2.1
  have h5 := hA.2.1.1.2.2.2
  split
  · exact aok_s hA
  · refine rec_ok hA (sfu_kp hA.2.1 ?_)
    split
    · have := clr_le (Skp (AS A)) i
      omega
    · exact or_1024 h5 (by omega))
theorem go_hours {n : Nat} {A : Sy} (hn : n < 512) (hA : Aok n A) (a0 : Int32) : Aok (n + 1) (G_hours A a0).1 := oq_ok hA (fun u hu => by
  split
  · exact aok_s hA
  · exact rec_ok hA (sfu_go hA.1 hn hA.2.1 hu))
theorem go_undo {n : Nat} {A : Sy} (hA : Aok n A) : Aok (n + 1) (G_undo A).1 := by
  unfold G_undo
  split
  · exact aok_s hA
  · next h0 => exact aok_undo hA h0
theorem go_tell {n : Nat} {A : Sy} (hA : Aok n A) (a0 a1 a2 : Int32) {b : Nat} (hb : b < 2) : Aok (n + 1) (G_tell A a0 a1 a2 b).1 := oq_ok hA (fun c hc => oq_ok hA (fun t ht => oq_ok hA (fun w hw => by
  split
  · exact aok_s hA
  · next ne => exact aok_tell hA (tok_add hA.2.2.2.2.2.2.1 ne hc ht hw hb))))
theorem go_forget {n : Nat} {A : Sy} (hA : Aok n A) : Aok (n + 1) (G_forget A).1 := aok_tell hA ⟨Nat.zero_le _, fun i hi => absurd hi (Nat.not_lt_zero i)⟩
theorem go_hold {n : Nat} {A : Sy} (hA : Aok n A) (a0 : Int32) : Aok (n + 1) (G_hold A a0).1 := oq_ok hA (fun s hs => aok_hold hA hs)
theorem go_restore {n : Nat} {A : Sy} (hA : Aok n A) (a0 : Int32) : Aok (n + 1) (G_restore A a0).1 := oq_ok hA (fun s hs => by
  split
  · next hb => exact aok_res hA hs hb
  · exact aok_s hA)

theorem pr24 : ∀ (a0 : Int32), PairOK Inv ax_cd171 ax_cd313 [.int a0] := fun a0 => pair_q (f := fun A => F_agree A a0) (fun n A hn hA => ck_agree hn hA a0) (fun n A hn hA => mk_agree hn hA a0)
theorem pr23 : ∀ (a0 : Int32), PairOK Inv ax_cd166 ax_cd309 [.int a0] := fun a0 => pair_q (f := fun A => F_alike A a0) (fun n A hn hA => ck_alike hn hA a0) (fun n A hn hA => mk_alike hn hA a0)
theorem pr16 : ∀ (a0 a1 a2 : Int32), PairOK Inv ax_cd150 ax_cd297 [.int a0, .int a1, .int a2] := fun a0 a1 a2 => pair_q (f := fun A => F_alone A a0 a1 a2) (fun n A hn hA => ck_alone hn hA a0 a1 a2) (fun n A hn hA => mk_alone hn hA a0 a1 a2)
theorem pr18 : ∀ (a0 a1 : Int32), PairOK Inv ax_cd153 ax_cd300 [.int a0, .int a1] := fun a0 a1 => pair_q (f := fun A => F_bestChair A a0 a1) (fun n A hn hA => ck_bestChair hn hA a0 a1) (fun n A hn hA => mk_bestChair hn hA a0 a1)
theorem pr4 : ∀ (a0 a1 : Int32), PairOK Inv ax_cd85 ax_cd252 [.int a0, .int a1] := fun a0 a1 => pair_q (f := fun A => F_chair A a0 a1) (fun n A hn hA => ck_chair hn hA a0 a1) (fun n A hn hA => mk_chair hn hA a0 a1)
theorem pr33 : ∀ (a0 a1 a2 : Int32), PairOK Inv ax_cd187 ax_cd321 [.int a0, .int a1, .int a2] := fun a0 a1 a2 => pair_q (f := fun A => F_chairIn A a0 a1 a2) (fun n A hn hA => ck_chairIn hn hA a0 a1 a2) (fun n A hn hA => mk_chairIn hn hA a0 a1 a2)
theorem pr31 : ∀ (a0 : Int32), PairOK Inv ax_cd183 ax_cd319 [.int a0] := fun a0 => pair_q (f := fun A => F_clean A a0) (fun n A hn hA => ck_clean hn hA a0) (fun n A hn hA => mk_clean hn hA a0)
theorem pr42 : ∀ (a0 : Int32), PairOK Inv ax_cd206 ax_cd333 [.int a0] := fun a0 => pair_q (f := fun A => F_count A a0) (fun n A hn hA => ck_count hn hA a0) (fun n A hn hA => mk_count hn hA a0)
theorem pr27 : ∀ (a0 : Int32), PairOK Inv ax_cd177 ax_cd316 [.int a0] := fun a0 => pair_q (f := fun A => F_foremost A a0) (fun n A hn hA => ck_foremost hn hA a0) (fun n A hn hA => mk_foremost hn hA a0)
theorem pr25 : ∀ (a0 : Int32), PairOK Inv ax_cd174 ax_cd314 [.int a0] := fun a0 => pair_q (f := fun A => F_fullest A a0) (fun n A hn hA => ck_fullest hn hA a0) (fun n A hn hA => mk_fullest hn hA a0)
theorem pr17 : ∀ (a0 a1 a2 : Int32), PairOK Inv ax_cd152 ax_cd298 [.int a0, .int a1, .int a2] := fun a0 a1 a2 => pair_q (f := fun A => F_gain A a0 a1 a2) (fun n A hn hA => ck_gain hn hA a0 a1 a2) (fun n A hn hA => mk_gain hn hA a0 a1 a2)
theorem pr5 : ∀ (a0 a1 : Int32), PairOK Inv ax_cd91 ax_cd255 [.int a0, .int a1] := fun a0 a1 => pair_q (f := fun A => F_head A a0 a1) (fun n A hn hA => ck_head hn hA a0 a1) (fun n A hn hA => mk_head hn hA a0 a1)
theorem pr32 : ∀ (a0 a1 a2 : Int32), PairOK Inv ax_cd186 ax_cd320 [.int a0, .int a1, .int a2] := fun a0 a1 a2 => pair_q (f := fun A => F_headIn A a0 a1 a2) (fun n A hn hA => ck_headIn hn hA a0 a1 a2) (fun n A hn hA => mk_headIn hn hA a0 a1 a2)
theorem pr39 : ∀ (a0 a1 : Int32), PairOK Inv ax_cd200 ax_cd330 [.int a0, .int a1] := fun a0 a1 => pair_q (f := fun A => F_look A a0 a1) (fun n A hn hA => ck_look hn hA a0 a1) (fun n A hn hA => mk_look hn hA a0 a1)
theorem pr30 : ∀ (a0 : Int32), PairOK Inv ax_cd182 ax_cd318 [.int a0] := fun a0 => pair_q (f := fun A => F_lost A a0) (fun n A hn hA => ck_lost hn hA a0) (fun n A hn hA => mk_lost hn hA a0)
theorem pr21 : ∀ (a0 a1 a2 : Int32), PairOK Inv ax_cd161 ax_cd307 [.int a0, .int a1, .int a2] := fun a0 a1 a2 => pair_q (f := fun A => F_meet A a0 a1 a2) (fun n A hn hA => ck_meet hn hA a0 a1 a2) (fun n A hn hA => mk_meet hn hA a0 a1 a2)
theorem pr19 : ∀ (a0 a1 : Int32), PairOK Inv ax_cd155 ax_cd301 [.int a0, .int a1] := fun a0 a1 => pair_q (f := fun A => F_most A a0 a1) (fun n A hn hA => ck_most hn hA a0 a1) (fun n A hn hA => mk_most hn hA a0 a1)
theorem pr3 : PairOK Inv ax_cd83 ax_cd251 [] := pair_q (f := fun A => F_place A) (fun n A hn hA => ck_place hn hA) (fun n A hn hA => mk_place hn hA)
theorem pr28 : ∀ (a0 a1 : Int32), PairOK Inv ax_cd179 ax_cd317 [.int a0, .int a1] := fun a0 a1 => pair_q (f := fun A => F_saysIn A a0 a1) (fun n A hn hA => ck_saysIn hn hA a0 a1) (fun n A hn hA => mk_saysIn hn hA a0 a1)
theorem pr26 : ∀ (a0 a1 : Int32), PairOK Inv ax_cd176 ax_cd315 [.int a0, .int a1] := fun a0 a1 => pair_q (f := fun A => F_share A a0 a1) (fun n A hn hA => ck_share hn hA a0 a1) (fun n A hn hA => mk_share hn hA a0 a1)
theorem pr29 : ∀ (a0 : Int32), PairOK Inv ax_cd180 ax_cd305 [.int a0] := fun a0 => pair_q (f := fun A => F_silent A a0) (fun n A hn hA => ck_silent hn hA a0) (fun n A hn hA => mk_silent hn hA a0)
theorem pr15 : ∀ (a0 a1 a2 : Int32), PairOK Inv ax_cd145 ax_cd292 [.int a0, .int a1, .int a2] := fun a0 a1 a2 => pair_q (f := fun A => F_sittings A a0 a1 a2) (fun n A hn hA => ck_sittings hn hA a0 a1 a2) (fun n A hn hA => mk_sittings hn hA a0 a1 a2)
theorem pr7 : ∀ (a0 a1 a2 a3 : Int32), PairOK Inv ax_cd102 ax_cd262 [.int a0, .int a1, .int a2, .int a3] := fun a0 a1 a2 a3 => pair_q (f := fun A => F_tells A a0 a1 a2 a3) (fun n A hn hA => ck_tells hn hA a0 a1 a2 a3) (fun n A hn hA => mk_tells hn hA a0 a1 a2 a3)
theorem pr34 : ∀ (a0 a1 : Int32), PairOK Inv ax_cd188 ax_cd322 [.int a0, .int a1] := fun a0 a1 => pair_q (f := fun A => F_then A a0 a1) (fun n A hn hA => ck_then hn hA a0 a1) (fun n A hn hA => mk_then hn hA a0 a1)
theorem pr6 : ∀ (a0 a1 : Int32), PairOK Inv ax_cd96 ax_cd260 [.int a0, .int a1] := fun a0 a1 => pair_q (f := fun A => F_visit A a0 a1) (fun n A hn hA => ck_visit hn hA a0 a1) (fun n A hn hA => mk_visit hn hA a0 a1)
theorem pr20 : ∀ (a0 a1 : Int32), PairOK Inv ax_cd159 ax_cd303 [.int a0, .int a1] := fun a0 a1 => pair_q (f := fun A => F_when A a0 a1) (fun n A hn hA => ck_when hn hA a0 a1) (fun n A hn hA => mk_when hn hA a0 a1)
theorem pr38 : ∀ (a0 a1 : Int32), PairOK Inv ax_cd196 ax_cd326 [.int a0, .int a1] := fun a0 a1 => pair_q (f := fun A => F_who A a0 a1) (fun n A hn hA => ck_who hn hA a0 a1) (fun n A hn hA => mk_who hn hA a0 a1)
theorem pr22 : ∀ (a0 a1 a2 : Int32), PairOK Inv ax_cd164 ax_cd308 [.int a0, .int a1, .int a2] := fun a0 a1 a2 => pair_q (f := fun A => F_without A a0 a1 a2) (fun n A hn hA => ck_without hn hA a0 a1 a2) (fun n A hn hA => mk_without hn hA a0 a1 a2)
theorem pr35 : ∀ (a0 a1 a2 a3 : Int32), PairOK Inv ax_cd189 ax_cd323 [.int a0, .int a1, .int a2, .int a3] := fun a0 a1 a2 a3 => pair_q (f := fun A => F_year A a0 a1 a2 a3) (fun n A hn hA => ck_year hn hA a0 a1 a2 a3) (fun n A hn hA => mk_year hn hA a0 a1 a2 a3)
theorem pr8 : ∀ (a0 a1 : Int32), PairOK Inv ax_cd117 ax_cd274 [.int a0, .int a1] := fun a0 a1 => pair_AB (fun n A hn hA => ⟨(G_sit A a0 a1).1, (G_sit A a0 a1).2, go_sit hA a0 a1, cg_sit hn hA a0 a1, mg_sit hn hA a0 a1⟩)
theorem pr9 : ∀ (a0 : Int32), PairOK Inv ax_cd124 ax_cd277 [.int a0] := fun a0 => pair_AB (fun n A hn hA => ⟨(G_wash A a0).1, (G_wash A a0).2, go_wash hA a0, cg_wash hn hA a0, mg_wash hn hA a0⟩)
theorem pr10 : ∀ (a0 : Int32), PairOK Inv ax_cd128 ax_cd279 [.int a0] := fun a0 => pair_AB (fun n A hn hA => ⟨(G_starch A a0).1, (G_starch A a0).2, go_starch hA a0, cg_starch hn hA a0, mg_starch hn hA a0⟩)
theorem pr11 : ∀ (a0 a1 : Int32), PairOK Inv ax_cd129 ax_cd280 [.int a0, .int a1] := fun a0 a1 => pair_AB (fun n A hn hA => ⟨(G_change A a0 a1).1, (G_change A a0 a1).2, go_change hA a0 a1, cg_change hn hA a0 a1, mg_change hn hA a0 a1⟩)
theorem pr13 : ∀ (a0 : Int32), PairOK Inv ax_cd133 ax_cd283 [.int a0] := fun a0 => pair_AB (fun n A hn hA => ⟨(G_hours A a0).1, (G_hours A a0).2, go_hours hn hA a0, cg_hours hn hA a0, mg_hours hn hA a0⟩)
theorem pr14 : PairOK Inv ax_cd143 ax_cd291 [] := pair_AB (fun n A hn hA => ⟨(G_undo A).1, (G_undo A).2, go_undo hA, cg_undo hn hA, mg_undo hn hA⟩)
theorem pr37 : PairOK Inv ax_cd194 ax_cd325 [] := pair_AB (fun n A hn hA => ⟨(G_forget A).1, (G_forget A).2, go_forget hA, cg_forget hn hA, mg_forget hn hA⟩)
theorem pr40 : ∀ (a0 : Int32), PairOK Inv ax_cd202 ax_cd331 [.int a0] := fun a0 => pair_AB (fun n A hn hA => ⟨(G_hold A a0).1, (G_hold A a0).2, go_hold hA a0, cg_hold hn hA a0, mg_hold hn hA a0⟩)
theorem pr41 : ∀ (a0 : Int32), PairOK Inv ax_cd204 ax_cd332 [.int a0] := fun a0 => pair_AB (fun n A hn hA => ⟨(G_restore A a0).1, (G_restore A a0).2, go_restore hA a0, cg_restore hn hA a0, mg_restore hn hA a0⟩)
theorem pr12 : ∀ (a0 a1 : Int32), (a1 = 0 ∨ a1 = 1) → PairOK Inv ax_cd131 ax_cd282 [.int a0, .int a1] := by
  intro a0 a1 h
  rcases h with rfl | rfl
  · exact pair_AB (fun n A hn hA => ⟨(G_keep A a0 0).1, (G_keep A a0 0).2, go_keep hA a0 0, cg_keep0 hn hA a0, mg_keep0 hn hA a0⟩)
  · exact pair_AB (fun n A hn hA => ⟨(G_keep A a0 1).1, (G_keep A a0 1).2, go_keep hA a0 1, cg_keep1 hn hA a0, mg_keep1 hn hA a0⟩)

theorem pr36 : ∀ (a0 a1 a2 a3 : Int32), (a3 = 0 ∨ a3 = 1) → PairOK Inv ax_cd191 ax_cd324 [.int a0, .int a1, .int a2, .int a3] := by
  intro a0 a1 a2 a3 h
  rcases h with rfl | rfl
  · exact pair_AB (fun n A hn hA => ⟨(G_tell A a0 a1 a2 0).1, (G_tell A a0 a1 a2 0).2, go_tell hA a0 a1 a2 (by decide), cg_tell0 hn hA a0 a1 a2, mg_tell0 hn hA a0 a1 a2⟩)
  · exact pair_AB (fun n A hn hA => ⟨(G_tell A a0 a1 a2 1).1, (G_tell A a0 a1 a2 1).2, go_tell hA a0 a1 a2 (by decide), cg_tell1 hn hA a0 a1 a2, mg_tell1 hn hA a0 a1 a2⟩)

