theorem ck_who {n : Nat} {A : Sy} (hn : n < 512) (hA : Aok n A) (a0 a1 : Int32) : COk ax_cd196 [.int a0, .int a1] A A (F_who A a0 a1) := by
  intro xs d σ Q hI K
  obtain ⟨hPok, ⟨hok, hhr72, hzq, hsum⟩, hAH, hAZ, hAn, hAh, hTok, hAl⟩ := hA
  have hP' := hPok
  obtain ⟨hP1, hP2, hP3, hP4, hP5, hP6, hP7, hP8, hPv, hPm, hPo, hPw, hPl⟩ := hP'
  have hok' := hok
  obtain ⟨hot, hoh, hosc, hokp⟩ := hok'
  have hI0 := hI
  obtain ⟨hC, hS, ⟨ST, hT⟩, hD, hR⟩ := hI0
  have hR0 := hR
  obtain ⟨hH, ⟨nx, hy⟩, hZ, ⟨ft, hf1, hf2, hf3⟩, ⟨⟨r0, r1, r2, r3, r4, hrd1⟩, hrd2, hrd3⟩⟩ := hR0
  have hTn := hTok.1
  show Wq xs (d + 12) ax_cd196 0 [(0, .ref 0), (1, .int a0), (2, .int a1)] [] σ Q
  rcases pk_ix a0 (n := Tn (AT A) + 1) (by omega) with hk | hk | ⟨k, lk, qk⟩
  · have ek : dec (Tn (AT A) + 1) a0 = none := dec_none (fun h hh e => by subst e; exact nI_pos (by omega) hk)
    refine wq_go rfl (fun _ => rfl) ?_
    refine wq_if rfl (fun c1 => ?_) (fun c => absurd (c.symm.trans (decide_eq_true hk)) (by decide))
    refine wq_go rfl (fun _ => rfl) ?_
    refine wq_iret rfl ?_
    exact ansQ (K _ (hi_refl _) hI) (by simp only [F_who, ek, od_s, od_n, od_c] <;> first | rfl | simp [od_c])
  · have ek : dec (Tn (AT A) + 1) a0 = none := dec_none (fun h hh e => by subst e; exact nI_ge hh (by omega) hk)
    refine wq_go rfl (fun _ => rfl) ?_
    refine wq_if rfl (fun c => absurd (c.symm.trans (decide_eq_false (fun e => by have h1 := Int32.lt_of_le_of_lt hk e; exact nI_pos (by omega) h1))) (by decide)) (fun c1 => ?_)
    refine wq_go rfl (fun _ => rfl) ?_
    refine wq_go rfl (fun _ => rfl) ?_
    refine wq_getf rfl (by first | rfl | assumption) (by first | decide | omega | assumption) (cw_c0 hC) rfl ?_
    refine wq_callV rfl rfl (by first | rfl | assumption) (by first | decide | omega | assumption) (Nat.le_of_ble_eq_true rfl) (Nat.le_of_ble_eq_true rfl) rfl rfl ?_
    refine c_Hearsay_size hH ?_
    refine wq_cmp rfl (fun c6 => ?_) (fun c => absurd (c.symm.trans (decide_eq_true (Int32.lt_of_lt_of_le (nI_lt (by omega) (by omega)) hk))) (by decide))
    refine wq_go rfl (fun _ => rfl) ?_
    refine wq_iret rfl ?_
    exact ansQ (K _ (hi_refl _) hI) (by simp only [F_who, ek, od_s, od_n, od_c] <;> first | rfl | simp [od_c])
  · subst qk
    have ek : dec (Tn (AT A) + 1) (nI k) = some k := dec_some lk (by omega)
    refine wq_go rfl (fun _ => rfl) ?_
    refine wq_zlt rfl (by first | omega | decide | exact Nat.lt_of_le_of_lt Nat.and_le_right (by decide) | exact ⟨by omega, by omega⟩) (fun c => absurd c (by omega)) (fun c1 => ?_)
    refine wq_go rfl (fun _ => rfl) ?_
    refine wq_go rfl (fun _ => rfl) ?_
    refine wq_getf rfl (by first | rfl | assumption) (by first | decide | omega | assumption) (cw_c0 hC) rfl ?_
    refine wq_callV rfl rfl (by first | rfl | assumption) (by first | decide | omega | assumption) (Nat.le_of_ble_eq_true rfl) (Nat.le_of_ble_eq_true rfl) rfl rfl ?_
    refine c_Hearsay_size hH ?_
    refine wq_cgt rfl (by first | omega | decide | exact Nat.lt_of_le_of_lt Nat.and_le_right (by decide) | exact ⟨by omega, by omega⟩) (by first | omega | decide | exact Nat.lt_of_le_of_lt Nat.and_le_right (by decide) | exact ⟨by omega, by omega⟩) (fun c => absurd c (by omega)) (fun c6 => ?_)
    rcases dec_cases (n := 2) (by decide) a1 with ⟨ew, hw⟩ | ⟨w, lw, qw, ew⟩
    · skip
      refine wq_go rfl (fun _ => rfl) ?_
      refine wq_if rfl (fun c => absurd (c.symm.trans (decide_eq_false (fun e => hw 0 (by decide) e))) (by decide)) (fun c8 => ?_)
      refine wq_go rfl (fun _ => rfl) ?_
      refine wq_cN (m := 1) rfl rfl ?_
      refine wq_cmp rfl (fun c => absurd (c.symm.trans (decide_eq_false (fun e => hw 1 (by decide) e))) (by decide)) (fun c11 => ?_)
      refine wq_go rfl (fun _ => rfl) ?_
      refine wq_iret rfl ?_
      exact ansQ (K _ (hi_refl _) hI) (by simp only [F_who, ek, ew, od_s, od_n, od_c] <;> first | rfl | simp [od_c])
    · subst qw
      have ow : w = 0 ∨ w = 1 := by omega
      rcases ow with rfl | rfl
      · skip
        refine wq_go rfl (fun _ => rfl) ?_
        refine wq_zeq rfl (by first | omega | decide | exact Nat.lt_of_le_of_lt Nat.and_le_right (by decide) | exact ⟨by omega, by omega⟩) (fun c8 => ?_) (fun c => absurd (show _ from by omega) c)
        refine wq_go rfl (fun _ => rfl) ?_
        refine wq_getf rfl (by first | rfl | assumption) (by first | decide | omega | assumption) (cw_c0 hC) rfl ?_
        refine wq_go rfl (fun _ => rfl) ?_
        refine wq_callV rfl rfl (by first | rfl | assumption) (by first | decide | omega | assumption) (Nat.le_of_ble_eq_true rfl) (Nat.le_of_ble_eq_true rfl) rfl rfl ?_
        refine c_Hearsay_headsLeft hS hC hok hH hTok (by omega) (fun σ8 F8 C8 => ?_)
        have S8 := st_sc k35 F8 hS
        have H8 := hs_sc hH F8
        refine wq_go rfl (fun _ => rfl) ?_
        refine wq_go rfl (fun _ => rfl) ?_
        refine wq_zne rfl (by first | omega | decide | exact Nat.lt_of_le_of_lt Nat.and_le_right (by decide) | exact ⟨by omega, by omega⟩) (fun c => absurd c (by omega)) (fun c20 => ?_)
        refine wq_go rfl (fun _ => rfl) ?_
        refine wq_callS rfl (Nat.le_of_ble_eq_true rfl) rfl (Nat.le_of_ble_eq_true rfl) (Nat.le_of_ble_eq_true rfl) rfl rfl ?_
        refine c_Integer_bitCount (bset_32 _ hP2) ?_
        refine wq_go rfl (fun _ => rfl) ?_
        refine wq_iret rfl ?_
        exact ansQ (K _ (hi_scr scr_sc F8) (ci_sc hI F8 C8)) (by simp only [F_who, ek, ew, od_s, od_n, od_c] <;> first | rfl | simp [od_c])
      · skip
        refine wq_go rfl (fun _ => rfl) ?_
        refine wq_zeq rfl (by first | omega | decide | exact Nat.lt_of_le_of_lt Nat.and_le_right (by decide) | exact ⟨by omega, by omega⟩) (fun c => absurd c (by omega)) (fun c8 => ?_)
        refine wq_go rfl (fun _ => rfl) ?_
        refine wq_cN (m := 1) rfl rfl ?_
        refine wq_ceq rfl (by first | omega | decide | exact Nat.lt_of_le_of_lt Nat.and_le_right (by decide) | exact ⟨by omega, by omega⟩) (by first | omega | decide | exact Nat.lt_of_le_of_lt Nat.and_le_right (by decide) | exact ⟨by omega, by omega⟩) (fun c11 => ?_) (fun c => absurd (show _ from by omega) c)
        refine wq_go rfl (fun _ => rfl) ?_
        refine wq_getf rfl (by first | rfl | assumption) (by first | decide | omega | assumption) (cw_c0 hC) rfl ?_
        refine wq_go rfl (fun _ => rfl) ?_
        refine wq_callV rfl rfl (by first | rfl | assumption) (by first | decide | omega | assumption) (Nat.le_of_ble_eq_true rfl) (Nat.le_of_ble_eq_true rfl) rfl rfl ?_
        refine c_Hearsay_headsLeft hS hC hok hH hTok (by omega) (fun σ10 F10 C10 => ?_)
        have S10 := st_sc k35 F10 hS
        have H10 := hs_sc hH F10
        refine wq_go rfl (fun _ => rfl) ?_
        refine wq_go rfl (fun _ => rfl) ?_
        refine wq_zne rfl (by first | omega | decide | exact Nat.lt_of_le_of_lt Nat.and_le_right (by decide) | exact ⟨by omega, by omega⟩) (fun c20 => ?_) (fun c => absurd (show _ from by omega) c)
        refine wq_go rfl (fun _ => rfl) ?_
        refine wq_iret rfl ?_
        exact ansQ (K _ (hi_scr scr_sc F10) (ci_sc hI F10 C10)) (by simp only [F_who, ek, ew, od_s, od_n, od_c] <;> first | rfl | simp [od_c])
theorem ck_look {n : Nat} {A : Sy} (hn : n < 512) (hA : Aok n A) (a0 a1 : Int32) : COk ax_cd200 [.int a0, .int a1] A A (F_look A a0 a1) := by
  intro xs d σ Q hI K
  obtain ⟨hPok, ⟨hok, hhr72, hzq, hsum⟩, hAH, hAZ, hAn, hAh, hTok, hAl⟩ := hA
  have hP' := hPok
  obtain ⟨hP1, hP2, hP3, hP4, hP5, hP6, hP7, hP8, hPv, hPm, hPo, hPw, hPl⟩ := hP'
  have hok' := hok
  obtain ⟨hot, hoh, hosc, hokp⟩ := hok'
  have hI0 := hI
  obtain ⟨hC, hS, ⟨ST, hT⟩, hD, hR⟩ := hI0
  have hR0 := hR
  obtain ⟨hH, ⟨nx, hy⟩, hZ, ⟨ft, hf1, hf2, hf3⟩, ⟨⟨r0, r1, r2, r3, r4, hrd1⟩, hrd2, hrd3⟩⟩ := hR0
  have hTn := hTok.1
  show Wq xs (d + 12) ax_cd200 0 [(0, .ref 0), (1, .int a0), (2, .int a1)] [] σ Q
  rcases pk_ix a0 (n := Tn (AT A) + 1) (by omega) with hk | hk | ⟨k, lk, qk⟩
  · have ek : dec (Tn (AT A) + 1) a0 = none := dec_none (fun h hh e => by subst e; exact nI_pos (by omega) hk)
    refine wq_go rfl (fun _ => rfl) ?_
    refine wq_if rfl (fun c1 => ?_) (fun c => absurd (c.symm.trans (decide_eq_true hk)) (by decide))
    refine wq_go rfl (fun _ => rfl) ?_
    refine wq_iret rfl ?_
    exact ansQ (K _ (hi_refl _) hI) (by simp only [F_look, ek, od_s, od_n, od_c] <;> first | rfl | simp [od_c])
  · have ek : dec (Tn (AT A) + 1) a0 = none := dec_none (fun h hh e => by subst e; exact nI_ge hh (by omega) hk)
    refine wq_go rfl (fun _ => rfl) ?_
    refine wq_if rfl (fun c => absurd (c.symm.trans (decide_eq_false (fun e => by have h1 := Int32.lt_of_le_of_lt hk e; exact nI_pos (by omega) h1))) (by decide)) (fun c1 => ?_)
    refine wq_go rfl (fun _ => rfl) ?_
    refine wq_go rfl (fun _ => rfl) ?_
    refine wq_getf rfl (by first | rfl | assumption) (by first | decide | omega | assumption) (cw_c0 hC) rfl ?_
    refine wq_callV rfl rfl (by first | rfl | assumption) (by first | decide | omega | assumption) (Nat.le_of_ble_eq_true rfl) (Nat.le_of_ble_eq_true rfl) rfl rfl ?_
    refine c_Hearsay_size hH ?_
    refine wq_cmp rfl (fun c6 => ?_) (fun c => absurd (c.symm.trans (decide_eq_true (Int32.lt_of_lt_of_le (nI_lt (by omega) (by omega)) hk))) (by decide))
    refine wq_go rfl (fun _ => rfl) ?_
    refine wq_iret rfl ?_
    exact ansQ (K _ (hi_refl _) hI) (by simp only [F_look, ek, od_s, od_n, od_c] <;> first | rfl | simp [od_c])
  · subst qk
    have ek : dec (Tn (AT A) + 1) (nI k) = some k := dec_some lk (by omega)
    refine wq_go rfl (fun _ => rfl) ?_
    refine wq_zlt rfl (by first | omega | decide | exact Nat.lt_of_le_of_lt Nat.and_le_right (by decide) | exact ⟨by omega, by omega⟩) (fun c => absurd c (by omega)) (fun c1 => ?_)
    refine wq_go rfl (fun _ => rfl) ?_
    refine wq_go rfl (fun _ => rfl) ?_
    refine wq_getf rfl (by first | rfl | assumption) (by first | decide | omega | assumption) (cw_c0 hC) rfl ?_
    refine wq_callV rfl rfl (by first | rfl | assumption) (by first | decide | omega | assumption) (Nat.le_of_ble_eq_true rfl) (Nat.le_of_ble_eq_true rfl) rfl rfl ?_
    refine c_Hearsay_size hH ?_
    refine wq_cgt rfl (by first | omega | decide | exact Nat.lt_of_le_of_lt Nat.and_le_right (by decide) | exact ⟨by omega, by omega⟩) (by first | omega | decide | exact Nat.lt_of_le_of_lt Nat.and_le_right (by decide) | exact ⟨by omega, by omega⟩) (fun c => absurd c (by omega)) (fun c6 => ?_)
    refine wq_go rfl (fun _ => rfl) ?_
    refine wq_callS rfl (Nat.le_of_ble_eq_true rfl) rfl (Nat.le_of_ble_eq_true rfl) (Nat.le_of_ble_eq_true rfl) rfl rfl ?_
    refine c_isAmountD  (fun w lw qw ew => ?_) (fun ew => ?_)
    · subst qw
      refine wq_zne rfl (by first | omega | decide | exact Nat.lt_of_le_of_lt Nat.and_le_right (by decide) | exact ⟨by omega, by omega⟩) (fun c9 => ?_) (fun c => absurd (show _ from by omega) c)
      refine wq_go rfl (fun _ => rfl) ?_
      refine wq_getf rfl (by first | rfl | assumption) (by first | decide | omega | assumption) (cw_c0 hC) rfl ?_
      refine wq_go rfl (fun _ => rfl) ?_
      refine wq_go rfl (fun _ => rfl) ?_
      refine wq_callV rfl rfl (by first | rfl | assumption) (by first | decide | omega | assumption) (Nat.le_of_ble_eq_true rfl) (Nat.le_of_ble_eq_true rfl) rfl rfl ?_
      refine c_Hearsay_bestQuestion hS hC hok hH hTok (by omega) (by omega) (fun σ9 F9 C9 => ?_)
      have S9 := st_sc k35 F9 hS
      have H9 := hs_sc hH F9
      refine wq_iret rfl ?_
      exact ansQ (K _ (hi_scr scr_sc F9) (ci_sc hI F9 C9)) (by simp only [F_look, ek, ew, od_s, od_n, od_c] <;> first | rfl | simp [od_c])
    · skip
      refine wq_zne rfl (by first | omega | decide | exact Nat.lt_of_le_of_lt Nat.and_le_right (by decide) | exact ⟨by omega, by omega⟩) (fun c => absurd c (by omega)) (fun c9 => ?_)
      refine wq_go rfl (fun _ => rfl) ?_
      refine wq_iret rfl ?_
      exact ansQ (K _ (hi_refl _) hI) (by simp only [F_look, ek, ew, od_s, od_n, od_c] <;> first | rfl | simp [od_c])
theorem c_Tape_length {xs : List Int32} {d : Nat} {σ : Nat → List Value} {Q : Option Value → (Nat → List Value) → Prop} {l : Nat} (h1 : σ 1 = [.ref 2, .int (nI l)]) (K : Q (some (.int (nI l))) σ) : Wq xs (d + 0) ax_cd27 0 [(0, .ref 1)] [] σ Q := by
  refine wq_go rfl (fun _ => rfl) ?_
  refine wq_getf rfl (by first | rfl | assumption) (by first | decide | omega | assumption) h1 rfl ?_
  refine wq_iret rfl ?_
  exact K
theorem c_cs3 {xs : List Int32} {d : Nat} {σ : Nat → List Value} {Q : Option Value → (Nat → List Value) → Prop} {A : Sy} (hPok : Pok (AP A)) (hok : Sok (AS A)) (hC : CW (AP A) σ) (hS : StIs σ 35 (AS A)) (K : Q (some (.int (nI (Shr (AS A))))) σ) : Wq xs (d + 3) ax_cd210 0 [(0, .ref 0), (1, .int (nI 3))] [] σ Q := by
  have hP' := hPok
  obtain ⟨hP1, hP2, hP3, hP4, hP5, hP6, hP7, hP8, hPv, hPm, hPo, hPw, hPl⟩ := hP'
  have hok' := hok
  obtain ⟨hot, hoh, hosc, hokp⟩ := hok'
  refine wq_go rfl (fun _ => rfl) ?_
  refine wq_swN rfl rfl (by decide) rfl ?_
  refine wq_go rfl (fun _ => rfl) ?_
  refine wq_getf rfl (by first | rfl | assumption) (by first | decide | omega | assumption) (cw_c0 hC) rfl ?_
  refine wq_getf rfl (by first | rfl | assumption) (by first | decide | omega | assumption) hS.1 rfl ?_
  refine wq_iret rfl ?_
  exact K
theorem c_cs4 {xs : List Int32} {d : Nat} {σ : Nat → List Value} {Q : Option Value → (Nat → List Value) → Prop} {A : Sy} (hPok : Pok (AP A)) (hok : Sok (AS A)) (hC : CW (AP A) σ) (hS : StIs σ 35 (AS A)) (K : Q (some (.int (nI (Shr (AS A) % 24)))) σ) : Wq xs (d + 3) ax_cd210 0 [(0, .ref 0), (1, .int (nI 4))] [] σ Q := by
  have hP' := hPok
  obtain ⟨hP1, hP2, hP3, hP4, hP5, hP6, hP7, hP8, hPv, hPm, hPo, hPw, hPl⟩ := hP'
  have hok' := hok
  obtain ⟨hot, hoh, hosc, hokp⟩ := hok'
  refine wq_go rfl (fun _ => rfl) ?_
  refine wq_swN rfl rfl (by decide) rfl ?_
  refine wq_go rfl (fun _ => rfl) ?_
  refine wq_getf rfl (by first | rfl | assumption) (by first | decide | omega | assumption) (cw_c0 hC) rfl ?_
  refine wq_callV rfl rfl (by first | rfl | assumption) (by first | decide | omega | assumption) (Nat.le_of_ble_eq_true rfl) (Nat.le_of_ble_eq_true rfl) rfl rfl ?_
  refine c_State_hourOfDay k35 hS (by omega) ?_
  refine wq_iret rfl ?_
  exact K
theorem c_cs5 {xs : List Int32} {d : Nat} {σ : Nat → List Value} {Q : Option Value → (Nat → List Value) → Prop} {A : Sy} (hPok : Pok (AP A)) (hok : Sok (AS A)) (hC : CW (AP A) σ) (hS : StIs σ 35 (AS A)) (K : Q (some (.int (nI (Ssd (AS A))))) σ) : Wq xs (d + 3) ax_cd210 0 [(0, .ref 0), (1, .int (nI 5))] [] σ Q := by
  have hP' := hPok
  obtain ⟨hP1, hP2, hP3, hP4, hP5, hP6, hP7, hP8, hPv, hPm, hPo, hPw, hPl⟩ := hP'
  have hok' := hok
  obtain ⟨hot, hoh, hosc, hokp⟩ := hok'
  refine wq_go rfl (fun _ => rfl) ?_
  refine wq_swN rfl rfl (by decide) rfl ?_
  refine wq_go rfl (fun _ => rfl) ?_
  refine wq_getf rfl (by first | rfl | assumption) (by first | decide | omega | assumption) (cw_c0 hC) rfl ?_
  refine wq_getf rfl (by first | rfl | assumption) (by first | decide | omega | assumption) hS.1 rfl ?_
  refine wq_iret rfl ?_
  exact K
theorem c_cs6 {xs : List Int32} {d : Nat} {σ : Nat → List Value} {Q : Option Value → (Nat → List Value) → Prop} {A : Sy} (hPok : Pok (AP A)) (hok : Sok (AS A)) (hC : CW (AP A) σ) (hS : StIs σ 35 (AS A)) (K : Q (some (.int (nI (sumF (fun c => s4 (Ssq (AS A)) (c * 4)) 4 + sumF (fun h => s4 (Sow (AS A)) (h * 4)) 5)))) σ) : Wq xs (d + 3) ax_cd210 0 [(0, .ref 0), (1, .int (nI 6))] [] σ Q := by
  have hP' := hPok
  obtain ⟨hP1, hP2, hP3, hP4, hP5, hP6, hP7, hP8, hPv, hPm, hPo, hPw, hPl⟩ := hP'
  have hok' := hok
  obtain ⟨hot, hoh, hosc, hokp⟩ := hok'
  refine wq_go rfl (fun _ => rfl) ?_
  refine wq_swN rfl rfl (by decide) rfl ?_
  refine wq_go rfl (fun _ => rfl) ?_
  refine wq_getf rfl (by first | rfl | assumption) (by first | decide | omega | assumption) (cw_c0 hC) rfl ?_
  refine wq_callV rfl rfl (by first | rfl | assumption) (by first | decide | omega | assumption) (Nat.le_of_ble_eq_true rfl) (Nat.le_of_ble_eq_true rfl) rfl rfl ?_
  refine c_State_everything k35 hS ?_
  refine wq_iret rfl ?_
  exact K
theorem c_cs7 {xs : List Int32} {d : Nat} {σ : Nat → List Value} {Q : Option Value → (Nat → List Value) → Prop} {A : Sy} (hPok : Pok (AP A)) (hok : Sok (AS A)) (hC : CW (AP A) σ) (hS : StIs σ 35 (AS A)) (K : Q (some (.int (nI (Ssc (AS A))))) σ) : Wq xs (d + 3) ax_cd210 0 [(0, .ref 0), (1, .int (nI 7))] [] σ Q := by
  have hP' := hPok
  obtain ⟨hP1, hP2, hP3, hP4, hP5, hP6, hP7, hP8, hPv, hPm, hPo, hPw, hPl⟩ := hP'
  have hok' := hok
  obtain ⟨hot, hoh, hosc, hokp⟩ := hok'
  refine wq_go rfl (fun _ => rfl) ?_
  refine wq_swN rfl rfl (by decide) rfl ?_
  refine wq_go rfl (fun _ => rfl) ?_
  refine wq_getf rfl (by first | rfl | assumption) (by first | decide | omega | assumption) (cw_c0 hC) rfl ?_
  refine wq_getf rfl (by first | rfl | assumption) (by first | decide | omega | assumption) hS.1 rfl ?_
  refine wq_iret rfl ?_
  exact K
theorem c_cs13 {xs : List Int32} {d : Nat} {σ : Nat → List Value} {Q : Option Value → (Nat → List Value) → Prop} {A : Sy} (hPok : Pok (AP A)) (hok : Sok (AS A)) (hC : CW (AP A) σ) (hS : StIs σ 35 (AS A)) (K : Q (some (.int (nI (orF (fun t => bset (fun h => says1 (AS A) (Psa (AP A)) h t) (Phd (AP A))) 4)))) σ) : Wq xs (d + 3) ax_cd210 0 [(0, .ref 0), (1, .int (nI 13))] [] σ Q := by
  have hP' := hPok
  obtain ⟨hP1, hP2, hP3, hP4, hP5, hP6, hP7, hP8, hPv, hPm, hPo, hPw, hPl⟩ := hP'
  have hok' := hok
  obtain ⟨hot, hoh, hosc, hokp⟩ := hok'
  refine wq_go rfl (fun _ => rfl) ?_
  refine wq_swN rfl rfl (by decide) rfl ?_
  refine wq_go rfl (fun _ => rfl) ?_
  refine wq_getf rfl (by first | rfl | assumption) (by first | decide | omega | assumption) (cw_c0 hC) rfl ?_
  refine wq_go rfl (fun _ => rfl) ?_
  refine wq_getf rfl (by first | rfl | assumption) (by first | decide | omega | assumption) (cw_c0 hC) rfl ?_
  refine wq_getf rfl (by first | rfl | assumption) (by first | decide | omega | assumption) (cw_c21 hC) rfl ?_
  refine wq_go rfl (fun _ => rfl) ?_
  refine wq_getf rfl (by first | rfl | assumption) (by first | decide | omega | assumption) (cw_c0 hC) rfl ?_
  refine wq_getf rfl (by first | rfl | assumption) (by first | decide | omega | assumption) (cw_c21 hC) rfl ?_
  refine wq_callV rfl rfl (by first | rfl | assumption) (by first | decide | omega | assumption) (Nat.le_of_ble_eq_true rfl) (Nat.le_of_ble_eq_true rfl) rfl rfl ?_
  refine c_State_sayers k35 hS hok (by omega) (by omega) ?_
  refine wq_iret rfl ?_
  exact K
theorem c_cs14 {xs : List Int32} {d : Nat} {σ : Nat → List Value} {Q : Option Value → (Nat → List Value) → Prop} {A : Sy} (hPok : Pok (AP A)) (hok : Sok (AS A)) (hC : CW (AP A) σ) (hS : StIs σ 35 (AS A)) (K : Q (some (.int (nI (Skp (AS A))))) σ) : Wq xs (d + 3) ax_cd210 0 [(0, .ref 0), (1, .int (nI 14))] [] σ Q := by
  have hP' := hPok
  obtain ⟨hP1, hP2, hP3, hP4, hP5, hP6, hP7, hP8, hPv, hPm, hPo, hPw, hPl⟩ := hP'
  have hok' := hok
  obtain ⟨hot, hoh, hosc, hokp⟩ := hok'
  refine wq_go rfl (fun _ => rfl) ?_
  refine wq_swN rfl rfl (by decide) rfl ?_
  refine wq_go rfl (fun _ => rfl) ?_
  refine wq_getf rfl (by first | rfl | assumption) (by first | decide | omega | assumption) (cw_c0 hC) rfl ?_
  refine wq_getf rfl (by first | rfl | assumption) (by first | decide | omega | assumption) hS.1 rfl ?_
  refine wq_iret rfl ?_
  exact K
theorem c_cs15 {xs : List Int32} {d : Nat} {σ : Nat → List Value} {Q : Option Value → (Nat → List Value) → Prop} {A : Sy} (hPok : Pok (AP A)) (hok : Sok (AS A)) (hC : CW (AP A) σ) (hS : StIs σ 35 (AS A)) (K : Q (some (.int (nI (bset (fun c => decide (s4 (Ssq (AS A)) (c * 4) = 0)) (Pch (AP A)))))) σ) : Wq xs (d + 3) ax_cd210 0 [(0, .ref 0), (1, .int (nI 15))] [] σ Q := by
  have hP' := hPok
  obtain ⟨hP1, hP2, hP3, hP4, hP5, hP6, hP7, hP8, hPv, hPm, hPo, hPw, hPl⟩ := hP'
  have hok' := hok
  obtain ⟨hot, hoh, hosc, hokp⟩ := hok'
  refine wq_go rfl (fun _ => rfl) ?_
  refine wq_swN rfl rfl (by decide) rfl ?_
  refine wq_go rfl (fun _ => rfl) ?_
  refine wq_getf rfl (by first | rfl | assumption) (by first | decide | omega | assumption) (cw_c0 hC) rfl ?_
  refine wq_go rfl (fun _ => rfl) ?_
  refine wq_getf rfl (by first | rfl | assumption) (by first | decide | omega | assumption) (cw_c0 hC) rfl ?_
  refine wq_getf rfl (by first | rfl | assumption) (by first | decide | omega | assumption) (cw_c21 hC) rfl ?_
  refine wq_callV rfl rfl (by first | rfl | assumption) (by first | decide | omega | assumption) (Nat.le_of_ble_eq_true rfl) (Nat.le_of_ble_eq_true rfl) rfl rfl ?_
  refine c_State_emptySquares k35 hS hok (by omega) ?_
  refine wq_iret rfl ?_
  exact K
theorem c_cs16 {xs : List Int32} {d : Nat} {σ : Nat → List Value} {Q : Option Value → (Nat → List Value) → Prop} {A : Sy} (hPok : Pok (AP A)) (hok : Sok (AS A)) (hC : CW (AP A) σ) (hS : StIs σ 35 (AS A)) (K : Q (some (.int (nI (sumF (Ssb (AS A)) 5)))) σ) : Wq xs (d + 3) ax_cd210 0 [(0, .ref 0), (1, .int (nI 16))] [] σ Q := by
  have hP' := hPok
  obtain ⟨hP1, hP2, hP3, hP4, hP5, hP6, hP7, hP8, hPv, hPm, hPo, hPw, hPl⟩ := hP'
  have hok' := hok
  obtain ⟨hot, hoh, hosc, hokp⟩ := hok'
  refine wq_go rfl (fun _ => rfl) ?_
  refine wq_swN rfl rfl (by decide) rfl ?_
  refine wq_go rfl (fun _ => rfl) ?_
  refine wq_getf rfl (by first | rfl | assumption) (by first | decide | omega | assumption) (cw_c0 hC) rfl ?_
  refine wq_callV rfl rfl (by first | rfl | assumption) (by first | decide | omega | assumption) (Nat.le_of_ble_eq_true rfl) (Nat.le_of_ble_eq_true rfl) rfl rfl ?_
  refine c_State_satEver k35 hS ?_
  refine wq_iret rfl ?_
  exact K
theorem c_cs17 {xs : List Int32} {d : Nat} {σ : Nat → List Value} {Q : Option Value → (Nat → List Value) → Prop} {A : Sy} (hPok : Pok (AP A)) (hok : Sok (AS A)) (hC : CW (AP A) σ) (hS : StIs σ 35 (AS A)) (K : Q (some (.int (nI (orF (fun i => if 0 < Ssq (AS A) i then 2 ^ (i % 4) else 0) 16)))) σ) : Wq xs (d + 3) ax_cd210 0 [(0, .ref 0), (1, .int (nI 17))] [] σ Q := by
  have hP' := hPok
  obtain ⟨hP1, hP2, hP3, hP4, hP5, hP6, hP7, hP8, hPv, hPm, hPo, hPw, hPl⟩ := hP'
  have hok' := hok
  obtain ⟨hot, hoh, hosc, hokp⟩ := hok'
  refine wq_go rfl (fun _ => rfl) ?_
  refine wq_swN rfl rfl (by decide) rfl ?_
  refine wq_go rfl (fun _ => rfl) ?_
  refine wq_getf rfl (by first | rfl | assumption) (by first | decide | omega | assumption) (cw_c0 hC) rfl ?_
  refine wq_callV rfl rfl (by first | rfl | assumption) (by first | decide | omega | assumption) (Nat.le_of_ble_eq_true rfl) (Nat.le_of_ble_eq_true rfl) rfl rfl ?_
  refine c_State_thoughtsInSquares k35 hS hok ?_
  refine wq_iret rfl ?_
  exact K
theorem c_csD {xs : List Int32} {d : Nat} {σ : Nat → List Value} {Q : Option Value → (Nat → List Value) → Prop} {x : Int32} (hx : ∀ h, h < 19 → x ≠ nI h) (K : Q (some (.int (-1))) σ) : Wq xs (d + 3) ax_cd210 0 [(0, .ref 0), (1, .int x)] [] σ Q := by
  refine wq_go rfl (fun _ => rfl) ?_
  refine wq_swD 19 rfl (by decide) (by decide) hx ?_
  refine wq_go rfl (fun _ => rfl) ?_
  refine wq_iret rfl ?_
  exact K
theorem ck_count {n : Nat} {A : Sy} (hn : n < 512) (hA : Aok n A) (a0 : Int32) : COk ax_cd206 [.int a0] A A (F_count A a0) := by
  intro xs d σ Q hI K
  obtain ⟨hPok, ⟨hok, hhr72, hzq, hsum⟩, hAH, hAZ, hAn, hAh, hTok, hAl⟩ := hA
  have hP' := hPok
  obtain ⟨hP1, hP2, hP3, hP4, hP5, hP6, hP7, hP8, hPv, hPm, hPo, hPw, hPl⟩ := hP'
  have hok' := hok
  obtain ⟨hot, hoh, hosc, hokp⟩ := hok'
  have hI0 := hI
  obtain ⟨hC, hS, ⟨ST, hT⟩, hD, hR⟩ := hI0
  have hR0 := hR
  obtain ⟨hH, ⟨nx, hy⟩, hZ, ⟨ft, hf1, hf2, hf3⟩, ⟨⟨r0, r1, r2, r3, r4, hrd1⟩, hrd2, hrd3⟩⟩ := hR0
  show Wq xs (d + 12) ax_cd206 0 [(0, .ref 0), (1, .int a0)] [] σ Q
  refine wq_go rfl (fun _ => rfl) ?_
  rcases dec_cases (n := 19) (by decide) a0 with ⟨ew, hw⟩ | ⟨w, lw, qw, ew⟩
  · refine wq_swD 19 rfl (by decide) (by decide) hw ?_
    refine wq_go rfl (fun _ => rfl) ?_
    refine wq_go rfl (fun _ => rfl) ?_
    refine wq_callV rfl rfl (by first | rfl | assumption) (by first | decide | omega | assumption) (Nat.le_of_ble_eq_true rfl) (Nat.le_of_ble_eq_true rfl) rfl rfl ?_
    refine c_csD hw ?_
    refine wq_iret rfl ?_
    exact ansQ (K _ (hi_refl _) hI) (by simp [F_count, ew, od_s, od_n])
  · subst qw
    have ow : w = 0 ∨ w = 1 ∨ w = 2 ∨ w = 3 ∨ w = 4 ∨ w = 5 ∨ w = 6 ∨ w = 7 ∨ w = 8 ∨ w = 9 ∨ w = 10 ∨ w = 11 ∨ w = 12 ∨ w = 13 ∨ w = 14 ∨ w = 15 ∨ w = 16 ∨ w = 17 ∨ w = 18 := by omega
    rcases ow with rfl | rfl | rfl | rfl | rfl | rfl | rfl | rfl | rfl | rfl | rfl | rfl | rfl | rfl | rfl | rfl | rfl | rfl | rfl
    · refine wq_swN rfl rfl (by decide) rfl ?_
      refine wq_go rfl (fun _ => rfl) ?_
      refine wq_getf rfl (by first | rfl | assumption) (by first | decide | omega | assumption) (cw_c0 hC) rfl ?_
      refine wq_getf rfl (by first | rfl | assumption) (by first | decide | omega | assumption) (cw_c21 hC) rfl ?_
      refine wq_iret rfl ?_
      exact ansQ (K _ (hi_refl _) hI) (by simp [F_count, ew, od_s, od_n])
    · refine wq_swN rfl rfl (by decide) rfl ?_
      refine wq_go rfl (fun _ => rfl) ?_
      refine wq_getf rfl (by first | rfl | assumption) (by first | decide | omega | assumption) (cw_c0 hC) rfl ?_
      refine wq_getf rfl (by first | rfl | assumption) (by first | decide | omega | assumption) (cw_c21 hC) rfl ?_
      refine wq_iret rfl ?_
      exact ansQ (K _ (hi_refl _) hI) (by simp [F_count, ew, od_s, od_n])
    · refine wq_swN rfl rfl (by decide) rfl ?_
      refine wq_go rfl (fun _ => rfl) ?_
      refine wq_getf rfl (by first | rfl | assumption) (by first | decide | omega | assumption) (cw_c0 hC) rfl ?_
      refine wq_getf rfl (by first | rfl | assumption) (by first | decide | omega | assumption) (cw_c21 hC) rfl ?_
      refine wq_iret rfl ?_
      exact ansQ (K _ (hi_refl _) hI) (by simp [F_count, ew, od_s, od_n])
    · refine wq_swN rfl rfl (by decide) rfl ?_
      refine wq_go rfl (fun _ => rfl) ?_
      refine wq_go rfl (fun _ => rfl) ?_
      refine wq_callV rfl rfl (by first | rfl | assumption) (by first | decide | omega | assumption) (Nat.le_of_ble_eq_true rfl) (Nat.le_of_ble_eq_true rfl) rfl rfl ?_
      refine c_cs3 hPok hok hC hS ?_
      refine wq_iret rfl ?_
      exact ansQ (K _ (hi_refl _) hI) (by simp [F_count, ew, od_s, od_n])
    · refine wq_swN rfl rfl (by decide) rfl ?_
      refine wq_go rfl (fun _ => rfl) ?_
      refine wq_go rfl (fun _ => rfl) ?_
      refine wq_callV rfl rfl (by first | rfl | assumption) (by first | decide | omega | assumption) (Nat.le_of_ble_eq_true rfl) (Nat.le_of_ble_eq_true rfl) rfl rfl ?_
      refine c_cs4 hPok hok hC hS ?_
      refine wq_iret rfl ?_
      exact ansQ (K _ (hi_refl _) hI) (by simp [F_count, ew, od_s, od_n])
    · refine wq_swN rfl rfl (by decide) rfl ?_
      refine wq_go rfl (fun _ => rfl) ?_
      refine wq_go rfl (fun _ => rfl) ?_
      refine wq_callV rfl rfl (by first | rfl | assumption) (by first | decide | omega | assumption) (Nat.le_of_ble_eq_true rfl) (Nat.le_of_ble_eq_true rfl) rfl rfl ?_
      refine c_cs5 hPok hok hC hS ?_
      refine wq_iret rfl ?_
      exact ansQ (K _ (hi_refl _) hI) (by simp [F_count, ew, od_s, od_n])
    · refine wq_swN rfl rfl (by decide) rfl ?_
      refine wq_go rfl (fun _ => rfl) ?_
      refine wq_go rfl (fun _ => rfl) ?_
      refine wq_callV rfl rfl (by first | rfl | assumption) (by first | decide | omega | assumption) (Nat.le_of_ble_eq_true rfl) (Nat.le_of_ble_eq_true rfl) rfl rfl ?_
      refine c_cs6 hPok hok hC hS ?_
      refine wq_iret rfl ?_
      exact ansQ (K _ (hi_refl _) hI) (by simp [F_count, ew, od_s, od_n])
    · refine wq_swN rfl rfl (by decide) rfl ?_
      refine wq_go rfl (fun _ => rfl) ?_
      refine wq_go rfl (fun _ => rfl) ?_
      refine wq_callV rfl rfl (by first | rfl | assumption) (by first | decide | omega | assumption) (Nat.le_of_ble_eq_true rfl) (Nat.le_of_ble_eq_true rfl) rfl rfl ?_
      refine c_cs7 hPok hok hC hS ?_
      refine wq_iret rfl ?_
      exact ansQ (K _ (hi_refl _) hI) (by simp [F_count, ew, od_s, od_n])
    · refine wq_swN rfl rfl (by decide) rfl ?_
      refine wq_go rfl (fun _ => rfl) ?_
      refine wq_getf rfl (by first | rfl | assumption) (by first | decide | omega | assumption) (cw_c0 hC) rfl ?_
      refine wq_callV rfl rfl (by first | rfl | assumption) (by first | decide | omega | assumption) (Nat.le_of_ble_eq_true rfl) (Nat.le_of_ble_eq_true rfl) rfl rfl ?_
      refine c_Tape_length hf1 ?_
      refine wq_iret rfl ?_
      exact ansQ (K _ (hi_refl _) hI) (by simp [F_count, ew, od_s, od_n])
    · refine wq_swN rfl rfl (by decide) rfl ?_
      refine wq_go rfl (fun _ => rfl) ?_
      refine wq_getf rfl (by first | rfl | assumption) (by first | decide | omega | assumption) (cw_c0 hC) rfl ?_
      refine wq_callV rfl rfl (by first | rfl | assumption) (by first | decide | omega | assumption) (Nat.le_of_ble_eq_true rfl) (Nat.le_of_ble_eq_true rfl) rfl rfl ?_
      refine c_History_size hy.2.1 ?_
      refine wq_iret rfl ?_
      exact ansQ (K _ (hi_refl _) hI) (by simp [F_count, ew, od_s, od_n])
    · refine wq_swN rfl rfl (by decide) rfl ?_
      refine wq_go rfl (fun _ => rfl) ?_
      refine wq_getf rfl (by first | rfl | assumption) (by first | decide | omega | assumption) (cw_c0 hC) rfl ?_
      refine wq_callV rfl rfl (by first | rfl | assumption) (by first | decide | omega | assumption) (Nat.le_of_ble_eq_true rfl) (Nat.le_of_ble_eq_true rfl) rfl rfl ?_
      refine c_Hearsay_size hH ?_
      refine wq_iret rfl ?_
      exact ansQ (K _ (hi_refl _) hI) (by simp [F_count, ew, od_s, od_n])
    · refine wq_swN rfl rfl (by decide) rfl ?_
      refine wq_go rfl (fun _ => rfl) ?_
      refine wq_getf rfl (by first | rfl | assumption) (by first | decide | omega | assumption) (cw_c0 hC) rfl ?_
      refine wq_callV rfl rfl (by first | rfl | assumption) (by first | decide | omega | assumption) (Nat.le_of_ble_eq_true rfl) (Nat.le_of_ble_eq_true rfl) rfl rfl ?_
      refine c_Slots_filled hZ.1 hZ.2.1 hAh ?_
      refine wq_iret rfl ?_
      exact ansQ (K _ (hi_refl _) hI) (by simp [F_count, ew, od_s, od_n])
    · refine wq_swN rfl rfl (by decide) rfl ?_
      refine wq_go rfl (fun _ => rfl) ?_
      refine wq_getf rfl (by first | rfl | assumption) (by first | decide | omega | assumption) (cw_c0 hC) rfl ?_
      refine wq_go rfl (fun _ => rfl) ?_
      refine wq_getf rfl (by first | rfl | assumption) (by first | decide | omega | assumption) (cw_c0 hC) rfl ?_
      refine wq_go rfl (fun _ => rfl) ?_
      refine wq_getf rfl (by first | rfl | assumption) (by first | decide | omega | assumption) (cw_c0 hC) rfl ?_
      refine wq_getf rfl (by first | rfl | assumption) (by first | decide | omega | assumption) (cw_c21 hC) rfl ?_
      refine wq_callV rfl rfl (by first | rfl | assumption) (by first | decide | omega | assumption) (Nat.le_of_ble_eq_true rfl) (Nat.le_of_ble_eq_true rfl) rfl rfl ?_
      refine c_House_hasMoth k35 hS hC hok (fun eb => ?_) (fun eb => ?_)
      · skip
        refine wq_zeq rfl (by first | omega | decide | exact Nat.lt_of_le_of_lt Nat.and_le_right (by decide) | exact ⟨by omega, by omega⟩) (fun c => absurd c (by omega)) (fun c38 => ?_)
        refine wq_cN (m := 1) rfl rfl ?_
        refine wq_go rfl (fun _ => rfl) ?_
        refine wq_iret rfl ?_
        exact ansQ (K _ (hi_refl _) hI) (by simp [F_count, ew, od_s, od_n, eb])
      · skip
        refine wq_zeq rfl (by first | omega | decide | exact Nat.lt_of_le_of_lt Nat.and_le_right (by decide) | exact ⟨by omega, by omega⟩) (fun c38 => ?_) (fun c => absurd (show _ from by omega) c)
        refine wq_cN (m := 0) rfl rfl ?_
        refine wq_iret rfl ?_
        exact ansQ (K _ (hi_refl _) hI) (by simp [F_count, ew, od_s, od_n, eb])
    · refine wq_swN rfl rfl (by decide) rfl ?_
      refine wq_go rfl (fun _ => rfl) ?_
      refine wq_go rfl (fun _ => rfl) ?_
      refine wq_callV rfl rfl (by first | rfl | assumption) (by first | decide | omega | assumption) (Nat.le_of_ble_eq_true rfl) (Nat.le_of_ble_eq_true rfl) rfl rfl ?_
      refine c_cs13 hPok hok hC hS ?_
      refine wq_iret rfl ?_
      exact ansQ (K _ (hi_refl _) hI) (by simp [F_count, ew, od_s, od_n])
    · refine wq_swN rfl rfl (by decide) rfl ?_
      refine wq_go rfl (fun _ => rfl) ?_
      refine wq_go rfl (fun _ => rfl) ?_
      refine wq_callV rfl rfl (by first | rfl | assumption) (by first | decide | omega | assumption) (Nat.le_of_ble_eq_true rfl) (Nat.le_of_ble_eq_true rfl) rfl rfl ?_
      refine c_cs14 hPok hok hC hS ?_
      refine wq_iret rfl ?_
      exact ansQ (K _ (hi_refl _) hI) (by simp [F_count, ew, od_s, od_n])
    · refine wq_swN rfl rfl (by decide) rfl ?_
      refine wq_go rfl (fun _ => rfl) ?_
      refine wq_go rfl (fun _ => rfl) ?_
      refine wq_callV rfl rfl (by first | rfl | assumption) (by first | decide | omega | assumption) (Nat.le_of_ble_eq_true rfl) (Nat.le_of_ble_eq_true rfl) rfl rfl ?_
      refine c_cs15 hPok hok hC hS ?_
      refine wq_iret rfl ?_
      exact ansQ (K _ (hi_refl _) hI) (by simp [F_count, ew, od_s, od_n])
    · refine wq_swN rfl rfl (by decide) rfl ?_
      refine wq_go rfl (fun _ => rfl) ?_
      refine wq_go rfl (fun _ => rfl) ?_
      refine wq_callV rfl rfl (by first | rfl | assumption) (by first | decide | omega | assumption) (Nat.le_of_ble_eq_true rfl) (Nat.le_of_ble_eq_true rfl) rfl rfl ?_
      refine c_cs16 hPok hok hC hS ?_
      refine wq_iret rfl ?_
      exact ansQ (K _ (hi_refl _) hI) (by simp [F_count, ew, od_s, od_n])
    · refine wq_swN rfl rfl (by decide) rfl ?_
      refine wq_go rfl (fun _ => rfl) ?_
      refine wq_go rfl (fun _ => rfl) ?_
      refine wq_callV rfl rfl (by first | rfl | assumption) (by first | decide | omega | assumption) (Nat.le_of_ble_eq_true rfl) (Nat.le_of_ble_eq_true rfl) rfl rfl ?_
      refine c_cs17 hPok hok hC hS ?_
      refine wq_iret rfl ?_
      exact ansQ (K _ (hi_refl _) hI) (by simp [F_count, ew, od_s, od_n])
    · refine wq_swN rfl rfl (by decide) rfl ?_
      refine wq_go rfl (fun _ => rfl) ?_
      refine wq_getf rfl (by first | rfl | assumption) (by first | decide | omega | assumption) (cw_c0 hC) rfl ?_
      refine wq_callV rfl rfl (by first | rfl | assumption) (by first | decide | omega | assumption) (Nat.le_of_ble_eq_true rfl) (Nat.le_of_ble_eq_true rfl) rfl rfl ?_
      refine c_Plan_oilOfAll hC  ?_
      refine wq_iret rfl ?_
      exact ansQ (K _ (hi_refl _) hI) (by simp [F_count, ew, od_s, od_n])
