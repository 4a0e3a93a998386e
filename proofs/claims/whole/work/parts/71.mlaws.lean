/-! WHAT A LAW TELLS, BY THE REFERENCE -/
def x321 : Nat → Bool := fun j => j == 321
def xT : Nat → Bool := fun j => j == 321 || j == 287
def xV : Nat → Bool := fun j => j == 321 || j == 287 || j == 320
theorem mt_num {xs : List Int32} {d : Nat} {σ : Nat → List Value} {Q : Option Value → (Nat → List Value) → Prop} {P : Pl} {L : Nat} {g : Nat → Int32} (hM : MD P L g σ) {f : Nat → Int32} (h321 : σ 321 = arr 400 f) {p e f0 D v : Nat} (hp : p < e) (he : e ≤ 840) (hk : ag σ 317 p = nI 0) (hv : ag σ 318 p = nI v) (hD : D + 2 < 400)  (K : Wq xs d ax_cd269 4 [(4, .int (nI (p + 1))), (3, .int (nI (D + 1))), (0, .ref 287), (1, .int (nI f0)), (2, .int (nI e))] [] (up σ 321 (arr 400 (upd f D (nI v)))) Q) : Wq xs d ax_cd269 4 [(4, .int (nI (p))), (3, .int (nI (D))), (0, .ref 287), (1, .int (nI f0)), (2, .int (nI e))] [] σ Q := by
  refine wq_go rfl (fun _ => rfl) ?_
  refine wq_go rfl (fun _ => rfl) ?_
  refine wq_cge rfl (by first | omega | decide | exact Nat.lt_of_le_of_lt Nat.and_le_right (by decide) | exact ⟨by omega, by omega⟩) (by first | omega | decide | exact Nat.lt_of_le_of_lt Nat.and_le_right (by decide) | exact ⟨by omega, by omega⟩) (fun c => absurd c (by omega)) (fun c6 => ?_)
  refine wq_go rfl (fun _ => rfl) ?_
  refine wq_getf rfl (by first | rfl | assumption) (by first | decide | omega | assumption) (md_o hM) rfl ?_
  refine wq_go rfl (fun _ => rfl) ?_
  refine wq_iald rfl (by first | rfl | assumption) (by first | decide | omega | assumption) (md_c317 hM) rfl (by omega) (by first | decide | omega) ?_
  refine wq_top hk ?_
  refine wq_go rfl (fun _ => rfl) ?_
  refine wq_go rfl (fun _ => rfl) ?_
  refine wq_cN (m := 2) rfl rfl ?_
  refine wq_cge rfl (by first | omega | decide | exact Nat.lt_of_le_of_lt Nat.and_le_right (by decide) | exact ⟨by omega, by omega⟩) (by first | omega | decide | exact Nat.lt_of_le_of_lt Nat.and_le_right (by decide) | exact ⟨by omega, by omega⟩) (fun c => absurd c (by omega)) (fun c14 => ?_)
  refine wq_go rfl (fun _ => rfl) ?_
  refine wq_getf rfl (by first | rfl | assumption) (by first | decide | omega | assumption) (md_o hM) rfl ?_
  refine wq_go rfl (fun _ => rfl) ?_
  refine wq_go rfl (fun _ => rfl) ?_
  refine wq_zne rfl (by first | omega | decide | exact Nat.lt_of_le_of_lt Nat.and_le_right (by decide) | exact ⟨by omega, by omega⟩) (fun c => absurd c (by omega)) (fun c19 => ?_)
  refine wq_go rfl (fun _ => rfl) ?_
  refine wq_getf rfl (by first | rfl | assumption) (by first | decide | omega | assumption) (md_o hM) rfl ?_
  refine wq_go rfl (fun _ => rfl) ?_
  refine wq_iald rfl (by first | rfl | assumption) (by first | decide | omega | assumption) (md_c318 hM) rfl (by omega) (by first | decide | omega) ?_
  refine wq_top hv ?_
  refine wq_go rfl (fun _ => rfl) ?_
  refine wq_iast rfl (by first | rfl | assumption) (by first | decide | omega | assumption) h321 rfl (by omega) (by first | decide | omega) ?_
  refine wq_incN rfl rfl rfl ?_
  refine wq_go rfl (fun _ => rfl) ?_
  refine wq_incN rfl rfl rfl ?_
  refine wq_go rfl (fun _ => rfl) ?_
  exact wq_lv ⟨(by decide : ([4, 3, 5, 0, 1, 2] : List Nat).Nodup), (lvm (List.mem_of_getElem? (i := 0) rfl) (lvm (List.mem_of_getElem? (i := 1) rfl) (lvm (List.mem_of_getElem? (i := 3) rfl) (lvm (List.mem_of_getElem? (i := 4) rfl) (lvm (List.mem_of_getElem? (i := 5) rfl) lvn)))))⟩ K
theorem mt_var {xs : List Int32} {d : Nat} {σ : Nat → List Value} {Q : Option Value → (Nat → List Value) → Prop} {P : Pl} {L : Nat} {g : Nat → Int32} (hM : MD P L g σ) {f : Nat → Int32} (h321 : σ 321 = arr 400 f) {p e f0 D v : Nat} (hp : p < e) (he : e ≤ 840) (hk : ag σ 317 p = nI 1) (hv : ag σ 318 p = nI v) (hD : D + 2 < 400) (hv9 : v < 9) {V : Nat → Nat} (h320 : σ 320 = arrN 9 V) (K : Wq xs d ax_cd269 4 [(4, .int (nI (p + 1))), (3, .int (nI (D + 1))), (0, .ref 287), (1, .int (nI f0)), (2, .int (nI e))] [] (up σ 321 (arr 400 (upd f D (nI (V v))))) Q) : Wq xs d ax_cd269 4 [(4, .int (nI (p))), (3, .int (nI (D))), (0, .ref 287), (1, .int (nI f0)), (2, .int (nI e))] [] σ Q := by
  refine wq_go rfl (fun _ => rfl) ?_
  refine wq_go rfl (fun _ => rfl) ?_
  refine wq_cge rfl (by first | omega | decide | exact Nat.lt_of_le_of_lt Nat.and_le_right (by decide) | exact ⟨by omega, by omega⟩) (by first | omega | decide | exact Nat.lt_of_le_of_lt Nat.and_le_right (by decide) | exact ⟨by omega, by omega⟩) (fun c => absurd c (by omega)) (fun c6 => ?_)
  refine wq_go rfl (fun _ => rfl) ?_
  refine wq_getf rfl (by first | rfl | assumption) (by first | decide | omega | assumption) (md_o hM) rfl ?_
  refine wq_go rfl (fun _ => rfl) ?_
  refine wq_iald rfl (by first | rfl | assumption) (by first | decide | omega | assumption) (md_c317 hM) rfl (by omega) (by first | decide | omega) ?_
  refine wq_top hk ?_
  refine wq_go rfl (fun _ => rfl) ?_
  refine wq_go rfl (fun _ => rfl) ?_
  refine wq_cN (m := 2) rfl rfl ?_
  refine wq_cge rfl (by first | omega | decide | exact Nat.lt_of_le_of_lt Nat.and_le_right (by decide) | exact ⟨by omega, by omega⟩) (by first | omega | decide | exact Nat.lt_of_le_of_lt Nat.and_le_right (by decide) | exact ⟨by omega, by omega⟩) (fun c => absurd c (by omega)) (fun c14 => ?_)
  refine wq_go rfl (fun _ => rfl) ?_
  refine wq_getf rfl (by first | rfl | assumption) (by first | decide | omega | assumption) (md_o hM) rfl ?_
  refine wq_go rfl (fun _ => rfl) ?_
  refine wq_go rfl (fun _ => rfl) ?_
  refine wq_zne rfl (by first | omega | decide | exact Nat.lt_of_le_of_lt Nat.and_le_right (by decide) | exact ⟨by omega, by omega⟩) (fun c19 => ?_) (fun c => absurd (show _ from by omega) c)
  refine wq_go rfl (fun _ => rfl) ?_
  refine wq_getf rfl (by first | rfl | assumption) (by first | decide | omega | assumption) (md_o hM) rfl ?_
  refine wq_go rfl (fun _ => rfl) ?_
  refine wq_getf rfl (by first | rfl | assumption) (by first | decide | omega | assumption) (md_o hM) rfl ?_
  refine wq_go rfl (fun _ => rfl) ?_
  refine wq_iald rfl (by first | rfl | assumption) (by first | decide | omega | assumption) (md_c318 hM) rfl (by omega) (by first | decide | omega) ?_
  refine wq_top hv ?_
  refine wq_ialdN rfl (by first | rfl | assumption) (by first | decide | omega | assumption) h320 rfl (by omega) (by first | decide | omega) ?_
  refine wq_iast rfl (by first | rfl | assumption) (by first | decide | omega | assumption) h321 rfl (by omega) (by first | decide | omega) ?_
  refine wq_incN rfl rfl rfl ?_
  refine wq_go rfl (fun _ => rfl) ?_
  refine wq_incN rfl rfl rfl ?_
  refine wq_go rfl (fun _ => rfl) ?_
  exact wq_lv ⟨(by decide : ([4, 3, 5, 0, 1, 2] : List Nat).Nodup), (lvm (List.mem_of_getElem? (i := 0) rfl) (lvm (List.mem_of_getElem? (i := 1) rfl) (lvm (List.mem_of_getElem? (i := 3) rfl) (lvm (List.mem_of_getElem? (i := 4) rfl) (lvm (List.mem_of_getElem? (i := 5) rfl) lvn)))))⟩ K
theorem mt_bin2 {xs : List Int32} {d : Nat} {σ : Nat → List Value} {Q : Option Value → (Nat → List Value) → Prop} {P : Pl} {L : Nat} {g : Nat → Int32} (hM : MD P L g σ) {f : Nat → Int32} (h321 : σ 321 = arr 400 f) {p e f0 D v : Nat} (hp : p < e) (he : e ≤ 840) (hk : ag σ 317 p = nI 2) (hv : ag σ 318 p = nI v) (hD : D + 2 < 400)  (K : Wq xs d ax_cd269 4 [(4, .int (nI (p + 1))), (3, .int (nI (D + 1))), (0, .ref 287), (1, .int (nI f0)), (2, .int (nI e))] [] (up σ 321 (arr 400 (upd f D (opv 2 (f D) (f (D + 1)))))) Q) : Wq xs d ax_cd269 4 [(4, .int (nI (p))), (3, .int (nI (D + 2))), (0, .ref 287), (1, .int (nI f0)), (2, .int (nI e))] [] σ Q := by
  refine wq_go rfl (fun _ => rfl) ?_
  refine wq_go rfl (fun _ => rfl) ?_
  refine wq_cge rfl (by first | omega | decide | exact Nat.lt_of_le_of_lt Nat.and_le_right (by decide) | exact ⟨by omega, by omega⟩) (by first | omega | decide | exact Nat.lt_of_le_of_lt Nat.and_le_right (by decide) | exact ⟨by omega, by omega⟩) (fun c => absurd c (by omega)) (fun c6 => ?_)
  refine wq_go rfl (fun _ => rfl) ?_
  refine wq_getf rfl (by first | rfl | assumption) (by first | decide | omega | assumption) (md_o hM) rfl ?_
  refine wq_go rfl (fun _ => rfl) ?_
  refine wq_iald rfl (by first | rfl | assumption) (by first | decide | omega | assumption) (md_c317 hM) rfl (by omega) (by first | decide | omega) ?_
  refine wq_top hk ?_
  refine wq_go rfl (fun _ => rfl) ?_
  refine wq_go rfl (fun _ => rfl) ?_
  refine wq_cN (m := 2) rfl rfl ?_
  refine wq_cge rfl (by first | omega | decide | exact Nat.lt_of_le_of_lt Nat.and_le_right (by decide) | exact ⟨by omega, by omega⟩) (by first | omega | decide | exact Nat.lt_of_le_of_lt Nat.and_le_right (by decide) | exact ⟨by omega, by omega⟩) (fun c14 => ?_) (fun c => absurd (show _ from by omega) c)
  refine wq_decN (c := 1) rfl rfl rfl (by omega) rfl ?_
  refine wq_go rfl (fun _ => rfl) ?_
  refine wq_getf rfl (by first | rfl | assumption) (by first | decide | omega | assumption) (md_o hM) rfl ?_
  refine wq_go rfl (fun _ => rfl) ?_
  refine wq_cN (m := 1) rfl rfl ?_
  refine wq_subN rfl (by omega) ?_
  refine wq_iald rfl (by first | rfl | assumption) (by first | decide | omega | assumption) h321 rfl (by omega) (by first | decide | omega) ?_
  refine wq_top (congrArg f (show D + 2 - 1 - 1 = D by omega)) ?_
  refine wq_go rfl (fun _ => rfl) ?_
  refine wq_go rfl (fun _ => rfl) ?_
  refine wq_getf rfl (by first | rfl | assumption) (by first | decide | omega | assumption) (md_o hM) rfl ?_
  refine wq_go rfl (fun _ => rfl) ?_
  refine wq_iald rfl (by first | rfl | assumption) (by first | decide | omega | assumption) h321 rfl (by omega) (by first | decide | omega) ?_
  refine wq_top (congrArg f (show D + 2 - 1 = D + 1 by omega)) ?_
  refine wq_go rfl (fun _ => rfl) ?_
  refine wq_go rfl (fun _ => rfl) ?_
  refine wq_cN (m := 5) rfl rfl ?_
  refine wq_cne rfl (by first | omega | decide | exact Nat.lt_of_le_of_lt Nat.and_le_right (by decide) | exact ⟨by omega, by omega⟩) (by first | omega | decide | exact Nat.lt_of_le_of_lt Nat.and_le_right (by decide) | exact ⟨by omega, by omega⟩) (fun c50 => ?_) (fun c => absurd (show _ from by omega) c)
  refine wq_go rfl (fun _ => rfl) ?_
  refine wq_getf rfl (by first | rfl | assumption) (by first | decide | omega | assumption) (md_o hM) rfl ?_
  refine wq_go rfl (fun _ => rfl) ?_
  refine wq_cN (m := 1) rfl rfl ?_
  refine wq_subN rfl (by omega) ?_
  refine wq_go rfl (fun _ => rfl) ?_
  refine wq_cN (m := 2) rfl rfl ?_
  refine wq_cne rfl (by first | omega | decide | exact Nat.lt_of_le_of_lt Nat.and_le_right (by decide) | exact ⟨by omega, by omega⟩) (by first | omega | decide | exact Nat.lt_of_le_of_lt Nat.and_le_right (by decide) | exact ⟨by omega, by omega⟩) (fun c => absurd c (by omega)) (fun c65 => ?_)
  refine wq_go rfl (fun _ => rfl) ?_
  refine wq_go rfl (fun _ => rfl) ?_
  refine wq_go rfl (fun _ => rfl) ?_
  refine wq_go rfl (fun _ => rfl) ?_
  refine wq_iast rfl (by first | rfl | assumption) (by first | decide | omega | assumption) h321 rfl (by omega) (by first | decide | omega) ?_
  refine wq_incN rfl rfl rfl ?_
  refine wq_go rfl (fun _ => rfl) ?_
  rw [show D + 2 - 1 = D + 1 by omega, show D + 1 - 1 = D by omega]
  exact wq_lv ⟨(by decide : ([4, 7, 6, 3, 5, 0, 1, 2] : List Nat).Nodup), (lvm (List.mem_of_getElem? (i := 0) rfl) (lvm (List.mem_of_getElem? (i := 3) rfl) (lvm (List.mem_of_getElem? (i := 5) rfl) (lvm (List.mem_of_getElem? (i := 6) rfl) (lvm (List.mem_of_getElem? (i := 7) rfl) lvn)))))⟩ K
theorem mt_bin3 {xs : List Int32} {d : Nat} {σ : Nat → List Value} {Q : Option Value → (Nat → List Value) → Prop} {P : Pl} {L : Nat} {g : Nat → Int32} (hM : MD P L g σ) {f : Nat → Int32} (h321 : σ 321 = arr 400 f) {p e f0 D v : Nat} (hp : p < e) (he : e ≤ 840) (hk : ag σ 317 p = nI 3) (hv : ag σ 318 p = nI v) (hD : D + 2 < 400)  (K : Wq xs d ax_cd269 4 [(4, .int (nI (p + 1))), (3, .int (nI (D + 1))), (0, .ref 287), (1, .int (nI f0)), (2, .int (nI e))] [] (up σ 321 (arr 400 (upd f D (opv 3 (f D) (f (D + 1)))))) Q) : Wq xs d ax_cd269 4 [(4, .int (nI (p))), (3, .int (nI (D + 2))), (0, .ref 287), (1, .int (nI f0)), (2, .int (nI e))] [] σ Q := by
  refine wq_go rfl (fun _ => rfl) ?_
  refine wq_go rfl (fun _ => rfl) ?_
  refine wq_cge rfl (by first | omega | decide | exact Nat.lt_of_le_of_lt Nat.and_le_right (by decide) | exact ⟨by omega, by omega⟩) (by first | omega | decide | exact Nat.lt_of_le_of_lt Nat.and_le_right (by decide) | exact ⟨by omega, by omega⟩) (fun c => absurd c (by omega)) (fun c6 => ?_)
  refine wq_go rfl (fun _ => rfl) ?_
  refine wq_getf rfl (by first | rfl | assumption) (by first | decide | omega | assumption) (md_o hM) rfl ?_
  refine wq_go rfl (fun _ => rfl) ?_
  refine wq_iald rfl (by first | rfl | assumption) (by first | decide | omega | assumption) (md_c317 hM) rfl (by omega) (by first | decide | omega) ?_
  refine wq_top hk ?_
  refine wq_go rfl (fun _ => rfl) ?_
  refine wq_go rfl (fun _ => rfl) ?_
  refine wq_cN (m := 2) rfl rfl ?_
  refine wq_cge rfl (by first | omega | decide | exact Nat.lt_of_le_of_lt Nat.and_le_right (by decide) | exact ⟨by omega, by omega⟩) (by first | omega | decide | exact Nat.lt_of_le_of_lt Nat.and_le_right (by decide) | exact ⟨by omega, by omega⟩) (fun c14 => ?_) (fun c => absurd (show _ from by omega) c)
  refine wq_decN (c := 1) rfl rfl rfl (by omega) rfl ?_
  refine wq_go rfl (fun _ => rfl) ?_
  refine wq_getf rfl (by first | rfl | assumption) (by first | decide | omega | assumption) (md_o hM) rfl ?_
  refine wq_go rfl (fun _ => rfl) ?_
  refine wq_cN (m := 1) rfl rfl ?_
  refine wq_subN rfl (by omega) ?_
  refine wq_iald rfl (by first | rfl | assumption) (by first | decide | omega | assumption) h321 rfl (by omega) (by first | decide | omega) ?_
  refine wq_top (congrArg f (show D + 2 - 1 - 1 = D by omega)) ?_
  refine wq_go rfl (fun _ => rfl) ?_
  refine wq_go rfl (fun _ => rfl) ?_
  refine wq_getf rfl (by first | rfl | assumption) (by first | decide | omega | assumption) (md_o hM) rfl ?_
  refine wq_go rfl (fun _ => rfl) ?_
  refine wq_iald rfl (by first | rfl | assumption) (by first | decide | omega | assumption) h321 rfl (by omega) (by first | decide | omega) ?_
  refine wq_top (congrArg f (show D + 2 - 1 = D + 1 by omega)) ?_
  refine wq_go rfl (fun _ => rfl) ?_
  refine wq_go rfl (fun _ => rfl) ?_
  refine wq_cN (m := 5) rfl rfl ?_
  refine wq_cne rfl (by first | omega | decide | exact Nat.lt_of_le_of_lt Nat.and_le_right (by decide) | exact ⟨by omega, by omega⟩) (by first | omega | decide | exact Nat.lt_of_le_of_lt Nat.and_le_right (by decide) | exact ⟨by omega, by omega⟩) (fun c50 => ?_) (fun c => absurd (show _ from by omega) c)
  refine wq_go rfl (fun _ => rfl) ?_
  refine wq_getf rfl (by first | rfl | assumption) (by first | decide | omega | assumption) (md_o hM) rfl ?_
  refine wq_go rfl (fun _ => rfl) ?_
  refine wq_cN (m := 1) rfl rfl ?_
  refine wq_subN rfl (by omega) ?_
  refine wq_go rfl (fun _ => rfl) ?_
  refine wq_cN (m := 2) rfl rfl ?_
  refine wq_cne rfl (by first | omega | decide | exact Nat.lt_of_le_of_lt Nat.and_le_right (by decide) | exact ⟨by omega, by omega⟩) (by first | omega | decide | exact Nat.lt_of_le_of_lt Nat.and_le_right (by decide) | exact ⟨by omega, by omega⟩) (fun c65 => ?_) (fun c => absurd (show _ from by omega) c)
  refine wq_go rfl (fun _ => rfl) ?_
  refine wq_cN (m := 3) rfl rfl ?_
  refine wq_cne rfl (by first | omega | decide | exact Nat.lt_of_le_of_lt Nat.and_le_right (by decide) | exact ⟨by omega, by omega⟩) (by first | omega | decide | exact Nat.lt_of_le_of_lt Nat.and_le_right (by decide) | exact ⟨by omega, by omega⟩) (fun c => absurd c (by omega)) (fun c72 => ?_)
  refine wq_go rfl (fun _ => rfl) ?_
  refine wq_go rfl (fun _ => rfl) ?_
  refine wq_go rfl (fun _ => rfl) ?_
  refine wq_go rfl (fun _ => rfl) ?_
  refine wq_iast rfl (by first | rfl | assumption) (by first | decide | omega | assumption) h321 rfl (by omega) (by first | decide | omega) ?_
  refine wq_incN rfl rfl rfl ?_
  refine wq_go rfl (fun _ => rfl) ?_
  rw [show D + 2 - 1 = D + 1 by omega, show D + 1 - 1 = D by omega]
  exact wq_lv ⟨(by decide : ([4, 7, 6, 3, 5, 0, 1, 2] : List Nat).Nodup), (lvm (List.mem_of_getElem? (i := 0) rfl) (lvm (List.mem_of_getElem? (i := 3) rfl) (lvm (List.mem_of_getElem? (i := 5) rfl) (lvm (List.mem_of_getElem? (i := 6) rfl) (lvm (List.mem_of_getElem? (i := 7) rfl) lvn)))))⟩ K
theorem mt_bin4 {xs : List Int32} {d : Nat} {σ : Nat → List Value} {Q : Option Value → (Nat → List Value) → Prop} {P : Pl} {L : Nat} {g : Nat → Int32} (hM : MD P L g σ) {f : Nat → Int32} (h321 : σ 321 = arr 400 f) {p e f0 D v : Nat} (hp : p < e) (he : e ≤ 840) (hk : ag σ 317 p = nI 4) (hv : ag σ 318 p = nI v) (hD : D + 2 < 400)  (K : Wq xs d ax_cd269 4 [(4, .int (nI (p + 1))), (3, .int (nI (D + 1))), (0, .ref 287), (1, .int (nI f0)), (2, .int (nI e))] [] (up σ 321 (arr 400 (upd f D (opv 4 (f D) (f (D + 1)))))) Q) : Wq xs d ax_cd269 4 [(4, .int (nI (p))), (3, .int (nI (D + 2))), (0, .ref 287), (1, .int (nI f0)), (2, .int (nI e))] [] σ Q := by
  refine wq_go rfl (fun _ => rfl) ?_
  refine wq_go rfl (fun _ => rfl) ?_
  refine wq_cge rfl (by first | omega | decide | exact Nat.lt_of_le_of_lt Nat.and_le_right (by decide) | exact ⟨by omega, by omega⟩) (by first | omega | decide | exact Nat.lt_of_le_of_lt Nat.and_le_right (by decide) | exact ⟨by omega, by omega⟩) (fun c => absurd c (by omega)) (fun c6 => ?_)
  refine wq_go rfl (fun _ => rfl) ?_
  refine wq_getf rfl (by first | rfl | assumption) (by first | decide | omega | assumption) (md_o hM) rfl ?_
  refine wq_go rfl (fun _ => rfl) ?_
  refine wq_iald rfl (by first | rfl | assumption) (by first | decide | omega | assumption) (md_c317 hM) rfl (by omega) (by first | decide | omega) ?_
  refine wq_top hk ?_
  refine wq_go rfl (fun _ => rfl) ?_
  refine wq_go rfl (fun _ => rfl) ?_
  refine wq_cN (m := 2) rfl rfl ?_
  refine wq_cge rfl (by first | omega | decide | exact Nat.lt_of_le_of_lt Nat.and_le_right (by decide) | exact ⟨by omega, by omega⟩) (by first | omega | decide | exact Nat.lt_of_le_of_lt Nat.and_le_right (by decide) | exact ⟨by omega, by omega⟩) (fun c14 => ?_) (fun c => absurd (show _ from by omega) c)
  refine wq_decN (c := 1) rfl rfl rfl (by omega) rfl ?_
  refine wq_go rfl (fun _ => rfl) ?_
  refine wq_getf rfl (by first | rfl | assumption) (by first | decide | omega | assumption) (md_o hM) rfl ?_
  refine wq_go rfl (fun _ => rfl) ?_
  refine wq_cN (m := 1) rfl rfl ?_
  refine wq_subN rfl (by omega) ?_
  refine wq_iald rfl (by first | rfl | assumption) (by first | decide | omega | assumption) h321 rfl (by omega) (by first | decide | omega) ?_
  refine wq_top (congrArg f (show D + 2 - 1 - 1 = D by omega)) ?_
  refine wq_go rfl (fun _ => rfl) ?_
  refine wq_go rfl (fun _ => rfl) ?_
  refine wq_getf rfl (by first | rfl | assumption) (by first | decide | omega | assumption) (md_o hM) rfl ?_
  refine wq_go rfl (fun _ => rfl) ?_
  refine wq_iald rfl (by first | rfl | assumption) (by first | decide | omega | assumption) h321 rfl (by omega) (by first | decide | omega) ?_
  refine wq_top (congrArg f (show D + 2 - 1 = D + 1 by omega)) ?_
  refine wq_go rfl (fun _ => rfl) ?_
  refine wq_go rfl (fun _ => rfl) ?_
  refine wq_cN (m := 5) rfl rfl ?_
  refine wq_cne rfl (by first | omega | decide | exact Nat.lt_of_le_of_lt Nat.and_le_right (by decide) | exact ⟨by omega, by omega⟩) (by first | omega | decide | exact Nat.lt_of_le_of_lt Nat.and_le_right (by decide) | exact ⟨by omega, by omega⟩) (fun c50 => ?_) (fun c => absurd (show _ from by omega) c)
  refine wq_go rfl (fun _ => rfl) ?_
  refine wq_getf rfl (by first | rfl | assumption) (by first | decide | omega | assumption) (md_o hM) rfl ?_
  refine wq_go rfl (fun _ => rfl) ?_
  refine wq_cN (m := 1) rfl rfl ?_
  refine wq_subN rfl (by omega) ?_
  refine wq_go rfl (fun _ => rfl) ?_
  refine wq_cN (m := 2) rfl rfl ?_
  refine wq_cne rfl (by first | omega | decide | exact Nat.lt_of_le_of_lt Nat.and_le_right (by decide) | exact ⟨by omega, by omega⟩) (by first | omega | decide | exact Nat.lt_of_le_of_lt Nat.and_le_right (by decide) | exact ⟨by omega, by omega⟩) (fun c65 => ?_) (fun c => absurd (show _ from by omega) c)
  refine wq_go rfl (fun _ => rfl) ?_
  refine wq_cN (m := 3) rfl rfl ?_
  refine wq_cne rfl (by first | omega | decide | exact Nat.lt_of_le_of_lt Nat.and_le_right (by decide) | exact ⟨by omega, by omega⟩) (by first | omega | decide | exact Nat.lt_of_le_of_lt Nat.and_le_right (by decide) | exact ⟨by omega, by omega⟩) (fun c72 => ?_) (fun c => absurd (show _ from by omega) c)
  refine wq_go rfl (fun _ => rfl) ?_
  refine wq_cN (m := 4) rfl rfl ?_
  refine wq_cne rfl (by first | omega | decide | exact Nat.lt_of_le_of_lt Nat.and_le_right (by decide) | exact ⟨by omega, by omega⟩) (by first | omega | decide | exact Nat.lt_of_le_of_lt Nat.and_le_right (by decide) | exact ⟨by omega, by omega⟩) (fun c => absurd c (by omega)) (fun c79 => ?_)
  refine wq_go rfl (fun _ => rfl) ?_
  refine wq_go rfl (fun _ => rfl) ?_
  refine wq_go rfl (fun _ => rfl) ?_
  refine wq_go rfl (fun _ => rfl) ?_
  refine wq_iast rfl (by first | rfl | assumption) (by first | decide | omega | assumption) h321 rfl (by omega) (by first | decide | omega) ?_
  refine wq_incN rfl rfl rfl ?_
  refine wq_go rfl (fun _ => rfl) ?_
  rw [show D + 2 - 1 = D + 1 by omega, show D + 1 - 1 = D by omega]
  exact wq_lv ⟨(by decide : ([4, 7, 6, 3, 5, 0, 1, 2] : List Nat).Nodup), (lvm (List.mem_of_getElem? (i := 0) rfl) (lvm (List.mem_of_getElem? (i := 3) rfl) (lvm (List.mem_of_getElem? (i := 5) rfl) (lvm (List.mem_of_getElem? (i := 6) rfl) (lvm (List.mem_of_getElem? (i := 7) rfl) lvn)))))⟩ K
theorem mt_bin5 {xs : List Int32} {d : Nat} {σ : Nat → List Value} {Q : Option Value → (Nat → List Value) → Prop} {P : Pl} {L : Nat} {g : Nat → Int32} (hM : MD P L g σ) {f : Nat → Int32} (h321 : σ 321 = arr 400 f) {p e f0 D v : Nat} (hp : p < e) (he : e ≤ 840) (hk : ag σ 317 p = nI 5) (hv : ag σ 318 p = nI v) (hD : D + 2 < 400) (hy : ¬ f (D + 1) = 0) (K : Wq xs d ax_cd269 4 [(4, .int (nI (p + 1))), (3, .int (nI (D + 1))), (0, .ref 287), (1, .int (nI f0)), (2, .int (nI e))] [] (up σ 321 (arr 400 (upd f D (opv 5 (f D) (f (D + 1)))))) Q) : Wq xs d ax_cd269 4 [(4, .int (nI (p))), (3, .int (nI (D + 2))), (0, .ref 287), (1, .int (nI f0)), (2, .int (nI e))] [] σ Q := by
  refine wq_go rfl (fun _ => rfl) ?_
  refine wq_go rfl (fun _ => rfl) ?_
  refine wq_cge rfl (by first | omega | decide | exact Nat.lt_of_le_of_lt Nat.and_le_right (by decide) | exact ⟨by omega, by omega⟩) (by first | omega | decide | exact Nat.lt_of_le_of_lt Nat.and_le_right (by decide) | exact ⟨by omega, by omega⟩) (fun c => absurd c (by omega)) (fun c6 => ?_)
  refine wq_go rfl (fun _ => rfl) ?_
  refine wq_getf rfl (by first | rfl | assumption) (by first | decide | omega | assumption) (md_o hM) rfl ?_
  refine wq_go rfl (fun _ => rfl) ?_
  refine wq_iald rfl (by first | rfl | assumption) (by first | decide | omega | assumption) (md_c317 hM) rfl (by omega) (by first | decide | omega) ?_
  refine wq_top hk ?_
  refine wq_go rfl (fun _ => rfl) ?_
  refine wq_go rfl (fun _ => rfl) ?_
  refine wq_cN (m := 2) rfl rfl ?_
  refine wq_cge rfl (by first | omega | decide | exact Nat.lt_of_le_of_lt Nat.and_le_right (by decide) | exact ⟨by omega, by omega⟩) (by first | omega | decide | exact Nat.lt_of_le_of_lt Nat.and_le_right (by decide) | exact ⟨by omega, by omega⟩) (fun c14 => ?_) (fun c => absurd (show _ from by omega) c)
  refine wq_decN (c := 1) rfl rfl rfl (by omega) rfl ?_
  refine wq_go rfl (fun _ => rfl) ?_
  refine wq_getf rfl (by first | rfl | assumption) (by first | decide | omega | assumption) (md_o hM) rfl ?_
  refine wq_go rfl (fun _ => rfl) ?_
  refine wq_cN (m := 1) rfl rfl ?_
  refine wq_subN rfl (by omega) ?_
  refine wq_iald rfl (by first | rfl | assumption) (by first | decide | omega | assumption) h321 rfl (by omega) (by first | decide | omega) ?_
  refine wq_top (congrArg f (show D + 2 - 1 - 1 = D by omega)) ?_
  refine wq_go rfl (fun _ => rfl) ?_
  refine wq_go rfl (fun _ => rfl) ?_
  refine wq_getf rfl (by first | rfl | assumption) (by first | decide | omega | assumption) (md_o hM) rfl ?_
  refine wq_go rfl (fun _ => rfl) ?_
  refine wq_iald rfl (by first | rfl | assumption) (by first | decide | omega | assumption) h321 rfl (by omega) (by first | decide | omega) ?_
  refine wq_top (congrArg f (show D + 2 - 1 = D + 1 by omega)) ?_
  refine wq_go rfl (fun _ => rfl) ?_
  refine wq_go rfl (fun _ => rfl) ?_
  refine wq_cN (m := 5) rfl rfl ?_
  refine wq_cne rfl (by first | omega | decide | exact Nat.lt_of_le_of_lt Nat.and_le_right (by decide) | exact ⟨by omega, by omega⟩) (by first | omega | decide | exact Nat.lt_of_le_of_lt Nat.and_le_right (by decide) | exact ⟨by omega, by omega⟩) (fun c => absurd c (by omega)) (fun c50 => ?_)
  refine wq_go rfl (fun _ => rfl) ?_
  refine wq_if rfl (fun c52 => ?_) (fun c => absurd (c.symm.trans (decide_eq_true (fun e => hy e))) (by decide))
  refine wq_go rfl (fun _ => rfl) ?_
  refine wq_getf rfl (by first | rfl | assumption) (by first | decide | omega | assumption) (md_o hM) rfl ?_
  refine wq_go rfl (fun _ => rfl) ?_
  refine wq_cN (m := 1) rfl rfl ?_
  refine wq_subN rfl (by omega) ?_
  refine wq_go rfl (fun _ => rfl) ?_
  refine wq_cN (m := 2) rfl rfl ?_
  refine wq_cne rfl (by first | omega | decide | exact Nat.lt_of_le_of_lt Nat.and_le_right (by decide) | exact ⟨by omega, by omega⟩) (by first | omega | decide | exact Nat.lt_of_le_of_lt Nat.and_le_right (by decide) | exact ⟨by omega, by omega⟩) (fun c65 => ?_) (fun c => absurd (show _ from by omega) c)
  refine wq_go rfl (fun _ => rfl) ?_
  refine wq_cN (m := 3) rfl rfl ?_
  refine wq_cne rfl (by first | omega | decide | exact Nat.lt_of_le_of_lt Nat.and_le_right (by decide) | exact ⟨by omega, by omega⟩) (by first | omega | decide | exact Nat.lt_of_le_of_lt Nat.and_le_right (by decide) | exact ⟨by omega, by omega⟩) (fun c72 => ?_) (fun c => absurd (show _ from by omega) c)
  refine wq_go rfl (fun _ => rfl) ?_
  refine wq_cN (m := 4) rfl rfl ?_
  refine wq_cne rfl (by first | omega | decide | exact Nat.lt_of_le_of_lt Nat.and_le_right (by decide) | exact ⟨by omega, by omega⟩) (by first | omega | decide | exact Nat.lt_of_le_of_lt Nat.and_le_right (by decide) | exact ⟨by omega, by omega⟩) (fun c79 => ?_) (fun c => absurd (show _ from by omega) c)
  refine wq_go rfl (fun _ => rfl) ?_
  refine wq_go rfl (fun _ => rfl) ?_
  refine wq_divX rfl hy ?_
  refine wq_iast rfl (by first | rfl | assumption) (by first | decide | omega | assumption) h321 rfl (by omega) (by first | decide | omega) ?_
  refine wq_incN rfl rfl rfl ?_
  refine wq_go rfl (fun _ => rfl) ?_
  rw [show D + 2 - 1 = D + 1 by omega, show D + 1 - 1 = D by omega]
  exact wq_lv ⟨(by decide : ([4, 7, 6, 3, 5, 0, 1, 2] : List Nat).Nodup), (lvm (List.mem_of_getElem? (i := 0) rfl) (lvm (List.mem_of_getElem? (i := 3) rfl) (lvm (List.mem_of_getElem? (i := 5) rfl) (lvm (List.mem_of_getElem? (i := 6) rfl) (lvm (List.mem_of_getElem? (i := 7) rfl) lvn)))))⟩ K
theorem mt_div0 {xs : List Int32} {d : Nat} {σ : Nat → List Value} {Q : Option Value → (Nat → List Value) → Prop} {P : Pl} {L : Nat} {g : Nat → Int32} (hM : MD P L g σ) {f : Nat → Int32} (h321 : σ 321 = arr 400 f) {p e f0 D v : Nat} (hp : p < e) (he : e ≤ 840) (hk : ag σ 317 p = nI 5) (hv : ag σ 318 p = nI v) (hD : D + 2 < 400) (hy : f (D + 1) = 0) (K : Q (some (.int (nI 0))) (up σ 287 (mo (upd g 51 (nI 1))))) : Wq xs d ax_cd269 4 [(4, .int (nI (p))), (3, .int (nI (D + 2))), (0, .ref 287), (1, .int (nI f0)), (2, .int (nI e))] [] σ Q := by
  refine wq_go rfl (fun _ => rfl) ?_
  refine wq_go rfl (fun _ => rfl) ?_
  refine wq_cge rfl (by first | omega | decide | exact Nat.lt_of_le_of_lt Nat.and_le_right (by decide) | exact ⟨by omega, by omega⟩) (by first | omega | decide | exact Nat.lt_of_le_of_lt Nat.and_le_right (by decide) | exact ⟨by omega, by omega⟩) (fun c => absurd c (by omega)) (fun c6 => ?_)
  refine wq_go rfl (fun _ => rfl) ?_
  refine wq_getf rfl (by first | rfl | assumption) (by first | decide | omega | assumption) (md_o hM) rfl ?_
  refine wq_go rfl (fun _ => rfl) ?_
  refine wq_iald rfl (by first | rfl | assumption) (by first | decide | omega | assumption) (md_c317 hM) rfl (by omega) (by first | decide | omega) ?_
  refine wq_top hk ?_
  refine wq_go rfl (fun _ => rfl) ?_
  refine wq_go rfl (fun _ => rfl) ?_
  refine wq_cN (m := 2) rfl rfl ?_
  refine wq_cge rfl (by first | omega | decide | exact Nat.lt_of_le_of_lt Nat.and_le_right (by decide) | exact ⟨by omega, by omega⟩) (by first | omega | decide | exact Nat.lt_of_le_of_lt Nat.and_le_right (by decide) | exact ⟨by omega, by omega⟩) (fun c14 => ?_) (fun c => absurd (show _ from by omega) c)
  refine wq_decN (c := 1) rfl rfl rfl (by omega) rfl ?_
  refine wq_go rfl (fun _ => rfl) ?_
  refine wq_getf rfl (by first | rfl | assumption) (by first | decide | omega | assumption) (md_o hM) rfl ?_
  refine wq_go rfl (fun _ => rfl) ?_
  refine wq_cN (m := 1) rfl rfl ?_
  refine wq_subN rfl (by omega) ?_
  refine wq_iald rfl (by first | rfl | assumption) (by first | decide | omega | assumption) h321 rfl (by omega) (by first | decide | omega) ?_
  refine wq_top (congrArg f (show D + 2 - 1 - 1 = D by omega)) ?_
  refine wq_go rfl (fun _ => rfl) ?_
  refine wq_go rfl (fun _ => rfl) ?_
  refine wq_getf rfl (by first | rfl | assumption) (by first | decide | omega | assumption) (md_o hM) rfl ?_
  refine wq_go rfl (fun _ => rfl) ?_
  refine wq_iald rfl (by first | rfl | assumption) (by first | decide | omega | assumption) h321 rfl (by omega) (by first | decide | omega) ?_
  refine wq_top (congrArg f (show D + 2 - 1 = D + 1 by omega)) ?_
  refine wq_go rfl (fun _ => rfl) ?_
  refine wq_go rfl (fun _ => rfl) ?_
  refine wq_cN (m := 5) rfl rfl ?_
  refine wq_cne rfl (by first | omega | decide | exact Nat.lt_of_le_of_lt Nat.and_le_right (by decide) | exact ⟨by omega, by omega⟩) (by first | omega | decide | exact Nat.lt_of_le_of_lt Nat.and_le_right (by decide) | exact ⟨by omega, by omega⟩) (fun c => absurd c (by omega)) (fun c50 => ?_)
  refine wq_go rfl (fun _ => rfl) ?_
  refine wq_if rfl (fun c => absurd (c.symm.trans (decide_eq_false (fun e => e hy))) (by decide)) (fun c52 => ?_)
  refine wq_go rfl (fun _ => rfl) ?_
  refine wq_cN (m := 1) rfl rfl ?_
  refine wq_mput rfl (md_o hM) rfl rfl rfl rfl ?_
  refine wq_cN (m := 0) rfl rfl ?_
  refine wq_iret rfl ?_
  exact K
theorem mt_code {xs : List Int32} {d : Nat} {Q : Option Value → (Nat → List Value) → Prop} {P : Pl} {L : Nat} {g : Nat → Int32} {V : Nat → Nat} {G : Nat → Nat → Int32} {f0 E : Nat} (hE : E ≤ 840) : ∀ (c : KCode) (dd e p : Nat) (f : Nat → Int32) (σ : Nat → List Value), wfc c dd e = true → dd ≤ 17 → p + c.length ≤ E → MD P L g σ → brG σ = G → σ 321 = arr 400 f → σ 320 = arrN 9 V → mcode G p c → (∀ σ', Fr xT σ σ' → MD P L (upd g 51 (nI 1)) σ' → evc (fun j => nI (V j)) c (stl f dd) = none → Q (some (.int (nI 0))) σ') → (∀ σ' f', Fr x321 σ σ' → MD P L g σ' → σ' 321 = arr 400 f' → evc (fun j => nI (V j)) c (stl f dd) = some (stl f' e) → Wq xs d ax_cd269 4 [(4, .int (nI (p + c.length))), (3, .int (nI e)), (0, .ref 287), (1, .int (nI f0)), (2, .int (nI E))] [] σ' Q) → Wq xs d ax_cd269 4 [(4, .int (nI (p))), (3, .int (nI (dd))), (0, .ref 287), (1, .int (nI f0)), (2, .int (nI E))] [] σ Q
  | [], dd, e, p, f, σ, hw, hd9, hp, hM, hg, h33, h34, hc, K0, K1 => by
    simp only [wfc, beq_iff_eq] at hw
    subst hw
    exact K1 σ f (fr_refl _ _) hM h33 rfl
  | (k, v) :: c, dd, e, p, f, σ, hw, hd9, hp, hM, hg, h33, h34, hc, K0, K1 => by
    simp only [List.length_cons] at hp K1
    obtain ⟨hp8, hc1, hc3, hc2⟩ := hc
    rw [← hg] at hc1 hc3
    have hc1 : ag σ 317 p = nI k := hc1
    have hc3 : ag σ 318 p = nI v := hc3
    unfold wfc at hw
    have fin : ∀ (f2 : Nat → Int32) (d2 : Nat), wfc c d2 e = true → d2 ≤ 17 → evc (fun j => nI (V j)) ((k, v) :: c) (stl f dd) = evc (fun j => nI (V j)) c (stl f2 d2) → Wq xs d ax_cd269 4 [(4, .int (nI (p + 1))), (3, .int (nI (d2))), (0, .ref 287), (1, .int (nI f0)), (2, .int (nI E))] [] (up σ 321 (arr 400 f2)) Q := by
      intro f2 d2 hw2 hd8 he
      refine mt_code hE c d2 e (p + 1) f2 (up σ 321 (arr 400 f2)) hw2 hd8 (by omega) (md_u321 hM) ?_ (up_same _ _ _) ((up_ne _ _ (by decide)).trans h34) hc2 ?_ ?_
      · rw [← hg]
        exact brG_eq (up_ne _ _ (by decide)) (up_ne _ _ (by decide)) (up_ne _ _ (by decide)) (up_ne _ _ (by decide)) (up_ne _ _ (by decide)) (up_ne _ _ (by decide)) (up_ne _ _ (by decide))
      · intro σ' hF hC' hn
        exact K0 σ' (fr_trans (fr_up (fr_refl _ _) rfl) hF) hC' (he.trans hn)
      · intro σ' f' hF hC' h33' hs
        have := K1 σ' f' (fr_trans (fr_up (fr_refl _ _) rfl) hF) hC' h33' (he.trans hs)
        rw [show p + (c.length + 1) = p + 1 + c.length by omega] at this
        exact this
    by_cases h2 : k < 2
    · rw [if_pos h2] at hw
      simp only [Bool.and_eq_true, decide_eq_true_eq, Bool.or_eq_true, beq_iff_eq] at hw
      obtain ⟨⟨⟨hv, hv9⟩, hd⟩, hw2⟩ := hw
      by_cases h0 : k = 0
      · subst h0
        refine mt_num hM h33 (by omega) hE hc1 hc3 (by omega) ?_
        refine fin _ (dd + 1) hw2 (by omega) ?_
        rw [stl_push]
        rfl
      · have h1 : k = 1 := by omega
        subst h1
        refine mt_var hM h33 (by omega) hE hc1 hc3 (by omega) (by omega) h34 ?_
        refine fin _ (dd + 1) hw2 (by omega) ?_
        rw [stl_push]
        rfl
    · rw [if_neg h2] at hw
      simp only [Bool.and_eq_true, decide_eq_true_eq] at hw
      obtain ⟨⟨⟨hk6, hv⟩, hd⟩, hw2⟩ := hw
      obtain ⟨D, hD⟩ : ∃ D, dd = D + 2 := ⟨dd - 2, by omega⟩
      subst hD
      have hev : evc (fun j => nI (V j)) ((k, v) :: c) (stl f (D + 2)) = if k = 5 ∧ f (D + 1) = 0 then none else evc (fun j => nI (V j)) c (stl (upd f D (opv k (f D) (f (D + 1)))) (D + 1)) := by
        rw [stl_push, show stl f (D + 2) = f (D + 1) :: f D :: stl f D from rfl]
        conv => lhs; unfold evc
        rw [if_neg (by omega), if_neg (by omega)]
      have fin2 : ¬ (k = 5 ∧ f (D + 1) = 0) → Wq xs d ax_cd269 4 [(4, .int (nI (p + 1))), (3, .int (nI (D + 1))), (0, .ref 287), (1, .int (nI f0)), (2, .int (nI E))] [] (up σ 321 (arr 400 (upd f D (opv k (f D) (f (D + 1)))))) Q := by
        intro hn
        exact fin (upd f D (opv k (f D) (f (D + 1)))) (D + 1) hw2 (by omega) (by rw [hev, if_neg hn])
      match k, hk6, h2, hc1, fin2, hev with
      | 2, _, _, hc1, fin2, _ => exact mt_bin2 hM h33 (by omega) hE hc1 hc3 (by omega) (fin2 (by omega))
      | 3, _, _, hc1, fin2, _ => exact mt_bin3 hM h33 (by omega) hE hc1 hc3 (by omega) (fin2 (by omega))
      | 4, _, _, hc1, fin2, _ => exact mt_bin4 hM h33 (by omega) hE hc1 hc3 (by omega) (fin2 (by omega))
      | 5, _, _, hc1, fin2, hev =>
        by_cases hy : f (D + 1) = 0
        · exact mt_div0 hM h33 (by omega) hE hc1 hc3 (by omega) hy (K0 _ (fr_up (fr_refl _ _) rfl) (md_u287 hM rfl) (by rw [hev, if_pos ⟨rfl, hy⟩]))
        · exact mt_bin5 hM h33 (by omega) hE hc1 hc3 (by omega) hy (fin2 (fun e => hy e.2))
      | 0, _, h2, _, _, _ => exact absurd (by decide) h2
      | 1, _, h2, _, _, _ => exact absurd (by decide) h2
      | k + 6, h, _, _, _, _ => exact absurd h (by omega)
theorem m_termOf {xs : List Int32} {d : Nat} {σ : Nat → List Value} {Q : Option Value → (Nat → List Value) → Prop} {P : Pl} {L : Nat} {g : Nat → Int32} (hM : MD P L g σ) {V : Nat → Nat} (h320 : σ 320 = arrN 9 V) {c : KCode} {p e : Nat} (hw : wfc c 0 1 = true) (hc : mcode (brG σ) p c) (heq : e = p + c.length) (he : e ≤ 840) (K1 : ∀ x σ', Fr x321 σ σ' → MD P L g σ' → evt (fun j => nI (V j)) c = some x → Q (some (.int x)) σ') (K0 : ∀ σ', Fr xT σ σ' → MD P L (upd g 51 (nI 1)) σ' → evt (fun j => nI (V j)) c = none → Q (some (.int (nI 0))) σ') : Wq xs (d + 0) ax_cd269 0 [(0, .ref 287), (1, .int (nI p)), (2, .int (nI e))] [] σ Q := by
  refine wq_cN (m := 0) rfl rfl ?_
  refine wq_go rfl (fun _ => rfl) ?_
  refine wq_go rfl (fun _ => rfl) ?_
  refine wq_go rfl (fun _ => rfl) ?_
  exact wq_lv ⟨(by decide : ([4, 3, 0, 1, 2] : List Nat).Nodup), (lvm (List.mem_of_getElem? (i := 0) rfl) (lvm (List.mem_of_getElem? (i := 1) rfl) (lvm (List.mem_of_getElem? (i := 2) rfl) (lvm (List.mem_of_getElem? (i := 3) rfl) (lvm (List.mem_of_getElem? (i := 4) rfl) lvn)))))⟩ (mt_code (G := brG σ) (f0 := p) he c 0 1 p (ag σ 321) σ hw (by omega) (by omega) hM rfl (md_c321 hM) h320 hc (fun σ' hF hM' hn => K0 σ' hF hM' (evt_none hn)) (fun σ' f' hF hM' h3' hs => by
    rw [← heq]
    refine wq_go rfl (fun _ => rfl) ?_
    refine wq_go rfl (fun _ => rfl) ?_
    refine wq_cge rfl (by first | omega | decide | exact Nat.lt_of_le_of_lt Nat.and_le_right (by decide) | exact ⟨by omega, by omega⟩) (by first | omega | decide | exact Nat.lt_of_le_of_lt Nat.and_le_right (by decide) | exact ⟨by omega, by omega⟩) (fun c6 => ?_) (fun c => absurd (show _ from by omega) c)
    refine wq_go rfl (fun _ => rfl) ?_
    refine wq_getf rfl (by first | rfl | assumption) (by first | decide | omega | assumption) (md_o hM') rfl ?_
    refine wq_cN (m := 0) rfl rfl ?_
    refine wq_iald rfl (by first | rfl | assumption) (by first | decide | omega | assumption) h3' rfl (by omega) (by first | decide | omega) ?_
    refine wq_iret rfl ?_
    rw [show f' 0 = f' 0 from rfl]
    exact K1 _ σ' hF hM' (evt_of hs)))
theorem x321_T : ∀ j, x321 j = true → xT j = true := by
  intro j h
  simp only [x321, xT, Bool.or_eq_true] at h ⊢
  exact Or.inl h
theorem xT_br {σ σ' : Nat → List Value} (h : Fr xT σ σ') : brG σ' = brG σ := brG_eq (h _ rfl) (h _ rfl) (h _ rfl) (h _ rfl) (h _ rfl) (h _ rfl) (h _ rfl)
theorem ml_nil {z : KCode} {vs : Nat → Int32} : evl vs [] z = (evt vs z).getD 0 := rfl
theorem ml_t {a c t : KCode} {r : List (KCode × KCode × KCode)} {z : KCode} {vs : Nat → Int32} {u v : Int32} (h1 : evt vs a = some u) (h2 : evt vs c = some v) (h : u < v) : evl vs ((a, c, t) :: r) z = (evt vs t).getD 0 := by
  simp only [evl, h1, h2, if_pos h]
theorem ml_f {a c t : KCode} {r : List (KCode × KCode × KCode)} {z : KCode} {vs : Nat → Int32} {u v : Int32} (h1 : evt vs a = some u) (h2 : evt vs c = some v) (h : ¬ u < v) : evl vs ((a, c, t) :: r) z = evl vs r z := by
  simp only [evl, h1, h2, if_neg h]
theorem ml_n1 {a c t : KCode} {r : List (KCode × KCode × KCode)} {z : KCode} {vs : Nat → Int32} (h1 : evt vs a = none) : evl vs ((a, c, t) :: r) z = nI 0 := by
  simp only [evl, h1]
  rfl
theorem ml_n2 {a c t : KCode} {r : List (KCode × KCode × KCode)} {z : KCode} {vs : Nat → Int32} {u : Int32} (h1 : evt vs a = some u) (h2 : evt vs c = none) : evl vs ((a, c, t) :: r) z = nI 0 := by
  simp only [evl, h1, h2]
  rfl
theorem ml_end {xs : List Int32} {d : Nat} {σ : Nat → List Value} {Q : Option Value → (Nat → List Value) → Prop} {P : Pl} {L : Nat} {g : Nat → Int32} (hM : MD P L g σ) (hb0 : g 51 = nI 0) {V : Nat → Nat} (h320 : σ 320 = arrN 9 V) {b at_ l p : Nat} {pl : Int32} (hb : b < 260) {c : KCode} (hw : wfc c 0 1 = true) (hc : mcode (brG σ) p c) (h3 : ag σ 315 b = nI p) (h4 : ag σ 316 b = nI (p + c.length)) (he : p + c.length ≤ 840) (K1 : ∀ x σ', Fr xT σ σ' → FrG yB g g → MD P L g σ' → evt (fun j => nI (V j)) c = some x → Q (some (.int x)) σ') (K0 : ∀ σ', Fr xT σ σ' → FrG yB g (upd g 51 (nI 1)) → MD P L (upd g 51 (nI 1)) σ' → evt (fun j => nI (V j)) c = none → Q (some (.int (nI 0))) σ') : Wq xs (d + 1) ax_cd268 68 [(4, .int (nI b)), (3, .int (nI at_)), (0, .ref 287), (1, .int (nI l)), (2, .int pl)] [] σ Q := by
  refine wq_go rfl (fun _ => rfl) ?_
  refine wq_go rfl (fun _ => rfl) ?_
  refine wq_getf rfl (by first | rfl | assumption) (by first | decide | omega | assumption) (md_o hM) rfl ?_
  refine wq_go rfl (fun _ => rfl) ?_
  refine wq_iald rfl (by first | rfl | assumption) (by first | decide | omega | assumption) (md_c315 hM) rfl (by omega) (by first | decide | omega) ?_
  refine wq_top h3 ?_
  refine wq_go rfl (fun _ => rfl) ?_
  refine wq_getf rfl (by first | rfl | assumption) (by first | decide | omega | assumption) (md_o hM) rfl ?_
  refine wq_go rfl (fun _ => rfl) ?_
  refine wq_iald rfl (by first | rfl | assumption) (by first | decide | omega | assumption) (md_c316 hM) rfl (by omega) (by first | decide | omega) ?_
  refine wq_top h4 ?_
  refine wq_callV rfl rfl (by first | rfl | assumption) (by first | decide | omega | assumption) (Nat.le_of_ble_eq_true rfl) (Nat.le_of_ble_eq_true rfl) rfl rfl ?_
  refine m_termOf hM h320 hw hc rfl he (fun x σ5 F5 M5 e5 => ?_) (fun σ5 F5 M5 e5 => ?_)
  · skip
    refine wq_go rfl (fun _ => rfl) ?_
    refine wq_go rfl (fun _ => rfl) ?_
    refine wq_getf rfl (by first | rfl | assumption) (by first | decide | omega | assumption) (md_o M5) rfl ?_
    refine wq_top hb0 ?_
    refine wq_zeq rfl (by first | omega | decide | exact Nat.lt_of_le_of_lt Nat.and_le_right (by decide) | exact ⟨by omega, by omega⟩) (fun c81 => ?_) (fun c => absurd (show _ from by omega) c)
    refine wq_go rfl (fun _ => rfl) ?_
    refine wq_iret rfl ?_
    exact K1 x _ (fr_mono F5 x321_T) (fg_refl _ _) M5 e5
  · skip
    refine wq_go rfl (fun _ => rfl) ?_
    refine wq_go rfl (fun _ => rfl) ?_
    refine wq_getf rfl (by first | rfl | assumption) (by first | decide | omega | assumption) (md_o M5) rfl ?_
    refine wq_zeq rfl (by first | omega | decide | exact Nat.lt_of_le_of_lt Nat.and_le_right (by decide) | exact ⟨by omega, by omega⟩) (fun c => absurd c (by omega)) (fun c81 => ?_)
    refine wq_cN (m := 0) rfl rfl ?_
    refine wq_go rfl (fun _ => rfl) ?_
    refine wq_iret rfl ?_
    exact K0 _ F5 (fg_up (fg_refl _ _) rfl) M5 e5
theorem ml_loop {xs : List Int32} {d : Nat} {Q : Option Value → (Nat → List Value) → Prop} {P : Pl} {L : Nat} {g : Nat → Int32} (hb0 : g 51 = nI 0) {V : Nat → Nat} {at_ l E : Nat} {pl : Int32} (hat : at_ < 8) (hE : E ≤ 260) (z : KCode) : ∀ (r : List (KCode × KCode × KCode)) (b : Nat) (σ : Nat → List Value), brAt (brG σ) b E r z → wfl r z = true → MD P L g σ → σ 320 = arrN 9 V → ag σ 311 at_ = nI E → (∀ σ' g', Fr xT σ σ' → FrG yB g g' → MD P L g' σ' → Q (some (.int (evl (fun j => nI (V j)) r z))) σ') → Wq xs (d + 1) ax_cd268 26 [(4, .int (nI b)), (3, .int (nI at_)), (0, .ref 287), (1, .int (nI l)), (2, .int pl)] [] σ Q := by
  intro r
  induction r with
  | nil =>
    intro b σ hbr hw hM h320 h311 K
    obtain ⟨hE1, h0, p, h3, h4, hz8, hz⟩ := hbr
    have h0 : ag σ 312 b = nI 0 := h0
    refine wq_go rfl (fun _ => rfl) ?_
    refine wq_go rfl (fun _ => rfl) ?_
    refine wq_getf rfl (by first | rfl | assumption) (by first | decide | omega | assumption) (md_o hM) rfl ?_
    refine wq_go rfl (fun _ => rfl) ?_
    refine wq_iald rfl (by first | rfl | assumption) (by first | decide | omega | assumption) (md_c311 hM) rfl (by omega) (by first | decide | omega) ?_
    refine wq_top h311 ?_
    refine wq_cge rfl (by first | omega | decide | exact Nat.lt_of_le_of_lt Nat.and_le_right (by decide) | exact ⟨by omega, by omega⟩) (by first | omega | decide | exact Nat.lt_of_le_of_lt Nat.and_le_right (by decide) | exact ⟨by omega, by omega⟩) (fun c => absurd c (by omega)) (fun c31 => ?_)
    refine wq_go rfl (fun _ => rfl) ?_
    refine wq_getf rfl (by first | rfl | assumption) (by first | decide | omega | assumption) (md_o hM) rfl ?_
    refine wq_go rfl (fun _ => rfl) ?_
    refine wq_bald rfl (by first | rfl | assumption) (Or.inr rfl) (by first | decide | omega | assumption) (md_c312 hM) rfl (by omega) (by first | decide | omega) ?_
    refine wq_top h0 ?_
    refine wq_zeq rfl (by first | omega | decide | exact Nat.lt_of_le_of_lt Nat.and_le_right (by decide) | exact ⟨by omega, by omega⟩) (fun c36 => ?_) (fun c => absurd (show _ from by omega) c)
    exact wq_lv ⟨(by decide : ([4, 3, 0, 1, 2] : List Nat).Nodup), (lvm (List.mem_of_getElem? (i := 0) rfl) (lvm (List.mem_of_getElem? (i := 1) rfl) (lvm (List.mem_of_getElem? (i := 2) rfl) (lvm (List.mem_of_getElem? (i := 3) rfl) (lvm (List.mem_of_getElem? (i := 4) rfl) lvn)))))⟩ (ml_end hM hb0 h320 (by omega) hw hz h3 h4 hz8 (fun x σ' F FG M' ev => by
      have K' := K σ' g F FG M'
      rw [ml_nil, ev] at K'
      exact K') (fun σ' F FG M' ev => by
      have K' := K σ' _ F FG M'
      rw [ml_nil, ev] at K'
      exact K'))
  | cons q r ih =>
    obtain ⟨a, c, t⟩ := q
    intro b σ hbr hw hM h320 h311 K
    obtain ⟨hbE, h0, ⟨p, h1, h2, h3, h4, h8, ma, mc, mt⟩, hbr⟩ := hbr
    have h0 : ag σ 312 b = nI 1 := h0
    simp only [wfl, Bool.and_eq_true] at hw
    obtain ⟨⟨⟨wa, wc⟩, wt⟩, wr⟩ := hw
    refine wq_go rfl (fun _ => rfl) ?_
    refine wq_go rfl (fun _ => rfl) ?_
    refine wq_getf rfl (by first | rfl | assumption) (by first | decide | omega | assumption) (md_o hM) rfl ?_
    refine wq_go rfl (fun _ => rfl) ?_
    refine wq_iald rfl (by first | rfl | assumption) (by first | decide | omega | assumption) (md_c311 hM) rfl (by omega) (by first | decide | omega) ?_
    refine wq_top h311 ?_
    refine wq_cge rfl (by first | omega | decide | exact Nat.lt_of_le_of_lt Nat.and_le_right (by decide) | exact ⟨by omega, by omega⟩) (by first | omega | decide | exact Nat.lt_of_le_of_lt Nat.and_le_right (by decide) | exact ⟨by omega, by omega⟩) (fun c => absurd c (by omega)) (fun c31 => ?_)
    refine wq_go rfl (fun _ => rfl) ?_
    refine wq_getf rfl (by first | rfl | assumption) (by first | decide | omega | assumption) (md_o hM) rfl ?_
    refine wq_go rfl (fun _ => rfl) ?_
    refine wq_bald rfl (by first | rfl | assumption) (Or.inr rfl) (by first | decide | omega | assumption) (md_c312 hM) rfl (by omega) (by first | decide | omega) ?_
    refine wq_top h0 ?_
    refine wq_zeq rfl (by first | omega | decide | exact Nat.lt_of_le_of_lt Nat.and_le_right (by decide) | exact ⟨by omega, by omega⟩) (fun c => absurd c (by omega)) (fun c36 => ?_)
    refine wq_go rfl (fun _ => rfl) ?_
    refine wq_go rfl (fun _ => rfl) ?_
    refine wq_getf rfl (by first | rfl | assumption) (by first | decide | omega | assumption) (md_o hM) rfl ?_
    refine wq_go rfl (fun _ => rfl) ?_
    refine wq_iald rfl (by first | rfl | assumption) (by first | decide | omega | assumption) (md_c313 hM) rfl (by omega) (by first | decide | omega) ?_
    refine wq_top h1 ?_
    refine wq_go rfl (fun _ => rfl) ?_
    refine wq_getf rfl (by first | rfl | assumption) (by first | decide | omega | assumption) (md_o hM) rfl ?_
    refine wq_go rfl (fun _ => rfl) ?_
    refine wq_iald rfl (by first | rfl | assumption) (by first | decide | omega | assumption) (md_c314 hM) rfl (by omega) (by first | decide | omega) ?_
    refine wq_top h2 ?_
    refine wq_callV rfl rfl (by first | rfl | assumption) (by first | decide | omega | assumption) (Nat.le_of_ble_eq_true rfl) (Nat.le_of_ble_eq_true rfl) rfl rfl ?_
    refine m_termOf hM h320 wa ma rfl (by omega) (fun xa σ2 F2 M2 ea => ?_) (fun σ2 F2 M2 ea => ?_)
    · skip
      have h320b : σ2 320 = arrN 9 V := (F2 320 rfl).trans h320
      have hG2 : brG σ2 = brG σ := xT_br (fr_mono F2 x321_T)
      refine wq_go rfl (fun _ => rfl) ?_
      refine wq_go rfl (fun _ => rfl) ?_
      refine wq_go rfl (fun _ => rfl) ?_
      refine wq_getf rfl (by first | rfl | assumption) (by first | decide | omega | assumption) (md_o M2) rfl ?_
      refine wq_go rfl (fun _ => rfl) ?_
      refine wq_iald rfl (by first | rfl | assumption) (by first | decide | omega | assumption) (md_c314 M2) rfl (by omega) (by first | decide | omega) ?_
      refine wq_top ((congrFun (congrFun hG2 2) b).trans h2) ?_
      refine wq_go rfl (fun _ => rfl) ?_
      refine wq_getf rfl (by first | rfl | assumption) (by first | decide | omega | assumption) (md_o M2) rfl ?_
      refine wq_go rfl (fun _ => rfl) ?_
      refine wq_iald rfl (by first | rfl | assumption) (by first | decide | omega | assumption) (md_c315 M2) rfl (by omega) (by first | decide | omega) ?_
      refine wq_top ((congrFun (congrFun hG2 3) b).trans h3) ?_
      refine wq_callV rfl rfl (by first | rfl | assumption) (by first | decide | omega | assumption) (Nat.le_of_ble_eq_true rfl) (Nat.le_of_ble_eq_true rfl) rfl rfl ?_
      refine m_termOf M2 h320b wc (by rw [hG2]; exact mc) rfl (by omega) (fun xc σ3 F3 M3 ec => ?_) (fun σ3 F3 M3 ec => ?_)
      · skip
        have h320c : σ3 320 = arrN 9 V := (F3 320 rfl).trans h320b
        have hG3 : brG σ3 = brG σ := (xT_br (fr_mono F3 x321_T)).trans hG2
        have hF3 := (fr_trans (fr_mono F2 x321_T) (fr_mono F3 x321_T))
        by_cases huv : xa < xc
        · skip
          refine wq_go rfl (fun _ => rfl) ?_
          refine wq_go rfl (fun _ => rfl) ?_
          refine wq_getf rfl (by first | rfl | assumption) (by first | decide | omega | assumption) (md_o M3) rfl ?_
          refine wq_top hb0 ?_
          refine wq_zeq rfl (by first | omega | decide | exact Nat.lt_of_le_of_lt Nat.and_le_right (by decide) | exact ⟨by omega, by omega⟩) (fun c61 => ?_) (fun c => absurd (show _ from by omega) c)
          refine wq_go rfl (fun _ => rfl) ?_
          refine wq_go rfl (fun _ => rfl) ?_
          refine wq_cmp rfl (fun c66 => ?_) (fun c => absurd (c.symm.trans (decide_eq_true huv)) (by decide))
          exact wq_lv ⟨(by decide : ([6, 5, 4, 3, 0, 1, 2] : List Nat).Nodup), (lvm (List.mem_of_getElem? (i := 2) rfl) (lvm (List.mem_of_getElem? (i := 3) rfl) (lvm (List.mem_of_getElem? (i := 4) rfl) (lvm (List.mem_of_getElem? (i := 5) rfl) (lvm (List.mem_of_getElem? (i := 6) rfl) lvn)))))⟩ (ml_end M3 hb0 h320c (by omega) wt (by rw [hG3]; exact mt) ((congrFun (congrFun hG3 3) b).trans h3) ((congrFun (congrFun hG3 4) b).trans h4) h8 (fun x σ' F FG M' ev => by
            have K' := K σ' g (fr_trans hF3 F) FG M'
            rw [ml_t ea ec huv, ev] at K'
            exact K') (fun σ' F FG M' ev => by
            have K' := K σ' _ (fr_trans hF3 F) FG M'
            rw [ml_t ea ec huv, ev] at K'
            exact K'))
        · skip
          refine wq_go rfl (fun _ => rfl) ?_
          refine wq_go rfl (fun _ => rfl) ?_
          refine wq_getf rfl (by first | rfl | assumption) (by first | decide | omega | assumption) (md_o M3) rfl ?_
          refine wq_top hb0 ?_
          refine wq_zeq rfl (by first | omega | decide | exact Nat.lt_of_le_of_lt Nat.and_le_right (by decide) | exact ⟨by omega, by omega⟩) (fun c61 => ?_) (fun c => absurd (show _ from by omega) c)
          refine wq_go rfl (fun _ => rfl) ?_
          refine wq_go rfl (fun _ => rfl) ?_
          refine wq_cmp rfl (fun c => absurd (c.symm.trans (decide_eq_false huv)) (by decide)) (fun c66 => ?_)
          refine wq_go rfl (fun _ => rfl) ?_
          refine wq_incN rfl rfl rfl ?_
          refine wq_go rfl (fun _ => rfl) ?_
          exact wq_lv ⟨(by decide : ([4, 6, 5, 3, 0, 1, 2] : List Nat).Nodup), (lvm (List.mem_of_getElem? (i := 0) rfl) (lvm (List.mem_of_getElem? (i := 3) rfl) (lvm (List.mem_of_getElem? (i := 4) rfl) (lvm (List.mem_of_getElem? (i := 5) rfl) (lvm (List.mem_of_getElem? (i := 6) rfl) lvn)))))⟩ (ih (b + 1) σ3 (by rw [hG3]; exact hbr) wr M3 h320c ((ag_eq (hF3 311 rfl) at_).trans h311) (fun σ' g' F FG M' => by
            have K' := K σ' g' (fr_trans hF3 F) FG M'
            rw [ml_f ea ec huv] at K'
            exact K'))
      · skip
        refine wq_go rfl (fun _ => rfl) ?_
        refine wq_go rfl (fun _ => rfl) ?_
        refine wq_getf rfl (by first | rfl | assumption) (by first | decide | omega | assumption) (md_o M3) rfl ?_
        refine wq_zeq rfl (by first | omega | decide | exact Nat.lt_of_le_of_lt Nat.and_le_right (by decide) | exact ⟨by omega, by omega⟩) (fun c => absurd c (by omega)) (fun c61 => ?_)
        refine wq_cN (m := 0) rfl rfl ?_
        refine wq_iret rfl ?_
        have K' := K _ _ (fr_trans (fr_mono F2 x321_T) F3) (fg_up (fg_refl _ _) rfl) M3
        rw [ml_n2 ea ec] at K'
        exact K'
    · skip
      have h320b : σ2 320 = arrN 9 V := (F2 320 rfl).trans h320
      have hG2 : brG σ2 = brG σ := xT_br F2
      refine wq_go rfl (fun _ => rfl) ?_
      refine wq_go rfl (fun _ => rfl) ?_
      refine wq_go rfl (fun _ => rfl) ?_
      refine wq_getf rfl (by first | rfl | assumption) (by first | decide | omega | assumption) (md_o M2) rfl ?_
      refine wq_go rfl (fun _ => rfl) ?_
      refine wq_iald rfl (by first | rfl | assumption) (by first | decide | omega | assumption) (md_c314 M2) rfl (by omega) (by first | decide | omega) ?_
      refine wq_top ((congrFun (congrFun hG2 2) b).trans h2) ?_
      refine wq_go rfl (fun _ => rfl) ?_
      refine wq_getf rfl (by first | rfl | assumption) (by first | decide | omega | assumption) (md_o M2) rfl ?_
      refine wq_go rfl (fun _ => rfl) ?_
      refine wq_iald rfl (by first | rfl | assumption) (by first | decide | omega | assumption) (md_c315 M2) rfl (by omega) (by first | decide | omega) ?_
      refine wq_top ((congrFun (congrFun hG2 3) b).trans h3) ?_
      refine wq_callV rfl rfl (by first | rfl | assumption) (by first | decide | omega | assumption) (Nat.le_of_ble_eq_true rfl) (Nat.le_of_ble_eq_true rfl) rfl rfl ?_
      refine m_termOf M2 h320b wc (by rw [hG2]; exact mc) rfl (by omega) (fun xc σ3 F3 M3 ec => ?_) (fun σ3 F3 M3 ec => ?_)
      · skip
        refine wq_go rfl (fun _ => rfl) ?_
        refine wq_go rfl (fun _ => rfl) ?_
        refine wq_getf rfl (by first | rfl | assumption) (by first | decide | omega | assumption) (md_o M3) rfl ?_
        refine wq_zeq rfl (by first | omega | decide | exact Nat.lt_of_le_of_lt Nat.and_le_right (by decide) | exact ⟨by omega, by omega⟩) (fun c => absurd c (by omega)) (fun c61 => ?_)
        refine wq_cN (m := 0) rfl rfl ?_
        refine wq_iret rfl ?_
        have K' := K _ _ (fr_trans F2 (fr_mono F3 x321_T)) (fg_up (fg_refl _ _) rfl) M3
        rw [ml_n1 ea] at K'
        exact K'
      · skip
        refine wq_go rfl (fun _ => rfl) ?_
        refine wq_go rfl (fun _ => rfl) ?_
        refine wq_getf rfl (by first | rfl | assumption) (by first | decide | omega | assumption) (md_o M3) rfl ?_
        refine wq_zeq rfl (by first | omega | decide | exact Nat.lt_of_le_of_lt Nat.and_le_right (by decide) | exact ⟨by omega, by omega⟩) (fun c => absurd c (by omega)) (fun c61 => ?_)
        refine wq_cN (m := 0) rfl rfl ?_
        refine wq_iret rfl ?_
        have K' := K _ _ (fr_trans F2 F3) (fg_up (fg_up (fg_refl _ _) rfl) rfl) M3
        rw [ml_n1 ea] at K'
        exact K'
theorem m_lawTells {xs : List Int32} {d : Nat} {σ : Nat → List Value} {Q : Option Value → (Nat → List Value) → Prop} {P : Pl} {L : Nat} {g : Nat → Int32} (hM : MD P L g σ) {V : Nat → Nat} (h320 : σ 320 = arrN 9 V) {l : Nat} {pl : Int32} (hl : l < 4) (hpl : pl = evl (fun j => nI (V j)) (dfl l).1 (dfl l).2) (K : ∀ σ' g', Fr xT σ σ' → FrG yB g g' → MD P L g' σ' → Q (some (.int (evl (fun j => nI (V j)) (Plw P l).1 (Plw P l).2))) σ') : Wq xs (d + 1) ax_cd268 0 [(0, .ref 287), (1, .int (nI l)), (2, .int pl)] [] σ Q := by
  have hL2 := md_l2 hM
  obtain ⟨hP1, hP2, hP3, hP4, hP5, hP6, hP7, hP8, hPv, hPm, hPo, hPw, hPl⟩ := md_pok hM
  obtain ⟨f, E, h310, h311, hf, hE, hor⟩ := md_law hM l hl
  rcases hor with ⟨hfe, hdf⟩ | hbr
  · subst hfe
    refine wq_cN (m := 4) rfl rfl ?_
    refine wq_go rfl (fun _ => rfl) ?_
    refine wq_getf rfl (by first | rfl | assumption) (by first | decide | omega | assumption) (md_o hM) rfl ?_
    refine wq_top (md_l hM) ?_
    refine wq_mulN rfl ?_
    refine wq_go rfl (fun _ => rfl) ?_
    refine wq_addN rfl ?_
    refine wq_go rfl (fun _ => rfl) ?_
    refine wq_go rfl (fun _ => rfl) ?_
    refine wq_getf rfl (by first | rfl | assumption) (by first | decide | omega | assumption) (md_o hM) rfl ?_
    refine wq_go rfl (fun _ => rfl) ?_
    refine wq_iald rfl (by first | rfl | assumption) (by first | decide | omega | assumption) (md_c310 hM) rfl (by omega) (by first | decide | omega) ?_
    refine wq_top h310 ?_
    refine wq_go rfl (fun _ => rfl) ?_
    refine wq_getf rfl (by first | rfl | assumption) (by first | decide | omega | assumption) (md_o hM) rfl ?_
    refine wq_go rfl (fun _ => rfl) ?_
    refine wq_iald rfl (by first | rfl | assumption) (by first | decide | omega | assumption) (md_c311 hM) rfl (by omega) (by first | decide | omega) ?_
    refine wq_top h311 ?_
    refine wq_cne rfl (by first | omega | decide | exact Nat.lt_of_le_of_lt Nat.and_le_right (by decide) | exact ⟨by omega, by omega⟩) (by first | omega | decide | exact Nat.lt_of_le_of_lt Nat.and_le_right (by decide) | exact ⟨by omega, by omega⟩) (fun c => absurd c (fun e => e rfl)) (fun c15 => ?_)
    refine wq_go rfl (fun _ => rfl) ?_
    refine wq_iret rfl ?_
    rw [hpl, ← hdf]
    exact K σ g (fr_refl _ _) (fg_refl _ _) hM
  · have hlt := brAt_lt _ _ _ _ hbr
    refine wq_cN (m := 4) rfl rfl ?_
    refine wq_go rfl (fun _ => rfl) ?_
    refine wq_getf rfl (by first | rfl | assumption) (by first | decide | omega | assumption) (md_o hM) rfl ?_
    refine wq_top (md_l hM) ?_
    refine wq_mulN rfl ?_
    refine wq_go rfl (fun _ => rfl) ?_
    refine wq_addN rfl ?_
    refine wq_go rfl (fun _ => rfl) ?_
    refine wq_go rfl (fun _ => rfl) ?_
    refine wq_getf rfl (by first | rfl | assumption) (by first | decide | omega | assumption) (md_o hM) rfl ?_
    refine wq_go rfl (fun _ => rfl) ?_
    refine wq_iald rfl (by first | rfl | assumption) (by first | decide | omega | assumption) (md_c310 hM) rfl (by omega) (by first | decide | omega) ?_
    refine wq_top h310 ?_
    refine wq_go rfl (fun _ => rfl) ?_
    refine wq_getf rfl (by first | rfl | assumption) (by first | decide | omega | assumption) (md_o hM) rfl ?_
    refine wq_go rfl (fun _ => rfl) ?_
    refine wq_iald rfl (by first | rfl | assumption) (by first | decide | omega | assumption) (md_c311 hM) rfl (by omega) (by first | decide | omega) ?_
    refine wq_top h311 ?_
    refine wq_cne rfl (by first | omega | decide | exact Nat.lt_of_le_of_lt Nat.and_le_right (by decide) | exact ⟨by omega, by omega⟩) (by first | omega | decide | exact Nat.lt_of_le_of_lt Nat.and_le_right (by decide) | exact ⟨by omega, by omega⟩) (fun c15 => ?_) (fun c => absurd (show _ from by omega) c)
    refine wq_go rfl (fun _ => rfl) ?_
    refine wq_cN (m := 0) rfl rfl ?_
    refine wq_mput rfl (md_o hM) rfl rfl rfl rfl ?_
    refine wq_go rfl (fun _ => rfl) ?_
    refine wq_getf rfl (by first | rfl | assumption) (by first | decide | omega | assumption) (up_same _ _ _) rfl ?_
    refine wq_go rfl (fun _ => rfl) ?_
    refine wq_iald rfl (by first | rfl | assumption) (by first | decide | omega | assumption) ((up_ne _ _ (by decide)).trans (md_c310 hM)) rfl (by omega) (by first | decide | omega) ?_
    refine wq_top h310 ?_
    refine wq_go rfl (fun _ => rfl) ?_
    have hF0 : Fr xT σ (up σ 287 (mo (upd g 51 (nI 0)))) := fr_up (fr_refl _ _) rfl
    exact wq_lv ⟨(by decide : ([4, 3, 0, 1, 2] : List Nat).Nodup), (lvm (List.mem_of_getElem? (i := 0) rfl) (lvm (List.mem_of_getElem? (i := 1) rfl) (lvm (List.mem_of_getElem? (i := 2) rfl) (lvm (List.mem_of_getElem? (i := 3) rfl) (lvm (List.mem_of_getElem? (i := 4) rfl) lvn)))))⟩ (ml_loop (g := upd g 51 (nI 0)) rfl (by omega) hE _ _ f _ (by rw [xT_br hF0]; exact hbr) (hPl l hl) (md_u287 hM rfl) ((up_ne _ _ (by decide)).trans h320) ((ag_eq (up_ne _ _ (by decide)) _).trans h311) (fun σ' g' F FG M' => K σ' g' (fr_trans hF0 F) (fg_trans (fg_up (fg_refl _ _) rfl) FG) M'))
def x320 : Nat → Bool := fun j => j == 320
theorem m_looksAt {xs : List Int32} {d : Nat} {σ : Nat → List Value} {Q : Option Value → (Nat → List Value) → Prop} {P : Pl} {L : Nat} {g : Nat → Int32} (hM : MD P L g σ) {S : St} (hok : Sok S) (hR : RwIs σ S) {c t : Nat} (hc : c < Pch P) (ht : t < 4) (K : ∀ σ', Fr x320 σ σ' → MD P L g σ' → σ' 320 = arrN 9 (Vwash P S c t) → Q none σ') : Wq xs (d + 1) ax_cd266 0 [(0, .ref 287), (1, .int (nI c)), (2, .int (nI t))] [] σ Q := by
  have hL2 := md_l2 hM
  obtain ⟨hP1, hP2, hP3, hP4, hP5, hP6, hP7, hP8, hPv, hPm, hPo, hPw, hPl⟩ := md_pok hM
  have hhr := hok.2.1
  refine wq_go rfl (fun _ => rfl) ?_
  refine wq_getf rfl (by first | rfl | assumption) (by first | decide | omega | assumption) (md_o hM) rfl ?_
  refine wq_cN (m := 0) rfl rfl ?_
  refine wq_go rfl (fun _ => rfl) ?_
  refine wq_getf rfl (by first | rfl | assumption) (by first | decide | omega | assumption) (md_o hM) rfl ?_
  refine wq_cN (m := 4) rfl rfl ?_
  refine wq_go rfl (fun _ => rfl) ?_
  refine wq_getf rfl (by first | rfl | assumption) (by first | decide | omega | assumption) (md_o hM) rfl ?_
  refine wq_top (md_l hM) ?_
  refine wq_mulN rfl ?_
  refine wq_go rfl (fun _ => rfl) ?_
  refine wq_addN rfl ?_
  refine wq_iald rfl (by first | rfl | assumption) (by first | decide | omega | assumption) (md_c298 hM) rfl (by omega) (by first | decide | omega) ?_
  refine wq_top (md_m298 hM _ (by omega)) ?_
  refine wq_iast rfl (by first | rfl | assumption) (by first | decide | omega | assumption) (md_c320 hM) rfl (by omega) (by first | decide | omega) ?_
  refine wq_go rfl (fun _ => rfl) ?_
  refine wq_getf rfl (by first | rfl | assumption) (by first | decide | omega | assumption) ((up_ne _ _ (by decide)).trans (md_o hM)) rfl ?_
  refine wq_cN (m := 1) rfl rfl ?_
  refine wq_cN (m := 0) rfl rfl ?_
  refine wq_iast rfl (by first | rfl | assumption) (by first | decide | omega | assumption) (up_same _ _ _) rfl (by omega) (by first | decide | omega) ?_
  rw [up_up]
  refine wq_go rfl (fun _ => rfl) ?_
  refine wq_getf rfl (by first | rfl | assumption) (by first | decide | omega | assumption) ((up_ne _ _ (by decide)).trans (md_o hM)) rfl ?_
  refine wq_cN (m := 2) rfl rfl ?_
  refine wq_go rfl (fun _ => rfl) ?_
  refine wq_iast rfl (by first | rfl | assumption) (by first | decide | omega | assumption) (up_same _ _ _) rfl (by omega) (by first | decide | omega) ?_
  rw [up_up]
  refine wq_go rfl (fun _ => rfl) ?_
  refine wq_getf rfl (by first | rfl | assumption) (by first | decide | omega | assumption) ((up_ne _ _ (by decide)).trans (md_o hM)) rfl ?_
  refine wq_cN (m := 3) rfl rfl ?_
  refine wq_go rfl (fun _ => rfl) ?_
  refine wq_getf rfl (by first | rfl | assumption) (by first | decide | omega | assumption) ((up_ne _ _ (by decide)).trans (md_o hM)) rfl ?_
  refine wq_cN (m := 4) rfl rfl ?_
  refine wq_go rfl (fun _ => rfl) ?_
  refine wq_mulN rfl ?_
  refine wq_go rfl (fun _ => rfl) ?_
  refine wq_addN rfl ?_
  refine wq_ialdN rfl (by first | rfl | assumption) (by first | decide | omega | assumption) ((up_ne _ _ (by decide)).trans hR) rfl (by omega) (by first | decide | omega) ?_
  refine wq_top (congrArg nI (rf_sq S (by omega) (by omega))) ?_
  refine wq_iast rfl (by first | rfl | assumption) (by first | decide | omega | assumption) (up_same _ _ _) rfl (by omega) (by first | decide | omega) ?_
  rw [up_up]
  refine wq_go rfl (fun _ => rfl) ?_
  refine wq_getf rfl (by first | rfl | assumption) (by first | decide | omega | assumption) ((up_ne _ _ (by decide)).trans (md_o hM)) rfl ?_
  refine wq_cN (m := 4) rfl rfl ?_
  refine wq_cN (m := 0) rfl rfl ?_
  refine wq_iast rfl (by first | rfl | assumption) (by first | decide | omega | assumption) (up_same _ _ _) rfl (by omega) (by first | decide | omega) ?_
  rw [up_up]
  refine wq_go rfl (fun _ => rfl) ?_
  refine wq_getf rfl (by first | rfl | assumption) (by first | decide | omega | assumption) ((up_ne _ _ (by decide)).trans (md_o hM)) rfl ?_
  refine wq_cN (m := 5) rfl rfl ?_
  refine wq_go rfl (fun _ => rfl) ?_
  refine wq_getf rfl (by first | rfl | assumption) (by first | decide | omega | assumption) ((up_ne _ _ (by decide)).trans (md_o hM)) rfl ?_
  refine wq_cN (m := 59) rfl rfl ?_
  refine wq_ialdN rfl (by first | rfl | assumption) (by first | decide | omega | assumption) ((up_ne _ _ (by decide)).trans hR) rfl (by omega) (by first | decide | omega) ?_
  refine wq_top (congrArg nI (rf_hr S)) ?_
  refine wq_cN (m := 24) rfl rfl ?_
  refine wq_remN rfl (by first | decide | omega) (by first | decide | omega) (by first | decide | omega) ?_
  refine wq_iast rfl (by first | rfl | assumption) (by first | decide | omega | assumption) (up_same _ _ _) rfl (by omega) (by first | decide | omega) ?_
  rw [up_up]
  refine wq_go rfl (fun _ => rfl) ?_
  refine wq_getf rfl (by first | rfl | assumption) (by first | decide | omega | assumption) ((up_ne _ _ (by decide)).trans (md_o hM)) rfl ?_
  refine wq_cN (m := 6) rfl rfl ?_
  refine wq_go rfl (fun _ => rfl) ?_
  refine wq_getf rfl (by first | rfl | assumption) (by first | decide | omega | assumption) ((up_ne _ _ (by decide)).trans (md_o hM)) rfl ?_
  refine wq_cN (m := 20) rfl rfl ?_
  refine wq_go rfl (fun _ => rfl) ?_
  refine wq_addN rfl ?_
  refine wq_ialdN rfl (by first | rfl | assumption) (by first | decide | omega | assumption) ((up_ne _ _ (by decide)).trans hR) rfl (by omega) (by first | decide | omega) ?_
  refine wq_top (congrArg nI (rf_si S (by omega))) ?_
  refine wq_iast rfl (by first | rfl | assumption) (by first | decide | omega | assumption) (up_same _ _ _) rfl (by omega) (by first | decide | omega) ?_
  rw [up_up]
  refine wq_go rfl (fun _ => rfl) ?_
  refine wq_getf rfl (by first | rfl | assumption) (by first | decide | omega | assumption) ((up_ne _ _ (by decide)).trans (md_o hM)) rfl ?_
  refine wq_cN (m := 7) rfl rfl ?_
  refine wq_go rfl (fun _ => rfl) ?_
  refine wq_iast rfl (by first | rfl | assumption) (by first | decide | omega | assumption) (up_same _ _ _) rfl (by omega) (by first | decide | omega) ?_
  rw [up_up]
  refine wq_go rfl (fun _ => rfl) ?_
  refine wq_getf rfl (by first | rfl | assumption) (by first | decide | omega | assumption) ((up_ne _ _ (by decide)).trans (md_o hM)) rfl ?_
  refine wq_cN (m := 8) rfl rfl ?_
  refine wq_go rfl (fun _ => rfl) ?_
  refine wq_cN (m := 4) rfl rfl ?_
  refine wq_go rfl (fun _ => rfl) ?_
  refine wq_mulN rfl ?_
  refine wq_callV rfl rfl (by first | rfl | assumption) (by first | decide | omega | assumption) (Nat.le_of_ble_eq_true rfl) (Nat.le_of_ble_eq_true rfl) rfl rfl ?_
  refine m_four (md_u320 hM) ((up_ne _ _ (by decide)).trans hR) (by omega) ?_
  refine wq_top (congrArg nI (s4_sq S (by omega))) ?_
  refine wq_iast rfl (by first | rfl | assumption) (by first | decide | omega | assumption) (up_same _ _ _) rfl (by omega) (by first | decide | omega) ?_
  rw [up_up]
  refine wq_end rfl (fun _ => rfl) ?_
  refine K _ (fr_up (fr_refl _ _) rfl) (md_u320 hM) ((up_same _ _ _).trans (arr_congr (fun j hj => ?_)))
  match j, hj with
  | 0, _ => rfl
  | 1, _ => rfl
  | 2, _ => rfl
  | 3, _ => rfl
  | 4, _ => rfl
  | 5, _ => rfl
  | 6, _ => rfl
  | 7, _ => rfl
  | 8, _ => rfl
  | j + 9, hj => exact absurd hj (by omega)
theorem m_looksBoth {xs : List Int32} {d : Nat} {σ : Nat → List Value} {Q : Option Value → (Nat → List Value) → Prop} {P : Pl} {L : Nat} {g : Nat → Int32} (hM : MD P L g σ) {S : St} (hok : Sok S) (hR : RwIs σ S) {h c t : Nat} (hh : h < Phd P) (hc : c < Pch P) (ht : t < 4) (K : ∀ σ', Fr x320 σ σ' → MD P L g σ' → σ' 320 = arrN 9 (Vsit P S h c t) → Q none σ') : Wq xs (d + 2) ax_cd265 0 [(0, .ref 287), (1, .int (nI c)), (2, .int (nI h)), (3, .int (nI t))] [] σ Q := by
  have hL2 := md_l2 hM
  obtain ⟨hP1, hP2, hP3, hP4, hP5, hP6, hP7, hP8, hPv, hPm, hPo, hPw, hPl⟩ := md_pok hM
  have hhr := hok.2.1
  refine wq_go rfl (fun _ => rfl) ?_
  refine wq_go rfl (fun _ => rfl) ?_
  refine wq_go rfl (fun _ => rfl) ?_
  refine wq_callV rfl rfl (by first | rfl | assumption) (by first | decide | omega | assumption) (Nat.le_of_ble_eq_true rfl) (Nat.le_of_ble_eq_true rfl) rfl rfl ?_
  refine m_looksAt hM hok hR hc ht (fun σ1 F1 M1 V1 => ?_)
  have R1 : RwIs σ1 S := (F1 323 rfl).trans hR
  refine wq_go rfl (fun _ => rfl) ?_
  refine wq_getf rfl (by first | rfl | assumption) (by first | decide | omega | assumption) (md_o M1) rfl ?_
  refine wq_cN (m := 1) rfl rfl ?_
  refine wq_go rfl (fun _ => rfl) ?_
  refine wq_getf rfl (by first | rfl | assumption) (by first | decide | omega | assumption) (md_o M1) rfl ?_
  refine wq_cN (m := 5) rfl rfl ?_
  refine wq_go rfl (fun _ => rfl) ?_
  refine wq_getf rfl (by first | rfl | assumption) (by first | decide | omega | assumption) (md_o M1) rfl ?_
  refine wq_top (md_l M1) ?_
  refine wq_mulN rfl ?_
  refine wq_go rfl (fun _ => rfl) ?_
  refine wq_addN rfl ?_
  refine wq_iald rfl (by first | rfl | assumption) (by first | decide | omega | assumption) (md_c300 M1) rfl (by omega) (by first | decide | omega) ?_
  refine wq_top (md_m300 M1 _ (by omega)) ?_
  refine wq_iastN rfl (by first | rfl | assumption) (by first | decide | omega | assumption) V1 rfl (by omega) (by first | decide | omega) ?_
  refine wq_go rfl (fun _ => rfl) ?_
  refine wq_getf rfl (by first | rfl | assumption) (by first | decide | omega | assumption) ((up_ne _ _ (by decide)).trans (md_o M1)) rfl ?_
  refine wq_cN (m := 4) rfl rfl ?_
  refine wq_go rfl (fun _ => rfl) ?_
  refine wq_getf rfl (by first | rfl | assumption) (by first | decide | omega | assumption) ((up_ne _ _ (by decide)).trans (md_o M1)) rfl ?_
  refine wq_cN (m := 24) rfl rfl ?_
  refine wq_cN (m := 4) rfl rfl ?_
  refine wq_go rfl (fun _ => rfl) ?_
  refine wq_mulN rfl ?_
  refine wq_addN rfl ?_
  refine wq_go rfl (fun _ => rfl) ?_
  refine wq_addN rfl ?_
  refine wq_ialdN rfl (by first | rfl | assumption) (by first | decide | omega | assumption) ((up_ne _ _ (by decide)).trans R1) rfl (by omega) (by first | decide | omega) ?_
  refine wq_top (congrArg nI (rf_ow S (by omega) (by omega))) ?_
  refine wq_iastN rfl (by first | rfl | assumption) (by first | decide | omega | assumption) (up_same _ _ _) rfl (by omega) (by first | decide | omega) ?_
  rw [up_up]
  refine wq_go rfl (fun _ => rfl) ?_
  refine wq_getf rfl (by first | rfl | assumption) (by first | decide | omega | assumption) ((up_ne _ _ (by decide)).trans (md_o M1)) rfl ?_
  refine wq_cN (m := 7) rfl rfl ?_
  refine wq_go rfl (fun _ => rfl) ?_
  refine wq_iastN rfl (by first | rfl | assumption) (by first | decide | omega | assumption) (up_same _ _ _) rfl (by omega) (by first | decide | omega) ?_
  rw [up_up]
  refine wq_end rfl (fun _ => rfl) ?_
  refine K _ (fr_up F1 rfl) (md_u320 M1) ((up_same _ _ _).trans (arrN_congr (fun j hj => ?_)))
  match j, hj with
  | 0, _ => rfl
  | 1, _ => rfl
  | 2, _ => rfl
  | 3, _ => rfl
  | 4, _ => rfl
  | 5, _ => rfl
  | 6, _ => rfl
  | 7, _ => rfl
  | 8, _ => rfl
  | j + 9, hj => exact absurd hj (by omega)
theorem x320_V : ∀ j, x320 j = true → xV j = true := by
  intro j h
  simp only [x320, xV, Bool.or_eq_true] at h ⊢
  exact Or.inr h
theorem xT_V : ∀ j, xT j = true → xV j = true := by
  intro j h
  simp only [xT, xV, Bool.or_eq_true] at h ⊢
  exact Or.inl h
theorem m_kept {xs : List Int32} {d : Nat} {σ : Nat → List Value} {Q : Option Value → (Nat → List Value) → Prop} {P : Pl} {L : Nat} {g : Nat → Int32} (hM : MD P L g σ) {S : St} (hok : Sok S) (hR : RwIs σ S) {h c t : Nat} (hh : h < Phd P) (hc : c < Pch P) (ht : t < 4) (K : ∀ σ' g', Fr xV σ σ' → FrG yB g g' → MD P L g' σ' → Q (some (.int (nI (keptN P S h c t)))) σ') : Wq xs (d + 3) ax_cd264 0 [(0, .ref 287), (1, .int (nI c)), (2, .int (nI h)), (3, .int (nI t))] [] σ Q := by
  have hL2 := md_l2 hM
  obtain ⟨hP1, hP2, hP3, hP4, hP5, hP6, hP7, hP8, hPv, hPm, hPo, hPw, hPl⟩ := md_pok hM
  have hhr := hok.2.1
  refine wq_go rfl (fun _ => rfl) ?_
  refine wq_go rfl (fun _ => rfl) ?_
  refine wq_go rfl (fun _ => rfl) ?_
  refine wq_go rfl (fun _ => rfl) ?_
  refine wq_callV rfl rfl (by first | rfl | assumption) (by first | decide | omega | assumption) (Nat.le_of_ble_eq_true rfl) (Nat.le_of_ble_eq_true rfl) rfl rfl ?_
  refine m_looksBoth hM hok hR hh hc ht (fun σ1 F1 M1 V1 => ?_)
  refine wq_go rfl (fun _ => rfl) ?_
  refine wq_cN (m := 0) rfl rfl ?_
  refine wq_cN (m := 1) rfl rfl ?_
  refine wq_callV rfl rfl (by first | rfl | assumption) (by first | decide | omega | assumption) (Nat.le_of_ble_eq_true rfl) (Nat.le_of_ble_eq_true rfl) rfl rfl ?_
  refine m_lawTells M1 V1 (l := 0) (by decide) rfl (fun σ2 g2 F2 G2 M2 => ?_)
  have V2 := (F2 320 rfl).trans V1
  refine wq_cN (m := 0) rfl rfl ?_
  refine wq_go rfl (fun _ => rfl) ?_
  refine wq_getf rfl (by first | rfl | assumption) (by first | decide | omega | assumption) (md_o M2) rfl ?_
  refine wq_cN (m := 4) rfl rfl ?_
  refine wq_ialdN rfl (by first | rfl | assumption) (by first | decide | omega | assumption) V2 rfl (by omega) (by first | decide | omega) ?_
  refine wq_callS rfl (Nat.le_of_ble_eq_true rfl) rfl (Nat.le_of_ble_eq_true rfl) (Nat.le_of_ble_eq_true rfl) rfl rfl ?_
  refine m_within (by have := ow_le hok (i := h * 4 + t) (by omega); show Sow S (h * 4 + t) < 2 ^ 31; omega) ?_
  refine wq_iret rfl ?_
  exact K _ g2 (fr_trans (fr_mono F1 x320_V) (fr_mono F2 xT_V)) G2 M2
theorem m_passed {xs : List Int32} {d : Nat} {σ : Nat → List Value} {Q : Option Value → (Nat → List Value) → Prop} {P : Pl} {L : Nat} {g : Nat → Int32} (hM : MD P L g σ) {S : St} (hok : Sok S) (hR : RwIs σ S) {h c t : Nat} (hh : h < Phd P) (hc : c < Pch P) (ht : t < 4) (K : ∀ σ' g', Fr xV σ σ' → FrG yB g g' → MD P L g' σ' → Q (some (.int (nI (passN P S h c t)))) σ') : Wq xs (d + 3) ax_cd271 0 [(0, .ref 287), (1, .int (nI c)), (2, .int (nI h)), (3, .int (nI t))] [] σ Q := by
  have hL2 := md_l2 hM
  obtain ⟨hP1, hP2, hP3, hP4, hP5, hP6, hP7, hP8, hPv, hPm, hPo, hPw, hPl⟩ := md_pok hM
  have hhr := hok.2.1
  refine wq_go rfl (fun _ => rfl) ?_
  refine wq_go rfl (fun _ => rfl) ?_
  refine wq_go rfl (fun _ => rfl) ?_
  refine wq_go rfl (fun _ => rfl) ?_
  refine wq_callV rfl rfl (by first | rfl | assumption) (by first | decide | omega | assumption) (Nat.le_of_ble_eq_true rfl) (Nat.le_of_ble_eq_true rfl) rfl rfl ?_
  refine m_looksBoth hM hok hR hh hc ht (fun σ1 F1 M1 V1 => ?_)
  refine wq_go rfl (fun _ => rfl) ?_
  refine wq_cN (m := 1) rfl rfl ?_
  refine wq_cN (m := 1) rfl rfl ?_
  refine wq_callV rfl rfl (by first | rfl | assumption) (by first | decide | omega | assumption) (Nat.le_of_ble_eq_true rfl) (Nat.le_of_ble_eq_true rfl) rfl rfl ?_
  refine m_lawTells M1 V1 (l := 1) (by decide) rfl (fun σ2 g2 F2 G2 M2 => ?_)
  have V2 := (F2 320 rfl).trans V1
  refine wq_cN (m := 0) rfl rfl ?_
  refine wq_go rfl (fun _ => rfl) ?_
  refine wq_getf rfl (by first | rfl | assumption) (by first | decide | omega | assumption) (md_o M2) rfl ?_
  refine wq_cN (m := 3) rfl rfl ?_
  refine wq_ialdN rfl (by first | rfl | assumption) (by first | decide | omega | assumption) V2 rfl (by omega) (by first | decide | omega) ?_
  refine wq_callS rfl (Nat.le_of_ble_eq_true rfl) rfl (Nat.le_of_ble_eq_true rfl) (Nat.le_of_ble_eq_true rfl) rfl rfl ?_
  refine m_within (by have := sq_le hok (i := c * 4 + t) (by omega); show Ssq S (c * 4 + t) < 2 ^ 31; omega) ?_
  refine wq_iret rfl ?_
  exact K _ g2 (fr_trans (fr_mono F1 x320_V) (fr_mono F2 xT_V)) G2 M2
theorem m_washed {xs : List Int32} {d : Nat} {σ : Nat → List Value} {Q : Option Value → (Nat → List Value) → Prop} {P : Pl} {L : Nat} {g : Nat → Int32} (hM : MD P L g σ) {S : St} (hok : Sok S) (hR : RwIs σ S) {c t : Nat} (hc : c < Pch P) (ht : t < 4) (K : ∀ σ' g', Fr xV σ σ' → FrG yB g g' → MD P L g' σ' → Q (some (.int (nI (washN P S c t)))) σ') : Wq xs (d + 2) ax_cd272 0 [(0, .ref 287), (1, .int (nI c)), (2, .int (nI t))] [] σ Q := by
  have hL2 := md_l2 hM
  obtain ⟨hP1, hP2, hP3, hP4, hP5, hP6, hP7, hP8, hPv, hPm, hPo, hPw, hPl⟩ := md_pok hM
  have hhr := hok.2.1
  refine wq_go rfl (fun _ => rfl) ?_
  refine wq_go rfl (fun _ => rfl) ?_
  refine wq_go rfl (fun _ => rfl) ?_
  refine wq_callV rfl rfl (by first | rfl | assumption) (by first | decide | omega | assumption) (Nat.le_of_ble_eq_true rfl) (Nat.le_of_ble_eq_true rfl) rfl rfl ?_
  refine m_looksAt hM hok hR hc ht (fun σ1 F1 M1 V1 => ?_)
  refine wq_go rfl (fun _ => rfl) ?_
  refine wq_cN (m := 2) rfl rfl ?_
  refine wq_go rfl (fun _ => rfl) ?_
  refine wq_getf rfl (by first | rfl | assumption) (by first | decide | omega | assumption) (md_o M1) rfl ?_
  refine wq_cN (m := 3) rfl rfl ?_
  refine wq_ialdN rfl (by first | rfl | assumption) (by first | decide | omega | assumption) V1 rfl (by omega) (by first | decide | omega) ?_
  refine wq_callV rfl rfl (by first | rfl | assumption) (by first | decide | omega | assumption) (Nat.le_of_ble_eq_true rfl) (Nat.le_of_ble_eq_true rfl) rfl rfl ?_
  refine m_lawTells M1 V1 (l := 2) (by decide) rfl (fun σ2 g2 F2 G2 M2 => ?_)
  have V2 := (F2 320 rfl).trans V1
  refine wq_cN (m := 0) rfl rfl ?_
  refine wq_go rfl (fun _ => rfl) ?_
  refine wq_getf rfl (by first | rfl | assumption) (by first | decide | omega | assumption) (md_o M2) rfl ?_
  refine wq_cN (m := 3) rfl rfl ?_
  refine wq_ialdN rfl (by first | rfl | assumption) (by first | decide | omega | assumption) V2 rfl (by omega) (by first | decide | omega) ?_
  refine wq_callS rfl (Nat.le_of_ble_eq_true rfl) rfl (Nat.le_of_ble_eq_true rfl) (Nat.le_of_ble_eq_true rfl) rfl rfl ?_
  refine m_within (by have := sq_le hok (i := c * 4 + t) (by omega); show Ssq S (c * 4 + t) < 2 ^ 31; omega) ?_
  refine wq_iret rfl ?_
  exact K _ g2 (fr_trans (fr_mono F1 x320_V) (fr_mono F2 xT_V)) G2 M2
theorem m_faded {xs : List Int32} {d : Nat} {σ : Nat → List Value} {Q : Option Value → (Nat → List Value) → Prop} {P : Pl} {L : Nat} {g : Nat → Int32} (hM : MD P L g σ) {S : St} (hok : Sok S) (hR : RwIs σ S) {h t : Nat} (hh : h < Phd P) (ht : t < 4) (K : ∀ σ' g', Fr xV σ σ' → FrG yB g g' → MD P L g' σ' → Q (some (.int (nI (fadeN P S h t)))) σ') : Wq xs (d + 2) ax_cd273 0 [(0, .ref 287), (1, .int (nI h)), (2, .int (nI t))] [] σ Q := by
  have hL2 := md_l2 hM
  obtain ⟨hP1, hP2, hP3, hP4, hP5, hP6, hP7, hP8, hPv, hPm, hPo, hPw, hPl⟩ := md_pok hM
  have hhr := hok.2.1
  refine wq_go rfl (fun _ => rfl) ?_
  refine wq_getf rfl (by first | rfl | assumption) (by first | decide | omega | assumption) (md_o hM) rfl ?_
  refine wq_cN (m := 0) rfl rfl ?_
  refine wq_cN (m := 0) rfl rfl ?_
  refine wq_iast rfl (by first | rfl | assumption) (by first | decide | omega | assumption) (md_c320 hM) rfl (by omega) (by first | decide | omega) ?_
  refine wq_go rfl (fun _ => rfl) ?_
  refine wq_getf rfl (by first | rfl | assumption) (by first | decide | omega | assumption) ((up_ne _ _ (by decide)).trans (md_o hM)) rfl ?_
  refine wq_cN (m := 1) rfl rfl ?_
  refine wq_go rfl (fun _ => rfl) ?_
  refine wq_getf rfl (by first | rfl | assumption) (by first | decide | omega | assumption) ((up_ne _ _ (by decide)).trans (md_o hM)) rfl ?_
  refine wq_cN (m := 5) rfl rfl ?_
  refine wq_go rfl (fun _ => rfl) ?_
  refine wq_getf rfl (by first | rfl | assumption) (by first | decide | omega | assumption) ((up_ne _ _ (by decide)).trans (md_o hM)) rfl ?_
  refine wq_top (md_l hM) ?_
  refine wq_mulN rfl ?_
  refine wq_go rfl (fun _ => rfl) ?_
  refine wq_addN rfl ?_
  refine wq_iald rfl (by first | rfl | assumption) (by first | decide | omega | assumption) ((up_ne _ _ (by decide)).trans (md_c300 hM)) rfl (by omega) (by first | decide | omega) ?_
  refine wq_top (md_m300 hM _ (by omega)) ?_
  refine wq_iast rfl (by first | rfl | assumption) (by first | decide | omega | assumption) (up_same _ _ _) rfl (by omega) (by first | decide | omega) ?_
  rw [up_up]
  refine wq_go rfl (fun _ => rfl) ?_
  refine wq_getf rfl (by first | rfl | assumption) (by first | decide | omega | assumption) ((up_ne _ _ (by decide)).trans (md_o hM)) rfl ?_
  refine wq_cN (m := 2) rfl rfl ?_
  refine wq_go rfl (fun _ => rfl) ?_
  refine wq_iast rfl (by first | rfl | assumption) (by first | decide | omega | assumption) (up_same _ _ _) rfl (by omega) (by first | decide | omega) ?_
  rw [up_up]
  refine wq_go rfl (fun _ => rfl) ?_
  refine wq_getf rfl (by first | rfl | assumption) (by first | decide | omega | assumption) ((up_ne _ _ (by decide)).trans (md_o hM)) rfl ?_
  refine wq_cN (m := 3) rfl rfl ?_
  refine wq_cN (m := 0) rfl rfl ?_
  refine wq_iast rfl (by first | rfl | assumption) (by first | decide | omega | assumption) (up_same _ _ _) rfl (by omega) (by first | decide | omega) ?_
  rw [up_up]
  refine wq_go rfl (fun _ => rfl) ?_
  refine wq_getf rfl (by first | rfl | assumption) (by first | decide | omega | assumption) ((up_ne _ _ (by decide)).trans (md_o hM)) rfl ?_
  refine wq_cN (m := 4) rfl rfl ?_
  refine wq_go rfl (fun _ => rfl) ?_
  refine wq_getf rfl (by first | rfl | assumption) (by first | decide | omega | assumption) ((up_ne _ _ (by decide)).trans (md_o hM)) rfl ?_
  refine wq_cN (m := 24) rfl rfl ?_
  refine wq_cN (m := 4) rfl rfl ?_
  refine wq_go rfl (fun _ => rfl) ?_
  refine wq_mulN rfl ?_
  refine wq_addN rfl ?_
  refine wq_go rfl (fun _ => rfl) ?_
  refine wq_addN rfl ?_
  refine wq_ialdN rfl (by first | rfl | assumption) (by first | decide | omega | assumption) ((up_ne _ _ (by decide)).trans hR) rfl (by omega) (by first | decide | omega) ?_
  refine wq_top (congrArg nI (rf_ow S (by omega) (by omega))) ?_
  refine wq_iast rfl (by first | rfl | assumption) (by first | decide | omega | assumption) (up_same _ _ _) rfl (by omega) (by first | decide | omega) ?_
  rw [up_up]
  refine wq_go rfl (fun _ => rfl) ?_
  refine wq_getf rfl (by first | rfl | assumption) (by first | decide | omega | assumption) ((up_ne _ _ (by decide)).trans (md_o hM)) rfl ?_
  refine wq_cN (m := 5) rfl rfl ?_
  refine wq_go rfl (fun _ => rfl) ?_
  refine wq_getf rfl (by first | rfl | assumption) (by first | decide | omega | assumption) ((up_ne _ _ (by decide)).trans (md_o hM)) rfl ?_
  refine wq_cN (m := 59) rfl rfl ?_
  refine wq_ialdN rfl (by first | rfl | assumption) (by first | decide | omega | assumption) ((up_ne _ _ (by decide)).trans hR) rfl (by omega) (by first | decide | omega) ?_
  refine wq_top (congrArg nI (rf_hr S)) ?_
  refine wq_cN (m := 24) rfl rfl ?_
  refine wq_remN rfl (by first | decide | omega) (by first | decide | omega) (by first | decide | omega) ?_
  refine wq_iast rfl (by first | rfl | assumption) (by first | decide | omega | assumption) (up_same _ _ _) rfl (by omega) (by first | decide | omega) ?_
  rw [up_up]
  refine wq_go rfl (fun _ => rfl) ?_
  refine wq_getf rfl (by first | rfl | assumption) (by first | decide | omega | assumption) ((up_ne _ _ (by decide)).trans (md_o hM)) rfl ?_
  refine wq_cN (m := 6) rfl rfl ?_
  refine wq_go rfl (fun _ => rfl) ?_
  refine wq_getf rfl (by first | rfl | assumption) (by first | decide | omega | assumption) ((up_ne _ _ (by decide)).trans (md_o hM)) rfl ?_
  refine wq_cN (m := 44) rfl rfl ?_
  refine wq_go rfl (fun _ => rfl) ?_
  refine wq_addN rfl ?_
  refine wq_ialdN rfl (by first | rfl | assumption) (by first | decide | omega | assumption) ((up_ne _ _ (by decide)).trans hR) rfl (by omega) (by first | decide | omega) ?_
  refine wq_top (congrArg nI (rf_sb S (by omega))) ?_
  refine wq_iast rfl (by first | rfl | assumption) (by first | decide | omega | assumption) (up_same _ _ _) rfl (by omega) (by first | decide | omega) ?_
  rw [up_up]
  refine wq_go rfl (fun _ => rfl) ?_
  refine wq_getf rfl (by first | rfl | assumption) (by first | decide | omega | assumption) ((up_ne _ _ (by decide)).trans (md_o hM)) rfl ?_
  refine wq_cN (m := 7) rfl rfl ?_
  refine wq_go rfl (fun _ => rfl) ?_
  refine wq_iast rfl (by first | rfl | assumption) (by first | decide | omega | assumption) (up_same _ _ _) rfl (by omega) (by first | decide | omega) ?_
  rw [up_up]
  refine wq_go rfl (fun _ => rfl) ?_
  refine wq_getf rfl (by first | rfl | assumption) (by first | decide | omega | assumption) ((up_ne _ _ (by decide)).trans (md_o hM)) rfl ?_
  refine wq_cN (m := 8) rfl rfl ?_
  refine wq_go rfl (fun _ => rfl) ?_
  refine wq_cN (m := 24) rfl rfl ?_
  refine wq_cN (m := 4) rfl rfl ?_
  refine wq_go rfl (fun _ => rfl) ?_
  refine wq_mulN rfl ?_
  refine wq_addN rfl ?_
  refine wq_callV rfl rfl (by first | rfl | assumption) (by first | decide | omega | assumption) (Nat.le_of_ble_eq_true rfl) (Nat.le_of_ble_eq_true rfl) rfl rfl ?_
  refine m_four (md_u320 hM) ((up_ne _ _ (by decide)).trans hR) (by omega) ?_
  refine wq_top (congrArg nI (s4_ow S (by omega))) ?_
  refine wq_iast rfl (by first | rfl | assumption) (by first | decide | omega | assumption) (up_same _ _ _) rfl (by omega) (by first | decide | omega) ?_
  rw [up_up]
  refine wq_go rfl (fun _ => rfl) ?_
  refine wq_cN (m := 3) rfl rfl ?_
  refine wq_cN (m := 0) rfl rfl ?_
  refine wq_callV rfl rfl (by first | rfl | assumption) (by first | decide | omega | assumption) (Nat.le_of_ble_eq_true rfl) (Nat.le_of_ble_eq_true rfl) rfl rfl ?_
  refine m_lawTells (V := Vfade P S h t) (md_u320 hM) ((up_same _ _ _).trans (arr_congr ?_)) (l := 3) (by decide) rfl (fun σ2 g2 F2 G2 M2 => ?_)
  · intro j hj
    match j, hj with
    | 0, _ => rfl
    | 1, _ => rfl
    | 2, _ => rfl
    | 3, _ => rfl
    | 4, _ => rfl
    | 5, _ => rfl
    | 6, _ => rfl
    | 7, _ => rfl
    | 8, _ => rfl
    | j + 9, hj => exact absurd hj (by omega)
  have V2 := (F2 320 rfl).trans (up_same _ _ _)
  refine wq_cN (m := 0) rfl rfl ?_
  refine wq_go rfl (fun _ => rfl) ?_
  refine wq_getf rfl (by first | rfl | assumption) (by first | decide | omega | assumption) (md_o M2) rfl ?_
  refine wq_cN (m := 4) rfl rfl ?_
  refine wq_iald rfl rfl (by decide) V2 rfl (by decide) (by decide) ?_
  refine wq_top (show _ = nI (Sow S (h * 4 + t)) from rfl) ?_
  refine wq_callS rfl (Nat.le_of_ble_eq_true rfl) rfl (Nat.le_of_ble_eq_true rfl) (Nat.le_of_ble_eq_true rfl) rfl rfl ?_
  refine m_within (by have := ow_le hok (i := h * 4 + t) (by omega); show Sow S (h * 4 + t) < 2 ^ 31; omega) ?_
  refine wq_iret rfl ?_
  exact K _ g2 (fr_trans (fr_up (fr_refl _ _) rfl) (fr_mono F2 xT_V)) G2 M2
