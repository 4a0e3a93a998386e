/-! CHECKS, written by wip/whole/gen_tables.py -/
theorem ax_ckb325 : ∀ (i : Nat) (ai : ax_I), ax_cd325[i]? = some ai → ax_ck ax_cls ax_mts ax_NWs ax_M325.1.cls ax_M325.1.name ax_M325.2.2.2.1 ax_M325.2.2.1 ax_M325.2.2.2.2.2.1 ax_M325.2.1 ax_M325.2.2.2.2.2.2.1 i ai = true := ax_ck_all (by decide +kernel)
theorem ax_ok325 : ax_Mok ax_cls ax_mts ax_NWs ax_Ts ax_M325 := ⟨by decide +kernel, ⟨by decide +kernel, by decide +kernel⟩, rfl, by decide, ax_lk15_in, ax_inT 2038 (by decide +kernel) rfl, ax_inT 110 (by decide +kernel) rfl, by decide +kernel, fun h => absurd h (by decide), fun _ => ⟨ax_inT 2036 (by decide +kernel) rfl, ax_inT 2037 (by decide +kernel) rfl⟩, fun h => absurd h (by decide), ax_ckb325⟩
theorem ax_ckb326 : ∀ (i : Nat) (ai : ax_I), ax_cd326[i]? = some ai → ax_ck ax_cls ax_mts ax_NWs ax_M326.1.cls ax_M326.1.name ax_M326.2.2.2.1 ax_M326.2.2.1 ax_M326.2.2.2.2.2.1 ax_M326.2.1 ax_M326.2.2.2.2.2.2.1 i ai = true := ax_ck_all (by decide +kernel)
theorem ax_ok326 : ax_Mok ax_cls ax_mts ax_NWs ax_Ts ax_M326 := ⟨by decide +kernel, ⟨by decide +kernel, by decide +kernel⟩, rfl, by decide, ax_lk15_in, ax_inT 2042 (by decide +kernel) rfl, ax_inT 110 (by decide +kernel) rfl, by decide +kernel, fun h => absurd h (by decide), fun _ => ⟨ax_inT 2040 (by decide +kernel) rfl, ax_inT 2041 (by decide +kernel) rfl⟩, fun h => absurd h (by decide), ax_ckb326⟩
theorem ax_ckb327 : ∀ (i : Nat) (ai : ax_I), ax_cd327[i]? = some ai → ax_ck ax_cls ax_mts ax_NWs ax_M327.1.cls ax_M327.1.name ax_M327.2.2.2.1 ax_M327.2.2.1 ax_M327.2.2.2.2.2.1 ax_M327.2.1 ax_M327.2.2.2.2.2.2.1 i ai = true := ax_ck_all (by decide +kernel)
theorem ax_ok327 : ax_Mok ax_cls ax_mts ax_NWs ax_Ts ax_M327 := ⟨by decide +kernel, ⟨by decide +kernel, by decide +kernel⟩, rfl, by decide, ax_lk15_in, ax_inT 2046 (by decide +kernel) rfl, ax_inT 110 (by decide +kernel) rfl, by decide +kernel, fun h => absurd h (by decide), fun _ => ⟨ax_inT 2045 (by decide +kernel) rfl, ax_inT 89 (by decide +kernel) rfl⟩, fun h => absurd h (by decide), ax_ckb327⟩
theorem ax_ckb328 : ∀ (i : Nat) (ai : ax_I), ax_cd328[i]? = some ai → ax_ck ax_cls ax_mts ax_NWs ax_M328.1.cls ax_M328.1.name ax_M328.2.2.2.1 ax_M328.2.2.1 ax_M328.2.2.2.2.2.1 ax_M328.2.1 ax_M328.2.2.2.2.2.2.1 i ai = true := ax_ck_all (by decide +kernel)
theorem ax_ok328 : ax_Mok ax_cls ax_mts ax_NWs ax_Ts ax_M328 := ⟨by decide +kernel, ⟨by decide +kernel, by decide +kernel⟩, rfl, by decide, ax_lk15_in, ax_inT 2050 (by decide +kernel) rfl, ax_inT 110 (by decide +kernel) rfl, by decide +kernel, fun h => absurd h (by decide), fun _ => ⟨ax_inT 2049 (by decide +kernel) rfl, ax_inT 90 (by decide +kernel) rfl⟩, fun h => absurd h (by decide), ax_ckb328⟩
theorem ax_ckb329 : ∀ (i : Nat) (ai : ax_I), ax_cd329[i]? = some ai → ax_ck ax_cls ax_mts ax_NWs ax_M329.1.cls ax_M329.1.name ax_M329.2.2.2.1 ax_M329.2.2.1 ax_M329.2.2.2.2.2.1 ax_M329.2.1 ax_M329.2.2.2.2.2.2.1 i ai = true := ax_ck_all (by decide +kernel)
theorem ax_ok329 : ax_Mok ax_cls ax_mts ax_NWs ax_Ts ax_M329 := ⟨by decide +kernel, ⟨by decide +kernel, by decide +kernel⟩, rfl, by decide, ax_lk15_in, ax_inT 2053 (by decide +kernel) rfl, ax_inT 110 (by decide +kernel) rfl, by decide +kernel, fun _ => ax_inT 2052 (by decide +kernel) rfl, fun h => absurd h (by decide), fun h => absurd h (by decide), ax_ckb329⟩
theorem ax_ckb330 : ∀ (i : Nat) (ai : ax_I), ax_cd330[i]? = some ai → ax_ck ax_cls ax_mts ax_NWs ax_M330.1.cls ax_M330.1.name ax_M330.2.2.2.1 ax_M330.2.2.1 ax_M330.2.2.2.2.2.1 ax_M330.2.1 ax_M330.2.2.2.2.2.2.1 i ai = true := ax_ck_all (by decide +kernel)
theorem ax_ok330 : ax_Mok ax_cls ax_mts ax_NWs ax_Ts ax_M330 := ⟨by decide +kernel, ⟨by decide +kernel, by decide +kernel⟩, rfl, by decide, ax_lk15_in, ax_inT 2057 (by decide +kernel) rfl, ax_inT 110 (by decide +kernel) rfl, by decide +kernel, fun h => absurd h (by decide), fun _ => ⟨ax_inT 2055 (by decide +kernel) rfl, ax_inT 2056 (by decide +kernel) rfl⟩, fun h => absurd h (by decide), ax_ckb330⟩
theorem ax_ckb331 : ∀ (i : Nat) (ai : ax_I), ax_cd331[i]? = some ai → ax_ck ax_cls ax_mts ax_NWs ax_M331.1.cls ax_M331.1.name ax_M331.2.2.2.1 ax_M331.2.2.1 ax_M331.2.2.2.2.2.1 ax_M331.2.1 ax_M331.2.2.2.2.2.2.1 i ai = true := ax_ck_all (by decide +kernel)
theorem ax_ok331 : ax_Mok ax_cls ax_mts ax_NWs ax_Ts ax_M331 := ⟨by decide +kernel, ⟨by decide +kernel, by decide +kernel⟩, rfl, by decide, ax_lk15_in, ax_inT 2061 (by decide +kernel) rfl, ax_inT 110 (by decide +kernel) rfl, by decide +kernel, fun h => absurd h (by decide), fun _ => ⟨ax_inT 2059 (by decide +kernel) rfl, ax_inT 2060 (by decide +kernel) rfl⟩, fun h => absurd h (by decide), ax_ckb331⟩
theorem ax_ckb332 : ∀ (i : Nat) (ai : ax_I), ax_cd332[i]? = some ai → ax_ck ax_cls ax_mts ax_NWs ax_M332.1.cls ax_M332.1.name ax_M332.2.2.2.1 ax_M332.2.2.1 ax_M332.2.2.2.2.2.1 ax_M332.2.1 ax_M332.2.2.2.2.2.2.1 i ai = true := ax_ck_all (by decide +kernel)
theorem ax_ok332 : ax_Mok ax_cls ax_mts ax_NWs ax_Ts ax_M332 := ⟨by decide +kernel, ⟨by decide +kernel, by decide +kernel⟩, rfl, by decide, ax_lk15_in, ax_inT 2065 (by decide +kernel) rfl, ax_inT 110 (by decide +kernel) rfl, by decide +kernel, fun h => absurd h (by decide), fun _ => ⟨ax_inT 2063 (by decide +kernel) rfl, ax_inT 2064 (by decide +kernel) rfl⟩, fun h => absurd h (by decide), ax_ckb332⟩
theorem ax_ckr333_0 : ax_ckr ax_cls ax_mts ax_NWs ax_M333 ax_cd333 0 30 = true := by decide +kernel
theorem ax_ckr333_1 : ax_ckr ax_cls ax_mts ax_NWs ax_M333 ax_cd333 30 30 = true := by decide +kernel
theorem ax_ckr333_2 : ax_ckr ax_cls ax_mts ax_NWs ax_M333 ax_cd333 60 30 = true := by decide +kernel
theorem ax_ckr333_3 : ax_ckr ax_cls ax_mts ax_NWs ax_M333 ax_cd333 90 30 = true := by decide +kernel
theorem ax_ckr333_4 : ax_ckr ax_cls ax_mts ax_NWs ax_M333 ax_cd333 120 30 = true := by decide +kernel
theorem ax_ckr333_5 : ax_ckr ax_cls ax_mts ax_NWs ax_M333 ax_cd333 150 30 = true := by decide +kernel
theorem ax_ckr333_6 : ax_ckr ax_cls ax_mts ax_NWs ax_M333 ax_cd333 180 30 = true := by decide +kernel
theorem ax_ckb333 : ∀ (i : Nat) (ai : ax_I), ax_cd333[i]? = some ai → ax_ck ax_cls ax_mts ax_NWs ax_M333.1.cls ax_M333.1.name ax_M333.2.2.2.1 ax_M333.2.2.1 ax_M333.2.2.2.2.2.1 ax_M333.2.1 ax_M333.2.2.2.2.2.2.1 i ai = true := ax_ckr_all (m := 7) (st := 30) (by decide) (by decide +kernel) (fun j hj => match j, hj with
  | 0, _ => ax_ckr333_0
  | 1, _ => ax_ckr333_1
  | 2, _ => ax_ckr333_2
  | 3, _ => ax_ckr333_3
  | 4, _ => ax_ckr333_4
  | 5, _ => ax_ckr333_5
  | 6, _ => ax_ckr333_6
  | j + 7, h => absurd h (by omega))
set_option maxRecDepth 100000 in
theorem ax_ok333 : ax_Mok ax_cls ax_mts ax_NWs ax_Ts ax_M333 := ⟨by decide +kernel, ⟨by decide +kernel, by decide +kernel⟩, rfl, by decide, ax_lk15_in, ax_inT 2069 rfl rfl, ax_inT 110 (by decide +kernel) rfl, by decide +kernel, fun h => absurd h (by decide), fun _ => ⟨ax_inT 2067 (by decide +kernel) rfl, ax_inT 2068 (by decide +kernel) rfl⟩, fun h => absurd h (by decide), ax_ckb333⟩
theorem ax_ckb334 : ∀ (i : Nat) (ai : ax_I), ax_cd334[i]? = some ai → ax_ck ax_cls ax_mts ax_NWs ax_M334.1.cls ax_M334.1.name ax_M334.2.2.2.1 ax_M334.2.2.1 ax_M334.2.2.2.2.2.1 ax_M334.2.1 ax_M334.2.2.2.2.2.2.1 i ai = true := ax_ck_all (by decide +kernel)
theorem ax_ok334 : ax_Mok ax_cls ax_mts ax_NWs ax_Ts ax_M334 := ⟨by decide +kernel, ⟨by decide +kernel, by decide +kernel⟩, rfl, by decide, ax_lk15_in, ax_inT 2073 (by decide +kernel) rfl, ax_inT 110 (by decide +kernel) rfl, by decide +kernel, fun h => absurd h (by decide), fun _ => ⟨ax_inT 2072 (by decide +kernel) rfl, ax_inT 91 (by decide +kernel) rfl⟩, fun h => absurd h (by decide), ax_ckb334⟩
theorem ax_ckb335 : ∀ (i : Nat) (ai : ax_I), ax_cd335[i]? = some ai → ax_ck ax_cls ax_mts ax_NWs ax_M335.1.cls ax_M335.1.name ax_M335.2.2.2.1 ax_M335.2.2.1 ax_M335.2.2.2.2.2.1 ax_M335.2.1 ax_M335.2.2.2.2.2.2.1 i ai = true := ax_ck_all (by decide +kernel)
theorem ax_ok335 : ax_Mok ax_cls ax_mts ax_NWs ax_Ts ax_M335 := ⟨by decide +kernel, ⟨by decide +kernel, by decide +kernel⟩, rfl, by decide, ax_lk15_in, ax_inT 2077 (by decide +kernel) rfl, ax_inT 110 (by decide +kernel) rfl, by decide +kernel, fun h => absurd h (by decide), fun _ => ⟨ax_inT 2076 (by decide +kernel) rfl, ax_inT 92 (by decide +kernel) rfl⟩, fun h => absurd h (by decide), ax_ckb335⟩
theorem ax_ckr336_0 : ax_ckr ax_cls ax_mts ax_NWs ax_M336 ax_cd336 0 30 = true := by decide +kernel
theorem ax_ckr336_1 : ax_ckr ax_cls ax_mts ax_NWs ax_M336 ax_cd336 30 30 = true := by decide +kernel
theorem ax_ckr336_2 : ax_ckr ax_cls ax_mts ax_NWs ax_M336 ax_cd336 60 30 = true := by decide +kernel
theorem ax_ckr336_3 : ax_ckr ax_cls ax_mts ax_NWs ax_M336 ax_cd336 90 30 = true := by decide +kernel
theorem ax_ckr336_4 : ax_ckr ax_cls ax_mts ax_NWs ax_M336 ax_cd336 120 30 = true := by decide +kernel
theorem ax_ckr336_5 : ax_ckr ax_cls ax_mts ax_NWs ax_M336 ax_cd336 150 30 = true := by decide +kernel
theorem ax_ckr336_6 : ax_ckr ax_cls ax_mts ax_NWs ax_M336 ax_cd336 180 30 = true := by decide +kernel
theorem ax_ckr336_7 : ax_ckr ax_cls ax_mts ax_NWs ax_M336 ax_cd336 210 30 = true := by decide +kernel
theorem ax_ckr336_8 : ax_ckr ax_cls ax_mts ax_NWs ax_M336 ax_cd336 240 30 = true := by decide +kernel
theorem ax_ckr336_9 : ax_ckr ax_cls ax_mts ax_NWs ax_M336 ax_cd336 270 30 = true := by decide +kernel
theorem ax_ckr336_10 : ax_ckr ax_cls ax_mts ax_NWs ax_M336 ax_cd336 300 30 = true := by decide +kernel
theorem ax_ckr336_11 : ax_ckr ax_cls ax_mts ax_NWs ax_M336 ax_cd336 330 30 = true := by decide +kernel
theorem ax_ckr336_12 : ax_ckr ax_cls ax_mts ax_NWs ax_M336 ax_cd336 360 30 = true := by decide +kernel
theorem ax_ckr336_13 : ax_ckr ax_cls ax_mts ax_NWs ax_M336 ax_cd336 390 30 = true := by decide +kernel
theorem ax_ckr336_14 : ax_ckr ax_cls ax_mts ax_NWs ax_M336 ax_cd336 420 30 = true := by decide +kernel
theorem ax_ckr336_15 : ax_ckr ax_cls ax_mts ax_NWs ax_M336 ax_cd336 450 30 = true := by decide +kernel
theorem ax_ckr336_16 : ax_ckr ax_cls ax_mts ax_NWs ax_M336 ax_cd336 480 30 = true := by decide +kernel
theorem ax_ckr336_17 : ax_ckr ax_cls ax_mts ax_NWs ax_M336 ax_cd336 510 30 = true := by decide +kernel
theorem ax_ckr336_18 : ax_ckr ax_cls ax_mts ax_NWs ax_M336 ax_cd336 540 30 = true := by decide +kernel
theorem ax_ckr336_19 : ax_ckr ax_cls ax_mts ax_NWs ax_M336 ax_cd336 570 30 = true := by decide +kernel
theorem ax_ckr336_20 : ax_ckr ax_cls ax_mts ax_NWs ax_M336 ax_cd336 600 30 = true := by decide +kernel
theorem ax_ckr336_21 : ax_ckr ax_cls ax_mts ax_NWs ax_M336 ax_cd336 630 30 = true := by decide +kernel
theorem ax_ckr336_22 : ax_ckr ax_cls ax_mts ax_NWs ax_M336 ax_cd336 660 30 = true := by decide +kernel
theorem ax_ckr336_23 : ax_ckr ax_cls ax_mts ax_NWs ax_M336 ax_cd336 690 30 = true := by decide +kernel
theorem ax_ckr336_24 : ax_ckr ax_cls ax_mts ax_NWs ax_M336 ax_cd336 720 30 = true := by decide +kernel
theorem ax_ckr336_25 : ax_ckr ax_cls ax_mts ax_NWs ax_M336 ax_cd336 750 30 = true := by decide +kernel
theorem ax_ckr336_26 : ax_ckr ax_cls ax_mts ax_NWs ax_M336 ax_cd336 780 30 = true := by decide +kernel
theorem ax_ckr336_27 : ax_ckr ax_cls ax_mts ax_NWs ax_M336 ax_cd336 810 30 = true := by decide +kernel
theorem ax_ckr336_28 : ax_ckr ax_cls ax_mts ax_NWs ax_M336 ax_cd336 840 30 = true := by decide +kernel
theorem ax_ckr336_29 : ax_ckr ax_cls ax_mts ax_NWs ax_M336 ax_cd336 870 30 = true := by decide +kernel
theorem ax_ckr336_30 : ax_ckr ax_cls ax_mts ax_NWs ax_M336 ax_cd336 900 30 = true := by decide +kernel
theorem ax_ckr336_31 : ax_ckr ax_cls ax_mts ax_NWs ax_M336 ax_cd336 930 30 = true := by decide +kernel
theorem ax_ckr336_32 : ax_ckr ax_cls ax_mts ax_NWs ax_M336 ax_cd336 960 30 = true := by decide +kernel
theorem ax_ckr336_33 : ax_ckr ax_cls ax_mts ax_NWs ax_M336 ax_cd336 990 30 = true := by decide +kernel
theorem ax_ckr336_34 : ax_ckr ax_cls ax_mts ax_NWs ax_M336 ax_cd336 1020 30 = true := by decide +kernel
theorem ax_ckr336_35 : ax_ckr ax_cls ax_mts ax_NWs ax_M336 ax_cd336 1050 30 = true := by decide +kernel
theorem ax_ckr336_36 : ax_ckr ax_cls ax_mts ax_NWs ax_M336 ax_cd336 1080 30 = true := by decide +kernel
theorem ax_ckr336_37 : ax_ckr ax_cls ax_mts ax_NWs ax_M336 ax_cd336 1110 30 = true := by decide +kernel
theorem ax_ckr336_38 : ax_ckr ax_cls ax_mts ax_NWs ax_M336 ax_cd336 1140 30 = true := by decide +kernel
theorem ax_ckb336 : ∀ (i : Nat) (ai : ax_I), ax_cd336[i]? = some ai → ax_ck ax_cls ax_mts ax_NWs ax_M336.1.cls ax_M336.1.name ax_M336.2.2.2.1 ax_M336.2.2.1 ax_M336.2.2.2.2.2.1 ax_M336.2.1 ax_M336.2.2.2.2.2.2.1 i ai = true := ax_ckr_all (m := 39) (st := 30) (by decide) (by decide +kernel) (fun j hj => match j, hj with
  | 0, _ => ax_ckr336_0
  | 1, _ => ax_ckr336_1
  | 2, _ => ax_ckr336_2
  | 3, _ => ax_ckr336_3
  | 4, _ => ax_ckr336_4
  | 5, _ => ax_ckr336_5
  | 6, _ => ax_ckr336_6
  | 7, _ => ax_ckr336_7
  | 8, _ => ax_ckr336_8
  | 9, _ => ax_ckr336_9
  | 10, _ => ax_ckr336_10
  | 11, _ => ax_ckr336_11
  | 12, _ => ax_ckr336_12
  | 13, _ => ax_ckr336_13
  | 14, _ => ax_ckr336_14
  | 15, _ => ax_ckr336_15
  | 16, _ => ax_ckr336_16
  | 17, _ => ax_ckr336_17
  | 18, _ => ax_ckr336_18
  | 19, _ => ax_ckr336_19
  | 20, _ => ax_ckr336_20
  | 21, _ => ax_ckr336_21
  | 22, _ => ax_ckr336_22
  | 23, _ => ax_ckr336_23
  | 24, _ => ax_ckr336_24
  | 25, _ => ax_ckr336_25
  | 26, _ => ax_ckr336_26
  | 27, _ => ax_ckr336_27
  | 28, _ => ax_ckr336_28
  | 29, _ => ax_ckr336_29
  | 30, _ => ax_ckr336_30
  | 31, _ => ax_ckr336_31
  | 32, _ => ax_ckr336_32
  | 33, _ => ax_ckr336_33
  | 34, _ => ax_ckr336_34
  | 35, _ => ax_ckr336_35
  | 36, _ => ax_ckr336_36
  | 37, _ => ax_ckr336_37
  | 38, _ => ax_ckr336_38
  | j + 39, h => absurd h (by omega))
theorem ax_lawb : ax_Mb ax_cls ax_mts ax_NWs ax_Ts ax_M336 := ⟨ax_lk16_in, ax_ckb336⟩
