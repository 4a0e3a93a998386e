/-! THE WORLD BEHIND THE CONSTRUCTORS: 331 places of fixed kinds; what they hold is a function -/
def ax_kds : List (FieldType ⊕ Nat) := [.inr 0, .inr 1, .inl .byte, .inr 2, .inr 3, .inl .int, .inl .int, .inl .int, .inl .int, .inl .int, .inl .int, .inl .int, .inl .int, .inl .long, .inl .long, .inr 4, .inl .long, .inl .int, .inl .int, .inl .int, .inl .long, .inr 3, .inl .int, .inl .int, .inl .int, .inl .int, .inl .int, .inl .int, .inl .int, .inl .int, .inr 5, .inl .int, .inr 6, .inl .int, .inl .int, .inr 7, .inl .int, .inl .int, .inl .int, .inl .int, .inr 8, .inr 7, .inl .int, .inl .int, .inl .int, .inl .int, .inl (.object "HeadCloths$State"), .inl .int, .inr 7, .inl .int, .inl .int, .inl .int, .inl .int, .inr 7, .inl .int, .inl .int, .inl .int, .inl .int, .inr 7, .inl .int, .inl .int, .inl .int, .inl .int, .inr 9, .inl .int, .inl .int, .inl .int, .inl .boolean, .inr 10, .inl (.object "HeadCloths$State"), .inr 7, .inl .int, .inl .int, .inl .int, .inl .int, .inr 7, .inl .int, .inl .int, .inl .int, .inl .int, .inr 7, .inl .int, .inl .int, .inl .int, .inl .int, .inr 7, .inl .int, .inl .int, .inl .int, .inl .int, .inr 7, .inl .int, .inl .int, .inl .int, .inl .int, .inr 7, .inl .int, .inl .int, .inl .int, .inl .int, .inr 7, .inl .int, .inl .int, .inl .int, .inl .int, .inr 7, .inl .int, .inl .int, .inl .int, .inl .int, .inr 7, .inl .int, .inl .int, .inl .int, .inl .int, .inr 7, .inl .int, .inl .int, .inl .int, .inl .int, .inr 7, .inl .int, .inl .int, .inl .int, .inl .int, .inr 7, .inl .int, .inl .int, .inl .int, .inl .int, .inr 7, .inl .int, .inl .int, .inl .int, .inl .int, .inr 7, .inl .int, .inl .int, .inl .int, .inl .int, .inr 7, .inl .int, .inl .int, .inl .int, .inl .int, .inr 7, .inl .int, .inl .int, .inl .int, .inl .int, .inr 7, .inl .int, .inl .int, .inl .int, .inl .int, .inr 7, .inl .int, .inl .int, .inl .int, .inl .int, .inr 7, .inl .int, .inl .int, .inl .int, .inl .int, .inr 7, .inl .int, .inl .int, .inl .int, .inl .int, .inr 7, .inl .int, .inl .int, .inl .int, .inl .int, .inr 7, .inl .int, .inl .int, .inl .int, .inl .int, .inr 7, .inl .int, .inl .int, .inl .int, .inl .int, .inr 7, .inl .int, .inl .int, .inl .int, .inl .int, .inr 7, .inl .int, .inl .int, .inl .int, .inl .int, .inr 7, .inl .int, .inl .int, .inl .int, .inl .int, .inr 7, .inl .int, .inl .int, .inl .int, .inl .int, .inr 7, .inl .int, .inl .int, .inl .int, .inl .int, .inr 7, .inl .int, .inl .int, .inl .int, .inl .int, .inr 7, .inl .int, .inl .int, .inl .int, .inl .int, .inr 7, .inl .int, .inl .int, .inl .int, .inl .int, .inr 7, .inl .int, .inl .int, .inl .int, .inl .int, .inr 7, .inl .int, .inl .int, .inl .int, .inl .int, .inr 7, .inl .int, .inl .int, .inl .int, .inl .int, .inr 7, .inl .int, .inl .int, .inl .int, .inl .int, .inr 7, .inl .int, .inl .int, .inl .int, .inl .int, .inr 7, .inl .int, .inl .int, .inl .int, .inl .int, .inr 7, .inl .int, .inl .int, .inl .int, .inl .int, .inr 7, .inl .int, .inl .int, .inl .int, .inl .int, .inr 7, .inl .int, .inl .int, .inl .int, .inl .int, .inr 11, .inl (.object "HeadCloths$State"), .inr 7, .inl .int, .inl .int, .inl .int, .inl .int, .inr 7, .inl .int, .inl .int, .inl .int, .inl .int, .inr 7, .inl .int, .inl .int, .inl .int, .inl .int, .inr 12, .inl .byte, .inl .byte, .inl .int, .inl .int, .inl .int, .inl .long, .inl .long, .inl .long, .inl .int, .inl .int, .inl .int, .inl .int, .inl .int, .inl .int, .inl .int, .inl .int, .inl .int, .inl .int, .inl .int, .inl .int, .inl .int, .inl .int, .inl .int, .inl .int, .inl .boolean, .inl .int, .inl .int, .inl .int, .inl .int, .inl .int, .inl .int, .inl .int, .inl .int, .inl .int, .inl .int, .inl .int, .inl .int, .inl .int, .inl .int, .inl .int, .inl .boolean, .inl .boolean, .inl .int]
theorem ax_e0 {ro : ax_W} {ct : ax_T} {a b i : Nat} {v : Value} {t : List (Int × Nat)} {lv : ax_L} {st : List Value} {w : ax_W} : ax_stp ro ct (0, a, b, v, t) i lv st w = ax_s0 ro ct a b v t i lv st w := rfl
theorem ax_e1 {ro : ax_W} {ct : ax_T} {a b i : Nat} {v : Value} {t : List (Int × Nat)} {lv : ax_L} {st : List Value} {w : ax_W} : ax_stp ro ct (1, a, b, v, t) i lv st w = ax_s1 ro ct a b v t i lv st w := rfl
theorem ax_e2 {ro : ax_W} {ct : ax_T} {a b i : Nat} {v : Value} {t : List (Int × Nat)} {lv : ax_L} {st : List Value} {w : ax_W} : ax_stp ro ct (2, a, b, v, t) i lv st w = ax_s2 ro ct a b v t i lv st w := rfl
theorem ax_e3 {ro : ax_W} {ct : ax_T} {a b i : Nat} {v : Value} {t : List (Int × Nat)} {lv : ax_L} {st : List Value} {w : ax_W} : ax_stp ro ct (3, a, b, v, t) i lv st w = ax_s3 ro ct a b v t i lv st w := rfl
theorem ax_e4 {ro : ax_W} {ct : ax_T} {a b i : Nat} {v : Value} {t : List (Int × Nat)} {lv : ax_L} {st : List Value} {w : ax_W} : ax_stp ro ct (4, a, b, v, t) i lv st w = ax_s4 ro ct a b v t i lv st w := rfl
theorem ax_e5 {ro : ax_W} {ct : ax_T} {a b i : Nat} {v : Value} {t : List (Int × Nat)} {lv : ax_L} {st : List Value} {w : ax_W} : ax_stp ro ct (5, a, b, v, t) i lv st w = ax_s5 ro ct a b v t i lv st w := rfl
theorem ax_e6 {ro : ax_W} {ct : ax_T} {a b i : Nat} {v : Value} {t : List (Int × Nat)} {lv : ax_L} {st : List Value} {w : ax_W} : ax_stp ro ct (6, a, b, v, t) i lv st w = ax_s6 ro ct a b v t i lv st w := rfl
theorem ax_e7 {ro : ax_W} {ct : ax_T} {a b i : Nat} {v : Value} {t : List (Int × Nat)} {lv : ax_L} {st : List Value} {w : ax_W} : ax_stp ro ct (7, a, b, v, t) i lv st w = ax_s7 ro ct a b v t i lv st w := rfl
theorem ax_e8 {ro : ax_W} {ct : ax_T} {a b i : Nat} {v : Value} {t : List (Int × Nat)} {lv : ax_L} {st : List Value} {w : ax_W} : ax_stp ro ct (8, a, b, v, t) i lv st w = ax_s8 ro ct a b v t i lv st w := rfl
theorem ax_e9 {ro : ax_W} {ct : ax_T} {a b i : Nat} {v : Value} {t : List (Int × Nat)} {lv : ax_L} {st : List Value} {w : ax_W} : ax_stp ro ct (9, a, b, v, t) i lv st w = ax_s9 ro ct a b v t i lv st w := rfl
theorem ax_e10 {ro : ax_W} {ct : ax_T} {a b i : Nat} {v : Value} {t : List (Int × Nat)} {lv : ax_L} {st : List Value} {w : ax_W} : ax_stp ro ct (10, a, b, v, t) i lv st w = ax_s10 ro ct a b v t i lv st w := rfl
theorem ax_e11 {ro : ax_W} {ct : ax_T} {a b i : Nat} {v : Value} {t : List (Int × Nat)} {lv : ax_L} {st : List Value} {w : ax_W} : ax_stp ro ct (11, a, b, v, t) i lv st w = ax_s11 ro ct a b v t i lv st w := rfl
theorem ax_e12 {ro : ax_W} {ct : ax_T} {a b i : Nat} {v : Value} {t : List (Int × Nat)} {lv : ax_L} {st : List Value} {w : ax_W} : ax_stp ro ct (12, a, b, v, t) i lv st w = ax_s12 ro ct a b v t i lv st w := rfl
theorem ax_e13 {ro : ax_W} {ct : ax_T} {a b i : Nat} {v : Value} {t : List (Int × Nat)} {lv : ax_L} {st : List Value} {w : ax_W} : ax_stp ro ct (13, a, b, v, t) i lv st w = ax_s13 ro ct a b v t i lv st w := rfl
theorem ax_e14 {ro : ax_W} {ct : ax_T} {a b i : Nat} {v : Value} {t : List (Int × Nat)} {lv : ax_L} {st : List Value} {w : ax_W} : ax_stp ro ct (14, a, b, v, t) i lv st w = ax_s14 ro ct a b v t i lv st w := rfl
theorem ax_e15 {ro : ax_W} {ct : ax_T} {a b i : Nat} {v : Value} {t : List (Int × Nat)} {lv : ax_L} {st : List Value} {w : ax_W} : ax_stp ro ct (15, a, b, v, t) i lv st w = ax_s15 ro ct a b v t i lv st w := rfl
theorem ax_e16 {ro : ax_W} {ct : ax_T} {a b i : Nat} {v : Value} {t : List (Int × Nat)} {lv : ax_L} {st : List Value} {w : ax_W} : ax_stp ro ct (16, a, b, v, t) i lv st w = ax_s16 ro ct a b v t i lv st w := rfl
theorem ax_e17 {ro : ax_W} {ct : ax_T} {a b i : Nat} {v : Value} {t : List (Int × Nat)} {lv : ax_L} {st : List Value} {w : ax_W} : ax_stp ro ct (17, a, b, v, t) i lv st w = ax_s17 ro ct a b v t i lv st w := rfl
theorem ax_e18 {ro : ax_W} {ct : ax_T} {a b i : Nat} {v : Value} {t : List (Int × Nat)} {lv : ax_L} {st : List Value} {w : ax_W} : ax_stp ro ct (18, a, b, v, t) i lv st w = ax_s18 ro ct a b v t i lv st w := rfl
theorem ax_e19 {ro : ax_W} {ct : ax_T} {a b i : Nat} {v : Value} {t : List (Int × Nat)} {lv : ax_L} {st : List Value} {w : ax_W} : ax_stp ro ct (19, a, b, v, t) i lv st w = ax_s19 ro ct a b v t i lv st w := rfl
theorem ax_e20 {ro : ax_W} {ct : ax_T} {a b i : Nat} {v : Value} {t : List (Int × Nat)} {lv : ax_L} {st : List Value} {w : ax_W} : ax_stp ro ct (20, a, b, v, t) i lv st w = ax_s20 ro ct a b v t i lv st w := rfl
theorem ax_e21 {ro : ax_W} {ct : ax_T} {a b i : Nat} {v : Value} {t : List (Int × Nat)} {lv : ax_L} {st : List Value} {w : ax_W} : ax_stp ro ct (21, a, b, v, t) i lv st w = ax_s21 ro ct a b v t i lv st w := rfl
theorem ax_e22 {ro : ax_W} {ct : ax_T} {a b i : Nat} {v : Value} {t : List (Int × Nat)} {lv : ax_L} {st : List Value} {w : ax_W} : ax_stp ro ct (22, a, b, v, t) i lv st w = ax_s22 ro ct a b v t i lv st w := rfl
theorem ax_e23 {ro : ax_W} {ct : ax_T} {a b i : Nat} {v : Value} {t : List (Int × Nat)} {lv : ax_L} {st : List Value} {w : ax_W} : ax_stp ro ct (23, a, b, v, t) i lv st w = ax_s23 ro ct a b v t i lv st w := rfl
theorem ax_e24 {ro : ax_W} {ct : ax_T} {a b i : Nat} {v : Value} {t : List (Int × Nat)} {lv : ax_L} {st : List Value} {w : ax_W} : ax_stp ro ct (24, a, b, v, t) i lv st w = ax_s24 ro ct a b v t i lv st w := rfl
theorem ax_e25 {ro : ax_W} {ct : ax_T} {a b i : Nat} {v : Value} {t : List (Int × Nat)} {lv : ax_L} {st : List Value} {w : ax_W} : ax_stp ro ct (25, a, b, v, t) i lv st w = ax_s25 ro ct a b v t i lv st w := rfl
theorem ax_e26 {ro : ax_W} {ct : ax_T} {a b i : Nat} {v : Value} {t : List (Int × Nat)} {lv : ax_L} {st : List Value} {w : ax_W} : ax_stp ro ct (26, a, b, v, t) i lv st w = ax_s26 ro ct a b v t i lv st w := rfl
theorem ax_e27 {ro : ax_W} {ct : ax_T} {a b i : Nat} {v : Value} {t : List (Int × Nat)} {lv : ax_L} {st : List Value} {w : ax_W} : ax_stp ro ct (27, a, b, v, t) i lv st w = ax_s27 ro ct a b v t i lv st w := rfl
theorem ax_e28 {ro : ax_W} {ct : ax_T} {a b i : Nat} {v : Value} {t : List (Int × Nat)} {lv : ax_L} {st : List Value} {w : ax_W} : ax_stp ro ct (28, a, b, v, t) i lv st w = ax_s28 ro ct a b v t i lv st w := rfl
theorem ax_e29 {ro : ax_W} {ct : ax_T} {a b i : Nat} {v : Value} {t : List (Int × Nat)} {lv : ax_L} {st : List Value} {w : ax_W} : ax_stp ro ct (29, a, b, v, t) i lv st w = ax_s29 ro ct a b v t i lv st w := rfl
theorem ax_e30 {ro : ax_W} {ct : ax_T} {a b i : Nat} {v : Value} {t : List (Int × Nat)} {lv : ax_L} {st : List Value} {w : ax_W} : ax_stp ro ct (30, a, b, v, t) i lv st w = ax_s30 ro ct a b v t i lv st w := rfl
theorem ax_e31 {ro : ax_W} {ct : ax_T} {a b i : Nat} {v : Value} {t : List (Int × Nat)} {lv : ax_L} {st : List Value} {w : ax_W} : ax_stp ro ct (31, a, b, v, t) i lv st w = ax_s31 ro ct a b v t i lv st w := rfl
theorem ax_e32 {ro : ax_W} {ct : ax_T} {a b i : Nat} {v : Value} {t : List (Int × Nat)} {lv : ax_L} {st : List Value} {w : ax_W} : ax_stp ro ct (32, a, b, v, t) i lv st w = ax_s32 ro ct a b v t i lv st w := rfl
theorem ax_e33 {ro : ax_W} {ct : ax_T} {a b i : Nat} {v : Value} {t : List (Int × Nat)} {lv : ax_L} {st : List Value} {w : ax_W} : ax_stp ro ct (33, a, b, v, t) i lv st w = ax_s33 ro ct a b v t i lv st w := rfl
theorem ax_e34 {ro : ax_W} {ct : ax_T} {a b i : Nat} {v : Value} {t : List (Int × Nat)} {lv : ax_L} {st : List Value} {w : ax_W} : ax_stp ro ct (34, a, b, v, t) i lv st w = ax_s34 ro ct a b v t i lv st w := rfl
theorem ax_e35 {ro : ax_W} {ct : ax_T} {a b i : Nat} {v : Value} {t : List (Int × Nat)} {lv : ax_L} {st : List Value} {w : ax_W} : ax_stp ro ct (35, a, b, v, t) i lv st w = ax_s35 ro ct a b v t i lv st w := rfl
theorem ax_e36 {ro : ax_W} {ct : ax_T} {a b i : Nat} {v : Value} {t : List (Int × Nat)} {lv : ax_L} {st : List Value} {w : ax_W} : ax_stp ro ct (36, a, b, v, t) i lv st w = ax_s36 ro ct a b v t i lv st w := rfl
theorem ax_e37 {ro : ax_W} {ct : ax_T} {a b i : Nat} {v : Value} {t : List (Int × Nat)} {lv : ax_L} {st : List Value} {w : ax_W} : ax_stp ro ct (37, a, b, v, t) i lv st w = ax_s37 ro ct a b v t i lv st w := rfl
theorem ax_e38 {ro : ax_W} {ct : ax_T} {a b i : Nat} {v : Value} {t : List (Int × Nat)} {lv : ax_L} {st : List Value} {w : ax_W} : ax_stp ro ct (38, a, b, v, t) i lv st w = ax_s38 ro ct a b v t i lv st w := rfl
theorem ax_e39 {ro : ax_W} {ct : ax_T} {a b i : Nat} {v : Value} {t : List (Int × Nat)} {lv : ax_L} {st : List Value} {w : ax_W} : ax_stp ro ct (39, a, b, v, t) i lv st w = ax_s39 ro ct a b v t i lv st w := rfl
theorem ax_e40 {ro : ax_W} {ct : ax_T} {a b i : Nat} {v : Value} {t : List (Int × Nat)} {lv : ax_L} {st : List Value} {w : ax_W} : ax_stp ro ct (40, a, b, v, t) i lv st w = ax_s40 ro ct a b v t i lv st w := rfl
theorem ax_e41 {ro : ax_W} {ct : ax_T} {a b i : Nat} {v : Value} {t : List (Int × Nat)} {lv : ax_L} {st : List Value} {w : ax_W} : ax_stp ro ct (41, a, b, v, t) i lv st w = ax_s41 ro ct a b v t i lv st w := rfl
theorem ax_e43 {ro : ax_W} {ct : ax_T} {a b i : Nat} {v : Value} {t : List (Int × Nat)} {lv : ax_L} {st : List Value} {w : ax_W} : ax_stp ro ct (43, a, b, v, t) i lv st w = ax_s43 ro ct a b v t i lv st w := rfl
theorem ax_e44 {ro : ax_W} {ct : ax_T} {a b i : Nat} {v : Value} {t : List (Int × Nat)} {lv : ax_L} {st : List Value} {w : ax_W} : ax_stp ro ct (44, a, b, v, t) i lv st w = ax_s44 ro ct a b v t i lv st w := rfl
theorem ax_e45 {ro : ax_W} {ct : ax_T} {a b i : Nat} {v : Value} {t : List (Int × Nat)} {lv : ax_L} {st : List Value} {w : ax_W} : ax_stp ro ct (45, a, b, v, t) i lv st w = ax_s45 ro ct a b v t i lv st w := rfl
theorem ax_e46 {ro : ax_W} {ct : ax_T} {a b i : Nat} {v : Value} {t : List (Int × Nat)} {lv : ax_L} {st : List Value} {w : ax_W} : ax_stp ro ct (46, a, b, v, t) i lv st w = ax_s46 ro ct a b v t i lv st w := rfl
theorem ax_e47 {ro : ax_W} {ct : ax_T} {a b i : Nat} {v : Value} {t : List (Int × Nat)} {lv : ax_L} {st : List Value} {w : ax_W} : ax_stp ro ct (47, a, b, v, t) i lv st w = ax_s47 ro ct a b v t i lv st w := rfl
theorem ax_e48 {ro : ax_W} {ct : ax_T} {a b i : Nat} {v : Value} {t : List (Int × Nat)} {lv : ax_L} {st : List Value} {w : ax_W} : ax_stp ro ct (48, a, b, v, t) i lv st w = ax_s48 ro ct a b v t i lv st w := rfl
theorem ax_e49 {ro : ax_W} {ct : ax_T} {a b i : Nat} {v : Value} {t : List (Int × Nat)} {lv : ax_L} {st : List Value} {w : ax_W} : ax_stp ro ct (49, a, b, v, t) i lv st w = ax_s49 ro ct a b v t i lv st w := rfl
theorem ax_e50 {ro : ax_W} {ct : ax_T} {a b i : Nat} {v : Value} {t : List (Int × Nat)} {lv : ax_L} {st : List Value} {w : ax_W} : ax_stp ro ct (50, a, b, v, t) i lv st w = ax_s50 ro ct a b v t i lv st w := rfl
theorem ax_e51 {ro : ax_W} {ct : ax_T} {a b i : Nat} {v : Value} {t : List (Int × Nat)} {lv : ax_L} {st : List Value} {w : ax_W} : ax_stp ro ct (51, a, b, v, t) i lv st w = ax_s51 ro ct a b v t i lv st w := rfl
theorem ax_e52 {ro : ax_W} {ct : ax_T} {a b i : Nat} {v : Value} {t : List (Int × Nat)} {lv : ax_L} {st : List Value} {w : ax_W} : ax_stp ro ct (52, a, b, v, t) i lv st w = ax_s52 ro ct a b v t i lv st w := rfl
theorem ax_e53 {ro : ax_W} {ct : ax_T} {a b i : Nat} {v : Value} {t : List (Int × Nat)} {lv : ax_L} {st : List Value} {w : ax_W} : ax_stp ro ct (53, a, b, v, t) i lv st w = ax_s53 ro ct a b v t i lv st w := rfl
theorem ax_e54 {ro : ax_W} {ct : ax_T} {a b i : Nat} {v : Value} {t : List (Int × Nat)} {lv : ax_L} {st : List Value} {w : ax_W} : ax_stp ro ct (54, a, b, v, t) i lv st w = ax_s54 ro ct a b v t i lv st w := rfl
theorem ax_e55 {ro : ax_W} {ct : ax_T} {a b i : Nat} {v : Value} {t : List (Int × Nat)} {lv : ax_L} {st : List Value} {w : ax_W} : ax_stp ro ct (55, a, b, v, t) i lv st w = ax_s55 ro ct a b v t i lv st w := rfl
theorem ax_e56 {ro : ax_W} {ct : ax_T} {a b i : Nat} {v : Value} {t : List (Int × Nat)} {lv : ax_L} {st : List Value} {w : ax_W} : ax_stp ro ct (56, a, b, v, t) i lv st w = ax_s56 ro ct a b v t i lv st w := rfl
def kd (k : Nat) : FieldType ⊕ Nat := ax_kds.getD k (.inr 0)
def mkW (σ : Nat → List Value) : ax_W := (List.range 331).map (fun k => (kd k, σ k))
def up (σ : Nat → List Value) (k : Nat) (vs : List Value) : Nat → List Value := fun j => if j = k then vs else σ j
theorem up_same (σ : Nat → List Value) (k : Nat) (vs : List Value) : up σ k vs k = vs := by simp [up]
theorem up_ne (σ : Nat → List Value) {k j : Nat} (vs : List Value) (h : j ≠ k) : up σ k vs j = σ j := by simp [up, h]
theorem mkW_get (σ : Nat → List Value) {k : Nat} (h : k < 331) : (mkW σ)[k]? = some (kd k, σ k) := by
  simp [mkW, h]
theorem mkW_set (σ : Nat → List Value) {k : Nat} {c : FieldType ⊕ Nat} {vs : List Value} (hc : kd k = c) : (mkW σ).set k (c, vs) = mkW (up σ k vs) := by
  subst hc
  apply List.ext_getElem?
  intro j
  by_cases hj : k = j
  · subst hj
    by_cases hl : k < 331
    · simp [mkW, hl, up]
    · simp [mkW, hl]
  · have hj' : ¬ j = k := fun e => hj e.symm
    by_cases hl : j < 331
    · simp [mkW, List.getElem?_set, hj, up, hj', hl]
    · simp [mkW, List.getElem?_set, hj, hl]
/-- an array of ints, of longs -/
def arr (n : Nat) (f : Nat → Int32) : List Value := (List.range n).map (fun j => .int (f j))
def arrL (n : Nat) (f : Nat → Int64) : List Value := (List.range n).map (fun j => .long (f j))
theorem arr_len (n : Nat) (f : Nat → Int32) : (arr n f).length = n := by simp [arr]
theorem arrL_len (n : Nat) (f : Nat → Int64) : (arrL n f).length = n := by simp [arrL]
theorem arr_get {n j : Nat} (f : Nat → Int32) (h : j < n) : (arr n f)[j]? = some (.int (f j)) := by simp [arr, h]
theorem arrL_get {n j : Nat} (f : Nat → Int64) (h : j < n) : (arrL n f)[j]? = some (.long (f j)) := by simp [arrL, h]
theorem ay_set {n : Nat} (f : Nat → Int32) (j : Nat) (x : Int32) : (arr n f).set j (.int x) = arr n (upd f j x) := by
  apply List.ext_getElem?
  intro k
  by_cases hj : j = k
  · subst hj
    by_cases hl : j < n
    · simp [arr, hl, upd]
    · simp [arr, hl]
  · have hj' : ¬ k = j := fun e => hj e.symm
    by_cases hl : k < n
    · simp [arr, List.getElem?_set, hj, upd, hj', hl]
    · simp [arr, List.getElem?_set, hj, hl]
theorem arrL_set {n : Nat} (f : Nat → Int64) (j : Nat) (x : Int64) : (arrL n f).set j (.long x) = arrL n (vp_updL f j x) := by
  apply List.ext_getElem?
  intro k
  by_cases hj : j = k
  · subst hj
    by_cases hl : j < n
    · simp [arrL, hl, vp_updL]
    · simp [arrL, hl]
  · have hj' : ¬ k = j := fun e => hj e.symm
    by_cases hl : k < n
    · simp [arrL, List.getElem?_set, hj, vp_updL, hj', hl]
    · simp [arrL, List.getElem?_set, hj, hl]
theorem arr_congr {n : Nat} {f g : Nat → Int32} (h : ∀ j, j < n → f j = g j) : arr n f = arr n g := by
  apply List.map_congr_left
  intro j hj
  rw [h j (List.mem_range.mp hj)]
theorem arrL_congr {n : Nat} {f g : Nat → Int64} (h : ∀ j, j < n → f j = g j) : arrL n f = arrL n g := by
  apply List.map_congr_left
  intro j hj
  rw [h j (List.mem_range.mp hj)]
def Wq (xs : List Int32) (d : Nat) (cd : List ax_I) (i : Nat) (lv : ax_L) (st : List Value) (σ : Nat → List Value) (Q : Option Value → (Nat → List Value) → Prop) : Prop := Wp xs d cd i lv st (mkW σ) (fun r w' => ∃ σ', w' = mkW σ' ∧ Q r σ')
section WQ
variable {xs : List Int32} {d : Nat} {cd cd' : List ax_I} {i i' a b k : Nat} {lv lv' : ax_L} {st st' r : List Value} {σ : Nat → List Value} {Q : Option Value → (Nat → List Value) → Prop} {ai : ax_I} {v u : Value} {t : List (Int × Nat)} {fs : List Value}
theorem Wq.mono {Q' : Option Value → (Nat → List Value) → Prop} (h : Wq xs d cd i lv st σ Q) (hq : ∀ r s, Q r s → Q' r s) : Wq xs d cd i lv st σ Q' := Wp.mono h (fun r w' ⟨s, e, q⟩ => ⟨s, e, hq r s q⟩)
theorem wq_go (h : cd[i]? = some ai) (hs : ∀ w, ax_stp (ax_ro xs) ax_cts ai i lv st w = some (.inl (i', lv', st', w))) (K : Wq xs d cd i' lv' st' σ Q) : Wq xs d cd i lv st σ Q := wp_go h (hs _) K
theorem wq_getf (h : cd[i]? = some (22, a, b, v, t)) (hk : kd k = .inr a) (hl : k < 331) (hs : σ k = fs) (hu : fs[b]? = some u) (K : Wq xs d cd (i + 1) lv (u :: r) σ Q) : Wq xs d cd i lv (.ref k :: r) σ Q := by
  refine wp_go h ?_ K
  rw [ax_e22]
  unfold ax_s22
  simp only [mkW_get σ hl, hk, hs, hu, if_true]
theorem wq_getfN (h : cd[i]? = some (56, a, b, v, t)) (hk : kd k = .inr a) (hl : k < 331) (hs : σ k = fs) (hu : fs[b]? = some u) (K : Wq xs d cd (i + 1) lv (u :: r) σ Q) : Wq xs d cd i lv (.ref k :: r) σ Q := by
  refine wp_go h ?_ K
  rw [ax_e56]
  unfold ax_s56
  simp only [mkW_get σ hl, hk, hs, hu, if_true]
theorem wq_putf {nm : String} {ts : List FieldType} {ty : FieldType} (h : cd[i]? = some (23, a, b, v, t)) (hk : kd k = .inr a) (hl : k < 331) (hs : σ k = fs) (hct : ax_cts[a]? = some (nm, ts)) (hty : ts[b]? = some ty) (hf : ax_fit ty u = true) (hb : b < fs.length) (K : Wq xs d cd (i + 1) lv r (up σ k (fs.set b u)) Q) : Wq xs d cd i lv (u :: .ref k :: r) σ Q := by
  refine wp_go h (w' := mkW (up σ k (fs.set b u))) ?_ K
  rw [ax_e23]
  unfold ax_s23
  simp only [mkW_get σ hl, hk, hs, hct, hty, hf, hb, and_self, if_true, mkW_set σ hk]
theorem wq_alen {ty : FieldType} {n : Nat} (h : cd[i]? = some (24, a, b, v, t)) (hk : kd k = .inl ty) (hl : k < 331) (hty : (ax_ti ty).isSome = true) (hs : σ k = fs) (hn : fs.length = n) (K : Wq xs d cd (i + 1) lv (.int (nI n) :: r) σ Q) : Wq xs d cd i lv (.ref k :: r) σ Q := by
  refine wp_go h ?_ K
  rw [ax_e24]
  unfold ax_s24
  simp only [mkW_get σ hl, hk, hs, hn, hty, if_true, nI]
theorem nI_ok {j : Int32} {m n : Nat} (hj : j = nI m) (hm : m < n) (hn : n < 2 ^ 31) : (0 ≤ j ∧ j.toNatClampNeg < n) ∧ j.toNatClampNeg = m := by
  subst hj
  rw [nI_clamp (by omega)]
  exact ⟨⟨nI_pos' (by omega), hm⟩, rfl⟩
theorem wq_iald {n m : Nat} {f : Nat → Int32} {j : Int32} (h : cd[i]? = some (25, a, b, v, t)) (hk : kd k = .inl .int) (hl : k < 331) (hs : σ k = arr n f) (hj : j = nI m) (hm : m < n) (hn : n < 2 ^ 31) (K : Wq xs d cd (i + 1) lv (.int (f m) :: r) σ Q) : Wq xs d cd i lv (.int j :: .ref k :: r) σ Q := by
  obtain ⟨g1, g2⟩ := nI_ok hj hm hn
  refine wp_go h ?_ K
  rw [ax_e25]
  unfold ax_s25
  simp only [mkW_get σ hl, hk, hs, arr_len, g1, g2, hm, and_self, if_true, arr_get f hm]
theorem wq_lald {n m : Nat} {f : Nat → Int64} {j : Int32} (h : cd[i]? = some (26, a, b, v, t)) (hk : kd k = .inl .long) (hl : k < 331) (hs : σ k = arrL n f) (hj : j = nI m) (hm : m < n) (hn : n < 2 ^ 31) (K : Wq xs d cd (i + 1) lv (.long (f m) :: r) σ Q) : Wq xs d cd i lv (.int j :: .ref k :: r) σ Q := by
  obtain ⟨g1, g2⟩ := nI_ok hj hm hn
  refine wp_go h ?_ K
  rw [ax_e26]
  unfold ax_s26
  simp only [mkW_get σ hl, hk, hs, arrL_len, g1, g2, hm, and_self, if_true, arrL_get f hm]
theorem wq_bald {n m : Nat} {f : Nat → Int32} {j : Int32} {ty : FieldType} (h : cd[i]? = some (27, a, b, v, t)) (hk : kd k = .inl ty) (hty : ty = .byte ∨ ty = .boolean) (hl : k < 331) (hs : σ k = arr n f) (hj : j = nI m) (hm : m < n) (hn : n < 2 ^ 31) (K : Wq xs d cd (i + 1) lv (.int (f m) :: r) σ Q) : Wq xs d cd i lv (.int j :: .ref k :: r) σ Q := by
  obtain ⟨g1, g2⟩ := nI_ok hj hm hn
  refine wp_go h ?_ K
  rw [ax_e27]
  unfold ax_s27
  simp only [mkW_get σ hl, hk, hs, arr_len, g1, g2, hm, hty, and_self, if_true, arr_get f hm]
theorem wq_aald {m : Nat} {j : Int32} {x : Nat} (h : cd[i]? = some (28, a, b, v, t)) (hk : kd k = .inl (.object "HeadCloths$State")) (hl : k < 331) (hs : σ k = fs) (hj : j = nI m) (hm : m < fs.length) (hn : fs.length < 2 ^ 31) (hx : fs[m]? = some (.ref x)) (K : Wq xs d cd (i + 1) lv (.ref x :: r) σ Q) : Wq xs d cd i lv (.int j :: .ref k :: r) σ Q := by
  obtain ⟨g1, g2⟩ := nI_ok hj hm hn
  refine wp_go h ?_ K
  rw [ax_e28]
  unfold ax_s28
  simp only [mkW_get σ hl, hk, hs, g1, g2, hm, and_self, if_true, hx]
theorem wq_iast {n m : Nat} {f : Nat → Int32} {j x : Int32} (h : cd[i]? = some (29, a, b, v, t)) (hk : kd k = .inl .int) (hl : k < 331) (hs : σ k = arr n f) (hj : j = nI m) (hm : m < n) (hn : n < 2 ^ 31) (K : Wq xs d cd (i + 1) lv r (up σ k (arr n (upd f m x))) Q) : Wq xs d cd i lv (.int x :: .int j :: .ref k :: r) σ Q := by
  obtain ⟨g1, g2⟩ := nI_ok hj hm hn
  refine wp_go h (w' := mkW (up σ k (arr n (upd f m x)))) ?_ K
  rw [ax_e29]
  unfold ax_s29
  simp only [mkW_get σ hl, hk, hs, arr_len, g1, g2, hm, and_self, if_true, ay_set, mkW_set σ hk]
theorem wq_last {n m : Nat} {f : Nat → Int64} {j : Int32} {x : Int64} (h : cd[i]? = some (30, a, b, v, t)) (hk : kd k = .inl .long) (hl : k < 331) (hs : σ k = arrL n f) (hj : j = nI m) (hm : m < n) (hn : n < 2 ^ 31) (K : Wq xs d cd (i + 1) lv r (up σ k (arrL n (vp_updL f m x))) Q) : Wq xs d cd i lv (.long x :: .int j :: .ref k :: r) σ Q := by
  obtain ⟨g1, g2⟩ := nI_ok hj hm hn
  refine wp_go h (w' := mkW (up σ k (arrL n (vp_updL f m x)))) ?_ K
  rw [ax_e30]
  unfold ax_s30
  simp only [mkW_get σ hl, hk, hs, arrL_len, g1, g2, hm, and_self, if_true, arrL_set, mkW_set σ hk]
theorem wq_bast {n m : Nat} {f : Nat → Int32} {j x : Int32} {ty : FieldType} (h : cd[i]? = some (31, a, b, v, t)) (hk : kd k = .inl ty) (hty : ty = .byte ∨ ty = .boolean) (hl : k < 331) (hs : σ k = arr n f) (hj : j = nI m) (hm : m < n) (hn : n < 2 ^ 31) (K : Wq xs d cd (i + 1) lv r (up σ k (arr n (upd f m (vp_nar ty x)))) Q) : Wq xs d cd i lv (.int x :: .int j :: .ref k :: r) σ Q := by
  obtain ⟨g1, g2⟩ := nI_ok hj hm hn
  refine wp_go h (w' := mkW (up σ k (arr n (upd f m (vp_nar ty x))))) ?_ K
  rw [ax_e31]
  unfold ax_s31
  simp only [mkW_get σ hl, hk, hs, arr_len, g1, g2, hm, hty, and_self, if_true, ay_set, mkW_set σ hk]
theorem wq_copy {k0 : Nat} {vs us : List Value} {n : Int32} (h : cd[i]? = some (43, a, b, v, t)) (hk0 : kd k0 = .inl .int) (hl0 : k0 < 331) (hs0 : σ k0 = vs) (hk : kd k = .inl .int) (hl : k < 331) (hs : σ k = us) (hn : n = nI vs.length) (hvu : vs.length = us.length) (hb : vs.length < 2 ^ 31) (hw : ax_ws r ≤ 8) (K : Wq xs d cd (i + 1) lv r (up σ k vs) Q) : Wq xs d cd i lv (.int n :: .int 0 :: .ref k :: .int 0 :: .ref k0 :: r) σ Q := by
  refine wp_go h (w' := mkW (up σ k vs)) ?_ K
  rw [ax_e43]
  unfold ax_s43
  subst hn
  have hb2 : us.length < 2 ^ 31 := by omega
  simp only [mkW_get σ hl, mkW_get σ hl0, hk0, hk, hs, hs0, hvu, nI_clamp hb2, nI_pos' hb2, hw, and_self, if_true, mkW_set σ hk]
theorem wq_cmp {x y : Int32} (h : cd[i]? = some (18, a, b, v, t)) (kt : ax_cmp b x y = true → Wq xs d cd a lv r σ Q) (kf : ax_cmp b x y = false → Wq xs d cd (i + 1) lv r σ Q) : Wq xs d cd i lv (.int y :: .int x :: r) σ Q := by
  cases hc : ax_cmp b x y with
  | true => exact wp_go h (by show some (Sum.inl (bif ax_cmp b x y then a else i + 1, lv, r, mkW σ)) = _; rw [hc]; rfl) (kt hc)
  | false => exact wp_go h (by show some (Sum.inl (bif ax_cmp b x y then a else i + 1, lv, r, mkW σ)) = _; rw [hc]; rfl) (kf hc)
theorem wq_if {x : Int32} (h : cd[i]? = some (19, a, b, v, t)) (kt : ax_cmp b x 0 = true → Wq xs d cd a lv r σ Q) (kf : ax_cmp b x 0 = false → Wq xs d cd (i + 1) lv r σ Q) : Wq xs d cd i lv (.int x :: r) σ Q := by
  cases hc : ax_cmp b x 0 with
  | true => exact wp_go h (by show some (Sum.inl (bif ax_cmp b x 0 then a else i + 1, lv, r, mkW σ)) = _; rw [hc]; rfl) (kt hc)
  | false => exact wp_go h (by show some (Sum.inl (bif ax_cmp b x 0 then a else i + 1, lv, r, mkW σ)) = _; rw [hc]; rfl) (kf hc)
theorem wq_end {x : Option Value} (h : cd[i]? = some ai) (hs : ∀ w, ax_stp (ax_ro xs) ax_cts ai i lv st w = some (.inr (.inr x))) (K : Q x σ) : Wq xs d cd i lv st σ Q := wp_end h (hs _) ⟨σ, rfl, K⟩
/-- a call: the callee's run, then the rest -/
theorem wq_callV {y ci : Nat} {lv0 : ax_L} (h : cd[i]? = some (36, y, b, .retAddr ci, t)) (hd : st.drop b = .ref k :: r) (hk : kd k = .inr ci) (hl : k < 331) (hw : ax_ws r ≤ 8) (ha : ax_ws (.ref k :: (st.take b).reverse) ≤ ax_aw t) (hpg : ax_pg y = cd') (hlv : lv_args 0 (.ref k :: (st.take b).reverse) = lv0) (hc : Wq xs d cd' 0 lv0 [] σ (fun x s => Wq xs (d + 1) cd (i + 1) lv (x.toList ++ r) s Q)) : Wq xs (d + 1) cd i lv st σ Q := by
  subst hpg
  subst hlv
  refine wp_call h ?_ hc (fun x w' ⟨s, e, q⟩ => by subst e; exact q)
  rw [ax_e36]
  unfold ax_s36
  simp only [hd, mkW_get σ hl, hk, hw, ha, and_self, if_true]
theorem wq_callS {y : Nat} {lv0 : ax_L} (h : cd[i]? = some (38, y, b, v, t)) (hb : b ≤ st.length) (hd : st.drop b = r) (hw : ax_ws r ≤ 8) (ha : ax_ws (st.take b).reverse ≤ ax_aw t) (hpg : ax_pg y = cd') (hlv : lv_args 0 (st.take b).reverse = lv0) (hc : Wq xs d cd' 0 lv0 [] σ (fun x s => Wq xs (d + 1) cd (i + 1) lv (x.toList ++ r) s Q)) : Wq xs (d + 1) cd i lv st σ Q := by
  subst hpg
  subst hlv
  subst hd
  refine wp_call h ?_ hc (fun x w' ⟨s, e, q⟩ => by subst e; exact q)
  rw [ax_e38]
  unfold ax_s38
  simp only [hb, hw, ha, and_self, if_true]
theorem wq_callR {y j : Nat} {z : Nat} {fz : List Value} {lv0 : ax_L} (h : cd[i]? = some (54, y, b, v, t)) (hd : st.drop b = .retAddr j :: r) (hro : (ax_ro xs)[j]? = some (.inr z, fz)) (hw : ax_ws r ≤ 8) (ha : ax_ws (.retAddr j :: (st.take b).reverse) ≤ ax_aw t) (hpg : ax_pg y = cd') (hlv : lv_args 0 (.retAddr j :: (st.take b).reverse) = lv0) (hc : Wq xs d cd' 0 lv0 [] σ (fun x s => Wq xs (d + 1) cd (i + 1) lv (x.toList ++ r) s Q)) : Wq xs (d + 1) cd i lv st σ Q := by
  subst hpg
  subst hlv
  refine wp_call h ?_ hc (fun x w' ⟨s, e, q⟩ => by subst e; exact q)
  rw [ax_e54]
  unfold ax_s54
  simp only [hd, hro, hw, ha, and_self, if_true]
end WQ
