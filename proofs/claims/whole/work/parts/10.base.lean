/-! SPECS, 1: words of the specs, whole numbers, rows of stitches -/
def bI (b : Bool) : Int32 := if b = true then 1 else 0
theorem w_top {S : Scr} {d y pc n : Nat} {ls : LL} {st : List Value} {f : FF} {g : GG} {P : Option Value → Nat → FF → GG → Prop} {x : Int32} (x' : Int32) (h : x = x') (k : Wp S d y pc ls (.int x' :: st) n f g P) : Wp S d y pc ls (.int x :: st) n f g P := h ▸ k
theorem w_topL {S : Scr} {d y pc n : Nat} {ls : LL} {st : List Value} {f : FF} {g : GG} {P : Option Value → Nat → FF → GG → Prop} {x : Int64} (x' : Int64) (h : x = x') (k : Wp S d y pc ls (.long x' :: st) n f g P) : Wp S d y pc ls (.long x :: st) n f g P := h ▸ k
theorem sh_l : ∀ k, k < 32 → ((nI k &&& 31).toBitVec.smod 32).toNat = k := by decide
theorem shr_n {r k : Nat} (hr : r < 2 ^ 31) (hk : k < 32) : nI r >>> (nI k &&& 31) = nI (r / 2 ^ k) := pk_shrN hr _ k (sh_l k hk)
theorem shl_n {r k : Nat} (hk : k < 32) (hr : r * 2 ^ k < 2 ^ 32) : nI r <<< (nI k &&& 31) = nI (r * 2 ^ k) := pk_shlN _ k (sh_l k hk) hr
theorem and_n {r : Nat} (hr : r < 2 ^ 32) (k : Nat) (m : Int32) (hm : m.toBitVec.toNat = 2 ^ k - 1) : nI r &&& m = nI (r % 2 ^ k) := pk_andN hr k hm
theorem pow4 (i : Nat) : 2 ^ (2 * i) = 4 ^ i := by rw [Nat.pow_mul]
theorem nI_2 : (2 : Int32) = nI 2 := rfl
/-- refs that stay: the class's, the model's -/
def refsC : List (Nat × Nat × Nat) := [(0, 0, 1), (0, 1, 2), (0, 2, 17), (0, 3, 21), (0, 4, 30), (0, 5, 39), (0, 6, 113), (0, 7, 133), (1, 0, 2), (1, 1, 4), (1, 2, 8), (2, 0, 3), (4, 0, 5), (4, 1, 6), (4, 2, 7), (8, 0, 9), (8, 1, 10), (9, 0, 11), (9, 1, 12), (9, 2, 13), (9, 3, 14), (9, 4, 15), (9, 5, 16), (17, 0, 18), (17, 1, 19), (17, 2, 20), (21, 0, 22), (21, 1, 23), (22, 0, 24), (22, 1, 25), (22, 2, 26), (22, 3, 27), (22, 4, 28), (22, 5, 29), (30, 0, 31), (30, 1, 32), (31, 0, 33), (31, 1, 34), (31, 2, 35), (31, 3, 36), (31, 4, 37), (31, 5, 38), (39, 0, 40), (41, 0, 42), (41, 1, 43), (42, 0, 44), (42, 1, 45), (42, 2, 46), (42, 3, 47), (42, 4, 48), (42, 5, 49), (50, 0, 51), (50, 1, 52), (51, 0, 53), (51, 1, 54), (51, 2, 55), (51, 3, 56), (51, 4, 57), (51, 5, 58), (59, 0, 60), (59, 1, 61), (60, 0, 62), (60, 1, 63), (60, 2, 64), (60, 3, 65), (60, 4, 66), (60, 5, 67), (68, 0, 69), (68, 1, 70), (69, 0, 71), (69, 1, 72), (69, 2, 73), (69, 3, 74), (69, 4, 75), (69, 5, 76), (77, 0, 78), (77, 1, 79), (78, 0, 80), (78, 1, 81), (78, 2, 82), (78, 3, 83), (78, 4, 84), (78, 5, 85), (86, 0, 87), (86, 1, 88), (87, 0, 89), (87, 1, 90), (87, 2, 91), (87, 3, 92), (87, 4, 93), (87, 5, 94), (95, 0, 96), (95, 1, 97), (96, 0, 98), (96, 1, 99), (96, 2, 100), (96, 3, 101), (96, 4, 102), (96, 5, 103), (104, 0, 105), (104, 1, 106), (105, 0, 107), (105, 1, 108), (105, 2, 109), (105, 3, 110), (105, 4, 111), (105, 5, 112), (113, 0, 114), (114, 0, 115), (114, 1, 124), (115, 0, 116), (115, 1, 117), (116, 0, 118), (116, 1, 119), (116, 2, 120), (116, 3, 121), (116, 4, 122), (116, 5, 123), (124, 0, 125), (124, 1, 126), (125, 0, 127), (125, 1, 128), (125, 2, 129), (125, 3, 130), (125, 4, 131), (125, 5, 132), (133, 0, 134), (133, 1, 135), (133, 2, 136)]
def refsM : List (Nat × Nat × Nat) := [(137, 1, 138), (137, 6, 139), (137, 7, 140), (137, 8, 141), (137, 9, 142), (137, 10, 143), (137, 11, 144), (137, 13, 145), (137, 14, 146), (137, 15, 147), (137, 16, 148), (137, 17, 149), (137, 20, 150), (137, 22, 151), (137, 24, 152)]
def GOk (g : GG) : Prop := ∀ q ∈ refsC, g q.1 q.2.1 = some q.2.2
def GOm (g : GG) : Prop := ∀ q ∈ refsM, g q.1 q.2.1 = some q.2.2
theorem refsC_40 : ∀ q ∈ refsC, q.1 ≠ 40 := by decide +kernel
theorem refsM_40 : ∀ q ∈ refsM, q.1 ≠ 40 := by decide +kernel
theorem GOk.g {g g' : GG} (h : GOk g) (ho : ∀ x, x ≠ 40 → g' x = g x) : GOk g' := fun q hq => by rw [ho q.1 (refsC_40 q hq)]; exact h q hq
theorem GOm.g {g g' : GG} (h : GOm g) (ho : ∀ x, x ≠ 40 → g' x = g x) : GOm g' := fun q hq => by rw [ho q.1 (refsM_40 q hq)]; exact h q hq
theorem r0_0 {g : GG} (G : GOk g) : g 0 0 = some 1 := G (0, 0, 1) (List.mem_of_getElem? (i := 0) rfl)
theorem r0_1 {g : GG} (G : GOk g) : g 0 1 = some 2 := G (0, 1, 2) (List.mem_of_getElem? (i := 1) rfl)
theorem r0_2 {g : GG} (G : GOk g) : g 0 2 = some 17 := G (0, 2, 17) (List.mem_of_getElem? (i := 2) rfl)
theorem r0_3 {g : GG} (G : GOk g) : g 0 3 = some 21 := G (0, 3, 21) (List.mem_of_getElem? (i := 3) rfl)
theorem r0_4 {g : GG} (G : GOk g) : g 0 4 = some 30 := G (0, 4, 30) (List.mem_of_getElem? (i := 4) rfl)
theorem r0_5 {g : GG} (G : GOk g) : g 0 5 = some 39 := G (0, 5, 39) (List.mem_of_getElem? (i := 5) rfl)
theorem r0_6 {g : GG} (G : GOk g) : g 0 6 = some 113 := G (0, 6, 113) (List.mem_of_getElem? (i := 6) rfl)
theorem r0_7 {g : GG} (G : GOk g) : g 0 7 = some 133 := G (0, 7, 133) (List.mem_of_getElem? (i := 7) rfl)
theorem r1_0 {g : GG} (G : GOk g) : g 1 0 = some 2 := G (1, 0, 2) (List.mem_of_getElem? (i := 8) rfl)
theorem r1_1 {g : GG} (G : GOk g) : g 1 1 = some 4 := G (1, 1, 4) (List.mem_of_getElem? (i := 9) rfl)
theorem r1_2 {g : GG} (G : GOk g) : g 1 2 = some 8 := G (1, 2, 8) (List.mem_of_getElem? (i := 10) rfl)
theorem r2_0 {g : GG} (G : GOk g) : g 2 0 = some 3 := G (2, 0, 3) (List.mem_of_getElem? (i := 11) rfl)
theorem r4_0 {g : GG} (G : GOk g) : g 4 0 = some 5 := G (4, 0, 5) (List.mem_of_getElem? (i := 12) rfl)
theorem r4_1 {g : GG} (G : GOk g) : g 4 1 = some 6 := G (4, 1, 6) (List.mem_of_getElem? (i := 13) rfl)
theorem r4_2 {g : GG} (G : GOk g) : g 4 2 = some 7 := G (4, 2, 7) (List.mem_of_getElem? (i := 14) rfl)
theorem r8_0 {g : GG} (G : GOk g) : g 8 0 = some 9 := G (8, 0, 9) (List.mem_of_getElem? (i := 15) rfl)
theorem r8_1 {g : GG} (G : GOk g) : g 8 1 = some 10 := G (8, 1, 10) (List.mem_of_getElem? (i := 16) rfl)
theorem r9_0 {g : GG} (G : GOk g) : g 9 0 = some 11 := G (9, 0, 11) (List.mem_of_getElem? (i := 17) rfl)
theorem r9_1 {g : GG} (G : GOk g) : g 9 1 = some 12 := G (9, 1, 12) (List.mem_of_getElem? (i := 18) rfl)
theorem r9_2 {g : GG} (G : GOk g) : g 9 2 = some 13 := G (9, 2, 13) (List.mem_of_getElem? (i := 19) rfl)
theorem r9_3 {g : GG} (G : GOk g) : g 9 3 = some 14 := G (9, 3, 14) (List.mem_of_getElem? (i := 20) rfl)
theorem r9_4 {g : GG} (G : GOk g) : g 9 4 = some 15 := G (9, 4, 15) (List.mem_of_getElem? (i := 21) rfl)
theorem r9_5 {g : GG} (G : GOk g) : g 9 5 = some 16 := G (9, 5, 16) (List.mem_of_getElem? (i := 22) rfl)
theorem r17_0 {g : GG} (G : GOk g) : g 17 0 = some 18 := G (17, 0, 18) (List.mem_of_getElem? (i := 23) rfl)
theorem r17_1 {g : GG} (G : GOk g) : g 17 1 = some 19 := G (17, 1, 19) (List.mem_of_getElem? (i := 24) rfl)
theorem r17_2 {g : GG} (G : GOk g) : g 17 2 = some 20 := G (17, 2, 20) (List.mem_of_getElem? (i := 25) rfl)
theorem r21_0 {g : GG} (G : GOk g) : g 21 0 = some 22 := G (21, 0, 22) (List.mem_of_getElem? (i := 26) rfl)
theorem r21_1 {g : GG} (G : GOk g) : g 21 1 = some 23 := G (21, 1, 23) (List.mem_of_getElem? (i := 27) rfl)
theorem r22_0 {g : GG} (G : GOk g) : g 22 0 = some 24 := G (22, 0, 24) (List.mem_of_getElem? (i := 28) rfl)
theorem r22_1 {g : GG} (G : GOk g) : g 22 1 = some 25 := G (22, 1, 25) (List.mem_of_getElem? (i := 29) rfl)
theorem r22_2 {g : GG} (G : GOk g) : g 22 2 = some 26 := G (22, 2, 26) (List.mem_of_getElem? (i := 30) rfl)
theorem r22_3 {g : GG} (G : GOk g) : g 22 3 = some 27 := G (22, 3, 27) (List.mem_of_getElem? (i := 31) rfl)
theorem r22_4 {g : GG} (G : GOk g) : g 22 4 = some 28 := G (22, 4, 28) (List.mem_of_getElem? (i := 32) rfl)
theorem r22_5 {g : GG} (G : GOk g) : g 22 5 = some 29 := G (22, 5, 29) (List.mem_of_getElem? (i := 33) rfl)
theorem r30_0 {g : GG} (G : GOk g) : g 30 0 = some 31 := G (30, 0, 31) (List.mem_of_getElem? (i := 34) rfl)
theorem r30_1 {g : GG} (G : GOk g) : g 30 1 = some 32 := G (30, 1, 32) (List.mem_of_getElem? (i := 35) rfl)
theorem r31_0 {g : GG} (G : GOk g) : g 31 0 = some 33 := G (31, 0, 33) (List.mem_of_getElem? (i := 36) rfl)
theorem r31_1 {g : GG} (G : GOk g) : g 31 1 = some 34 := G (31, 1, 34) (List.mem_of_getElem? (i := 37) rfl)
theorem r31_2 {g : GG} (G : GOk g) : g 31 2 = some 35 := G (31, 2, 35) (List.mem_of_getElem? (i := 38) rfl)
theorem r31_3 {g : GG} (G : GOk g) : g 31 3 = some 36 := G (31, 3, 36) (List.mem_of_getElem? (i := 39) rfl)
theorem r31_4 {g : GG} (G : GOk g) : g 31 4 = some 37 := G (31, 4, 37) (List.mem_of_getElem? (i := 40) rfl)
theorem r31_5 {g : GG} (G : GOk g) : g 31 5 = some 38 := G (31, 5, 38) (List.mem_of_getElem? (i := 41) rfl)
theorem r39_0 {g : GG} (G : GOk g) : g 39 0 = some 40 := G (39, 0, 40) (List.mem_of_getElem? (i := 42) rfl)
theorem r41_0 {g : GG} (G : GOk g) : g 41 0 = some 42 := G (41, 0, 42) (List.mem_of_getElem? (i := 43) rfl)
theorem r41_1 {g : GG} (G : GOk g) : g 41 1 = some 43 := G (41, 1, 43) (List.mem_of_getElem? (i := 44) rfl)
theorem r42_0 {g : GG} (G : GOk g) : g 42 0 = some 44 := G (42, 0, 44) (List.mem_of_getElem? (i := 45) rfl)
theorem r42_1 {g : GG} (G : GOk g) : g 42 1 = some 45 := G (42, 1, 45) (List.mem_of_getElem? (i := 46) rfl)
theorem r42_2 {g : GG} (G : GOk g) : g 42 2 = some 46 := G (42, 2, 46) (List.mem_of_getElem? (i := 47) rfl)
theorem r42_3 {g : GG} (G : GOk g) : g 42 3 = some 47 := G (42, 3, 47) (List.mem_of_getElem? (i := 48) rfl)
theorem r42_4 {g : GG} (G : GOk g) : g 42 4 = some 48 := G (42, 4, 48) (List.mem_of_getElem? (i := 49) rfl)
theorem r42_5 {g : GG} (G : GOk g) : g 42 5 = some 49 := G (42, 5, 49) (List.mem_of_getElem? (i := 50) rfl)
theorem r50_0 {g : GG} (G : GOk g) : g 50 0 = some 51 := G (50, 0, 51) (List.mem_of_getElem? (i := 51) rfl)
theorem r50_1 {g : GG} (G : GOk g) : g 50 1 = some 52 := G (50, 1, 52) (List.mem_of_getElem? (i := 52) rfl)
theorem r51_0 {g : GG} (G : GOk g) : g 51 0 = some 53 := G (51, 0, 53) (List.mem_of_getElem? (i := 53) rfl)
theorem r51_1 {g : GG} (G : GOk g) : g 51 1 = some 54 := G (51, 1, 54) (List.mem_of_getElem? (i := 54) rfl)
theorem r51_2 {g : GG} (G : GOk g) : g 51 2 = some 55 := G (51, 2, 55) (List.mem_of_getElem? (i := 55) rfl)
theorem r51_3 {g : GG} (G : GOk g) : g 51 3 = some 56 := G (51, 3, 56) (List.mem_of_getElem? (i := 56) rfl)
theorem r51_4 {g : GG} (G : GOk g) : g 51 4 = some 57 := G (51, 4, 57) (List.mem_of_getElem? (i := 57) rfl)
theorem r51_5 {g : GG} (G : GOk g) : g 51 5 = some 58 := G (51, 5, 58) (List.mem_of_getElem? (i := 58) rfl)
theorem r59_0 {g : GG} (G : GOk g) : g 59 0 = some 60 := G (59, 0, 60) (List.mem_of_getElem? (i := 59) rfl)
theorem r59_1 {g : GG} (G : GOk g) : g 59 1 = some 61 := G (59, 1, 61) (List.mem_of_getElem? (i := 60) rfl)
theorem r60_0 {g : GG} (G : GOk g) : g 60 0 = some 62 := G (60, 0, 62) (List.mem_of_getElem? (i := 61) rfl)
theorem r60_1 {g : GG} (G : GOk g) : g 60 1 = some 63 := G (60, 1, 63) (List.mem_of_getElem? (i := 62) rfl)
theorem r60_2 {g : GG} (G : GOk g) : g 60 2 = some 64 := G (60, 2, 64) (List.mem_of_getElem? (i := 63) rfl)
theorem r60_3 {g : GG} (G : GOk g) : g 60 3 = some 65 := G (60, 3, 65) (List.mem_of_getElem? (i := 64) rfl)
theorem r60_4 {g : GG} (G : GOk g) : g 60 4 = some 66 := G (60, 4, 66) (List.mem_of_getElem? (i := 65) rfl)
theorem r60_5 {g : GG} (G : GOk g) : g 60 5 = some 67 := G (60, 5, 67) (List.mem_of_getElem? (i := 66) rfl)
theorem r68_0 {g : GG} (G : GOk g) : g 68 0 = some 69 := G (68, 0, 69) (List.mem_of_getElem? (i := 67) rfl)
theorem r68_1 {g : GG} (G : GOk g) : g 68 1 = some 70 := G (68, 1, 70) (List.mem_of_getElem? (i := 68) rfl)
theorem r69_0 {g : GG} (G : GOk g) : g 69 0 = some 71 := G (69, 0, 71) (List.mem_of_getElem? (i := 69) rfl)
theorem r69_1 {g : GG} (G : GOk g) : g 69 1 = some 72 := G (69, 1, 72) (List.mem_of_getElem? (i := 70) rfl)
theorem r69_2 {g : GG} (G : GOk g) : g 69 2 = some 73 := G (69, 2, 73) (List.mem_of_getElem? (i := 71) rfl)
theorem r69_3 {g : GG} (G : GOk g) : g 69 3 = some 74 := G (69, 3, 74) (List.mem_of_getElem? (i := 72) rfl)
theorem r69_4 {g : GG} (G : GOk g) : g 69 4 = some 75 := G (69, 4, 75) (List.mem_of_getElem? (i := 73) rfl)
theorem r69_5 {g : GG} (G : GOk g) : g 69 5 = some 76 := G (69, 5, 76) (List.mem_of_getElem? (i := 74) rfl)
theorem r77_0 {g : GG} (G : GOk g) : g 77 0 = some 78 := G (77, 0, 78) (List.mem_of_getElem? (i := 75) rfl)
theorem r77_1 {g : GG} (G : GOk g) : g 77 1 = some 79 := G (77, 1, 79) (List.mem_of_getElem? (i := 76) rfl)
theorem r78_0 {g : GG} (G : GOk g) : g 78 0 = some 80 := G (78, 0, 80) (List.mem_of_getElem? (i := 77) rfl)
theorem r78_1 {g : GG} (G : GOk g) : g 78 1 = some 81 := G (78, 1, 81) (List.mem_of_getElem? (i := 78) rfl)
theorem r78_2 {g : GG} (G : GOk g) : g 78 2 = some 82 := G (78, 2, 82) (List.mem_of_getElem? (i := 79) rfl)
theorem r78_3 {g : GG} (G : GOk g) : g 78 3 = some 83 := G (78, 3, 83) (List.mem_of_getElem? (i := 80) rfl)
theorem r78_4 {g : GG} (G : GOk g) : g 78 4 = some 84 := G (78, 4, 84) (List.mem_of_getElem? (i := 81) rfl)
theorem r78_5 {g : GG} (G : GOk g) : g 78 5 = some 85 := G (78, 5, 85) (List.mem_of_getElem? (i := 82) rfl)
theorem r86_0 {g : GG} (G : GOk g) : g 86 0 = some 87 := G (86, 0, 87) (List.mem_of_getElem? (i := 83) rfl)
theorem r86_1 {g : GG} (G : GOk g) : g 86 1 = some 88 := G (86, 1, 88) (List.mem_of_getElem? (i := 84) rfl)
theorem r87_0 {g : GG} (G : GOk g) : g 87 0 = some 89 := G (87, 0, 89) (List.mem_of_getElem? (i := 85) rfl)
theorem r87_1 {g : GG} (G : GOk g) : g 87 1 = some 90 := G (87, 1, 90) (List.mem_of_getElem? (i := 86) rfl)
theorem r87_2 {g : GG} (G : GOk g) : g 87 2 = some 91 := G (87, 2, 91) (List.mem_of_getElem? (i := 87) rfl)
theorem r87_3 {g : GG} (G : GOk g) : g 87 3 = some 92 := G (87, 3, 92) (List.mem_of_getElem? (i := 88) rfl)
theorem r87_4 {g : GG} (G : GOk g) : g 87 4 = some 93 := G (87, 4, 93) (List.mem_of_getElem? (i := 89) rfl)
theorem r87_5 {g : GG} (G : GOk g) : g 87 5 = some 94 := G (87, 5, 94) (List.mem_of_getElem? (i := 90) rfl)
theorem r95_0 {g : GG} (G : GOk g) : g 95 0 = some 96 := G (95, 0, 96) (List.mem_of_getElem? (i := 91) rfl)
theorem r95_1 {g : GG} (G : GOk g) : g 95 1 = some 97 := G (95, 1, 97) (List.mem_of_getElem? (i := 92) rfl)
theorem r96_0 {g : GG} (G : GOk g) : g 96 0 = some 98 := G (96, 0, 98) (List.mem_of_getElem? (i := 93) rfl)
theorem r96_1 {g : GG} (G : GOk g) : g 96 1 = some 99 := G (96, 1, 99) (List.mem_of_getElem? (i := 94) rfl)
theorem r96_2 {g : GG} (G : GOk g) : g 96 2 = some 100 := G (96, 2, 100) (List.mem_of_getElem? (i := 95) rfl)
theorem r96_3 {g : GG} (G : GOk g) : g 96 3 = some 101 := G (96, 3, 101) (List.mem_of_getElem? (i := 96) rfl)
theorem r96_4 {g : GG} (G : GOk g) : g 96 4 = some 102 := G (96, 4, 102) (List.mem_of_getElem? (i := 97) rfl)
theorem r96_5 {g : GG} (G : GOk g) : g 96 5 = some 103 := G (96, 5, 103) (List.mem_of_getElem? (i := 98) rfl)
theorem r104_0 {g : GG} (G : GOk g) : g 104 0 = some 105 := G (104, 0, 105) (List.mem_of_getElem? (i := 99) rfl)
theorem r104_1 {g : GG} (G : GOk g) : g 104 1 = some 106 := G (104, 1, 106) (List.mem_of_getElem? (i := 100) rfl)
theorem r105_0 {g : GG} (G : GOk g) : g 105 0 = some 107 := G (105, 0, 107) (List.mem_of_getElem? (i := 101) rfl)
theorem r105_1 {g : GG} (G : GOk g) : g 105 1 = some 108 := G (105, 1, 108) (List.mem_of_getElem? (i := 102) rfl)
theorem r105_2 {g : GG} (G : GOk g) : g 105 2 = some 109 := G (105, 2, 109) (List.mem_of_getElem? (i := 103) rfl)
theorem r105_3 {g : GG} (G : GOk g) : g 105 3 = some 110 := G (105, 3, 110) (List.mem_of_getElem? (i := 104) rfl)
theorem r105_4 {g : GG} (G : GOk g) : g 105 4 = some 111 := G (105, 4, 111) (List.mem_of_getElem? (i := 105) rfl)
theorem r105_5 {g : GG} (G : GOk g) : g 105 5 = some 112 := G (105, 5, 112) (List.mem_of_getElem? (i := 106) rfl)
theorem r113_0 {g : GG} (G : GOk g) : g 113 0 = some 114 := G (113, 0, 114) (List.mem_of_getElem? (i := 107) rfl)
theorem r114_0 {g : GG} (G : GOk g) : g 114 0 = some 115 := G (114, 0, 115) (List.mem_of_getElem? (i := 108) rfl)
theorem r114_1 {g : GG} (G : GOk g) : g 114 1 = some 124 := G (114, 1, 124) (List.mem_of_getElem? (i := 109) rfl)
theorem r115_0 {g : GG} (G : GOk g) : g 115 0 = some 116 := G (115, 0, 116) (List.mem_of_getElem? (i := 110) rfl)
theorem r115_1 {g : GG} (G : GOk g) : g 115 1 = some 117 := G (115, 1, 117) (List.mem_of_getElem? (i := 111) rfl)
theorem r116_0 {g : GG} (G : GOk g) : g 116 0 = some 118 := G (116, 0, 118) (List.mem_of_getElem? (i := 112) rfl)
theorem r116_1 {g : GG} (G : GOk g) : g 116 1 = some 119 := G (116, 1, 119) (List.mem_of_getElem? (i := 113) rfl)
theorem r116_2 {g : GG} (G : GOk g) : g 116 2 = some 120 := G (116, 2, 120) (List.mem_of_getElem? (i := 114) rfl)
theorem r116_3 {g : GG} (G : GOk g) : g 116 3 = some 121 := G (116, 3, 121) (List.mem_of_getElem? (i := 115) rfl)
theorem r116_4 {g : GG} (G : GOk g) : g 116 4 = some 122 := G (116, 4, 122) (List.mem_of_getElem? (i := 116) rfl)
theorem r116_5 {g : GG} (G : GOk g) : g 116 5 = some 123 := G (116, 5, 123) (List.mem_of_getElem? (i := 117) rfl)
theorem r124_0 {g : GG} (G : GOk g) : g 124 0 = some 125 := G (124, 0, 125) (List.mem_of_getElem? (i := 118) rfl)
theorem r124_1 {g : GG} (G : GOk g) : g 124 1 = some 126 := G (124, 1, 126) (List.mem_of_getElem? (i := 119) rfl)
theorem r125_0 {g : GG} (G : GOk g) : g 125 0 = some 127 := G (125, 0, 127) (List.mem_of_getElem? (i := 120) rfl)
theorem r125_1 {g : GG} (G : GOk g) : g 125 1 = some 128 := G (125, 1, 128) (List.mem_of_getElem? (i := 121) rfl)
theorem r125_2 {g : GG} (G : GOk g) : g 125 2 = some 129 := G (125, 2, 129) (List.mem_of_getElem? (i := 122) rfl)
theorem r125_3 {g : GG} (G : GOk g) : g 125 3 = some 130 := G (125, 3, 130) (List.mem_of_getElem? (i := 123) rfl)
theorem r125_4 {g : GG} (G : GOk g) : g 125 4 = some 131 := G (125, 4, 131) (List.mem_of_getElem? (i := 124) rfl)
theorem r125_5 {g : GG} (G : GOk g) : g 125 5 = some 132 := G (125, 5, 132) (List.mem_of_getElem? (i := 125) rfl)
theorem r133_0 {g : GG} (G : GOk g) : g 133 0 = some 134 := G (133, 0, 134) (List.mem_of_getElem? (i := 126) rfl)
theorem r133_1 {g : GG} (G : GOk g) : g 133 1 = some 135 := G (133, 1, 135) (List.mem_of_getElem? (i := 127) rfl)
theorem r133_2 {g : GG} (G : GOk g) : g 133 2 = some 136 := G (133, 2, 136) (List.mem_of_getElem? (i := 128) rfl)
theorem r137_1 {g : GG} (G : GOm g) : g 137 1 = some 138 := G (137, 1, 138) (List.mem_of_getElem? (i := 0) rfl)
theorem r137_6 {g : GG} (G : GOm g) : g 137 6 = some 139 := G (137, 6, 139) (List.mem_of_getElem? (i := 1) rfl)
theorem r137_7 {g : GG} (G : GOm g) : g 137 7 = some 140 := G (137, 7, 140) (List.mem_of_getElem? (i := 2) rfl)
theorem r137_8 {g : GG} (G : GOm g) : g 137 8 = some 141 := G (137, 8, 141) (List.mem_of_getElem? (i := 3) rfl)
theorem r137_9 {g : GG} (G : GOm g) : g 137 9 = some 142 := G (137, 9, 142) (List.mem_of_getElem? (i := 4) rfl)
theorem r137_10 {g : GG} (G : GOm g) : g 137 10 = some 143 := G (137, 10, 143) (List.mem_of_getElem? (i := 5) rfl)
theorem r137_11 {g : GG} (G : GOm g) : g 137 11 = some 144 := G (137, 11, 144) (List.mem_of_getElem? (i := 6) rfl)
theorem r137_13 {g : GG} (G : GOm g) : g 137 13 = some 145 := G (137, 13, 145) (List.mem_of_getElem? (i := 7) rfl)
theorem r137_14 {g : GG} (G : GOm g) : g 137 14 = some 146 := G (137, 14, 146) (List.mem_of_getElem? (i := 8) rfl)
theorem r137_15 {g : GG} (G : GOm g) : g 137 15 = some 147 := G (137, 15, 147) (List.mem_of_getElem? (i := 9) rfl)
theorem r137_16 {g : GG} (G : GOm g) : g 137 16 = some 148 := G (137, 16, 148) (List.mem_of_getElem? (i := 10) rfl)
theorem r137_17 {g : GG} (G : GOm g) : g 137 17 = some 149 := G (137, 17, 149) (List.mem_of_getElem? (i := 11) rfl)
theorem r137_20 {g : GG} (G : GOm g) : g 137 20 = some 150 := G (137, 20, 150) (List.mem_of_getElem? (i := 12) rfl)
theorem r137_22 {g : GG} (G : GOm g) : g 137 22 = some 151 := G (137, 22, 151) (List.mem_of_getElem? (i := 13) rfl)
theorem r137_24 {g : GG} (G : GOm g) : g 137 24 = some 152 := G (137, 24, 152) (List.mem_of_getElem? (i := 14) rfl)
set_option maxHeartbeats 1000000 in
theorem sp_isBetween {S : Scr} {d : Nat} {f : FF} {g : GG} {n : Nat} (x lo hi : Int32) : Wp S d 22 0 [some (.int x), some (.int lo), some (.int hi)] [] n f g (Is (some (.int (bI (decide (lo ≤ x ∧ x ≤ hi))))) n f g) := by
  refine w_iload_n k22_0 rfl ?_
  refine w_iload_n k22_1 rfl ?_
  refine w_icmp_lt k22_2 (fun h2 => ?_) (fun h2 => ?_)
  ·
    refine w_iconst k22_14 ?_
    refine w_iret k22_15 mt22 (.boolean) rfl (rfl) ?_
    refine ⟨?_, rfl, rfl, rfl⟩
    simp [bI, ← Int32.not_lt, *]
  ·
    refine w_iload_n k22_5 rfl ?_
    refine w_iload_n k22_6 rfl ?_
    refine w_icmp_gt k22_7 (fun h7 => ?_) (fun h7 => ?_)
    ·
      refine w_iconst k22_14 ?_
      refine w_iret k22_15 mt22 (.boolean) rfl (rfl) ?_
      refine ⟨?_, rfl, rfl, rfl⟩
      simp [bI, ← Int32.not_lt, *]
    ·
      refine w_iconst k22_10 ?_
      refine w_goto k22_11 ?_
      refine w_iret k22_15 mt22 (.boolean) rfl (rfl) ?_
      refine ⟨?_, rfl, rfl, rfl⟩
      simp [bI, ← Int32.not_lt, *]
set_option maxHeartbeats 1000000 in
theorem sp_isIn {S : Scr} {d : Nat} {f : FF} {g : GG} {n : Nat} {B c : Nat} (hB : B < 2 ^ 31) (hc : c < 32) : Wp S d 34 0 [some (.int (nI B)), some (.int (nI c))] [] n f g (Is (some (.int (bI (B.testBit c)))) n f g) := by
  refine w_iload_n k34_0 rfl ?_
  refine w_iload_n k34_1 rfl ?_
  refine w_ishr k34_2 ?_
  rw [shr_n hB hc]
  refine w_iconst k34_3 ?_
  refine w_iand k34_4 ?_
  rw [and_n (k := 1) (Nat.lt_of_le_of_lt (Nat.div_le_self _ _) (by omega)) 1 (by decide)]
  refine w_iconst k34_5 ?_
  refine w_icmp_ne k34_6 (fun h6 => ?_) (fun h6 => ?_)
  ·
    refine w_iconst k34_13 ?_
    refine w_iret k34_14 mt34 (.boolean) rfl (rfl) ?_
    refine ⟨?_, rfl, rfl, rfl⟩
    have e : (nI (B / 2 ^ c % 2 ^ 1) = 1) ↔ B.testBit c = true := by
      rw [show (1 : Int32) = nI 1 from rfl, nI_eq (by omega) (by omega), Nat.testBit_eq_decide_div_mod_eq]
      simp
    simp [bI, ← e, *]
  ·
    refine w_iconst k34_9 ?_
    refine w_goto k34_10 ?_
    refine w_iret k34_14 mt34 (.boolean) rfl (rfl) ?_
    refine ⟨?_, rfl, rfl, rfl⟩
    have e : (nI (B / 2 ^ c % 2 ^ 1) = 1) ↔ B.testBit c = true := by
      rw [show (1 : Int32) = nI 1 from rfl, nI_eq (by omega) (by omega), Nat.testBit_eq_decide_div_mod_eq]
      simp
    simp [bI, ← e, *]
