/-! SPECS, 6: arrays, the valley -/
theorem kc0 {n : Nat} (hn : 137 ≤ n) : kd KKl n 0 = some (7, 8) := by unfold kd; rw [if_pos (by omega)]; rfl
theorem kc1 {n : Nat} (hn : 137 ≤ n) : kd KKl n 1 = some (4, 4) := by unfold kd; rw [if_pos (by omega)]; rfl
theorem kc2 {n : Nat} (hn : 137 ≤ n) : kd KKl n 2 = some (0, 2) := by unfold kd; rw [if_pos (by omega)]; rfl
theorem kc3 {n : Nat} (hn : 137 ≤ n) : kd KKl n 3 = some (20, 200) := by unfold kd; rw [if_pos (by omega)]; rfl
theorem kc4 {n : Nat} (hn : 137 ≤ n) : kd KKl n 4 = some (6, 4) := by unfold kd; rw [if_pos (by omega)]; rfl
theorem kc5 {n : Nat} (hn : 137 ≤ n) : kd KKl n 5 = some (20, 9) := by unfold kd; rw [if_pos (by omega)]; rfl
theorem kc6 {n : Nat} (hn : 137 ≤ n) : kd KKl n 6 = some (20, 9) := by unfold kd; rw [if_pos (by omega)]; rfl
theorem kc7 {n : Nat} (hn : 137 ≤ n) : kd KKl n 7 = some (20, 9) := by unfold kd; rw [if_pos (by omega)]; rfl
theorem kc8 {n : Nat} (hn : 137 ≤ n) : kd KKl n 8 = some (2, 5) := by unfold kd; rw [if_pos (by omega)]; rfl
theorem kc9 {n : Nat} (hn : 137 ≤ n) : kd KKl n 9 = some (21, 6) := by unfold kd; rw [if_pos (by omega)]; rfl
theorem kc10 {n : Nat} (hn : 137 ≤ n) : kd KKl n 10 = some (1, 6) := by unfold kd; rw [if_pos (by omega)]; rfl
theorem kc11 {n : Nat} (hn : 137 ≤ n) : kd KKl n 11 = some (1, 6) := by unfold kd; rw [if_pos (by omega)]; rfl
theorem kc12 {n : Nat} (hn : 137 ≤ n) : kd KKl n 12 = some (1, 6) := by unfold kd; rw [if_pos (by omega)]; rfl
theorem kc13 {n : Nat} (hn : 137 ≤ n) : kd KKl n 13 = some (1, 6) := by unfold kd; rw [if_pos (by omega)]; rfl
theorem kc14 {n : Nat} (hn : 137 ≤ n) : kd KKl n 14 = some (1, 6) := by unfold kd; rw [if_pos (by omega)]; rfl
theorem kc15 {n : Nat} (hn : 137 ≤ n) : kd KKl n 15 = some (1, 6) := by unfold kd; rw [if_pos (by omega)]; rfl
theorem kc16 {n : Nat} (hn : 137 ≤ n) : kd KKl n 16 = some (1, 6) := by unfold kd; rw [if_pos (by omega)]; rfl
theorem kc17 {n : Nat} (hn : 137 ≤ n) : kd KKl n 17 = some (6, 4) := by unfold kd; rw [if_pos (by omega)]; rfl
theorem kc18 {n : Nat} (hn : 137 ≤ n) : kd KKl n 18 = some (20, 9) := by unfold kd; rw [if_pos (by omega)]; rfl
theorem kc19 {n : Nat} (hn : 137 ≤ n) : kd KKl n 19 = some (20, 9) := by unfold kd; rw [if_pos (by omega)]; rfl
theorem kc20 {n : Nat} (hn : 137 ≤ n) : kd KKl n 20 = some (20, 9) := by unfold kd; rw [if_pos (by omega)]; rfl
theorem kc21 {n : Nat} (hn : 137 ≤ n) : kd KKl n 21 = some (2, 5) := by unfold kd; rw [if_pos (by omega)]; rfl
theorem kc22 {n : Nat} (hn : 137 ≤ n) : kd KKl n 22 = some (21, 6) := by unfold kd; rw [if_pos (by omega)]; rfl
theorem kc23 {n : Nat} (hn : 137 ≤ n) : kd KKl n 23 = some (1, 6) := by unfold kd; rw [if_pos (by omega)]; rfl
theorem kc24 {n : Nat} (hn : 137 ≤ n) : kd KKl n 24 = some (1, 6) := by unfold kd; rw [if_pos (by omega)]; rfl
theorem kc25 {n : Nat} (hn : 137 ≤ n) : kd KKl n 25 = some (1, 6) := by unfold kd; rw [if_pos (by omega)]; rfl
theorem kc26 {n : Nat} (hn : 137 ≤ n) : kd KKl n 26 = some (1, 6) := by unfold kd; rw [if_pos (by omega)]; rfl
theorem kc27 {n : Nat} (hn : 137 ≤ n) : kd KKl n 27 = some (1, 6) := by unfold kd; rw [if_pos (by omega)]; rfl
theorem kc28 {n : Nat} (hn : 137 ≤ n) : kd KKl n 28 = some (1, 6) := by unfold kd; rw [if_pos (by omega)]; rfl
theorem kc29 {n : Nat} (hn : 137 ≤ n) : kd KKl n 29 = some (1, 6) := by unfold kd; rw [if_pos (by omega)]; rfl
theorem kc30 {n : Nat} (hn : 137 ≤ n) : kd KKl n 30 = some (2, 5) := by unfold kd; rw [if_pos (by omega)]; rfl
theorem kc31 {n : Nat} (hn : 137 ≤ n) : kd KKl n 31 = some (21, 6) := by unfold kd; rw [if_pos (by omega)]; rfl
theorem kc32 {n : Nat} (hn : 137 ≤ n) : kd KKl n 32 = some (1, 6) := by unfold kd; rw [if_pos (by omega)]; rfl
theorem kc33 {n : Nat} (hn : 137 ≤ n) : kd KKl n 33 = some (1, 6) := by unfold kd; rw [if_pos (by omega)]; rfl
theorem kc34 {n : Nat} (hn : 137 ≤ n) : kd KKl n 34 = some (1, 6) := by unfold kd; rw [if_pos (by omega)]; rfl
theorem kc35 {n : Nat} (hn : 137 ≤ n) : kd KKl n 35 = some (1, 6) := by unfold kd; rw [if_pos (by omega)]; rfl
theorem kc36 {n : Nat} (hn : 137 ≤ n) : kd KKl n 36 = some (1, 6) := by unfold kd; rw [if_pos (by omega)]; rfl
theorem kc37 {n : Nat} (hn : 137 ≤ n) : kd KKl n 37 = some (1, 6) := by unfold kd; rw [if_pos (by omega)]; rfl
theorem kc38 {n : Nat} (hn : 137 ≤ n) : kd KKl n 38 = some (1, 6) := by unfold kd; rw [if_pos (by omega)]; rfl
theorem kc39 {n : Nat} (hn : 137 ≤ n) : kd KKl n 39 = some (3, 2) := by unfold kd; rw [if_pos (by omega)]; rfl
theorem kc40 {n : Nat} (hn : 137 ≤ n) : kd KKl n 40 = some (22, 8) := by unfold kd; rw [if_pos (by omega)]; rfl
theorem kc41 {n : Nat} (hn : 137 ≤ n) : kd KKl n 41 = some (2, 5) := by unfold kd; rw [if_pos (by omega)]; rfl
theorem kc42 {n : Nat} (hn : 137 ≤ n) : kd KKl n 42 = some (21, 6) := by unfold kd; rw [if_pos (by omega)]; rfl
theorem kc43 {n : Nat} (hn : 137 ≤ n) : kd KKl n 43 = some (1, 6) := by unfold kd; rw [if_pos (by omega)]; rfl
theorem kc44 {n : Nat} (hn : 137 ≤ n) : kd KKl n 44 = some (1, 6) := by unfold kd; rw [if_pos (by omega)]; rfl
theorem kc45 {n : Nat} (hn : 137 ≤ n) : kd KKl n 45 = some (1, 6) := by unfold kd; rw [if_pos (by omega)]; rfl
theorem kc46 {n : Nat} (hn : 137 ≤ n) : kd KKl n 46 = some (1, 6) := by unfold kd; rw [if_pos (by omega)]; rfl
theorem kc47 {n : Nat} (hn : 137 ≤ n) : kd KKl n 47 = some (1, 6) := by unfold kd; rw [if_pos (by omega)]; rfl
theorem kc48 {n : Nat} (hn : 137 ≤ n) : kd KKl n 48 = some (1, 6) := by unfold kd; rw [if_pos (by omega)]; rfl
theorem kc49 {n : Nat} (hn : 137 ≤ n) : kd KKl n 49 = some (1, 6) := by unfold kd; rw [if_pos (by omega)]; rfl
theorem kc50 {n : Nat} (hn : 137 ≤ n) : kd KKl n 50 = some (2, 5) := by unfold kd; rw [if_pos (by omega)]; rfl
theorem kc51 {n : Nat} (hn : 137 ≤ n) : kd KKl n 51 = some (21, 6) := by unfold kd; rw [if_pos (by omega)]; rfl
theorem kc52 {n : Nat} (hn : 137 ≤ n) : kd KKl n 52 = some (1, 6) := by unfold kd; rw [if_pos (by omega)]; rfl
theorem kc53 {n : Nat} (hn : 137 ≤ n) : kd KKl n 53 = some (1, 6) := by unfold kd; rw [if_pos (by omega)]; rfl
theorem kc54 {n : Nat} (hn : 137 ≤ n) : kd KKl n 54 = some (1, 6) := by unfold kd; rw [if_pos (by omega)]; rfl
theorem kc55 {n : Nat} (hn : 137 ≤ n) : kd KKl n 55 = some (1, 6) := by unfold kd; rw [if_pos (by omega)]; rfl
theorem kc56 {n : Nat} (hn : 137 ≤ n) : kd KKl n 56 = some (1, 6) := by unfold kd; rw [if_pos (by omega)]; rfl
theorem kc57 {n : Nat} (hn : 137 ≤ n) : kd KKl n 57 = some (1, 6) := by unfold kd; rw [if_pos (by omega)]; rfl
theorem kc58 {n : Nat} (hn : 137 ≤ n) : kd KKl n 58 = some (1, 6) := by unfold kd; rw [if_pos (by omega)]; rfl
theorem kc59 {n : Nat} (hn : 137 ≤ n) : kd KKl n 59 = some (2, 5) := by unfold kd; rw [if_pos (by omega)]; rfl
theorem kc60 {n : Nat} (hn : 137 ≤ n) : kd KKl n 60 = some (21, 6) := by unfold kd; rw [if_pos (by omega)]; rfl
theorem kc61 {n : Nat} (hn : 137 ≤ n) : kd KKl n 61 = some (1, 6) := by unfold kd; rw [if_pos (by omega)]; rfl
theorem kc62 {n : Nat} (hn : 137 ≤ n) : kd KKl n 62 = some (1, 6) := by unfold kd; rw [if_pos (by omega)]; rfl
theorem kc63 {n : Nat} (hn : 137 ≤ n) : kd KKl n 63 = some (1, 6) := by unfold kd; rw [if_pos (by omega)]; rfl
theorem kc64 {n : Nat} (hn : 137 ≤ n) : kd KKl n 64 = some (1, 6) := by unfold kd; rw [if_pos (by omega)]; rfl
theorem kc65 {n : Nat} (hn : 137 ≤ n) : kd KKl n 65 = some (1, 6) := by unfold kd; rw [if_pos (by omega)]; rfl
theorem kc66 {n : Nat} (hn : 137 ≤ n) : kd KKl n 66 = some (1, 6) := by unfold kd; rw [if_pos (by omega)]; rfl
theorem kc67 {n : Nat} (hn : 137 ≤ n) : kd KKl n 67 = some (1, 6) := by unfold kd; rw [if_pos (by omega)]; rfl
theorem kc68 {n : Nat} (hn : 137 ≤ n) : kd KKl n 68 = some (2, 5) := by unfold kd; rw [if_pos (by omega)]; rfl
theorem kc69 {n : Nat} (hn : 137 ≤ n) : kd KKl n 69 = some (21, 6) := by unfold kd; rw [if_pos (by omega)]; rfl
theorem kc70 {n : Nat} (hn : 137 ≤ n) : kd KKl n 70 = some (1, 6) := by unfold kd; rw [if_pos (by omega)]; rfl
theorem kc71 {n : Nat} (hn : 137 ≤ n) : kd KKl n 71 = some (1, 6) := by unfold kd; rw [if_pos (by omega)]; rfl
theorem kc72 {n : Nat} (hn : 137 ≤ n) : kd KKl n 72 = some (1, 6) := by unfold kd; rw [if_pos (by omega)]; rfl
theorem kc73 {n : Nat} (hn : 137 ≤ n) : kd KKl n 73 = some (1, 6) := by unfold kd; rw [if_pos (by omega)]; rfl
theorem kc74 {n : Nat} (hn : 137 ≤ n) : kd KKl n 74 = some (1, 6) := by unfold kd; rw [if_pos (by omega)]; rfl
theorem kc75 {n : Nat} (hn : 137 ≤ n) : kd KKl n 75 = some (1, 6) := by unfold kd; rw [if_pos (by omega)]; rfl
theorem kc76 {n : Nat} (hn : 137 ≤ n) : kd KKl n 76 = some (1, 6) := by unfold kd; rw [if_pos (by omega)]; rfl
theorem kc77 {n : Nat} (hn : 137 ≤ n) : kd KKl n 77 = some (2, 5) := by unfold kd; rw [if_pos (by omega)]; rfl
theorem kc78 {n : Nat} (hn : 137 ≤ n) : kd KKl n 78 = some (21, 6) := by unfold kd; rw [if_pos (by omega)]; rfl
theorem kc79 {n : Nat} (hn : 137 ≤ n) : kd KKl n 79 = some (1, 6) := by unfold kd; rw [if_pos (by omega)]; rfl
theorem kc80 {n : Nat} (hn : 137 ≤ n) : kd KKl n 80 = some (1, 6) := by unfold kd; rw [if_pos (by omega)]; rfl
theorem kc81 {n : Nat} (hn : 137 ≤ n) : kd KKl n 81 = some (1, 6) := by unfold kd; rw [if_pos (by omega)]; rfl
theorem kc82 {n : Nat} (hn : 137 ≤ n) : kd KKl n 82 = some (1, 6) := by unfold kd; rw [if_pos (by omega)]; rfl
theorem kc83 {n : Nat} (hn : 137 ≤ n) : kd KKl n 83 = some (1, 6) := by unfold kd; rw [if_pos (by omega)]; rfl
theorem kc84 {n : Nat} (hn : 137 ≤ n) : kd KKl n 84 = some (1, 6) := by unfold kd; rw [if_pos (by omega)]; rfl
theorem kc85 {n : Nat} (hn : 137 ≤ n) : kd KKl n 85 = some (1, 6) := by unfold kd; rw [if_pos (by omega)]; rfl
theorem kc86 {n : Nat} (hn : 137 ≤ n) : kd KKl n 86 = some (2, 5) := by unfold kd; rw [if_pos (by omega)]; rfl
theorem kc87 {n : Nat} (hn : 137 ≤ n) : kd KKl n 87 = some (21, 6) := by unfold kd; rw [if_pos (by omega)]; rfl
theorem kc88 {n : Nat} (hn : 137 ≤ n) : kd KKl n 88 = some (1, 6) := by unfold kd; rw [if_pos (by omega)]; rfl
theorem kc89 {n : Nat} (hn : 137 ≤ n) : kd KKl n 89 = some (1, 6) := by unfold kd; rw [if_pos (by omega)]; rfl
theorem kc90 {n : Nat} (hn : 137 ≤ n) : kd KKl n 90 = some (1, 6) := by unfold kd; rw [if_pos (by omega)]; rfl
theorem kc91 {n : Nat} (hn : 137 ≤ n) : kd KKl n 91 = some (1, 6) := by unfold kd; rw [if_pos (by omega)]; rfl
theorem kc92 {n : Nat} (hn : 137 ≤ n) : kd KKl n 92 = some (1, 6) := by unfold kd; rw [if_pos (by omega)]; rfl
theorem kc93 {n : Nat} (hn : 137 ≤ n) : kd KKl n 93 = some (1, 6) := by unfold kd; rw [if_pos (by omega)]; rfl
theorem kc94 {n : Nat} (hn : 137 ≤ n) : kd KKl n 94 = some (1, 6) := by unfold kd; rw [if_pos (by omega)]; rfl
theorem kc95 {n : Nat} (hn : 137 ≤ n) : kd KKl n 95 = some (2, 5) := by unfold kd; rw [if_pos (by omega)]; rfl
theorem kc96 {n : Nat} (hn : 137 ≤ n) : kd KKl n 96 = some (21, 6) := by unfold kd; rw [if_pos (by omega)]; rfl
theorem kc97 {n : Nat} (hn : 137 ≤ n) : kd KKl n 97 = some (1, 6) := by unfold kd; rw [if_pos (by omega)]; rfl
theorem kc98 {n : Nat} (hn : 137 ≤ n) : kd KKl n 98 = some (1, 6) := by unfold kd; rw [if_pos (by omega)]; rfl
theorem kc99 {n : Nat} (hn : 137 ≤ n) : kd KKl n 99 = some (1, 6) := by unfold kd; rw [if_pos (by omega)]; rfl
theorem kc100 {n : Nat} (hn : 137 ≤ n) : kd KKl n 100 = some (1, 6) := by unfold kd; rw [if_pos (by omega)]; rfl
theorem kc101 {n : Nat} (hn : 137 ≤ n) : kd KKl n 101 = some (1, 6) := by unfold kd; rw [if_pos (by omega)]; rfl
theorem kc102 {n : Nat} (hn : 137 ≤ n) : kd KKl n 102 = some (1, 6) := by unfold kd; rw [if_pos (by omega)]; rfl
theorem kc103 {n : Nat} (hn : 137 ≤ n) : kd KKl n 103 = some (1, 6) := by unfold kd; rw [if_pos (by omega)]; rfl
theorem kc104 {n : Nat} (hn : 137 ≤ n) : kd KKl n 104 = some (2, 5) := by unfold kd; rw [if_pos (by omega)]; rfl
theorem kc105 {n : Nat} (hn : 137 ≤ n) : kd KKl n 105 = some (21, 6) := by unfold kd; rw [if_pos (by omega)]; rfl
theorem kc106 {n : Nat} (hn : 137 ≤ n) : kd KKl n 106 = some (1, 6) := by unfold kd; rw [if_pos (by omega)]; rfl
theorem kc107 {n : Nat} (hn : 137 ≤ n) : kd KKl n 107 = some (1, 6) := by unfold kd; rw [if_pos (by omega)]; rfl
theorem kc108 {n : Nat} (hn : 137 ≤ n) : kd KKl n 108 = some (1, 6) := by unfold kd; rw [if_pos (by omega)]; rfl
theorem kc109 {n : Nat} (hn : 137 ≤ n) : kd KKl n 109 = some (1, 6) := by unfold kd; rw [if_pos (by omega)]; rfl
theorem kc110 {n : Nat} (hn : 137 ≤ n) : kd KKl n 110 = some (1, 6) := by unfold kd; rw [if_pos (by omega)]; rfl
theorem kc111 {n : Nat} (hn : 137 ≤ n) : kd KKl n 111 = some (1, 6) := by unfold kd; rw [if_pos (by omega)]; rfl
theorem kc112 {n : Nat} (hn : 137 ≤ n) : kd KKl n 112 = some (1, 6) := by unfold kd; rw [if_pos (by omega)]; rfl
theorem kc113 {n : Nat} (hn : 137 ≤ n) : kd KKl n 113 = some (3, 2) := by unfold kd; rw [if_pos (by omega)]; rfl
theorem kc114 {n : Nat} (hn : 137 ≤ n) : kd KKl n 114 = some (22, 2) := by unfold kd; rw [if_pos (by omega)]; rfl
theorem kc115 {n : Nat} (hn : 137 ≤ n) : kd KKl n 115 = some (2, 5) := by unfold kd; rw [if_pos (by omega)]; rfl
theorem kc116 {n : Nat} (hn : 137 ≤ n) : kd KKl n 116 = some (21, 6) := by unfold kd; rw [if_pos (by omega)]; rfl
theorem kc117 {n : Nat} (hn : 137 ≤ n) : kd KKl n 117 = some (1, 6) := by unfold kd; rw [if_pos (by omega)]; rfl
theorem kc118 {n : Nat} (hn : 137 ≤ n) : kd KKl n 118 = some (1, 6) := by unfold kd; rw [if_pos (by omega)]; rfl
theorem kc119 {n : Nat} (hn : 137 ≤ n) : kd KKl n 119 = some (1, 6) := by unfold kd; rw [if_pos (by omega)]; rfl
theorem kc120 {n : Nat} (hn : 137 ≤ n) : kd KKl n 120 = some (1, 6) := by unfold kd; rw [if_pos (by omega)]; rfl
theorem kc121 {n : Nat} (hn : 137 ≤ n) : kd KKl n 121 = some (1, 6) := by unfold kd; rw [if_pos (by omega)]; rfl
theorem kc122 {n : Nat} (hn : 137 ≤ n) : kd KKl n 122 = some (1, 6) := by unfold kd; rw [if_pos (by omega)]; rfl
theorem kc123 {n : Nat} (hn : 137 ≤ n) : kd KKl n 123 = some (1, 6) := by unfold kd; rw [if_pos (by omega)]; rfl
theorem kc124 {n : Nat} (hn : 137 ≤ n) : kd KKl n 124 = some (2, 5) := by unfold kd; rw [if_pos (by omega)]; rfl
theorem kc125 {n : Nat} (hn : 137 ≤ n) : kd KKl n 125 = some (21, 6) := by unfold kd; rw [if_pos (by omega)]; rfl
theorem kc126 {n : Nat} (hn : 137 ≤ n) : kd KKl n 126 = some (1, 6) := by unfold kd; rw [if_pos (by omega)]; rfl
theorem kc127 {n : Nat} (hn : 137 ≤ n) : kd KKl n 127 = some (1, 6) := by unfold kd; rw [if_pos (by omega)]; rfl
theorem kc128 {n : Nat} (hn : 137 ≤ n) : kd KKl n 128 = some (1, 6) := by unfold kd; rw [if_pos (by omega)]; rfl
theorem kc129 {n : Nat} (hn : 137 ≤ n) : kd KKl n 129 = some (1, 6) := by unfold kd; rw [if_pos (by omega)]; rfl
theorem kc130 {n : Nat} (hn : 137 ≤ n) : kd KKl n 130 = some (1, 6) := by unfold kd; rw [if_pos (by omega)]; rfl
theorem kc131 {n : Nat} (hn : 137 ≤ n) : kd KKl n 131 = some (1, 6) := by unfold kd; rw [if_pos (by omega)]; rfl
theorem kc132 {n : Nat} (hn : 137 ≤ n) : kd KKl n 132 = some (1, 6) := by unfold kd; rw [if_pos (by omega)]; rfl
theorem kc133 {n : Nat} (hn : 137 ≤ n) : kd KKl n 133 = some (5, 4) := by unfold kd; rw [if_pos (by omega)]; rfl
theorem kc134 {n : Nat} (hn : 137 ≤ n) : kd KKl n 134 = some (20, 6) := by unfold kd; rw [if_pos (by omega)]; rfl
theorem kc135 {n : Nat} (hn : 137 ≤ n) : kd KKl n 135 = some (20, 6) := by unfold kd; rw [if_pos (by omega)]; rfl
theorem kc136 {n : Nat} (hn : 137 ≤ n) : kd KKl n 136 = some (20, 6) := by unfold kd; rw [if_pos (by omega)]; rfl
theorem nI_or (a b : Nat) : nI a ||| nI b = nI (a ||| b) := by
  apply Int32.toBitVec_inj.mp
  show BitVec.ofNat 32 a ||| BitVec.ofNat 32 b = BitVec.ofNat 32 (a ||| b)
  rw [BitVec.ofNat_or]
theorem nI_xor (a b : Nat) : nI a ^^^ nI b = nI (a ^^^ b) := by
  apply Int32.toBitVec_inj.mp
  show BitVec.ofNat 32 a ^^^ BitVec.ofNat 32 b = BitVec.ofNat 32 (a ^^^ b)
  rw [BitVec.ofNat_xor]
theorem or_lt {a b k : Nat} (ha : a < 2 ^ k) (hb : b < 2 ^ k) : a ||| b < 2 ^ k := Nat.or_lt_two_pow ha hb
abbrev Va : Type := Nat × (Nat → Nat) × (Nat → Nat) × (Nat → Nat)
def VWf (V : Va) : Prop := V.1 ≤ 9 ∧ ∀ c, c < V.1 → V.2.1 c ≤ 4 ∧ 1 ≤ V.2.2.1 c ∧ V.2.2.1 c ≤ 20 ∧ V.2.2.2 c ≤ c
def VaOk (n : Nat) (g : GG) (v : Nat) : Prop := kd KKl n v = some (6, 4) ∧ kd KKl n (v + 1) = some (20, 9) ∧ kd KKl n (v + 2) = some (20, 9) ∧ kd KKl n (v + 3) = some (20, 9) ∧ g v 0 = some (v + 1) ∧ g v 1 = some (v + 2) ∧ g v 2 = some (v + 3)
/-- the class's valley at v -/
def CVa (f : FF) (v : Nat) (V : Va) : Prop := f v 3 = nI V.1 ∧ ∀ c, c < V.1 → f (v + 1) c = nI (V.2.1 c) ∧ f (v + 2) c = nI (V.2.2.1 c) ∧ f (v + 3) c = nI (V.2.2.2 c)
def cmW (V : Va) (K : Nat → Nat) : Nat → Nat → Nat → Nat
  | 0, _, r => r
  | t + 1, c, r => if V.2.2.2 c = c then kn (K c) r else cmW V K t (V.2.2.2 c) (kn (K c) r)
def wyW (V : Va) : Nat → Nat → Nat → Nat
  | 0, _, b => b
  | t + 1, c, b => if V.2.2.2 c = c then b ||| 2 ^ c else wyW V t (V.2.2.2 c) (b ||| 2 ^ c)
theorem VWf.on {V : Va} (h : VWf V) {c : Nat} (hc : c < V.1) : V.2.2.2 c < V.1 := Nat.lt_of_le_of_lt (h.2 c hc).2.2.2 hc
set_option maxHeartbeats 1000000 in
theorem sp_at {S : Scr} {d : Nat} {f : FF} {g : GG} {n a sz j : Nat} (hk : kd KKl n a = some (20, sz)) (hj : j < sz) (hs : sz ≤ 1000) : Wp S d 40 0 [some (.ref a), some (.int (nI j))] [] n f g (Is (some (.int (f a j))) n f g) := by
  refine w_iload_n k40_0 rfl ?_
  refine w_if_lt k40_1 (fun h1 => absurd h1 (nI_pos (by omega))) (fun h1 => ?_)
  refine w_iload_n k40_4 rfl ?_
  refine w_aload_n k40_5 rfl rfl ?_
  refine w_alen k40_6 hk (by decide) (rfl) ?_
  refine w_top (nI sz) (rfl) ?_
  refine w_icmp_ge k40_7 (fun h7 => absurd h7 (nI_ge (by omega) (by omega))) (fun h7 => ?_)
  refine w_aload_n k40_10 rfl rfl ?_
  refine w_iload_n k40_11 rfl ?_
  refine w_iald k40_12 hk (nI_pos (by omega)) (nI_clamp (by omega)) (by omega) ?_
  refine w_goto k40_13 ?_
  refine w_iret k40_17 mt40 (.int) rfl (rfl) ?_
  exact ⟨rfl, rfl, rfl, rfl⟩
set_option maxHeartbeats 1000000 in
theorem sp_set {S : Scr} {d : Nat} {f : FF} {g : GG} {n a sz j : Nat} {w : Int32} (hk : kd KKl n a = some (20, sz)) (hj : j < sz) (hs : sz ≤ 1000) : Wp S d 15 0 [some (.ref a), some (.int (nI j)), some (.int w)] [] n f g (Is none n (fup f a j w) g) := by
  refine w_iload_n k15_0 rfl ?_
  refine w_if_lt k15_1 (fun h1 => absurd h1 (nI_pos (by omega))) (fun h1 => ?_)
  refine w_iload_n k15_4 rfl ?_
  refine w_aload_n k15_5 rfl rfl ?_
  refine w_alen k15_6 hk (by decide) (rfl) ?_
  refine w_top (nI sz) (rfl) ?_
  refine w_icmp_ge k15_7 (fun h7 => absurd h7 (nI_ge (by omega) (by omega))) (fun h7 => ?_)
  refine w_aload_n k15_10 rfl rfl ?_
  refine w_iload_n k15_11 rfl ?_
  refine w_iload_n k15_12 rfl ?_
  refine w_iast k15_13 hk (nI_pos (by omega)) (nI_clamp (by omega)) (by omega) ?_
  refine w_vret k15_14 mt15 rfl ?_
  exact ⟨rfl, rfl, rfl, rfl⟩
set_option maxHeartbeats 1000000 in
theorem sp_Vsize {S : Scr} {d : Nat} {f : FF} {g : GG} {n v : Nat} {V : Va} (hv : VaOk n g v) (hC : CVa f v V)  : Wp S d 72 0 [some (.ref v)] [] n f g (Is (some (.int (nI V.1))) n f g) := by
  refine w_aload_n k72_0 rfl rfl ?_
  refine w_geti k72_1 (k := 3) hv.1 (by decide) ?_
  rw [hC.1]
  refine w_iret k72_4 mt72 (.int) rfl (rfl) ?_
  exact ⟨rfl, rfl, rfl, rfl⟩
set_option maxHeartbeats 1000000 in
theorem sp_Vhas {S : Scr} {d : Nat} {f : FF} {g : GG} {n v : Nat} {V : Va} (hv : VaOk n g v) (hC : CVa f v V) (h9 : V.1 ≤ 9) (x : Int32) : Wp S d 29 0 [some (.ref v), some (.int x)] [] n f g (Is (some (.int (bI (decide (0 ≤ x ∧ x < nI V.1))))) n f g) := by
  refine w_iload_n k29_0 rfl ?_
  refine w_if_lt k29_1 (fun h1 => ?_) (fun h1 => ?_)
  ·
    refine w_iconst k29_16 ?_
    refine w_iret k29_17 mt29 (.boolean) rfl (rfl) ?_
    first
      | (rw [decide_eq_true ⟨Int32.not_lt.mp h1, Int32.not_le.mp h9⟩]; exact ⟨rfl, rfl, rfl, rfl⟩)
      | (rw [decide_eq_false (fun hh => absurd hh.2 (Int32.not_lt.mpr h9))]; exact ⟨rfl, rfl, rfl, rfl⟩)
      | (rw [decide_eq_false (fun hh => absurd hh.1 (Int32.not_le.mpr h1))]; exact ⟨rfl, rfl, rfl, rfl⟩)
  ·
    refine w_iload_n k29_4 rfl ?_
    refine w_aload_n k29_5 rfl rfl ?_
    refine w_geti k29_6 (k := 3) hv.1 (by decide) ?_
    rw [hC.1]
    refine w_icmp_ge k29_9 (fun h9 => ?_) (fun h9 => ?_)
    ·
      refine w_iconst k29_16 ?_
      refine w_iret k29_17 mt29 (.boolean) rfl (rfl) ?_
      first
        | (rw [decide_eq_true ⟨Int32.not_lt.mp h1, Int32.not_le.mp h9⟩]; exact ⟨rfl, rfl, rfl, rfl⟩)
        | (rw [decide_eq_false (fun hh => absurd hh.2 (Int32.not_lt.mpr h9))]; exact ⟨rfl, rfl, rfl, rfl⟩)
        | (rw [decide_eq_false (fun hh => absurd hh.1 (Int32.not_le.mpr h1))]; exact ⟨rfl, rfl, rfl, rfl⟩)
    ·
      refine w_iconst k29_12 ?_
      refine w_goto k29_13 ?_
      refine w_iret k29_17 mt29 (.boolean) rfl (rfl) ?_
      first
        | (rw [decide_eq_true ⟨Int32.not_lt.mp h1, Int32.not_le.mp h9⟩]; exact ⟨rfl, rfl, rfl, rfl⟩)
        | (rw [decide_eq_false (fun hh => absurd hh.2 (Int32.not_lt.mpr h9))]; exact ⟨rfl, rfl, rfl, rfl⟩)
        | (rw [decide_eq_false (fun hh => absurd hh.1 (Int32.not_le.mpr h1))]; exact ⟨rfl, rfl, rfl, rfl⟩)
set_option maxHeartbeats 1000000 in
theorem sp_kindOf {S : Scr} {d : Nat} {f : FF} {g : GG} {n v : Nat} {V : Va} (hv : VaOk n g v) (hC : CVa f v V) {c : Nat} (h9 : V.1 ≤ 9) (hc : c < V.1) : Wp S (d + 1) 41 0 [some (.ref v), some (.int (nI c))] [] n f g (Is (some (.int (nI (V.2.1 c)))) n f g) := by
  refine w_aload_n k41_0 rfl rfl ?_
  refine w_getr k41_1 (k := 0) hv.1 (by decide) hv.2.2.2.2.1 ?_
  refine w_iload_n k41_4 rfl ?_
  refine w_sI k41_5 (by decide) mt40 [_, _] rfl rfl rfl (sp_at hv.2.1 (by omega) (by omega)) ?_
  rw [(hC.2 c hc).1]
  refine w_iret k41_8 mt41 (.int) rfl (rfl) ?_
  exact ⟨rfl, rfl, rfl, rfl⟩
set_option maxHeartbeats 1000000 in
theorem sp_paceOf {S : Scr} {d : Nat} {f : FF} {g : GG} {n v : Nat} {V : Va} (hv : VaOk n g v) (hC : CVa f v V) {c : Nat} (h9 : V.1 ≤ 9) (hc : c < V.1) : Wp S (d + 1) 42 0 [some (.ref v), some (.int (nI c))] [] n f g (Is (some (.int (nI (V.2.2.1 c)))) n f g) := by
  refine w_aload_n k42_0 rfl rfl ?_
  refine w_getr k42_1 (k := 1) hv.1 (by decide) hv.2.2.2.2.2.1 ?_
  refine w_iload_n k42_4 rfl ?_
  refine w_sI k42_5 (by decide) mt40 [_, _] rfl rfl rfl (sp_at hv.2.2.1 (by omega) (by omega)) ?_
  rw [(hC.2 c hc).2.1]
  refine w_iret k42_8 mt42 (.int) rfl (rfl) ?_
  exact ⟨rfl, rfl, rfl, rfl⟩
set_option maxHeartbeats 1000000 in
theorem sp_nextOf {S : Scr} {d : Nat} {f : FF} {g : GG} {n v : Nat} {V : Va} (hv : VaOk n g v) (hC : CVa f v V) {c : Nat} (h9 : V.1 ≤ 9) (hc : c < V.1) : Wp S (d + 1) 43 0 [some (.ref v), some (.int (nI c))] [] n f g (Is (some (.int (nI (V.2.2.2 c)))) n f g) := by
  refine w_aload_n k43_0 rfl rfl ?_
  refine w_getr k43_1 (k := 2) hv.1 (by decide) hv.2.2.2.2.2.2 ?_
  refine w_iload_n k43_4 rfl ?_
  refine w_sI k43_5 (by decide) mt40 [_, _] rfl rfl rfl (sp_at hv.2.2.2.1 (by omega) (by omega)) ?_
  rw [(hC.2 c hc).2.2]
  refine w_iret k43_8 mt43 (.int) rfl (rfl) ?_
  exact ⟨rfl, rfl, rfl, rfl⟩
set_option maxHeartbeats 1000000 in
theorem sp_isAtSea {S : Scr} {d : Nat} {f : FF} {g : GG} {n v : Nat} {V : Va} (hv : VaOk n g v) (hC : CVa f v V) {c : Nat} (h9 : VWf V) (hc : c < V.1) : Wp S (d + 2) 101 0 [some (.ref v), some (.int (nI c))] [] n f g (Is (some (.int (bI (decide (V.2.2.2 c = c))))) n f g) := by
  refine w_aload_n k101_0 rfl rfl ?_
  refine w_iload_n k101_1 rfl ?_
  refine w_vI k101_2 mt43 hv.1 ⟨rfl, by decide⟩ [_] rfl rfl rfl (sp_nextOf hv hC h9.1 hc) ?_
  refine w_iload_n k101_5 rfl ?_
  have ho := h9.on hc
  have h99 := h9.1
  refine w_icmp_ne k101_6 (fun h6 => ?_) (fun h6 => ?_)
  ·
    have hz : ¬ V.2.2.2 c = c := fun hh => h6 (by rw [hh])
    refine w_iconst k101_13 ?_
    refine w_iret k101_14 mt101 (.boolean) rfl (rfl) ?_
    rw [decide_eq_false hz]
    exact ⟨rfl, rfl, rfl, rfl⟩
  ·
    have hz : V.2.2.2 c = c := (nI_eq (by omega) (by omega)).mp h6
    refine w_iconst k101_9 ?_
    refine w_goto k101_10 ?_
    refine w_iret k101_14 mt101 (.boolean) rfl (rfl) ?_
    rw [decide_eq_true hz] <;> exact ⟨rfl, rfl, rfl, rfl⟩
theorem kn_lt {k r : Nat} (hr : r < 65536) : kn k r < 65536 := by
  have h8 := rlen_le r
  have hl := rlen_lt hr
  unfold kn
  split
  · have := dropA_lt (r := r) (L := rlen r) (rlen r) 0 0 (by simp)
    rw [Nat.zero_add] at this
    exact Nat.lt_of_lt_of_le this (p4_le h8)
  · split
    · split
      · have : 4 ^ rlen r ≤ 4 ^ 7 := Nat.pow_le_pow_right (by omega) (by omega)
        omega
      · exact hr
    · split
      · have key : ∀ s a j, a < 4 ^ j → deafA r s a < 4 ^ (j + s) := by
          intro s
          induction s with
          | zero => intro a j h; exact h
          | succ s ih =>
            intro a j h
            simp only [deafA]
            rw [show j + (s + 1) = (j + 1) + s by omega]
            have := sw_lt (dg r s) (dg_lt r s)
            exact ih _ _ (by rw [Nat.pow_succ]; omega)
        have := key (rlen r) 0 0 (by simp)
        rw [Nat.zero_add] at this
        exact Nat.lt_of_lt_of_le this (p4_le h8)
      · split
        · split <;> omega
        · exact hr
set_option maxHeartbeats 1000000 in
theorem lp_sea {S : Scr} {d : Nat} {f : FF} {g : GG} {n v : Nat} {V : Va} (hv : VaOk n g v) (hC : CVa f v V) (h9 : VWf V) {x : Int32} {ok : Nat} {K : Nat → Nat} (hK : ∀ c, c < V.1 → K c = (if nI c = x then ok else V.2.1 c) ∧ K c ≤ 4) {q3 q4 : Int32} : ∀ (t : Nat) (c r i : Nat), (t + i = 9) → (c < V.1) → (r < 65536) → Wp S (d + 3) 125 10 [some (.ref v), some (.int x), some (.int (nI ok)), some (.int q3), some (.int q4), some (.int (nI c)), some (.int (nI r)), some (.int (nI i))] [] n f g (Is (some (.int (nI (cmW V K t c r)))) n f g) := by
  intro t
  induction t with
  | zero =>
    intro c r i e0 e1 e2
    refine w_iload k125_10 rfl ?_
    refine w_bipush k125_12 ?_
    refine w_icmp_ge k125_14 (fun h14 => ?_) (fun h14 => absurd (nI_le (a := 9) (by omega) (by omega)) h14)
    refine w_iload k125_66 rfl ?_
    refine w_iret k125_68 mt125 (.int) rfl (rfl) ?_
    exact ⟨rfl, rfl, rfl, rfl⟩
  | succ t ih =>
    intro c r i e0 e1 e2
    refine w_iload k125_10 rfl ?_
    refine w_bipush k125_12 ?_
    refine w_icmp_ge k125_14 (fun h14 => absurd h14 (nI_ge (b := 9) (by omega) (by omega))) (fun h14 => ?_)
    refine w_iload k125_17 rfl ?_
    refine w_iload_n k125_19 rfl ?_
    have h99 := h9.1
    have hKc := hK c e1
    refine w_icmp_ne k125_20 (fun h20 => ?_) (fun h20 => ?_)
    ·
      have e : V.2.1 c = K c := by rw [hKc.1, if_neg h20]
      refine w_aload_n k125_27 rfl rfl ?_
      refine w_iload k125_28 rfl ?_
      refine w_vI k125_30 mt41 hv.1 ⟨rfl, by decide⟩ [_] rfl rfl rfl (sp_kindOf hv hC h9.1 e1) ?_
      rw [e]
      refine w_iload k125_33 rfl ?_
      refine w_sI k125_35 (by decide) mt92 [_, _] rfl rfl rfl (sp_knitted hKc.2 e2) ?_
      refine w_istore k125_38 (ls' := [_, _, _, _, _, _, _, _]) rfl ?_
      refine w_aload_n k125_40 rfl rfl ?_
      refine w_iload k125_41 rfl ?_
      refine w_vI k125_43 mt101 hv.1 ⟨rfl, by decide⟩ [_] rfl rfl rfl (sp_isAtSea hv hC h9 e1) ?_
      refine w_if_eq k125_46 (fun h46 => ?_) (fun h46 => ?_)
      ·
        have hz := of_decide_eq_false (bI_0.mp h46)
        refine w_aload_n k125_52 rfl rfl ?_
        refine w_iload k125_53 rfl ?_
        refine w_vI k125_55 mt43 hv.1 ⟨rfl, by decide⟩ [_] rfl rfl rfl (sp_nextOf hv hC h9.1 e1) ?_
        refine w_istore k125_58 (ls' := [_, _, _, _, _, _, _, _]) rfl ?_
        refine w_iinc k125_60 rfl (ls' := [_, _, _, _, _, _, _, _]) rfl ?_
        refine w_goto k125_63 ?_
        rw [nI_1, show cmW V K (t + 1) c r = cmW V K t (V.2.2.2 c) (kn (K c) r) from if_neg hz]
        first
          | exact ih _ _ (i + 1) (by omega) (h9.on e1) (kn_lt e2)
          | (rw [← e]; exact ih _ _ (i + 1) (by omega) (h9.on e1) (kn_lt e2))
      ·
        have hz := of_decide_eq_true (bI_n0.mp h46)
        refine w_goto k125_49 ?_
        refine w_iload k125_66 rfl ?_
        refine w_iret k125_68 mt125 (.int) rfl (rfl) ?_
        rw [show cmW V K (t + 1) c r = kn (K c) r from if_pos hz]
        exact ⟨rfl, rfl, rfl, rfl⟩
    ·
      have e : ok = K c := by rw [hKc.1, if_pos h20]
      rw [e]
      refine w_iload_n k125_23 rfl ?_
      refine w_goto k125_24 ?_
      refine w_iload k125_33 rfl ?_
      refine w_sI k125_35 (by decide) mt92 [_, _] rfl rfl rfl (sp_knitted hKc.2 e2) ?_
      refine w_istore k125_38 (ls' := [_, _, _, _, _, _, _, _]) rfl ?_
      refine w_aload_n k125_40 rfl rfl ?_
      refine w_iload k125_41 rfl ?_
      refine w_vI k125_43 mt101 hv.1 ⟨rfl, by decide⟩ [_] rfl rfl rfl (sp_isAtSea hv hC h9 e1) ?_
      refine w_if_eq k125_46 (fun h46 => ?_) (fun h46 => ?_)
      ·
        have hz := of_decide_eq_false (bI_0.mp h46)
        refine w_aload_n k125_52 rfl rfl ?_
        refine w_iload k125_53 rfl ?_
        refine w_vI k125_55 mt43 hv.1 ⟨rfl, by decide⟩ [_] rfl rfl rfl (sp_nextOf hv hC h9.1 e1) ?_
        refine w_istore k125_58 (ls' := [_, _, _, _, _, _, _, _]) rfl ?_
        refine w_iinc k125_60 rfl (ls' := [_, _, _, _, _, _, _, _]) rfl ?_
        refine w_goto k125_63 ?_
        rw [nI_1, show cmW V K (t + 1) c r = cmW V K t (V.2.2.2 c) (kn (K c) r) from if_neg hz]
        first
          | exact ih _ _ (i + 1) (by omega) (h9.on e1) (kn_lt e2)
          | (rw [← e]; exact ih _ _ (i + 1) (by omega) (h9.on e1) (kn_lt e2))
      ·
        have hz := of_decide_eq_true (bI_n0.mp h46)
        refine w_goto k125_49 ?_
        refine w_iload k125_66 rfl ?_
        refine w_iret k125_68 mt125 (.int) rfl (rfl) ?_
        rw [show cmW V K (t + 1) c r = kn (K c) r from if_pos hz]
        exact ⟨rfl, rfl, rfl, rfl⟩
set_option maxHeartbeats 1000000 in
theorem sp_seaWere {S : Scr} {d : Nat} {f : FF} {g : GG} {n v : Nat} {V : Va} (hv : VaOk n g v) (hC : CVa f v V) (h9 : VWf V) {x : Int32} {ok c r : Nat} {K : Nat → Nat} (hK : ∀ c, c < V.1 → K c = (if nI c = x then ok else V.2.1 c) ∧ K c ≤ 4) (hc : c < V.1) (hr : r < 65536) : Wp S (d + 3) 125 0 [some (.ref v), some (.int x), some (.int (nI ok)), some (.int (nI c)), some (.int (nI r)), none, none, none] [] n f g (Is (some (.int (nI (cmW V K 9 c r)))) n f g) := by
  refine w_iload_n k125_0 rfl ?_
  refine w_istore k125_1 (ls' := [_, _, _, _, _, _, _, _]) rfl ?_
  refine w_iload k125_3 rfl ?_
  refine w_istore k125_5 (ls' := [_, _, _, _, _, _, _, _]) rfl ?_
  refine w_iconst k125_7 ?_
  refine w_istore k125_8 (ls' := [_, _, _, _, _, _, _, _]) rfl ?_
  exact lp_sea hv hC h9 hK 9 c r 0 rfl hc hr
theorem nI_m1 {c : Nat} (h : c < 2 ^ 31) : ¬ nI c = -1 := fun hh => nI_pos h (by rw [hh]; decide)
set_option maxHeartbeats 1000000 in
theorem sp_rowAtSea {S : Scr} {d : Nat} {f : FF} {g : GG} {n v : Nat} {V : Va} (hv : VaOk n g v) (hC : CVa f v V) (h9 : VWf V) {c r : Nat} (hc : c < V.1) (hr : r < 65536) : Wp S (d + 4) 126 0 [some (.ref v), some (.int (nI c)), some (.int (nI r))] [] n f g (Is (some (.int (nI (cmW V V.2.1 9 c r)))) n f g) := by
  refine w_aload_n k126_0 rfl rfl ?_
  refine w_iconst k126_1 ?_
  refine w_iconst k126_2 ?_
  refine w_iload_n k126_3 rfl ?_
  refine w_iload_n k126_4 rfl ?_
  have h99 := h9.1
  have hK : ∀ c, c < V.1 → V.2.1 c = (if nI c = -1 then 0 else V.2.1 c) ∧ V.2.1 c ≤ 4 := fun c hc => ⟨by rw [if_neg (nI_m1 (by omega))], (h9.2 c hc).1⟩
  refine w_vI k126_5 mt125 hv.1 ⟨rfl, by decide⟩ [_, _, _, _] rfl rfl rfl (sp_seaWere (ok := 0) hv hC h9 hK hc hr) ?_
  refine w_iret k126_8 mt126 (.int) rfl (rfl) ?_
  exact ⟨rfl, rfl, rfl, rfl⟩
set_option maxHeartbeats 1000000 in
theorem lp_way {S : Scr} {d : Nat} {f : FF} {g : GG} {n v : Nat} {V : Va} (hv : VaOk n g v) (hC : CVa f v V) (h9 : VWf V) {q1 : Int32} : ∀ (t : Nat) (c b i : Nat), (t + i = 9) → (c < V.1) → (b < 2 ^ 9) → Wp S (d + 3) 127 7 [some (.ref v), some (.int q1), some (.int (nI c)), some (.int (nI b)), some (.int (nI i))] [] n f g (Is (some (.int (nI (wyW V t c b)))) n f g) := by
  intro t
  induction t with
  | zero =>
    intro c b i e0 e1 e2
    refine w_iload k127_7 rfl ?_
    refine w_bipush k127_9 ?_
    refine w_icmp_ge k127_11 (fun h11 => ?_) (fun h11 => absurd (nI_le (a := 9) (by omega) (by omega)) h11)
    refine w_iload_n k127_43 rfl ?_
    refine w_iret k127_44 mt127 (.int) rfl (rfl) ?_
    exact ⟨rfl, rfl, rfl, rfl⟩
  | succ t ih =>
    intro c b i e0 e1 e2
    refine w_iload k127_7 rfl ?_
    refine w_bipush k127_9 ?_
    refine w_icmp_ge k127_11 (fun h11 => absurd h11 (nI_ge (b := 9) (by omega) (by omega))) (fun h11 => ?_)
    refine w_iload_n k127_14 rfl ?_
    refine w_iconst k127_15 ?_
    refine w_iload_n k127_16 rfl ?_
    have h99 := h9.1
    have hp : 2 ^ c < 2 ^ 9 := Nat.pow_lt_pow_right (by omega) (by omega)
    refine w_ishl k127_17 ?_
    refine w_top (nI (2 ^ c)) (by rw [show (1 : Int32) = nI 1 from rfl, shl_n (by omega) (by omega), Nat.one_mul]) ?_
    refine w_ior k127_18 ?_
    refine w_top (nI (b ||| 2 ^ c)) (nI_or _ _) ?_
    refine w_istore_n k127_19 (ls' := [_, _, _, _, _]) rfl ?_
    refine w_aload_n k127_20 rfl rfl ?_
    refine w_iload_n k127_21 rfl ?_
    refine w_vI k127_22 mt101 hv.1 ⟨rfl, by decide⟩ [_] rfl rfl rfl (sp_isAtSea hv hC h9 e1) ?_
    refine w_if_eq k127_25 (fun h25 => ?_) (fun h25 => ?_)
    ·
      have hz := of_decide_eq_false (bI_0.mp h25)
      refine w_aload_n k127_31 rfl rfl ?_
      refine w_iload_n k127_32 rfl ?_
      refine w_vI k127_33 mt43 hv.1 ⟨rfl, by decide⟩ [_] rfl rfl rfl (sp_nextOf hv hC h9.1 e1) ?_
      refine w_istore_n k127_36 (ls' := [_, _, _, _, _]) rfl ?_
      refine w_iinc k127_37 rfl (ls' := [_, _, _, _, _]) rfl ?_
      refine w_goto k127_40 ?_
      rw [nI_1, show wyW V (t + 1) c b = wyW V t (V.2.2.2 c) (b ||| 2 ^ c) from if_neg hz]
      exact ih _ _ (i + 1) (by omega) (h9.on e1) (or_lt e2 hp)
    ·
      have hz := of_decide_eq_true (bI_n0.mp h25)
      refine w_goto k127_28 ?_
      refine w_iload_n k127_43 rfl ?_
      refine w_iret k127_44 mt127 (.int) rfl (rfl) ?_
      rw [show wyW V (t + 1) c b = b ||| 2 ^ c from if_pos hz]
      exact ⟨rfl, rfl, rfl, rfl⟩
set_option maxHeartbeats 1000000 in
theorem sp_way {S : Scr} {d : Nat} {f : FF} {g : GG} {n v : Nat} {V : Va} (hv : VaOk n g v) (hC : CVa f v V) (h9 : VWf V) {c : Nat} (hc : c < V.1) : Wp S (d + 3) 127 0 [some (.ref v), some (.int (nI c)), none, none, none] [] n f g (Is (some (.int (nI (wyW V 9 c 0)))) n f g) := by
  refine w_iload_n k127_0 rfl ?_
  refine w_istore_n k127_1 (ls' := [_, _, _, _, _]) rfl ?_
  refine w_iconst k127_2 ?_
  refine w_istore_n k127_3 (ls' := [_, _, _, _, _]) rfl ?_
  refine w_iconst k127_4 ?_
  refine w_istore k127_5 (ls' := [_, _, _, _, _]) rfl ?_
  exact lp_way hv hC h9 9 c 0 0 rfl hc (by omega)
