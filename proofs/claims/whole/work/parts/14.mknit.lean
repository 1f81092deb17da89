/-! SPECS, 5: the model knits -/
set_option maxHeartbeats 1000000 in
theorem ml_third {S : Scr} {d : Nat} {f : FF} {g : GG} {n : Nat} {kv r L : Nat} (hr : r < 65536) (hL : L ≤ 8) : ∀ (t : Nat) (k a : Nat), (t + k = L) → (a < 4 ^ k) → Wp S (d + 1) 97 41 [some (.int (nI kv)), some (.int (nI r)), some (.int (nI L)), some (.int (nI a)), some (.int (nI k)), none, none] [] n f g (Is (some (.int (nI (dropA r L t k a)))) n f g) := by
  intro t
  induction t with
  | zero =>
    intro k a e0 e1
    refine w_iload k97_41 rfl ?_
    refine w_iload_n k97_43 rfl ?_
    refine w_icmp_ge k97_44 (fun h44 => ?_) (fun h44 => absurd (nI_le (by omega) (by omega)) h44)
    refine w_iload_n k97_83 rfl ?_
    refine w_iret k97_84 mt97 (.int) rfl (rfl) ?_
    exact ⟨rfl, rfl, rfl, rfl⟩
  | succ t ih =>
    intro k a e0 e1
    refine w_iload k97_41 rfl ?_
    refine w_iload_n k97_43 rfl ?_
    refine w_icmp_ge k97_44 (fun h44 => absurd h44 (nI_ge (by omega) (by omega))) (fun h44 => ?_)
    refine w_iload k97_47 rfl ?_
    refine w_iconst k97_49 ?_
    refine w_irem k97_50 (by decide) ?_
    refine w_top (nI (k % 3)) (pk_rem (d := 3) (by omega) (by omega) (by omega)) ?_
    refine w_iconst k97_51 ?_
    refine w_icmp_ne k97_52 (fun h52 => ?_) (fun h52 => ?_)
    ·
      have hz : ¬ k % 3 = 2 := fun hh => h52 (by rw [hh]; rfl)
      refine w_iconst k97_59 ?_
      refine w_iload_n k97_60 rfl ?_
      refine w_imul k97_61 ?_
      refine w_top (nI (4 * a)) (pk_mul 4 a) ?_
      refine w_iload_n k97_62 rfl ?_
      refine w_iload_n k97_63 rfl ?_
      refine w_iconst k97_64 ?_
      refine w_isub k97_65 ?_
      refine w_top (nI (L - 1)) (pk_sub (b := 1) (by omega)) ?_
      refine w_iload k97_66 rfl ?_
      refine w_isub k97_68 ?_
      refine w_top (nI (L - 1 - k)) (pk_sub (by omega)) ?_
      refine w_sI k97_69 (by decide) mt96 [_] rfl rfl rfl (mp_power (by omega)) ?_
      refine w_idiv k97_72 (nI_ne0 (Nat.pow_pos (by omega)) (Nat.lt_of_le_of_lt (p4_le (by omega)) (by omega))) ?_
      refine w_top (nI (r / 4 ^ (L - 1 - k))) (pk_div (by omega) (Nat.pow_pos (by omega)) (Nat.lt_of_le_of_lt (p4_le (by omega)) (by omega))) ?_
      refine w_iconst k97_73 ?_
      refine w_irem k97_74 (by decide) ?_
      refine w_top (nI (dg r (L - 1 - k))) (pk_rem (d := 4) (div_lt31 (by omega) _) (by omega) (by omega)) ?_
      refine w_iadd k97_75 ?_
      refine w_top (nI (a * 4 + dg r (L - 1 - k))) (by rw [nI_add, Nat.mul_comm]) ?_
      refine w_istore_n k97_76 (ls' := [_, _, _, _, _, _, _]) rfl ?_
      refine w_iinc k97_77 rfl (ls' := [_, _, _, _, _, _, _]) rfl ?_
      refine w_goto k97_80 ?_
      rw [nI_1]
      have hd4 := dg_lt r (L - 1 - k)
      have hb : dropA r L (t + 1) k a = dropA r L t (k + 1) (if k % 3 = 2 then a else a * 4 + dg r (L - 1 - k)) := rfl
      rw [hb]
      first
        | (rw [if_pos hz]; exact ih (k + 1) a (by omega) (by rw [Nat.pow_succ]; omega))
        | (rw [if_neg hz]; exact ih (k + 1) (a * 4 + dg r (L - 1 - k)) (by omega) (by rw [Nat.pow_succ]; omega))
    ·
      have hz : k % 3 = 2 := (nI_eq (b := 2) (by omega) (by omega)).mp h52
      refine w_iload_n k97_55 rfl ?_
      refine w_goto k97_56 ?_
      refine w_istore_n k97_76 (ls' := [_, _, _, _, _, _, _]) rfl ?_
      refine w_iinc k97_77 rfl (ls' := [_, _, _, _, _, _, _]) rfl ?_
      refine w_goto k97_80 ?_
      rw [nI_1]
      have hd4 := dg_lt r (L - 1 - k)
      have hb : dropA r L (t + 1) k a = dropA r L t (k + 1) (if k % 3 = 2 then a else a * 4 + dg r (L - 1 - k)) := rfl
      rw [hb]
      first
        | (rw [if_pos hz]; exact ih (k + 1) a (by omega) (by rw [Nat.pow_succ]; omega))
        | (rw [if_neg hz]; exact ih (k + 1) (a * 4 + dg r (L - 1 - k)) (by omega) (by rw [Nat.pow_succ]; omega))
set_option maxHeartbeats 1000000 in
theorem ml_deaf {S : Scr} {d : Nat} {f : FF} {g : GG} {n : Nat} {kv r L : Nat} (hr : r < 65536) (hL : L ≤ 8) (hdd : ∀ i, i < L → dg r i ≠ 0) : ∀ (t : Nat) (k a : Nat) (q : Option Value), (t + k = L) → Wp S (d + 1) 97 107 [some (.int (nI kv)), some (.int (nI r)), some (.int (nI L)), none, some (.int (nI a)), some (.int (nI k)), q] [] n f g (Is (some (.int (nI (deafA r t a)))) n f g) := by
  intro t
  induction t with
  | zero =>
    intro k a q e0
    refine w_iload k97_107 rfl ?_
    refine w_iload_n k97_109 rfl ?_
    refine w_icmp_ge k97_110 (fun h110 => ?_) (fun h110 => absurd (nI_le (by omega) (by omega)) h110)
    refine w_iload k97_155 rfl ?_
    refine w_iret k97_157 mt97 (.int) rfl (rfl) ?_
    exact ⟨rfl, rfl, rfl, rfl⟩
  | succ t ih =>
    intro k a q e0
    refine w_iload k97_107 rfl ?_
    refine w_iload_n k97_109 rfl ?_
    refine w_icmp_ge k97_110 (fun h110 => absurd h110 (nI_ge (by omega) (by omega))) (fun h110 => ?_)
    refine w_iload_n k97_113 rfl ?_
    refine w_iload_n k97_114 rfl ?_
    refine w_iconst k97_115 ?_
    refine w_isub k97_116 ?_
    refine w_top (nI (L - 1)) (pk_sub (b := 1) (by omega)) ?_
    refine w_iload k97_117 rfl ?_
    refine w_isub k97_119 ?_
    refine w_top (nI (L - 1 - k)) (pk_sub (by omega)) ?_
    refine w_sI k97_120 (by decide) mt96 [_] rfl rfl rfl (mp_power (by omega)) ?_
    refine w_idiv k97_123 (nI_ne0 (Nat.pow_pos (by omega)) (Nat.lt_of_le_of_lt (p4_le (by omega)) (by omega))) ?_
    refine w_top (nI (r / 4 ^ (L - 1 - k))) (pk_div (by omega) (Nat.pow_pos (by omega)) (Nat.lt_of_le_of_lt (p4_le (by omega)) (by omega))) ?_
    refine w_iconst k97_124 ?_
    refine w_irem k97_125 (by decide) ?_
    refine w_top (nI (dg r (L - 1 - k))) (pk_rem (d := 4) (div_lt31 (by omega) _) (by omega) (by omega)) ?_
    have hd4 := dg_lt r (L - 1 - k)
    have hd0 := hdd (L - 1 - k) (by omega)
    have ht : L - 1 - k = t := by omega
    rw [ht] at hd4 hd0
    rw [ht]
    refine w_istore k97_126 (ls' := [_, _, _, _, _, _, _]) rfl ?_
    refine w_iconst k97_128 ?_
    refine w_iload k97_129 rfl ?_
    refine w_imul k97_131 ?_
    refine w_top (nI (4 * a)) (pk_mul 4 a) ?_
    refine w_iload k97_132 rfl ?_
    refine w_iconst k97_134 ?_
    refine w_icmp_ne k97_135 (fun h135 => ?_) (fun h135 => ?_)
    ·
      have z1 : ¬ dg r t = 3 := fun hh => h135 (by rw [hh]; rfl)
      refine w_iconst k97_142 ?_
      refine w_iload k97_143 rfl ?_
      refine w_isub k97_145 ?_
      refine w_top (nI (3 - dg r t)) (pk_sub (a := 3) (by omega)) ?_
      refine w_iadd k97_146 ?_
      refine w_top (nI (a * 4 + sw (dg r t))) (by first | (rw [show sw (dg r t) = 3 from by rw [z1]; rfl, ← nI_add, Nat.mul_comm]; rfl)   | (rw [show sw (dg r t) = 3 - dg r t from by unfold sw; split; omega; split <;> omega, ← nI_add, Nat.mul_comm])) ?_
      refine w_istore k97_147 (ls' := [_, _, _, _, _, _, _]) rfl ?_
      refine w_iinc k97_149 rfl (ls' := [_, _, _, _, _, _, _]) rfl ?_
      refine w_goto k97_152 ?_
      rw [nI_1]
      exact ih (k + 1) _ _ (by omega)
    ·
      have z1 : dg r t = 3 := (nI_eq (b := 3) (by omega) (by omega)).mp h135
      refine w_iconst k97_138 ?_
      refine w_goto k97_139 ?_
      refine w_iadd k97_146 ?_
      refine w_top (nI (a * 4 + sw (dg r t))) (by first | (rw [show sw (dg r t) = 3 from by rw [z1]; rfl, ← nI_add, Nat.mul_comm]; rfl)   | (rw [show sw (dg r t) = 3 - dg r t from by unfold sw; split; omega; split <;> omega, ← nI_add, Nat.mul_comm])) ?_
      refine w_istore k97_147 (ls' := [_, _, _, _, _, _, _]) rfl ?_
      refine w_iinc k97_149 rfl (ls' := [_, _, _, _, _, _, _]) rfl ?_
      refine w_goto k97_152 ?_
      rw [nI_1]
      exact ih (k + 1) _ _ (by omega)
set_option maxHeartbeats 1000000 in
theorem mp_knitBy {S : Scr} {d : Nat} {f : FF} {g : GG} {n : Nat} {k r : Nat} (hk : k ≤ 4) (h : RowOk r) : Wp S (d + 1) 97 0 [some (.int (nI k)), some (.int (nI r)), none, none, none, none, none] [] n f g (Is (some (.int (nI (kn k r)))) n f g) := by
  refine w_iload_n k97_0 rfl ?_
  have hr := h.lt
  have h8 := rlen_le r
  have h0 := h.len0
  refine w_sI k97_1 (by decide) mt95 [_] rfl rfl rfl (mp_lengthOf hr) ?_
  refine w_istore_n k97_4 (ls' := [_, _, _, _, _, _, _]) rfl ?_
  refine w_iload_n k97_5 rfl ?_
  rcases (show k = 0 ∨ k = 1 ∨ k = 2 ∨ k = 3 ∨ k = 4 by omega) with rfl | rfl | rfl | rfl | rfl
  ·
    refine w_tsw k97_6 (t := 174) (by decide) ?_
    refine w_iload_n k97_174 rfl ?_
    refine w_iret k97_175 mt97 (.int) rfl (rfl) ?_
    refine ⟨?_, rfl, rfl, rfl⟩
    first
      | rfl
      | (simp [kn, hz]; done)
      | (simp [kn, hz]; rfl)
  ·
    refine w_tsw k97_6 (t := 36) (by decide) ?_
    refine w_iconst k97_36 ?_
    refine w_istore_n k97_37 (ls' := [_, _, _, _, _, _, _]) rfl ?_
    refine w_iconst k97_38 ?_
    refine w_istore k97_39 (ls' := [_, _, _, _, _, _, _]) rfl ?_
    exact ml_third hr h8 _ 0 0 (by omega) (by omega)
  ·
    refine w_tsw k97_6 (t := 85) (by decide) ?_
    refine w_iload_n k97_85 rfl ?_
    refine w_bipush k97_86 ?_
    refine w_icmp_ge k97_88 (fun h88 => ?_) (fun h88 => ?_)
    ·
      have hz : ¬ rlen r < 8 := by
        have := (nI_leI (a := 8) (by omega) (by omega)).mp h88
        omega
      refine w_iload_n k97_99 rfl ?_
      refine w_iret k97_100 mt97 (.int) rfl (rfl) ?_
      refine ⟨?_, rfl, rfl, rfl⟩
      first
        | rfl
        | (simp [kn, hz]; done)
        | (simp [kn, hz]; rfl)
    ·
      have hz : rlen r < 8 := Nat.not_le.mp fun hh => h88 (nI_le (a := 8) hh (by omega))
      refine w_iconst k97_91 ?_
      refine w_iload_n k97_92 rfl ?_
      refine w_imul k97_93 ?_
      refine w_top (nI (r * 4)) (by rw [Nat.mul_comm]; exact pk_mul 4 r) ?_
      refine w_iconst k97_94 ?_
      refine w_iadd k97_95 ?_
      refine w_top (nI (r * 4 + 2)) (nI_add _ 2) ?_
      refine w_goto k97_96 ?_
      refine w_iret k97_100 mt97 (.int) rfl (rfl) ?_
      refine ⟨?_, rfl, rfl, rfl⟩
      first
        | rfl
        | (simp [kn, hz]; done)
        | (simp [kn, hz]; rfl)
  ·
    refine w_tsw k97_6 (t := 101) (by decide) ?_
    refine w_iconst k97_101 ?_
    refine w_istore k97_102 (ls' := [_, _, _, _, _, _, _]) rfl ?_
    refine w_iconst k97_104 ?_
    refine w_istore k97_105 (ls' := [_, _, _, _, _, _, _]) rfl ?_
    exact ml_deaf hr h8 (fun i hi => h.dg hi) _ 0 0 none (by omega)
  ·
    refine w_tsw k97_6 (t := 158) (by decide) ?_
    refine w_iload_n k97_158 rfl ?_
    refine w_if_ne k97_159 (fun h159 => ?_) (fun h159 => ?_)
    ·
      have hz : ¬ r = 0 := fun hh => h159 (by rw [h0.mpr hh]; rfl)
      refine w_iload_n k97_166 rfl ?_
      refine w_iload_n k97_167 rfl ?_
      refine w_iconst k97_168 ?_
      refine w_irem k97_169 (by decide) ?_
      refine w_top (nI (r % 4)) (pk_rem (d := 4) (by omega) (by omega) (by omega)) ?_
      refine w_isub k97_170 ?_
      refine w_top (nI (r - r % 4)) (pk_sub (Nat.mod_le _ _)) ?_
      refine w_iconst k97_171 ?_
      refine w_iadd k97_172 ?_
      refine w_top (nI (r / 4 * 4 + 3)) (by rw [show r / 4 * 4 = r - r % 4 by omega]; exact nI_add _ 3) ?_
      refine w_iret k97_173 mt97 (.int) rfl (rfl) ?_
      refine ⟨?_, rfl, rfl, rfl⟩
      first
        | rfl
        | (simp [kn, hz]; done)
        | (simp [kn, hz]; rfl)
    ·
      have hz : r = 0 := h0.mp ((nI_eq (b := 0) (by omega) (by omega)).mp h159)
      refine w_iconst k97_162 ?_
      refine w_goto k97_163 ?_
      refine w_iret k97_173 mt97 (.int) rfl (rfl) ?_
      refine ⟨?_, rfl, rfl, rfl⟩
      first
        | rfl
        | (simp [kn, hz]; done)
        | (simp [kn, hz]; rfl)
