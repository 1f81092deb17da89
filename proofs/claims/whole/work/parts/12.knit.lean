/-! SPECS, 3: rows knitted -/
set_option maxHeartbeats 1000000 in
theorem sp_withoutFirst {S : Scr} {d : Nat} {f : FF} {g : GG} {n : Nat} {r : Nat} (hr : r < 65536) : Wp S (d + 1) 169 0 [some (.int (nI r)), none] [] n f g (Is (some (.int (nI (wof r)))) n f g) := by
  refine w_iload_n k169_0 rfl ?_
  refine w_sI k169_1 (by decide) mt86 [_] rfl rfl rfl (sp_length (by omega)) ?_
  refine w_istore_n k169_4 (ls' := [_, _]) rfl ?_
  refine w_iload_n k169_5 rfl ?_
  refine w_if_ne k169_6 (fun h6 => ?_) (fun h6 => ?_)
  ·
    have hz : rlen r ≠ 0 := fun hh => h6 (by rw [hh]; rfl)
    have h8 := rlen_le r
    refine w_iload_n k169_13 rfl ?_
    refine w_iload_n k169_14 rfl ?_
    refine w_iload_n k169_15 rfl ?_
    refine w_iconst k169_16 ?_
    refine w_isub k169_17 ?_
    refine w_top (nI (rlen r - 1)) (pk_sub (b := 1) (by omega)) ?_
    refine w_sI k169_18 (by decide) mt87 [_, _] rfl rfl rfl (sp_stitch (by omega) (by omega)) ?_
    refine w_iconst k169_21 ?_
    refine w_iload_n k169_22 rfl ?_
    refine w_iconst k169_23 ?_
    refine w_isub k169_24 ?_
    refine w_top (nI (rlen r - 1)) (pk_sub (b := 1) (by omega)) ?_
    refine w_imul k169_25 ?_
    refine w_top (nI (2 * (rlen r - 1))) (pk_mul 2 _) ?_
    have hle : dg r (rlen r - 1) * 4 ^ (rlen r - 1) ≤ r := Nat.le_trans (Nat.mul_le_mul_right _ (Nat.mod_le _ _)) (Nat.div_mul_le_self _ _)
    refine w_ishl k169_26 ?_
    refine w_top (nI (dg r (rlen r - 1) * 4 ^ (rlen r - 1))) (by rw [shl_n (by omega) (by rw [pow4]; omega), pow4]) ?_
    refine w_isub k169_27 ?_
    refine w_top (nI (wof r)) (by rw [pk_sub hle, wof, if_neg hz]) ?_
    refine w_iret k169_28 mt169 (.int) rfl (rfl) ?_
    first
      | exact ⟨rfl, rfl, rfl, rfl⟩
      | (rw [show wof r = 0 from if_pos hz]; exact ⟨rfl, rfl, rfl, rfl⟩)
  ·
    have hz : rlen r = 0 := by
      have := rlen_le r
      exact (nI_eq (b := 0) (by omega) (by omega)).mp h6
    refine w_iconst k169_9 ?_
    refine w_goto k169_10 ?_
    refine w_iret k169_28 mt169 (.int) rfl (rfl) ?_
    first
      | exact ⟨rfl, rfl, rfl, rfl⟩
      | (rw [show wof r = 0 from if_pos hz]; exact ⟨rfl, rfl, rfl, rfl⟩)
set_option maxHeartbeats 1000000 in
theorem lp_third {S : Scr} {d : Nat} {f : FF} {g : GG} {n : Nat} {r L : Nat} (hr : r < 2 ^ 31) (hL : L ≤ 8) : ∀ (t : Nat) (k a : Nat), (t + k = L) → (a < 4 ^ k) → Wp S (d + 1) 90 9 [some (.int (nI r)), some (.int (nI L)), some (.int (nI a)), some (.int (nI (k + 1)))] [] n f g (Is (some (.int (nI (dropA r L t k a)))) n f g) := by
  intro t
  induction t with
  | zero =>
    intro k a e0 e1
    refine w_iload_n k90_9 rfl ?_
    refine w_iload_n k90_10 rfl ?_
    refine w_icmp_gt k90_11 (fun h11 => ?_) (fun h11 => absurd (nI_lt (by omega) (by omega)) h11)
    refine w_iload_n k90_38 rfl ?_
    refine w_iret k90_39 mt90 (.int) rfl (rfl) ?_
    exact ⟨rfl, rfl, rfl, rfl⟩
  | succ t ih =>
    intro k a e0 e1
    refine w_iload_n k90_9 rfl ?_
    refine w_iload_n k90_10 rfl ?_
    refine w_icmp_gt k90_11 (fun h11 => absurd h11 (nI_nlt (by omega) (by omega))) (fun h11 => ?_)
    refine w_iload_n k90_14 rfl ?_
    refine w_iconst k90_15 ?_
    refine w_irem k90_16 (by decide) ?_
    refine w_top (nI ((k + 1) % 3)) (pk_rem (d := 3) (by omega) (by omega) (by omega)) ?_
    refine w_if_eq k90_17 (fun h17 => ?_) (fun h17 => ?_)
    ·
      have hz : k % 3 = 2 := by
        have := (nI_eq (b := 0) (by omega) (by omega)).mp h17
        omega
      refine w_iinc k90_32 rfl (ls' := [_, _, _, _]) rfl ?_
      refine w_goto k90_35 ?_
      rw [nI_1]
      have hd4 := dg_lt r (L - 1 - k)
      have hb : dropA r L (t + 1) k a = dropA r L t (k + 1) (if k % 3 = 2 then a else a * 4 + dg r (L - 1 - k)) := rfl
      rw [hb]
      first
        | (rw [if_pos hz]; exact ih (k + 1) a (by omega) (by rw [Nat.pow_succ]; omega))
        | (rw [if_neg hz]; exact ih (k + 1) (a * 4 + dg r (L - 1 - k)) (by omega) (by rw [Nat.pow_succ]; omega))
    ·
      have hz : ¬ k % 3 = 2 := fun hh => h17 (by rw [show (k + 1) % 3 = 0 by omega]; rfl)
      refine w_iload_n k90_20 rfl ?_
      refine w_iload_n k90_21 rfl ?_
      refine w_iload_n k90_22 rfl ?_
      refine w_iload_n k90_23 rfl ?_
      refine w_isub k90_24 ?_
      refine w_top (nI (L - 1 - k)) (by rw [pk_sub (by omega)]; congr 1; omega) ?_
      refine w_sI k90_25 (by decide) mt87 [_, _] rfl rfl rfl (sp_stitch hr (by omega)) ?_
      refine w_sI k90_28 (by decide) mt27 [_, _] rfl rfl rfl sp_with ?_
      refine w_istore_n k90_31 (ls' := [_, _, _, _]) rfl ?_
      refine w_iinc k90_32 rfl (ls' := [_, _, _, _]) rfl ?_
      refine w_goto k90_35 ?_
      rw [nI_1]
      have hd4 := dg_lt r (L - 1 - k)
      have hb : dropA r L (t + 1) k a = dropA r L t (k + 1) (if k % 3 = 2 then a else a * 4 + dg r (L - 1 - k)) := rfl
      rw [hb]
      first
        | (rw [if_pos hz]; exact ih (k + 1) a (by omega) (by rw [Nat.pow_succ]; omega))
        | (rw [if_neg hz]; exact ih (k + 1) (a * 4 + dg r (L - 1 - k)) (by omega) (by rw [Nat.pow_succ]; omega))
set_option maxHeartbeats 1000000 in
theorem sp_third {S : Scr} {d : Nat} {f : FF} {g : GG} {n : Nat} {r : Nat} (hr : r < 65536) : Wp S (d + 1) 90 0 [some (.int (nI r)), none, none, none] [] n f g (Is (some (.int (nI (dropA r (rlen r) (rlen r) 0 0)))) n f g) := by
  refine w_iload_n k90_0 rfl ?_
  refine w_sI k90_1 (by decide) mt86 [_] rfl rfl rfl (sp_length (by omega)) ?_
  refine w_istore_n k90_4 (ls' := [_, _, _, _]) rfl ?_
  refine w_iconst k90_5 ?_
  refine w_istore_n k90_6 (ls' := [_, _, _, _]) rfl ?_
  refine w_iconst k90_7 ?_
  refine w_istore_n k90_8 (ls' := [_, _, _, _]) rfl ?_
  exact lp_third (by omega) (rlen_le r) _ 0 0 (by omega) (by omega)
set_option maxHeartbeats 1000000 in
theorem lp_deaf {S : Scr} {d : Nat} {f : FF} {g : GG} {n : Nat} {r : Nat} (hr : r < 2 ^ 31) : ∀ (t : Nat) (a : Nat) (q : Option Value), (t ≤ 8) → Wp S (d + 1) 91 9 [some (.int (nI r)), some (.int (nI a)), some (.int (nI t + (-1))), q] [] n f g (Is (some (.int (nI (deafA r t a)))) n f g) := by
  intro t
  induction t with
  | zero =>
    intro a q e0
    refine w_iload_n k91_9 rfl ?_
    refine w_if_lt k91_10 (fun h10 => ?_) (fun h10 => absurd ((by decide : (nI 0 + (-1) : Int32) < 0)) h10)
    refine w_iload_n k91_49 rfl ?_
    refine w_iret k91_50 mt91 (.int) rfl (rfl) ?_
    exact ⟨rfl, rfl, rfl, rfl⟩
  | succ t ih =>
    intro a q e0
    rw [pk_m1]
    refine w_iload_n k91_9 rfl ?_
    refine w_if_lt k91_10 (fun h10 => absurd h10 (nI_pos (by omega))) (fun h10 => ?_)
    refine w_iload_n k91_13 rfl ?_
    refine w_iload_n k91_14 rfl ?_
    refine w_sI k91_15 (by decide) mt87 [_, _] rfl rfl rfl (sp_stitch hr (by omega)) ?_
    refine w_istore_n k91_18 (ls' := [_, _, _, _]) rfl ?_
    refine w_iload_n k91_19 rfl ?_
    refine w_iload_n k91_20 rfl ?_
    refine w_iconst k91_21 ?_
    refine w_icmp_ne k91_22 (fun h22 => ?_) (fun h22 => ?_)
    ·
      have z1 : ¬ dg r t = 1 := fun hh => h22 (by rw [hh]; rfl)
      refine w_iload_n k91_29 rfl ?_
      refine w_iconst k91_30 ?_
      refine w_icmp_ne k91_31 (fun h31 => ?_) (fun h31 => ?_)
      ·
        have z2 : ¬ dg r t = 2 := fun hh => h31 (by rw [hh]; rfl)
        refine w_iload_n k91_38 rfl ?_
        refine w_sI k91_39 (by decide) mt27 [_, _] rfl rfl rfl sp_with ?_
        refine w_istore_n k91_42 (ls' := [_, _, _, _]) rfl ?_
        refine w_iinc k91_43 rfl (ls' := [_, _, _, _]) rfl ?_
        refine w_goto k91_46 ?_
        have hb : deafA r (t + 1) a = deafA r t (a * 4 + sw (dg r t)) := rfl
        rw [hb]
        first
          | (rw [show sw (dg r t) = 2 from if_pos z1]; exact ih _ _ (by omega))
          | (rw [show sw (dg r t) = 1 from by unfold sw; rw [if_neg z1, if_pos z2]]; exact ih _ _ (by omega))
          | (rw [show sw (dg r t) = dg r t from by unfold sw; rw [if_neg z1, if_neg z2]]; exact ih _ _ (by omega))
      ·
        have z2 : dg r t = 2 := by
          have := dg_lt r t
          exact (nI_eq (b := 2) (by omega) (by omega)).mp h31
        refine w_iconst k91_34 ?_
        refine w_goto k91_35 ?_
        refine w_sI k91_39 (by decide) mt27 [_, _] rfl rfl rfl sp_with ?_
        refine w_istore_n k91_42 (ls' := [_, _, _, _]) rfl ?_
        refine w_iinc k91_43 rfl (ls' := [_, _, _, _]) rfl ?_
        refine w_goto k91_46 ?_
        have hb : deafA r (t + 1) a = deafA r t (a * 4 + sw (dg r t)) := rfl
        rw [hb]
        first
          | (rw [show sw (dg r t) = 2 from if_pos z1]; exact ih _ _ (by omega))
          | (rw [show sw (dg r t) = 1 from by unfold sw; rw [if_neg z1, if_pos z2]]; exact ih _ _ (by omega))
          | (rw [show sw (dg r t) = dg r t from by unfold sw; rw [if_neg z1, if_neg z2]]; exact ih _ _ (by omega))
    ·
      have z1 : dg r t = 1 := by
        have := dg_lt r t
        exact (nI_eq (b := 1) (by omega) (by omega)).mp h22
      refine w_iconst k91_25 ?_
      refine w_goto k91_26 ?_
      refine w_sI k91_39 (by decide) mt27 [_, _] rfl rfl rfl sp_with ?_
      refine w_istore_n k91_42 (ls' := [_, _, _, _]) rfl ?_
      refine w_iinc k91_43 rfl (ls' := [_, _, _, _]) rfl ?_
      refine w_goto k91_46 ?_
      have hb : deafA r (t + 1) a = deafA r t (a * 4 + sw (dg r t)) := rfl
      rw [hb]
      first
        | (rw [show sw (dg r t) = 2 from if_pos z1]; exact ih _ _ (by omega))
        | (rw [show sw (dg r t) = 1 from by unfold sw; rw [if_neg z1, if_pos z2]]; exact ih _ _ (by omega))
        | (rw [show sw (dg r t) = dg r t from by unfold sw; rw [if_neg z1, if_neg z2]]; exact ih _ _ (by omega))
set_option maxHeartbeats 1000000 in
theorem sp_deaf {S : Scr} {d : Nat} {f : FF} {g : GG} {n : Nat} {r : Nat} (hr : r < 65536) : Wp S (d + 1) 91 0 [some (.int (nI r)), none, none, none] [] n f g (Is (some (.int (nI (deafA r (rlen r) 0)))) n f g) := by
  refine w_iconst k91_0 ?_
  refine w_istore_n k91_1 (ls' := [_, _, _, _]) rfl ?_
  refine w_iload_n k91_2 rfl ?_
  refine w_sI k91_3 (by decide) mt86 [_] rfl rfl rfl (sp_length (by omega)) ?_
  refine w_iconst k91_6 ?_
  refine w_isub k91_7 ?_
  refine w_top (nI (rlen r) + (-1)) (by rw [Int32.sub_eq_add_neg]) ?_
  refine w_istore_n k91_8 (ls' := [_, _, _, _]) rfl ?_
  exact lp_deaf (by omega) _ 0 none (rlen_le r)
set_option maxHeartbeats 1000000 in
theorem sp_knitted {S : Scr} {d : Nat} {f : FF} {g : GG} {n : Nat} {k r : Nat} (hk : k ≤ 4) (hr : r < 65536) : Wp S (d + 2) 92 0 [some (.int (nI k)), some (.int (nI r))] [] n f g (Is (some (.int (nI (kn k r)))) n f g) := by
  refine w_iload_n k92_0 rfl ?_
  rcases (show k = 0 ∨ k = 1 ∨ k = 2 ∨ k = 3 ∨ k = 4 by omega) with rfl | rfl | rfl | rfl | rfl
  ·
    refine w_tsw k92_1 (t := 77) (by decide) ?_
    refine w_iload_n k92_77 rfl ?_
    refine w_iret k92_78 mt92 (.int) rfl (rfl) ?_
    refine ⟨?_, rfl, rfl, rfl⟩
    first
      | rfl
      | (simp [kn, hz]; done)
      | (simp [kn, hz]; rfl)
  ·
    refine w_tsw k92_1 (t := 32) (by decide) ?_
    refine w_iload_n k92_32 rfl ?_
    refine w_sI k92_33 (by decide) mt90 [_] rfl rfl rfl (sp_third hr) ?_
    refine w_iret k92_36 mt92 (.int) rfl (rfl) ?_
    refine ⟨?_, rfl, rfl, rfl⟩
    first
      | rfl
      | (simp [kn, hz]; done)
      | (simp [kn, hz]; rfl)
  ·
    refine w_tsw k92_1 (t := 37) (by decide) ?_
    refine w_iload_n k92_37 rfl ?_
    refine w_sI k92_38 (by decide) mt86 [_] rfl rfl rfl (sp_length (by omega)) ?_
    refine w_bipush k92_41 ?_
    refine w_icmp_ge k92_43 (fun h43 => ?_) (fun h43 => ?_)
    ·
      have hz : ¬ rlen r < 8 := by
        have := rlen_le r
        have := (nI_leI (a := 8) (by omega) (by omega)).mp h43
        omega
      refine w_iload_n k92_54 rfl ?_
      refine w_iret k92_55 mt92 (.int) rfl (rfl) ?_
      refine ⟨?_, rfl, rfl, rfl⟩
      first
        | rfl
        | (simp [kn, hz]; done)
        | (simp [kn, hz]; rfl)
    ·
      have hz : rlen r < 8 := by
        have := rlen_le r
        exact Nat.not_le.mp fun hh => h43 (nI_le (a := 8) hh (by omega))
      refine w_iload_n k92_46 rfl ?_
      refine w_iconst k92_47 ?_
      refine w_sI k92_48 (by decide) mt27 [_, _] rfl rfl rfl sp_with ?_
      refine w_goto k92_51 ?_
      refine w_iret k92_55 mt92 (.int) rfl (rfl) ?_
      refine ⟨?_, rfl, rfl, rfl⟩
      first
        | rfl
        | (simp [kn, hz]; done)
        | (simp [kn, hz]; rfl)
  ·
    refine w_tsw k92_1 (t := 56) (by decide) ?_
    refine w_iload_n k92_56 rfl ?_
    refine w_sI k92_57 (by decide) mt91 [_] rfl rfl rfl (sp_deaf hr) ?_
    refine w_iret k92_60 mt92 (.int) rfl (rfl) ?_
    refine ⟨?_, rfl, rfl, rfl⟩
    first
      | rfl
      | (simp [kn, hz]; done)
      | (simp [kn, hz]; rfl)
  ·
    refine w_tsw k92_1 (t := 61) (by decide) ?_
    refine w_iload_n k92_61 rfl ?_
    refine w_if_ne k92_62 (fun h62 => ?_) (fun h62 => ?_)
    ·
      have hz : ¬ r = 0 := fun hh => h62 (by rw [hh]; rfl)
      refine w_iload_n k92_69 rfl ?_
      refine w_iconst k92_70 ?_
      refine w_idiv k92_71 (by decide) ?_
      refine w_top (nI (r / 4)) (pk_div (d := 4) (by omega) (by omega) (by omega)) ?_
      refine w_iconst k92_72 ?_
      refine w_sI k92_73 (by decide) mt27 [_, _] rfl rfl rfl sp_with ?_
      refine w_iret k92_76 mt92 (.int) rfl (rfl) ?_
      refine ⟨?_, rfl, rfl, rfl⟩
      first
        | rfl
        | (simp [kn, hz]; done)
        | (simp [kn, hz]; rfl)
    ·
      have hz : r = 0 := (nI_eq (b := 0) (by omega) (by omega)).mp h62
      refine w_iconst k92_65 ?_
      refine w_goto k92_66 ?_
      refine w_iret k92_76 mt92 (.int) rfl (rfl) ?_
      refine ⟨?_, rfl, rfl, rfl⟩
      first
        | rfl
        | (simp [kn, hz]; done)
        | (simp [kn, hz]; rfl)
set_option maxHeartbeats 1000000 in
theorem mp_in {S : Scr} {d : Nat} {f : FF} {g : GG} {n : Nat} (x lo hi : Int32) : Wp S d 59 0 [some (.int x), some (.int lo), some (.int hi)] [] n f g (Is (some (.int (bI (decide (lo ≤ x ∧ x ≤ hi))))) n f g) := by
  refine w_iload_n k59_0 rfl ?_
  refine w_iload_n k59_1 rfl ?_
  refine w_icmp_lt k59_2 (fun h2 => ?_) (fun h2 => ?_)
  ·
    refine w_iconst k59_14 ?_
    refine w_iret k59_15 mt59 (.boolean) rfl (rfl) ?_
    refine ⟨?_, rfl, rfl, rfl⟩
    simp [bI, ← Int32.not_lt, *]
  ·
    refine w_iload_n k59_5 rfl ?_
    refine w_iload_n k59_6 rfl ?_
    refine w_icmp_gt k59_7 (fun h7 => ?_) (fun h7 => ?_)
    ·
      refine w_iconst k59_14 ?_
      refine w_iret k59_15 mt59 (.boolean) rfl (rfl) ?_
      refine ⟨?_, rfl, rfl, rfl⟩
      simp [bI, ← Int32.not_lt, *]
    ·
      refine w_iconst k59_10 ?_
      refine w_goto k59_11 ?_
      refine w_iret k59_15 mt59 (.boolean) rfl (rfl) ?_
      refine ⟨?_, rfl, rfl, rfl⟩
      simp [bI, ← Int32.not_lt, *]
set_option maxHeartbeats 1000000 in
theorem mp_has {S : Scr} {d : Nat} {f : FF} {g : GG} {n : Nat} {B c : Nat} (hB : B < 2 ^ 31) (hc : c < 32) : Wp S d 108 0 [some (.int (nI B)), some (.int (nI c))] [] n f g (Is (some (.int (bI (B.testBit c)))) n f g) := by
  refine w_iload_n k108_0 rfl ?_
  refine w_iload_n k108_1 rfl ?_
  refine w_ishr k108_2 ?_
  rw [shr_n hB hc]
  refine w_iconst k108_3 ?_
  refine w_iand k108_4 ?_
  rw [and_n (k := 1) (Nat.lt_of_le_of_lt (Nat.div_le_self _ _) (by omega)) 1 (by decide)]
  refine w_iconst k108_5 ?_
  refine w_icmp_ne k108_6 (fun h6 => ?_) (fun h6 => ?_)
  ·
    refine w_iconst k108_13 ?_
    refine w_iret k108_14 mt108 (.boolean) rfl (rfl) ?_
    refine ⟨?_, rfl, rfl, rfl⟩
    have e : (nI (B / 2 ^ c % 2 ^ 1) = 1) ↔ B.testBit c = true := by
      rw [show (1 : Int32) = nI 1 from rfl, nI_eq (by omega) (by omega), Nat.testBit_eq_decide_div_mod_eq]
      simp
    simp [bI, ← e, *]
  ·
    refine w_iconst k108_9 ?_
    refine w_goto k108_10 ?_
    refine w_iret k108_14 mt108 (.boolean) rfl (rfl) ?_
    refine ⟨?_, rfl, rfl, rfl⟩
    have e : (nI (B / 2 ^ c % 2 ^ 1) = 1) ↔ B.testBit c = true := by
      rw [show (1 : Int32) = nI 1 from rfl, nI_eq (by omega) (by omega), Nat.testBit_eq_decide_div_mod_eq]
      simp
    simp [bI, ← e, *]
theorem div4s (r j : Nat) : r / 4 ^ j / 4 = r / 4 ^ (j + 1) := by rw [Nat.div_div_eq_div_mul, Nat.pow_succ]
theorem div_lt31 {r : Nat} (hr : r < 2 ^ 31) (k : Nat) : r / k < 2 ^ 31 := Nat.lt_of_le_of_lt (Nat.div_le_self _ _) hr
set_option maxHeartbeats 1000000 in
theorem ml_lengthOf {S : Scr} {d : Nat} {f : FF} {g : GG} {n : Nat} {r : Nat} (hr : r < 65536) : ∀ (t : Nat) (j : Nat), (t + j = 8) → Wp S d 95 4 [some (.int (nI r)), some (.int (nI j)), some (.int (nI (r / 4 ^ j)))] [] n f g (Is (some (.int (nI (rlA r t j)))) n f g) := by
  intro t
  induction t with
  | zero =>
    intro j e0
    refine w_iload_n k95_4 rfl ?_
    refine w_if_le k95_5 (fun h5 => ?_) (fun h5 => absurd (by rw [show j = 8 by omega, show r / 4 ^ 8 = 0 from Nat.div_eq_of_lt (by omega)]; decide) h5)
    refine w_iload_n k95_18 rfl ?_
    refine w_iret k95_19 mt95 (.int) rfl (rfl) ?_
    exact ⟨rfl, rfl, rfl, rfl⟩
  | succ t ih =>
    intro j e0
    refine w_iload_n k95_4 rfl ?_
    refine w_if_le k95_5 (fun h5 => ?_) (fun h5 => ?_)
    ·
      have hz : r / 4 ^ j = 0 := Nat.le_zero.mp ((nI_leI (b := 0) (div_lt31 (by omega) _) (by omega)).mp h5)
      refine w_iload_n k95_18 rfl ?_
      refine w_iret k95_19 mt95 (.int) rfl (rfl) ?_
      rw [show rlA r (t + 1) j = j from if_pos hz]
      exact ⟨rfl, rfl, rfl, rfl⟩
    ·
      have hz : ¬ r / 4 ^ j = 0 := fun hh => h5 (by rw [hh]; decide)
      refine w_iinc k95_8 rfl (ls' := [_, _, _]) rfl ?_
      refine w_iload_n k95_11 rfl ?_
      refine w_iconst k95_12 ?_
      refine w_idiv k95_13 (by decide) ?_
      refine w_top (nI (r / 4 ^ (j + 1))) (by rw [← div4s]; exact pk_div (d := 4) (div_lt31 (by omega) _) (by omega) (by omega)) ?_
      refine w_istore_n k95_14 (ls' := [_, _, _]) rfl ?_
      refine w_goto k95_15 ?_
      rw [nI_1, show rlA r (t + 1) j = rlA r t (j + 1) from if_neg hz]
      exact ih (j + 1) (by omega)
set_option maxHeartbeats 1000000 in
theorem mp_lengthOf {S : Scr} {d : Nat} {f : FF} {g : GG} {n : Nat} {r : Nat} (hr : r < 65536) : Wp S d 95 0 [some (.int (nI r)), none, none] [] n f g (Is (some (.int (nI (rlen r)))) n f g) := by
  refine w_iconst k95_0 ?_
  refine w_istore_n k95_1 (ls' := [_, _, _]) rfl ?_
  refine w_iload_n k95_2 rfl ?_
  refine w_istore_n k95_3 (ls' := [_, _, _]) rfl ?_
  have := ml_lengthOf (S := S) (d := d) (f := f) (g := g) (n := n) hr 8 0 rfl
  rw [Nat.pow_zero, Nat.div_one] at this
  exact this
def mA (r : Nat) : Nat → Nat → Bool → Bool
  | 0, _, b => b
  | t + 1, j, b => if r / 4 ^ j = 0 then b else if b = false then false else mA r t (j + 1) (decide (0 < dg r j))
theorem mA_false (r : Nat) : ∀ t j, mA r t j false = false := by
  intro t
  cases t with
  | zero => intro j; rfl
  | succ t => intro j; simp [mA]
def allF (r j : Nat) : Nat → Bool
  | 0 => true
  | k + 1 => decide (dg r (j + k) ≠ 0) && allF r j k
theorem allF_cons (r : Nat) : ∀ k j, allF r j (k + 1) = (decide (dg r j ≠ 0) && allF r (j + 1) k) := by
  intro k
  induction k with
  | zero => intro j; simp [allF]
  | succ k ih =>
    intro j
    rw [show allF r j (k + 1 + 1) = (decide (dg r (j + (k + 1)) ≠ 0) && allF r j (k + 1)) from rfl, ih j, show allF r (j + 1) (k + 1) = (decide (dg r (j + 1 + k) ≠ 0) && allF r (j + 1) k) from rfl, show j + 1 + k = j + (k + 1) by omega]
    cases decide (dg r (j + (k + 1)) ≠ 0) <;> cases decide (dg r j ≠ 0) <;> rfl
theorem mA_allF (r : Nat) : ∀ t j, mA r t j true = allF r j (rlA r t j - j) := by
  intro t
  induction t with
  | zero => intro j; simp [mA, rlA, allF]
  | succ t ih =>
    intro j
    by_cases hz : r / 4 ^ j = 0
    · simp [mA, rlA, hz, allF]
    · have h1 := (rlA_le (r := r) t (j + 1)).1
      rw [show rlA r (t + 1) j = rlA r t (j + 1) from if_neg hz, show mA r (t + 1) j true = mA r t (j + 1) (decide (0 < dg r j)) from by simp [mA, hz]]
      rw [show rlA r t (j + 1) - j = (rlA r t (j + 1) - (j + 1)) + 1 by omega, allF_cons, ← ih (j + 1)]
      by_cases hd : dg r j = 0
      · rw [show decide (0 < dg r j) = false by simp [hd], mA_false]; simp [hd]
      · rw [show decide (0 < dg r j) = true by simp; omega]; simp [hd]
theorem allF_allD (r : Nat) : ∀ k, allF r 0 k = allD r k := by
  intro k
  induction k with
  | zero => rfl
  | succ k ih => simp only [allF, allD, ih, Nat.zero_add]
theorem mA_allD (r : Nat) : mA r 8 0 true = allD r (rlen r) := by rw [mA_allF, Nat.sub_zero, allF_allD]; rfl
theorem bI_i {b : Bool} (h : bI b = 1) : b = true := by cases b <;> first | rfl | (revert h; decide)
set_option maxHeartbeats 1000000 in
theorem ml_isRow {S : Scr} {d : Nat} {f : FF} {g : GG} {n : Nat} {r : Nat} (hr : r < 65536) : ∀ (t : Nat) (j : Nat) (b : Bool), (t + j = 8) → Wp S (d + 1) 94 10 [some (.int (nI r)), some (.int (bI b)), some (.int (nI (r / 4 ^ j)))] [] n f g (Is (some (.int (bI (mA r t j b)))) n f g) := by
  intro t
  induction t with
  | zero =>
    intro j b e0
    refine w_iload_n k94_10 rfl ?_
    refine w_if_le k94_11 (fun h11 => ?_) (fun h11 => absurd (by rw [show j = 8 by omega, show r / 4 ^ 8 = 0 from Nat.div_eq_of_lt (by omega)]; decide) h11)
    refine w_iload_n k94_37 rfl ?_
    refine w_iret k94_38 mt94 (.boolean) rfl (nar_b _) ?_
    exact ⟨rfl, rfl, rfl, rfl⟩
  | succ t ih =>
    intro j b e0
    refine w_iload_n k94_10 rfl ?_
    refine w_if_le k94_11 (fun h11 => ?_) (fun h11 => ?_)
    ·
      have hz : r / 4 ^ j = 0 := Nat.le_zero.mp ((nI_leI (b := 0) (div_lt31 (by omega) _) (by omega)).mp h11)
      refine w_iload_n k94_37 rfl ?_
      refine w_iret k94_38 mt94 (.boolean) rfl (nar_b _) ?_
      refine ⟨?_, rfl, rfl, rfl⟩
      first
        | (simp [mA, hz]; done)
        | (simp [mA, hz, hb]; done)
    ·
      have hz : ¬ r / 4 ^ j = 0 := fun hh => h11 (by rw [hh]; decide)
      refine w_iload_n k94_14 rfl ?_
      refine w_if_eq k94_15 (fun h15 => ?_) (fun h15 => ?_)
      ·
        have hb := bI_0.mp h15
        refine w_iload_n k94_37 rfl ?_
        refine w_iret k94_38 mt94 (.boolean) rfl (nar_b _) ?_
        refine ⟨?_, rfl, rfl, rfl⟩
        first
          | (simp [mA, hz]; done)
          | (simp [mA, hz, hb]; done)
      ·
        have hb := bI_n0.mp h15
        refine w_iload_n k94_18 rfl ?_
        refine w_iconst k94_19 ?_
        refine w_irem k94_20 (by decide) ?_
        refine w_top (nI (dg r j)) (pk_rem (d := 4) (div_lt31 (by omega) _) (by omega) (by omega)) ?_
        refine w_if_le k94_21 (fun h21 => ?_) (fun h21 => ?_)
        ·
          have hd : dg r j = 0 := by
            have := dg_lt r j
            exact Nat.le_zero.mp ((nI_leI (b := 0) (by omega) (by omega)).mp h21)
          refine w_iconst k94_28 ?_
          refine w_istore_n k94_29 (ls' := [_, _, _]) rfl ?_
          refine w_iload_n k94_30 rfl ?_
          refine w_iconst k94_31 ?_
          refine w_idiv k94_32 (by decide) ?_
          refine w_top (nI (r / 4 ^ (j + 1))) (by rw [← div4s]; exact pk_div (d := 4) (div_lt31 (by omega) _) (by omega) (by omega)) ?_
          refine w_istore_n k94_33 (ls' := [_, _, _]) rfl ?_
          refine w_goto k94_34 ?_
          rw [show mA r (t + 1) j b = mA r t (j + 1) (decide (0 < dg r j)) from by simp [mA, hz, hb]]
          first
            | (rw [show decide (0 < dg r j) = false by simp [hd]]; exact ih (j + 1) false (by omega))
            | (rw [show decide (0 < dg r j) = true by simp; omega]; exact ih (j + 1) true (by omega))
        ·
          have hd : ¬ dg r j = 0 := fun hh => h21 (by rw [hh]; decide)
          refine w_iconst k94_24 ?_
          refine w_goto k94_25 ?_
          refine w_istore_n k94_29 (ls' := [_, _, _]) rfl ?_
          refine w_iload_n k94_30 rfl ?_
          refine w_iconst k94_31 ?_
          refine w_idiv k94_32 (by decide) ?_
          refine w_top (nI (r / 4 ^ (j + 1))) (by rw [← div4s]; exact pk_div (d := 4) (div_lt31 (by omega) _) (by omega) (by omega)) ?_
          refine w_istore_n k94_33 (ls' := [_, _, _]) rfl ?_
          refine w_goto k94_34 ?_
          rw [show mA r (t + 1) j b = mA r t (j + 1) (decide (0 < dg r j)) from by simp [mA, hz, hb]]
          first
            | (rw [show decide (0 < dg r j) = false by simp [hd]]; exact ih (j + 1) false (by omega))
            | (rw [show decide (0 < dg r j) = true by simp; omega]; exact ih (j + 1) true (by omega))
set_option maxHeartbeats 1000000 in
theorem mp_isRow {S : Scr} {d : Nat} {f : FF} {g : GG} {n : Nat} (x : Int32) : Wp S (d + 1) 94 0 [some (.int x), none, none] [] n f g (Is (some (.int (bI (isRowI x)))) n f g) := by
  refine w_iload_n k94_0 rfl ?_
  refine w_iconst k94_1 ?_
  refine w_ldc k94_2 ?_
  refine w_sI k94_4 (by decide) mt59 [_, _, _] rfl rfl rfl (mp_in _ _ _) ?_
  by_cases hx : 1 ≤ x ∧ x ≤ 65535
  · obtain ⟨r, hr1, hr2, rfl⟩ := int_row hx
    have e : isRowI (nI r) = mA r 8 0 true := by unfold isRowI; rw [nI_clamp (by omega), decide_eq_true hx, Bool.true_and, mA_allD]
    rw [e, decide_eq_true hx]
    refine w_istore_n k94_7 (ls' := [_, _, _]) rfl ?_
    refine w_iload_n k94_8 rfl ?_
    refine w_istore_n k94_9 (ls' := [_, _, _]) rfl ?_
    have := ml_isRow (S := S) (d := d) (f := f) (g := g) (n := n) (r := r) (by omega) 8 0 true rfl
    rw [Nat.pow_zero, Nat.div_one] at this
    exact this
  rw [show isRowI x = false from by unfold isRowI; rw [decide_eq_false hx, Bool.false_and], decide_eq_false hx]
  refine w_istore_n k94_7 (ls' := [_, _, _]) rfl ?_
  refine w_iload_n k94_8 rfl ?_
  refine w_istore_n k94_9 (ls' := [_, _, _]) rfl ?_
  refine w_iload_n k94_10 rfl ?_
  refine w_if_le k94_11 (fun h11 => ?_) (fun h11 => ?_)
  ·
    refine w_iload_n k94_37 rfl ?_
    refine w_iret k94_38 mt94 (.boolean) rfl (nar_b _) ?_
    exact ⟨rfl, rfl, rfl, rfl⟩
  ·
    refine w_iload_n k94_14 rfl ?_
    refine w_if_eq k94_15 (fun h15 => ?_) (fun h15 => absurd (rfl) h15)
    refine w_iload_n k94_37 rfl ?_
    refine w_iret k94_38 mt94 (.boolean) rfl (nar_b _) ?_
    exact ⟨rfl, rfl, rfl, rfl⟩
