/-! SPECS, 4: rows stay rows; the model knits -/
theorem RowOk.zero : RowOk 0 := ⟨[], ⟨by simp, by simp⟩, rfl⟩
theorem RowOk.dg {r i : Nat} (h : RowOk r) (hi : i < rlen r) : dg r i ≠ 0 := by
  obtain ⟨l, hl, rfl⟩ := h
  rw [rlen_vr hl] at hi
  rw [dg_vr hl hi]
  have := hl.2 l[i] (List.getElem_mem hi)
  omega
theorem RowOk.len0 {r : Nat} (h : RowOk r) : rlen r = 0 ↔ r = 0 := by
  constructor
  · intro h0
    have := rlen_lt h.lt
    rw [h0] at this
    omega
  · intro h0; subst h0; decide
def ofR : Nat → Nat → List Nat
  | 0, _ => []
  | k + 1, r => r % 4 :: ofR k (r / 4)
theorem vr_ofR : ∀ k r, vr (ofR k r) = r % 4 ^ k := by
  intro k
  induction k with
  | zero => intro r; simp [ofR, vr, Nat.mod_one]
  | succ k ih =>
    intro r
    simp only [ofR, vr, ih, Nat.pow_succ]
    rw [Nat.mul_comm (4 ^ k) 4, Nat.mod_mul]
theorem ofR_len : ∀ k r, (ofR k r).length = k := by
  intro k
  induction k with
  | zero => intro r; rfl
  | succ k ih => intro r; simp [ofR, ih]
theorem ofR_mem : ∀ k r d, d ∈ ofR k r → ∃ i, i < k ∧ d = dg r i := by
  intro k
  induction k with
  | zero => intro r d h; simp [ofR] at h
  | succ k ih =>
    intro r d h
    simp only [ofR, List.mem_cons] at h
    rcases h with rfl | h
    · exact ⟨0, by omega, by simp [dg]⟩
    · obtain ⟨i, hi, rfl⟩ := ih _ _ h
      refine ⟨i + 1, by omega, ?_⟩
      unfold dg
      rw [Nat.div_div_eq_div_mul, Nat.pow_succ, Nat.mul_comm]
theorem rowOk_of {r : Nat} (hr : r < 65536) (h : ∀ i, i < rlen r → dg r i ≠ 0) : RowOk r := by
  refine ⟨ofR (rlen r) r, ⟨by rw [ofR_len]; exact rlen_le r, fun d hd => ?_⟩, ?_⟩
  · obtain ⟨i, hi, rfl⟩ := ofR_mem _ _ _ hd
    have h1 := h i hi
    have h2 := dg_lt r i
    omega
  · rw [vr_ofR, Nat.mod_eq_of_lt (rlen_lt hr)]
theorem allD_iff {r : Nat} : ∀ k, allD r k = true ↔ ∀ i, i < k → dg r i ≠ 0 := by
  intro k
  induction k with
  | zero => simp [allD]
  | succ k ih =>
    simp only [allD, Bool.and_eq_true, decide_eq_true_eq, ih]
    constructor
    · rintro ⟨h1, h2⟩ i hi
      by_cases hk : i = k
      · subst hk; exact h1
      · exact h2 i (by omega)
    · intro h
      exact ⟨h k (by omega), fun i hi => h i (by omega)⟩
/-- a row that is told -/
theorem isRowI_iff {x : Int32} : isRowI x = true ↔ ∃ r, x = nI r ∧ 0 < r ∧ RowOk r := by
  unfold isRowI
  constructor
  · intro h
    rw [Bool.and_eq_true, decide_eq_true_eq] at h
    obtain ⟨r, h1, h2, rfl⟩ := int_row h.1
    rw [nI_clamp (by omega)] at h
    exact ⟨r, rfl, h1, rowOk_of (by omega) ((allD_iff _).mp h.2)⟩
  · rintro ⟨r, rfl, h1, h2⟩
    have hr := h2.lt
    rw [nI_clamp (by omega), Bool.and_eq_true, decide_eq_true_eq]
    exact ⟨⟨nI_le (a := 1) (by omega) (by omega), nI_le (b := 65535) (by omega) (by omega)⟩, (allD_iff _).mpr (fun i hi => h2.dg hi)⟩
theorem isRow0_iff {x : Int32} : isRow0 x = true ↔ ∃ r, x = nI r ∧ RowOk r := by
  unfold isRow0
  rw [Bool.or_eq_true, decide_eq_true_eq, isRowI_iff]
  constructor
  · rintro (rfl | ⟨r, h1, h2, h3⟩)
    · exact ⟨0, rfl, RowOk.zero⟩
    · exact ⟨r, h1, h3⟩
  · rintro ⟨r, rfl, h⟩
    by_cases h0 : r = 0
    · exact Or.inl (by rw [h0]; rfl)
    · exact Or.inr ⟨r, rfl, by omega, h⟩
theorem dropA_list {l : List Nat} (hl : RLs l) : ∀ t k m, t + k = l.length → m.length ≤ k → (∀ d ∈ m, 1 ≤ d ∧ d ≤ 3) → ∃ m', dropA (vr l) l.length t k (vr m) = vr m' ∧ m'.length ≤ k + t ∧ ∀ d ∈ m', 1 ≤ d ∧ d ≤ 3 := by
  intro t
  induction t with
  | zero => intro k m h1 h2 h3; exact ⟨m, rfl, h2, h3⟩
  | succ t ih =>
    intro k m h1 h2 h3
    simp only [dropA]
    by_cases hk : k % 3 = 2
    · rw [if_pos hk]
      obtain ⟨m', a, b, c⟩ := ih (k + 1) m (by omega) (by omega) h3
      exact ⟨m', a, by omega, c⟩
    · rw [if_neg hk]
      have hi : l.length - 1 - k < l.length := by omega
      have hd := hl.2 _ (List.getElem_mem hi)
      rw [dg_vr hl hi, show vr m * 4 + l[l.length - 1 - k] = vr (l[l.length - 1 - k] :: m) from by simp only [vr]; omega]
      obtain ⟨m', a, b, c⟩ := ih (k + 1) (l[l.length - 1 - k] :: m) (by omega) (by simp; omega) (fun d h => by
        rcases List.mem_cons.mp h with rfl | h
        · exact hd
        · exact h3 d h)
      exact ⟨m', a, by omega, c⟩
theorem deafA_list {l : List Nat} (hl : RLs l) : ∀ s m, s + m.length ≤ l.length → (∀ d ∈ m, 1 ≤ d ∧ d ≤ 3) → ∃ m', deafA (vr l) s (vr m) = vr m' ∧ m'.length ≤ m.length + s ∧ ∀ d ∈ m', 1 ≤ d ∧ d ≤ 3 := by
  intro s
  induction s with
  | zero => intro m h1 h3; exact ⟨m, rfl, by omega, h3⟩
  | succ s ih =>
    intro m h1 h3
    simp only [deafA]
    have hi : s < l.length := by omega
    have hd := hl.2 _ (List.getElem_mem hi)
    have hs : 1 ≤ sw l[s] ∧ sw l[s] ≤ 3 := by unfold sw; split; omega; split <;> omega
    rw [dg_vr hl hi, show vr m * 4 + sw l[s] = vr (sw l[s] :: m) from by simp only [vr]; omega]
    obtain ⟨m', a, b, c⟩ := ih (sw l[s] :: m) (by simp; omega) (fun d h => by
      rcases List.mem_cons.mp h with rfl | h
      · exact hs
      · exact h3 d h)
    exact ⟨m', a, by simp at b; omega, c⟩
theorem kn_ok {k r : Nat} (h : RowOk r) : RowOk (kn k r) := by
  obtain ⟨l, hl, rfl⟩ := h
  have h8 := hl.1
  unfold kn
  rw [rlen_vr hl]
  split
  · obtain ⟨m', a, b, c⟩ := dropA_list hl l.length 0 [] (by omega) (by simp) (by simp)
    exact ⟨m', ⟨by omega, c⟩, a⟩
  · split
    · split
      · exact ⟨2 :: l, ⟨by simp; omega, fun d hd => by
          rcases List.mem_cons.mp hd with rfl | hd
          · omega
          · exact hl.2 d hd⟩, by simp only [vr]; omega⟩
      · exact ⟨l, hl, rfl⟩
    · split
      · obtain ⟨m', a, b, c⟩ := deafA_list hl l.length [] (by simp) (by simp)
        exact ⟨m', ⟨by simp at b; omega, c⟩, a⟩
      · split
        · split
          · exact RowOk.zero
          · cases l with
            | nil => exact absurd rfl (by assumption)
            | cons d l =>
              have hd := hl.2 d List.mem_cons_self
              refine ⟨3 :: l, ⟨by simpa using h8, fun x hx => ?_⟩, by simp only [vr]; omega⟩
              rcases List.mem_cons.mp hx with rfl | hx
              · omega
              · exact hl.2 x (List.mem_cons_of_mem _ hx)
        · exact ⟨l, hl, rfl⟩
theorem vr_snoc : ∀ (l : List Nat) (d : Nat), vr (l ++ [d]) = vr l + d * 4 ^ l.length := by
  intro l
  induction l with
  | nil => intro d; simp [vr]
  | cons x l ih =>
    intro d
    simp only [List.cons_append, vr, ih, List.length_cons, Nat.pow_succ]
    rw [Nat.mul_add, ← Nat.mul_assoc, Nat.mul_comm 4 d, Nat.mul_assoc d 4, Nat.mul_comm 4 (4 ^ l.length)]
    omega
theorem wof_ok {r : Nat} (h : RowOk r) : RowOk (wof r) ∧ wof r = r % 4 ^ (rlen r - 1) := by
  obtain ⟨l, hl, rfl⟩ := h
  unfold wof
  rw [rlen_vr hl]
  by_cases h0 : l.length = 0
  · rw [if_pos h0, List.length_eq_zero_iff.mp h0]
    exact ⟨RowOk.zero, rfl⟩
  · rw [if_neg h0]
    have hne : l ≠ [] := fun hh => h0 (by rw [hh]; rfl)
    have hs := List.dropLast_concat_getLast hne
    have hi : l.length - 1 < l.length := by omega
    rw [dg_vr hl hi]
    have hlast : l[l.length - 1] = l.getLast hne := (List.getLast_eq_getElem hne).symm
    rw [hlast]
    have hv : vr l = vr l.dropLast + l.getLast hne * 4 ^ (l.length - 1) := by
      have := vr_snoc l.dropLast (l.getLast hne)
      rw [hs, List.length_dropLast] at this
      exact this
    have hdl : ∀ d ∈ l.dropLast, 1 ≤ d ∧ d ≤ 3 := fun d hd => hl.2 d (List.dropLast_subset l hd)
    have hlt := vr_lt hdl
    rw [List.length_dropLast] at hlt
    have e : vr l - l.getLast hne * 4 ^ (l.length - 1) = vr l.dropLast := by omega
    rw [e]
    refine ⟨⟨l.dropLast, ⟨by rw [List.length_dropLast]; have := hl.1; omega, hdl⟩, rfl⟩, ?_⟩
    rw [hv, Nat.add_mul_mod_self_right, Nat.mod_eq_of_lt hlt]
set_option maxHeartbeats 1000000 in
theorem ml_power {S : Scr} {d : Nat} {f : FF} {g : GG} {n : Nat} {N : Nat} (hN : N ≤ 8) : ∀ (t : Nat) (k : Nat), (t + k = N) → Wp S d 96 4 [some (.int (nI N)), some (.int (nI (4 ^ k))), some (.int (nI k))] [] n f g (Is (some (.int (nI (4 ^ N)))) n f g) := by
  intro t
  induction t with
  | zero =>
    intro k e0
    refine w_iload_n k96_4 rfl ?_
    refine w_iload_n k96_5 rfl ?_
    refine w_icmp_ge k96_6 (fun h6 => ?_) (fun h6 => absurd (nI_le (by omega) (by omega)) h6)
    refine w_iload_n k96_19 rfl ?_
    refine w_iret k96_20 mt96 (.int) rfl (rfl) ?_
    rw [show k = N by omega]
    exact ⟨rfl, rfl, rfl, rfl⟩
  | succ t ih =>
    intro k e0
    refine w_iload_n k96_4 rfl ?_
    refine w_iload_n k96_5 rfl ?_
    refine w_icmp_ge k96_6 (fun h6 => absurd h6 (nI_ge (by omega) (by omega))) (fun h6 => ?_)
    refine w_iload_n k96_9 rfl ?_
    refine w_iconst k96_10 ?_
    refine w_imul k96_11 ?_
    refine w_top (nI (4 ^ (k + 1))) (pk_mul (4 ^ k) 4) ?_
    refine w_istore_n k96_12 (ls' := [_, _, _]) rfl ?_
    refine w_iinc k96_13 rfl (ls' := [_, _, _]) rfl ?_
    refine w_goto k96_16 ?_
    rw [nI_1]
    exact ih (k + 1) (by omega)
set_option maxHeartbeats 1000000 in
theorem mp_power {S : Scr} {d : Nat} {f : FF} {g : GG} {n : Nat} {N : Nat} (hN : N ≤ 8) : Wp S d 96 0 [some (.int (nI N)), none, none] [] n f g (Is (some (.int (nI (4 ^ N)))) n f g) := by
  refine w_iconst k96_0 ?_
  refine w_istore_n k96_1 (ls' := [_, _, _]) rfl ?_
  refine w_iconst k96_2 ?_
  refine w_istore_n k96_3 (ls' := [_, _, _]) rfl ?_
  exact ml_power hN _ 0 rfl
theorem nI_zero_of {k : Nat} (h : nI k ≤ 0) (h8 : k ≤ 8) : k = 0 := Nat.le_zero.mp ((nI_leI (b := 0) (by omega) (by omega)).mp h)
theorem nI_pos_of {k : Nat} (h : ¬ nI k ≤ 0) (h8 : k ≤ 8) : 0 < k := by
  by_cases hk : k = 0
  · subst hk; exact absurd (by decide) h
  · omega
set_option maxHeartbeats 1000000 in
theorem mp_withoutFirst {S : Scr} {d : Nat} {f : FF} {g : GG} {n : Nat} {r : Nat} (h : RowOk r) : Wp S (d + 1) 174 0 [some (.int (nI r))] [] n f g (Is (some (.int (nI (wof r)))) n f g) := by
  refine w_iload_n k174_0 rfl ?_
  refine w_iload_n k174_1 rfl ?_
  have hr := h.lt
  have h8 := rlen_le r
  have hp := (wof_ok h).2
  refine w_sI k174_2 (by decide) mt95 [_] rfl rfl rfl (mp_lengthOf (by omega)) ?_
  refine w_if_le k174_5 (fun h5 => ?_) (fun h5 => ?_)
  ·
    refine w_iconst k174_17 ?_
    refine w_sI k174_18 (by decide) mt96 [_] rfl rfl rfl (mp_power (N := 0) (by omega)) ?_
    refine w_irem k174_21 (nI_ne0 (Nat.pow_pos (by omega)) (Nat.lt_of_le_of_lt (p4_le (by omega)) (by omega))) ?_
    refine w_iret k174_22 mt174 (.int) rfl (rfl) ?_
    rw [pk_rem (d := 4 ^ 0) (by omega) (by decide) (by decide), hp, show rlen r - 1 = 0 by have := nI_zero_of h5 h8; omega]
    exact ⟨rfl, rfl, rfl, rfl⟩
  ·
    refine w_iload_n k174_8 rfl ?_
    refine w_sI k174_9 (by decide) mt95 [_] rfl rfl rfl (mp_lengthOf (by omega)) ?_
    refine w_iconst k174_12 ?_
    refine w_isub k174_13 ?_
    refine w_top (nI (rlen r - 1)) (pk_sub (b := 1) (by have := nI_pos_of h5 h8; omega)) ?_
    refine w_goto k174_14 ?_
    refine w_sI k174_18 (by decide) mt96 [_] rfl rfl rfl (mp_power (N := rlen r - 1) (by omega)) ?_
    refine w_irem k174_21 (nI_ne0 (Nat.pow_pos (by omega)) (Nat.lt_of_le_of_lt (p4_le (by omega)) (by omega))) ?_
    refine w_iret k174_22 mt174 (.int) rfl (rfl) ?_
    rw [pk_rem (by omega) (Nat.pow_pos (by omega)) (Nat.lt_of_le_of_lt (p4_le (by omega)) (by omega)), hp]
    exact ⟨rfl, rfl, rfl, rfl⟩
