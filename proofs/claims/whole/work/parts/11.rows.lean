/-! SPECS, 2: rows as numbers, arithmetic -/
def dg (r i : Nat) : Nat := r / 4 ^ i % 4
def rlA (r : Nat) : Nat → Nat → Nat
  | 0, j => j
  | t + 1, j => if r / 4 ^ j = 0 then j else rlA r t (j + 1)
def rlen (r : Nat) : Nat := rlA r 8 0
def allD (r : Nat) : Nat → Bool
  | 0 => true
  | i + 1 => decide (dg r i ≠ 0) && allD r i
def isRowI (x : Int32) : Bool := decide (1 ≤ x ∧ x ≤ 65535) && allD x.toNatClampNeg (rlen x.toNatClampNeg)
def dropA (r L : Nat) : Nat → Nat → Nat → Nat
  | 0, _, a => a
  | t + 1, k, a => dropA r L t (k + 1) (if k % 3 = 2 then a else a * 4 + dg r (L - 1 - k))
def sw (d : Nat) : Nat := if d = 1 then 2 else if d = 2 then 1 else d
def deafA (r : Nat) : Nat → Nat → Nat
  | 0, a => a
  | s + 1, a => deafA r s (a * 4 + sw (dg r s))
/-- what a kind knits of a row -/
def kn (k r : Nat) : Nat := if k = 1 then dropA r (rlen r) (rlen r) 0 0 else if k = 2 then (if rlen r < 8 then r * 4 + 2 else r) else if k = 3 then deafA r (rlen r) 0 else if k = 4 then (if r = 0 then 0 else r / 4 * 4 + 3) else r
def wof (r : Nat) : Nat := if rlen r = 0 then 0 else r - dg r (rlen r - 1) * 4 ^ (rlen r - 1)
/-- a row, the last stitch first -/
def vr : List Nat → Nat
  | [] => 0
  | d :: l => d + 4 * vr l
def RLs (l : List Nat) : Prop := l.length ≤ 8 ∧ ∀ d ∈ l, 1 ≤ d ∧ d ≤ 3
def RowOk (r : Nat) : Prop := ∃ l, RLs l ∧ r = vr l
theorem RLs.tail {d : Nat} {l : List Nat} (h : RLs (d :: l)) : RLs l := ⟨by have := h.1; simp at this; omega, fun x hx => h.2 x (List.mem_cons_of_mem _ hx)⟩
theorem vr_div {l : List Nat} (h : RLs l) (i : Nat) : vr l / 4 ^ i = vr (l.drop i) := by
  induction i generalizing l with
  | zero => simp
  | succ i ih =>
    cases l with
    | nil => simp [vr]
    | cons d l =>
      have hd := h.2 d List.mem_cons_self
      rw [Nat.pow_succ, Nat.mul_comm, ← Nat.div_div_eq_div_mul, List.drop_succ_cons, ← ih h.tail]
      congr 1
      simp only [vr]
      omega
theorem vr_pos {l : List Nat} (h : RLs l) (hn : l ≠ []) : 0 < vr l := by
  cases l with
  | nil => exact absurd rfl hn
  | cons d l => have := h.2 d List.mem_cons_self; simp only [vr]; omega
theorem vr_lt {l : List Nat} (h : ∀ d ∈ l, 1 ≤ d ∧ d ≤ 3) : vr l < 4 ^ l.length := by
  induction l with
  | nil => simp [vr]
  | cons d l ih =>
    have h1 := h d List.mem_cons_self
    have h2 := ih (fun x hx => h x (List.mem_cons_of_mem _ hx))
    simp only [vr, List.length_cons, Nat.pow_succ]
    omega
theorem vr_lt8 {l : List Nat} (h : RLs l) : vr l < 65536 := Nat.lt_of_lt_of_le (vr_lt h.2) (Nat.le_trans (Nat.pow_le_pow_right (by omega) h.1) (show (4 : Nat) ^ 8 ≤ 65536 by decide))
theorem RowOk.lt {r : Nat} (h : RowOk r) : r < 65536 := by obtain ⟨l, h1, rfl⟩ := h; exact vr_lt8 h1
theorem RLs.drop {l : List Nat} (h : RLs l) (i : Nat) : RLs (l.drop i) := ⟨by rw [List.length_drop]; have := h.1; omega, fun x hx => h.2 x (List.mem_of_mem_drop hx)⟩
theorem rlA_vr {l : List Nat} (h : RLs l) : ∀ t j, l.length ≤ t + j → j ≤ l.length → rlA (vr l) t j = l.length := by
  intro t
  induction t with
  | zero => intro j h1 h2; simp only [rlA]; omega
  | succ t ih =>
    intro j h1 h2
    simp only [rlA]
    rw [vr_div h]
    by_cases hj : j = l.length
    · rw [if_pos (by rw [List.drop_eq_nil_of_le (by omega)]; rfl)]; exact hj
    · have hne : l.drop j ≠ [] := by intro hh; have := congrArg List.length hh; rw [List.length_drop] at this; simp at this; omega
      rw [if_neg (by have := vr_pos (h.drop j) hne; omega)]
      exact ih (j + 1) (by omega) (by omega)
theorem rlen_vr {l : List Nat} (h : RLs l) : rlen (vr l) = l.length := rlA_vr h 8 0 (by have := h.1; omega) (by omega)
theorem dg_vr {l : List Nat} (h : RLs l) {i : Nat} (hi : i < l.length) : dg (vr l) i = l[i] := by
  unfold dg
  rw [vr_div h, List.drop_eq_getElem_cons hi]
  have := h.2 l[i] (List.getElem_mem hi)
  simp only [vr]
  omega
theorem rlA_le {r : Nat} : ∀ t j, j ≤ rlA r t j ∧ rlA r t j ≤ t + j := by
  intro t
  induction t with
  | zero => intro j; simp [rlA]
  | succ t ih =>
    intro j
    simp only [rlA]
    split
    · omega
    · have := ih (j + 1); omega
theorem rlen_le (r : Nat) : rlen r ≤ 8 := (rlA_le 8 0).2
theorem rlen_lt {r : Nat} (hr : r < 65536) : r < 4 ^ rlen r := by
  have key : ∀ t j, t + j = 8 → r / 4 ^ rlA r t j = 0 := by
    intro t
    induction t with
    | zero => intro j hj; simp only [rlA]; rw [show j = 8 by omega]; exact Nat.div_eq_of_lt (by omega)
    | succ t ih =>
      intro j hj
      simp only [rlA]
      split
      · assumption
      · exact ih (j + 1) (by omega)
  have h2 := key 8 0 rfl
  exact Nat.lt_of_div_eq_zero (Nat.pow_pos (by omega)) h2
theorem dg_lt (r i : Nat) : dg r i < 4 := Nat.mod_lt _ (by omega)
theorem dropA_lt {r L : Nat} : ∀ t k a, a < 4 ^ k → dropA r L t k a < 4 ^ (k + t) := by
  intro t
  induction t with
  | zero => intro k a h; exact h
  | succ t ih =>
    intro k a h
    simp only [dropA]
    rw [show k + (t + 1) = (k + 1) + t by omega]
    refine ih (k + 1) _ ?_
    have := dg_lt r (L - 1 - k)
    rw [Nat.pow_succ]
    split <;> omega
theorem sw_lt (d : Nat) (h : d < 4) : sw d < 4 := by unfold sw; split; omega; split <;> omega
theorem p4_le {k : Nat} (h : k ≤ 8) : 4 ^ k ≤ 65536 := Nat.le_trans (Nat.pow_le_pow_right (by omega) h) (show (4 : Nat) ^ 8 ≤ 65536 by decide)
theorem nI_sub {a b : Nat} (h : b ≤ a) : nI a - nI b = nI (a - b) := pk_sub h
set_option maxHeartbeats 1000000 in
theorem lp_length {S : Scr} {d : Nat} {f : FF} {g : GG} {n : Nat} {r : Nat} (hr : r < 2 ^ 31) : ∀ (t : Nat) (j : Nat), (t + j = 8) → Wp S d 86 2 [some (.int (nI r)), some (.int (nI j))] [] n f g (Is (some (.int (nI (rlA r t j)))) n f g) := by
  intro t
  induction t with
  | zero =>
    intro j e0
    refine w_iload_n k86_2 rfl ?_
    refine w_bipush k86_3 ?_
    refine w_icmp_ge k86_5 (fun h5 => ?_) (fun h5 => absurd (nI_le (a := 8) (by omega) (by omega)) h5)
    refine w_iload_n k86_22 rfl ?_
    refine w_iret k86_23 mt86 (.int) rfl (rfl) ?_
    rw [show rlA r 0 j = j from rfl]
    exact ⟨rfl, rfl, rfl, rfl⟩
  | succ t ih =>
    intro j e0
    refine w_iload_n k86_2 rfl ?_
    refine w_bipush k86_3 ?_
    refine w_icmp_ge k86_5 (fun h5 => absurd h5 ((nI_ge (b := 8) (by omega) (by omega)))) (fun h5 => ?_)
    refine w_iload_n k86_8 rfl ?_
    refine w_iconst k86_9 ?_
    refine w_iload_n k86_10 rfl ?_
    refine w_imul k86_11 ?_
    refine w_top (nI (2 * j)) (pk_mul 2 j) ?_
    refine w_ishr k86_12 ?_
    rw [shr_n hr (by omega), pow4]
    refine w_if_le k86_13 (fun h13 => ?_) (fun h13 => ?_)
    ·
      have hz : r / 4 ^ j = 0 := by
        have := (nI_leI (a := r / 4 ^ j) (b := 0) (Nat.lt_of_le_of_lt (Nat.div_le_self _ _) hr) (by omega)).mp h13
        exact Nat.le_zero.mp this
      refine w_iload_n k86_22 rfl ?_
      refine w_iret k86_23 mt86 (.int) rfl (rfl) ?_
      rw [show rlA r (t + 1) j = j from if_pos hz]
      exact ⟨rfl, rfl, rfl, rfl⟩
    ·
      have hz : ¬ r / 4 ^ j = 0 := fun hh => h13 (by rw [hh]; decide)
      refine w_iinc k86_16 rfl (ls' := [_, _]) rfl ?_
      refine w_goto k86_19 ?_
      rw [nI_1]
      have := ih (j + 1) (by omega)
      rw [show rlA r (t + 1) j = rlA r t (j + 1) from if_neg hz]
      exact this
set_option maxHeartbeats 1000000 in
theorem sp_length {S : Scr} {d : Nat} {f : FF} {g : GG} {n : Nat} {r : Nat} (hr : r < 2 ^ 31) : Wp S d 86 0 [some (.int (nI r)), none] [] n f g (Is (some (.int (nI (rlen r)))) n f g) := by
  refine w_iconst k86_0 ?_
  refine w_istore_n k86_1 (ls' := [_, _]) rfl ?_
  exact lp_length hr 8 0 rfl
set_option maxHeartbeats 1000000 in
theorem sp_stitch {S : Scr} {d : Nat} {f : FF} {g : GG} {n : Nat} {r i : Nat} (hr : r < 2 ^ 31) (hi : i < 16) : Wp S d 87 0 [some (.int (nI r)), some (.int (nI i))] [] n f g (Is (some (.int (nI (dg r i)))) n f g) := by
  refine w_iload_n k87_0 rfl ?_
  refine w_iconst k87_1 ?_
  refine w_iload_n k87_2 rfl ?_
  refine w_imul k87_3 ?_
  refine w_top (nI (2 * i)) (pk_mul 2 i) ?_
  refine w_ishr k87_4 ?_
  rw [shr_n hr (by omega), pow4]
  refine w_iconst k87_5 ?_
  refine w_iand k87_6 ?_
  rw [and_n (k := 2) (Nat.lt_of_le_of_lt (Nat.div_le_self _ _) (by omega)) 3 (by decide)]
  refine w_iret k87_7 mt87 (.int) rfl (rfl) ?_
  exact ⟨rfl, rfl, rfl, rfl⟩
set_option maxHeartbeats 1000000 in
theorem sp_with {S : Scr} {d : Nat} {f : FF} {g : GG} {n : Nat} {r i : Nat} : Wp S d 27 0 [some (.int (nI r)), some (.int (nI i))] [] n f g (Is (some (.int (nI (r * 4 + i)))) n f g) := by
  refine w_iload_n k27_0 rfl ?_
  refine w_iconst k27_1 ?_
  refine w_imul k27_2 ?_
  refine w_top (nI (r * 4)) (pk_mul r 4) ?_
  refine w_iload_n k27_3 rfl ?_
  refine w_iadd k27_4 ?_
  rw [nI_add]
  refine w_iret k27_5 mt27 (.int) rfl (rfl) ?_
  exact ⟨rfl, rfl, rfl, rfl⟩
set_option maxHeartbeats 1000000 in
theorem lp_isRow {S : Scr} {d : Nat} {f : FF} {g : GG} {n : Nat} {r : Nat} (hr : r < 2 ^ 31) : ∀ (t : Nat) , (t ≤ 8) → Wp S (d + 1) 88 19 [some (.int (nI r)), some (.int (nI t + (-1)))] [] n f g (Is (some (.int (bI (allD r t)))) n f g) := by
  intro t
  induction t with
  | zero =>
    intro  e0
    refine w_iload_n k88_19 rfl ?_
    refine w_if_lt k88_20 (fun h20 => ?_) (fun h20 => absurd ((by decide : (nI 0 + (-1) : Int32) < 0)) h20)
    refine w_iconst k88_39 ?_
    refine w_iret k88_40 mt88 (.boolean) rfl (rfl) ?_
    exact ⟨rfl, rfl, rfl, rfl⟩
  | succ t ih =>
    intro  e0
    rw [pk_m1]
    refine w_iload_n k88_19 rfl ?_
    refine w_if_lt k88_20 (fun h20 => absurd h20 (nI_pos (by omega))) (fun h20 => ?_)
    refine w_iload_n k88_23 rfl ?_
    refine w_iload_n k88_24 rfl ?_
    refine w_sI k88_25 (by decide) mt87 [_, _] rfl rfl rfl (sp_stitch hr (by omega)) ?_
    refine w_if_ne k88_28 (fun h28 => ?_) (fun h28 => ?_)
    ·
      have hz : dg r t ≠ 0 := fun hh => h28 (by rw [hh]; rfl)
      refine w_iinc k88_33 rfl (ls' := [_, _]) rfl ?_
      refine w_goto k88_36 ?_
      have := ih (by omega)
      rw [show allD r (t + 1) = allD r t from by simp [allD, hz]]
      exact this
    ·
      have hz : dg r t = 0 := by
        have := dg_lt r t
        exact (nI_eq (b := 0) (by omega) (by omega)).mp h28
      refine w_iconst k88_31 ?_
      refine w_iret k88_32 mt88 (.boolean) rfl (rfl) ?_
      rw [show allD r (t + 1) = false from by simp [allD, hz]]
      exact ⟨rfl, rfl, rfl, rfl⟩
theorem int_row {x : Int32} (h : 1 ≤ x ∧ x ≤ 65535) : ∃ r, 1 ≤ r ∧ r ≤ 65535 ∧ x = nI r := by
  have h0 : ¬ x < 0 := fun hh => absurd (Int32.lt_of_le_of_lt h.1 hh) (by decide)
  obtain ⟨j, hj, rfl⟩ := nI_of2 (M := 65535) (n := 65535) (by decide) h0 h.2
  have := (nI_leI (a := 1) (b := j) (by omega) (by omega)).mp h.1
  exact ⟨j, this, hj, rfl⟩
set_option maxHeartbeats 1000000 in
theorem sp_isRow {S : Scr} {d : Nat} {f : FF} {g : GG} {n : Nat} (x : Int32) : Wp S (d + 1) 88 0 [some (.int x), none] [] n f g (Is (some (.int (bI (isRowI x)))) n f g) := by
  refine w_iload_n k88_0 rfl ?_
  refine w_iconst k88_1 ?_
  refine w_ldc k88_2 ?_
  refine w_sI k88_4 (by decide) mt22 [_, _, _] rfl rfl rfl (sp_isBetween _ _ _) ?_
  refine w_if_ne k88_7 (fun h7 => ?_) (fun h7 => ?_)
  ·
    have hx : 1 ≤ x ∧ x ≤ 65535 := by
      by_cases hh : 1 ≤ x ∧ x ≤ 65535
      · exact hh
      · exact absurd (by simp [bI, hh]) h7
    obtain ⟨r, hr1, hr2, rfl⟩ := int_row hx
    refine w_iload_n k88_12 rfl ?_
    refine w_sI k88_13 (by decide) mt86 [_] rfl rfl rfl (sp_length (by omega)) ?_
    refine w_iconst k88_16 ?_
    refine w_isub k88_17 ?_
    refine w_top (nI (rlen r) + (-1)) (by rw [Int32.sub_eq_add_neg]) ?_
    refine w_istore_n k88_18 (ls' := [_, _]) rfl ?_
    have e : isRowI (nI r) = allD r (rlen r) := by unfold isRowI; rw [nI_clamp (by omega), decide_eq_true hx, Bool.true_and]
    rw [e]
    exact lp_isRow (by omega) _ (rlen_le r)
  ·
    have hx : ¬ (1 ≤ x ∧ x ≤ 65535) := fun hh => by simp [bI, hh] at h7
    refine w_iconst k88_10 ?_
    refine w_iret k88_11 mt88 (.boolean) rfl (rfl) ?_
    rw [show isRowI x = false from by unfold isRowI; rw [decide_eq_false hx, Bool.false_and]]
    exact ⟨rfl, rfl, rfl, rfl⟩
def isRow0 (x : Int32) : Bool := decide (x = 0) || isRowI x
theorem nar_b (b : Bool) : narrow .boolean (.int (bI b)) = .int (bI b) := by cases b <;> rfl
theorem bI_0 {b : Bool} : bI b = 0 ↔ b = false := by cases b <;> simp [bI]
theorem bI_n0 {b : Bool} : ¬ bI b = 0 ↔ b = true := by cases b <;> simp [bI]
set_option maxHeartbeats 1000000 in
theorem sp_isRowOrEmpty {S : Scr} {d : Nat} {f : FF} {g : GG} {n : Nat} (x : Int32) : Wp S (d + 2) 89 0 [some (.int x)] [] n f g (Is (some (.int (bI (isRow0 x)))) n f g) := by
  refine w_iload_n k89_0 rfl ?_
  refine w_if_eq k89_1 (fun h1 => ?_) (fun h1 => ?_)
  ·
    refine w_iconst k89_11 ?_
    refine w_goto k89_12 ?_
    refine w_iret k89_16 mt89 (.boolean) rfl (rfl) ?_
    refine ⟨?_, rfl, rfl, rfl⟩
    first
      | (rw [bI_0] at h8; simp [isRow0, bI, *]; done)
      | (rw [bI_n0] at h8; simp [isRow0, bI, *]; done)
      | (simp [isRow0, bI, *]; done)
  ·
    refine w_iload_n k89_4 rfl ?_
    refine w_sI k89_5 (by decide) mt88 [_] rfl rfl rfl (sp_isRow _) ?_
    refine w_if_eq k89_8 (fun h8 => ?_) (fun h8 => ?_)
    ·
      refine w_iconst k89_15 ?_
      refine w_iret k89_16 mt89 (.boolean) rfl (rfl) ?_
      refine ⟨?_, rfl, rfl, rfl⟩
      first
        | (rw [bI_0] at h8; simp [isRow0, bI, *]; done)
        | (rw [bI_n0] at h8; simp [isRow0, bI, *]; done)
        | (simp [isRow0, bI, *]; done)
    ·
      refine w_iconst k89_11 ?_
      refine w_goto k89_12 ?_
      refine w_iret k89_16 mt89 (.boolean) rfl (rfl) ?_
      refine ⟨?_, rfl, rfl, rfl⟩
      first
        | (rw [bI_0] at h8; simp [isRow0, bI, *]; done)
        | (rw [bI_n0] at h8; simp [isRow0, bI, *]; done)
        | (simp [isRow0, bI, *]; done)
