/-! SPECS, 13: the reader, letters and numbers -/
def setP (f : FF) (p : Nat) : FF := fup f 1 3 (nI p)
theorem setP_setP {f : FF} {p q : Nat} : fup (setP f p) 1 3 (nI q) = setP f q := by
  funext x y
  unfold setP fup
  by_cases h : x = 1 ∧ y = 3
  · rw [if_pos h, if_pos h]
  · rw [if_neg h, if_neg h, if_neg h]
theorem setP_at {f : FF} {p : Nat} : setP f p 1 3 = nI p := fup_self
theorem setP_no {f : FF} {p x : Nat} (h : x ≠ 1) : setP f p x = f x := by funext y; exact fup_no h
theorem CLe.setP {f : FF} {tx : Nat → Nat} {tl p : Nat} (h : CLe f tx tl) : CLe (setP f p) tx tl := ⟨by rw [setP_no (by omega)]; exact h.1, h.2.1, fun i hi => by rw [setP_no (by omega)]; exact h.2.2 i hi⟩
theorem CVa.setP {f : FF} {V : Va} {p v : Nat} (h : CVa f v V) (hv : 4 ≤ v) : CVa (setP f p) v V := h.off (setP_no (by omega)) (setP_no (by omega)) (setP_no (by omega)) (setP_no (by omega))
theorem CMo.setP {f : FF} {M : Nat → Nat → Nat} {p a : Nat} (h : CMo f a M) (ha : 4 ≤ a) : CMo (setP f p) a M := ⟨by rw [setP_no (by omega)]; exact h.1, by rw [setP_no (by omega)]; exact h.2.1, by rw [setP_no (by omega)]; exact h.2.2.1, fun m hm k hk => by rw [setP_no (by omega)]; exact h.2.2.2 m hm k hk⟩
def isD (c : Nat) : Bool := decide (48 ≤ c ∧ c ≤ 57)
/-- a number of one or two figures at p -/
def num (tx : Nat → Nat) (tl p : Nat) : Option (Nat × Nat) := if isD (ch tx tl p) = true then (if isD (ch tx tl (p + 1)) = true then some ((ch tx tl p - 48) * 10 + (ch tx tl (p + 1) - 48), p + 2) else some (ch tx tl p - 48, p + 1)) else none
def nv (tx : Nat → Nat) (tl p : Nat) : Int32 := match num tx tl p with
  | some q => nI q.1
  | none => -1
def np (tx : Nat → Nat) (tl p : Nat) : Nat := match num tx tl p with
  | some q => q.2
  | none => p
def fgV (tx : Nat → Nat) (tl p : Nat) : Int32 := if isD (ch tx tl p) = true then nI (ch tx tl p - 48) else -1
def fgP (tx : Nat → Nat) (tl p : Nat) : Nat := if isD (ch tx tl p) = true then p + 1 else p
def stt (c : Nat) : Nat := if c = 112 then 1 else if c = 117 then 2 else if c = 115 then 3 else 0
def rowP (tx : Nat → Nat) (tl : Nat) : Nat → Nat → Nat → Nat × Nat
  | 0, p, r => (r, p)
  | t + 1, p, r => if stt (ch tx tl p) = 0 then (r, p) else rowP tx tl t (p + 1) (r * 4 + stt (ch tx tl p))
theorem rowP_s {tx : Nat → Nat} {tl t p r s : Nat} (h : stt (ch tx tl p) = s) (hs : s ≠ 0) : rowP tx tl (t + 1) p r = rowP tx tl t (p + 1) (r * 4 + s) := by
  subst h
  exact if_neg hs
/-- the text's signs -/
def TxOk (tx : Nat → Nat) (tl : Nat) : Prop := ∀ i, i < tl → 32 ≤ tx i ∧ tx i ≤ 126
theorem ch_lt {tx : Nat → Nat} {tl : Nat} (h : TxOk tx tl) (p : Nat) : ch tx tl p < 127 := by
  unfold ch
  split
  · have := h p (by assumption); omega
  · omega
theorem isD_I {c : Nat} (h : c < 127) : decide ((48 : Int32) ≤ nI c ∧ nI c ≤ 57) = isD c := by
  unfold isD
  congr 1
  rw [show (48 : Int32) = nI 48 from rfl, show (57 : Int32) = nI 57 from rfl, nI_leI (by omega) (by omega), nI_leI (by omega) (by omega)]
theorem ch_in {tx : Nat → Nat} {tl p : Nat} (h : ch tx tl p ≠ 0) : p < tl := by
  unfold ch at h
  split at h
  · assumption
  · exact absurd rfl h
set_option maxHeartbeats 1000000 in
theorem sp_takes {S : Scr} {d : Nat} {f : FF} {g : GG} {n tl p : Nat} {tx : Nat → Nat} (hn : 137 ≤ n) (G : GOk g) (hL : CLe f tx tl) (hT : TxOk tx tl) (hp : p ≤ 200) {c : Nat} (hc : c < 127) : Wp S (d + 1) 21 0 [some (.ref 1), some (.int (nI c))] [] n (setP f p) g (Is (some (.int (bI (decide (ch tx tl p = c))))) n (setP f (if ch tx tl p = c then p + 1 else p)) g) := by
  refine w_aload_n k21_0 rfl rfl ?_
  refine w_getr k21_1 (k := 0) (kc1 hn) (by decide) (r1_0 G) ?_
  refine w_aload_n k21_4 rfl rfl ?_
  refine w_geti k21_5 (k := 3) (kc1 hn) (by decide) ?_
  rw [setP_at]
  refine w_vI k21_8 mt20 (kc2 hn) ⟨rfl, by decide⟩ [_] rfl rfl rfl (sp_Lget hn G hL.setP (by omega)) ?_
  refine w_iload_n k21_11 rfl ?_
  have hcl := ch_lt hT p
  refine w_icmp_eq k21_12 (fun h12 => ?_) (fun h12 => ?_)
  ·
    have hz : ch tx tl p = c := (nI_eq (by omega) (by omega)).mp h12
    refine w_aload_n k21_17 rfl rfl ?_
    refine w_dup k21_18 rfl ?_
    refine w_geti k21_19 (k := 3) (kc1 hn) (by decide) ?_
    rw [setP_at]
    refine w_iconst k21_22 ?_
    refine w_iadd k21_23 ?_
    refine w_top (nI (p + 1)) (nI_1 _) ?_
    refine w_puti k21_24 (k := 3) (kc1 hn) (by decide) ?_
    refine w_iconst k21_27 ?_
    refine w_iret k21_28 mt21 (.boolean) rfl (rfl) ?_
    first
      | (rw [decide_eq_true hz, if_pos hz]; exact ⟨rfl, rfl, setP_setP, rfl⟩)
      | (rw [decide_eq_false hz, if_neg hz]; exact ⟨rfl, rfl, rfl, rfl⟩)
  ·
    have hz : ¬ ch tx tl p = c := fun hh => h12 (by rw [hh])
    refine w_iconst k21_15 ?_
    refine w_iret k21_16 mt21 (.boolean) rfl (rfl) ?_
    first
      | (rw [decide_eq_true hz, if_pos hz]; exact ⟨rfl, rfl, setP_setP, rfl⟩)
      | (rw [decide_eq_false hz, if_neg hz]; exact ⟨rfl, rfl, rfl, rfl⟩)
theorem isD_in {tx : Nat → Nat} {tl p : Nat} (h : isD (ch tx tl p) = true) : p < tl ∧ 48 ≤ ch tx tl p ∧ ch tx tl p ≤ 57 := by
  have h2 := of_decide_eq_true h
  have h3 : ch tx tl p ≠ 0 := by intro hh; rw [hh] at h2; omega
  exact ⟨ch_in h3, h2.1, h2.2⟩
theorem fgV_pos {tx : Nat → Nat} {tl p : Nat} (h : 0 ≤ fgV tx tl p) : isD (ch tx tl p) = true := by
  unfold fgV at h
  split at h
  · assumption
  · exact absurd h (by decide)
theorem fgV_neg {tx : Nat → Nat} {tl p : Nat} (h : ¬ 0 ≤ fgV tx tl p) : isD (ch tx tl p) = false := by
  unfold fgV at h
  split at h
  · rename_i hd
    have := isD_in hd
    exact absurd (nI_pos' (n := ch tx tl p - 48) (by omega)) h
  · rename_i hd
    cases hb : isD (ch tx tl p) with
    | true => exact absurd hb hd
    | false => rfl
set_option maxHeartbeats 1000000 in
theorem sp_figure {S : Scr} {d : Nat} {f : FF} {g : GG} {n tl p : Nat} {tx : Nat → Nat} (hn : 137 ≤ n) (G : GOk g) (hL : CLe f tx tl) (hT : TxOk tx tl) (hp : p ≤ 200) : Wp S (d + 1) 23 0 [some (.ref 1), none] [] n (setP f p) g (Is (some (.int (fgV tx tl p))) n (setP f (fgP tx tl p)) g) := by
  refine w_aload_n k23_0 rfl rfl ?_
  refine w_getr k23_1 (k := 0) (kc1 hn) (by decide) (r1_0 G) ?_
  refine w_aload_n k23_4 rfl rfl ?_
  refine w_geti k23_5 (k := 3) (kc1 hn) (by decide) ?_
  rw [setP_at]
  refine w_vI k23_8 mt20 (kc2 hn) ⟨rfl, by decide⟩ [_] rfl rfl rfl (sp_Lget hn G hL.setP (by omega)) ?_
  refine w_istore_n k23_11 (ls' := [_, _]) rfl ?_
  refine w_iload_n k23_12 rfl ?_
  refine w_bipush k23_13 ?_
  refine w_bipush k23_15 ?_
  refine w_sI k23_17 (by decide) mt22 [_, _, _] rfl rfl rfl (sp_isBetween _ _ _) ?_
  rw [isD_I (ch_lt hT p)]
  refine w_if_ne k23_20 (fun h20 => ?_) (fun h20 => ?_)
  ·
    have hz := bI_n0.mp h20
    have hi := isD_in hz
    have h200 := hL.2.1
    refine w_aload_n k23_25 rfl rfl ?_
    refine w_dup k23_26 rfl ?_
    refine w_geti k23_27 (k := 3) (kc1 hn) (by decide) ?_
    rw [setP_at]
    refine w_iconst k23_30 ?_
    refine w_iadd k23_31 ?_
    refine w_top (nI (p + 1)) (nI_1 _) ?_
    refine w_puti k23_32 (k := 3) (kc1 hn) (by decide) ?_
    refine w_iload_n k23_35 rfl ?_
    refine w_bipush k23_36 ?_
    refine w_isub k23_38 ?_
    refine w_top (nI (ch tx tl p - 48)) (pk_sub (b := 48) (by omega)) ?_
    refine w_iret k23_39 mt23 (.int) rfl (rfl) ?_
    unfold fgV fgP
    rw [hz]
    first
      | exact ⟨rfl, rfl, setP_setP, rfl⟩
      | exact ⟨rfl, rfl, rfl, rfl⟩
  ·
    have hz := bI_0.mp h20
    refine w_iconst k23_23 ?_
    refine w_iret k23_24 mt23 (.int) rfl (rfl) ?_
    unfold fgV fgP
    rw [hz]
    first
      | exact ⟨rfl, rfl, setP_setP, rfl⟩
      | exact ⟨rfl, rfl, rfl, rfl⟩
set_option maxHeartbeats 1000000 in
theorem sp_number {S : Scr} {d : Nat} {f : FF} {g : GG} {n tl p : Nat} {tx : Nat → Nat} (hn : 137 ≤ n) (G : GOk g) (hL : CLe f tx tl) (hT : TxOk tx tl) (hp : p ≤ 200) : Wp S (d + 2) 24 0 [some (.ref 1), none, none] [] n (setP f p) g (Is (some (.int (nv tx tl p))) n (setP f (np tx tl p)) g) := by
  refine w_aload_n k24_0 rfl rfl ?_
  refine w_vI k24_1 mt23 (kc1 hn) ⟨rfl, by decide⟩ [] rfl rfl rfl (sp_figure hn G hL hT hp) ?_
  refine w_istore_n k24_4 (ls' := [_, _, _]) rfl ?_
  refine w_iload_n k24_5 rfl ?_
  refine w_if_ge k24_6 (fun h6 => ?_) (fun h6 => ?_)
  ·
    have hz := fgV_pos h6
    have hi := isD_in hz
    have h200 := hL.2.1
    rw [show fgV tx tl p = nI (ch tx tl p - 48) from if_pos hz, show fgP tx tl p = p + 1 from if_pos hz]
    refine w_aload_n k24_11 rfl rfl ?_
    refine w_vI k24_12 mt23 (kc1 hn) ⟨rfl, by decide⟩ [] rfl rfl rfl (sp_figure hn G hL hT (p := p + 1) (by omega)) ?_
    refine w_istore_n k24_15 (ls' := [_, _, _]) rfl ?_
    refine w_iload_n k24_16 rfl ?_
    refine w_if_ge k24_17 (fun h17 => ?_) (fun h17 => ?_)
    ·
      have hz2 := fgV_pos h17
      have hi2 := isD_in hz2
      rw [show fgV tx tl (p + 1) = nI (ch tx tl (p + 1) - 48) from if_pos hz2, show fgP tx tl (p + 1) = p + 2 from if_pos hz2]
      refine w_iload_n k24_24 rfl ?_
      refine w_bipush k24_25 ?_
      refine w_imul k24_27 ?_
      refine w_top (nI ((ch tx tl p - 48) * 10)) (pk_mul _ 10) ?_
      refine w_iload_n k24_28 rfl ?_
      refine w_iadd k24_29 ?_
      rw [nI_add]
      refine w_iret k24_30 mt24 (.int) rfl (rfl) ?_
      unfold nv np num
      rw [hz]
      first
        | (rw [hz2]; exact ⟨rfl, rfl, rfl, rfl⟩)
        | exact ⟨rfl, rfl, rfl, rfl⟩
    ·
      have hz2 := fgV_neg h17
      rw [show fgP tx tl (p + 1) = p + 1 from if_neg (by rw [hz2]; decide)]
      refine w_iload_n k24_20 rfl ?_
      refine w_goto k24_21 ?_
      refine w_iret k24_30 mt24 (.int) rfl (rfl) ?_
      unfold nv np num
      rw [hz]
      first
        | (rw [hz2]; exact ⟨rfl, rfl, rfl, rfl⟩)
        | exact ⟨rfl, rfl, rfl, rfl⟩
  ·
    have hz := fgV_neg h6
    rw [show fgP tx tl p = p from if_neg (by rw [hz]; decide)]
    refine w_iconst k24_9 ?_
    refine w_iret k24_10 mt24 (.int) rfl (rfl) ?_
    unfold nv np num
    rw [hz]
    first
      | (rw [hz2]; exact ⟨rfl, rfl, rfl, rfl⟩)
      | exact ⟨rfl, rfl, rfl, rfl⟩
theorem nv_neg {tx : Nat → Nat} {tl p : Nat} (h200 : tl ≤ 200) (hT : TxOk tx tl) : (nv tx tl p < 0 ∧ num tx tl p = none ∧ np tx tl p = p) ∨ (∃ v, num tx tl p = some (v, np tx tl p) ∧ nv tx tl p = nI v ∧ v < 100 ∧ np tx tl p ≤ tl ∧ p < np tx tl p) := by
  unfold nv np num
  cases hz : isD (ch tx tl p) with
  | false => exact Or.inl ⟨by show (-1 : Int32) < 0; decide, rfl, rfl⟩
  | true =>
    have h1 := isD_in hz
    cases hz2 : isD (ch tx tl (p + 1)) with
    | false => exact Or.inr ⟨ch tx tl p - 48, rfl, rfl, by omega, by show p + 1 ≤ tl; omega, by show p < p + 1; omega⟩
    | true =>
      have h2 := isD_in hz2
      exact Or.inr ⟨(ch tx tl p - 48) * 10 + (ch tx tl (p + 1) - 48), rfl, rfl, by omega, by show p + 2 ≤ tl; omega, by show p < p + 2; omega⟩
set_option maxHeartbeats 1000000 in
theorem row50n {S : Scr} {d : Nat} {f : FF} {g : GG} {n p r i s : Nat} {q : Option Value} {P : Option Value → Nat → FF → GG → Prop} (hs0 : s ≠ 0) (hs : s < 4) (hk : Wp S (d + 2) 28 4 [some (.ref 1), some (.int (nI (r * 4 + s))), some (.int (nI i + 1)), some (.int (nI s))] [] n (setP f p) g P) : Wp S (d + 2) 28 50 [some (.ref 1), some (.int (nI r)), some (.int (nI i)), q] [.int (nI s)] n (setP f p) g (P) := by
  refine w_istore_n k28_50 (ls' := [_, _, _, _]) rfl ?_
  refine w_iload_n k28_51 rfl ?_
  refine w_if_ne k28_52 (fun h52 => ?_) (fun h52 => absurd h52 (nI_ne0 (by omega) (by omega)))
  refine w_iload_n k28_57 rfl ?_
  refine w_iload_n k28_58 rfl ?_
  refine w_sI k28_59 (by decide) mt27 [_, _] rfl rfl rfl sp_with ?_
  refine w_istore_n k28_62 (ls' := [_, _, _, _]) rfl ?_
  refine w_iinc k28_63 rfl (ls' := [_, _, _, _]) rfl ?_
  refine w_goto k28_66 ?_
  exact hk
set_option maxHeartbeats 1000000 in
theorem row50z {S : Scr} {d : Nat} {f : FF} {g : GG} {n p r i : Nat} {q : Option Value} {P : Option Value → Nat → FF → GG → Prop} (hk : P (some (.int (nI r))) n (setP f p) g) : Wp S (d + 2) 28 50 [some (.ref 1), some (.int (nI r)), some (.int (nI i)), q] [.int 0] n (setP f p) g (P) := by
  refine w_istore_n k28_50 (ls' := [_, _, _, _]) rfl ?_
  refine w_iload_n k28_51 rfl ?_
  refine w_if_ne k28_52 (fun h52 => absurd (rfl) h52) (fun h52 => ?_)
  refine w_iload_n k28_55 rfl ?_
  refine w_iret k28_56 mt28 (.int) rfl (rfl) ?_
  exact hk
set_option maxHeartbeats 1000000 in
theorem lp_row {S : Scr} {d : Nat} {f : FF} {g : GG} {n tl : Nat} {tx : Nat → Nat} (hn : 137 ≤ n) (G : GOk g) (hL : CLe f tx tl) (hT : TxOk tx tl) : ∀ (t : Nat) (p r i : Nat) (q : Option Value), (t + i = 8) → (p ≤ 200) → Wp S (d + 2) 28 4 [some (.ref 1), some (.int (nI r)), some (.int (nI i)), q] [] n (setP f p) g (Is (some (.int (nI (rowP tx tl t p r).1))) n (setP f (rowP tx tl t p r).2) g) := by
  intro t
  induction t with
  | zero =>
    intro p r i q e0 e1
    refine w_iload_n k28_4 rfl ?_
    refine w_bipush k28_5 ?_
    refine w_icmp_ge k28_7 (fun h7 => ?_) (fun h7 => absurd (nI_le (a := 8) (by omega) (by omega)) h7)
    refine w_iload_n k28_69 rfl ?_
    refine w_iret k28_70 mt28 (.int) rfl (rfl) ?_
    exact ⟨rfl, rfl, rfl, rfl⟩
  | succ t ih =>
    intro p r i q e0 e1
    refine w_iload_n k28_4 rfl ?_
    refine w_bipush k28_5 ?_
    have h200 := hL.2.1
    refine w_icmp_ge k28_7 (fun h7 => absurd h7 (nI_ge (b := 8) (by omega) (by omega))) (fun h7 => ?_)
    refine w_aload_n k28_10 rfl rfl ?_
    refine w_bipush k28_11 ?_
    refine w_vI k28_13 mt21 (kc1 hn) ⟨rfl, by decide⟩ [_] rfl rfl rfl (sp_takes hn G hL hT e1 (c := 112) (by omega)) ?_
    refine w_if_eq k28_16 (fun h16 => ?_) (fun h16 => ?_)
    ·
      have z1 := of_decide_eq_false (bI_0.mp h16)
      rw [if_neg z1]
      refine w_aload_n k28_23 rfl rfl ?_
      refine w_bipush k28_24 ?_
      refine w_vI k28_26 mt21 (kc1 hn) ⟨rfl, by decide⟩ [_] rfl rfl rfl (sp_takes hn G hL hT e1 (c := 117) (by omega)) ?_
      refine w_if_eq k28_29 (fun h29 => ?_) (fun h29 => ?_)
      ·
        have z2 := of_decide_eq_false (bI_0.mp h29)
        rw [if_neg z2]
        refine w_aload_n k28_36 rfl rfl ?_
        refine w_bipush k28_37 ?_
        refine w_vI k28_39 mt21 (kc1 hn) ⟨rfl, by decide⟩ [_] rfl rfl rfl (sp_takes hn G hL hT e1 (c := 115) (by omega)) ?_
        refine w_if_eq k28_42 (fun h42 => ?_) (fun h42 => ?_)
        ·
          have z3 := of_decide_eq_false (bI_0.mp h42)
          rw [if_neg z3]
          refine w_iconst k28_49 ?_
          first
            | (have e : stt (ch tx tl p) = 1 := by unfold stt; rw [if_pos z1]
               have h0 : ch tx tl p ≠ 0 := by omega
               have hin : p < tl := ch_in h0
               rw [show rowP tx tl (t + 1) p r = rowP tx tl t (p + 1) (r * 4 + 1) from rowP_s e (by omega)]
               refine row50n (s := 1) (by omega) (by omega) ?_
               rw [nI_1]
               exact ih (p + 1) _ (i + 1) _ (by omega) (by omega))
            | (have e : stt (ch tx tl p) = 2 := by unfold stt; rw [if_neg z1, if_pos z2]
               have h0 : ch tx tl p ≠ 0 := by omega
               have hin : p < tl := ch_in h0
               rw [show rowP tx tl (t + 1) p r = rowP tx tl t (p + 1) (r * 4 + 2) from rowP_s e (by omega)]
               refine row50n (s := 2) (by omega) (by omega) ?_
               rw [nI_1]
               exact ih (p + 1) _ (i + 1) _ (by omega) (by omega))
            | (have e : stt (ch tx tl p) = 3 := by unfold stt; rw [if_neg z1, if_neg z2, if_pos z3]
               have h0 : ch tx tl p ≠ 0 := by omega
               have hin : p < tl := ch_in h0
               rw [show rowP tx tl (t + 1) p r = rowP tx tl t (p + 1) (r * 4 + 3) from rowP_s e (by omega)]
               refine row50n (s := 3) (by omega) (by omega) ?_
               rw [nI_1]
               exact ih (p + 1) _ (i + 1) _ (by omega) (by omega))
            | (have e : stt (ch tx tl p) = 0 := by unfold stt; rw [if_neg z1, if_neg z2, if_neg z3]
               rw [show rowP tx tl (t + 1) p r = (r, p) from if_pos e]
               exact row50z ⟨rfl, rfl, rfl, rfl⟩)
        ·
          have z3 := of_decide_eq_true (bI_n0.mp h42)
          rw [if_pos z3]
          refine w_iconst k28_45 ?_
          refine w_goto k28_46 ?_
          first
            | (have e : stt (ch tx tl p) = 1 := by unfold stt; rw [if_pos z1]
               have h0 : ch tx tl p ≠ 0 := by omega
               have hin : p < tl := ch_in h0
               rw [show rowP tx tl (t + 1) p r = rowP tx tl t (p + 1) (r * 4 + 1) from rowP_s e (by omega)]
               refine row50n (s := 1) (by omega) (by omega) ?_
               rw [nI_1]
               exact ih (p + 1) _ (i + 1) _ (by omega) (by omega))
            | (have e : stt (ch tx tl p) = 2 := by unfold stt; rw [if_neg z1, if_pos z2]
               have h0 : ch tx tl p ≠ 0 := by omega
               have hin : p < tl := ch_in h0
               rw [show rowP tx tl (t + 1) p r = rowP tx tl t (p + 1) (r * 4 + 2) from rowP_s e (by omega)]
               refine row50n (s := 2) (by omega) (by omega) ?_
               rw [nI_1]
               exact ih (p + 1) _ (i + 1) _ (by omega) (by omega))
            | (have e : stt (ch tx tl p) = 3 := by unfold stt; rw [if_neg z1, if_neg z2, if_pos z3]
               have h0 : ch tx tl p ≠ 0 := by omega
               have hin : p < tl := ch_in h0
               rw [show rowP tx tl (t + 1) p r = rowP tx tl t (p + 1) (r * 4 + 3) from rowP_s e (by omega)]
               refine row50n (s := 3) (by omega) (by omega) ?_
               rw [nI_1]
               exact ih (p + 1) _ (i + 1) _ (by omega) (by omega))
            | (have e : stt (ch tx tl p) = 0 := by unfold stt; rw [if_neg z1, if_neg z2, if_neg z3]
               rw [show rowP tx tl (t + 1) p r = (r, p) from if_pos e]
               exact row50z ⟨rfl, rfl, rfl, rfl⟩)
      ·
        have z2 := of_decide_eq_true (bI_n0.mp h29)
        rw [if_pos z2]
        refine w_iconst k28_32 ?_
        refine w_goto k28_33 ?_
        first
          | (have e : stt (ch tx tl p) = 1 := by unfold stt; rw [if_pos z1]
             have h0 : ch tx tl p ≠ 0 := by omega
             have hin : p < tl := ch_in h0
             rw [show rowP tx tl (t + 1) p r = rowP tx tl t (p + 1) (r * 4 + 1) from rowP_s e (by omega)]
             refine row50n (s := 1) (by omega) (by omega) ?_
             rw [nI_1]
             exact ih (p + 1) _ (i + 1) _ (by omega) (by omega))
          | (have e : stt (ch tx tl p) = 2 := by unfold stt; rw [if_neg z1, if_pos z2]
             have h0 : ch tx tl p ≠ 0 := by omega
             have hin : p < tl := ch_in h0
             rw [show rowP tx tl (t + 1) p r = rowP tx tl t (p + 1) (r * 4 + 2) from rowP_s e (by omega)]
             refine row50n (s := 2) (by omega) (by omega) ?_
             rw [nI_1]
             exact ih (p + 1) _ (i + 1) _ (by omega) (by omega))
          | (have e : stt (ch tx tl p) = 3 := by unfold stt; rw [if_neg z1, if_neg z2, if_pos z3]
             have h0 : ch tx tl p ≠ 0 := by omega
             have hin : p < tl := ch_in h0
             rw [show rowP tx tl (t + 1) p r = rowP tx tl t (p + 1) (r * 4 + 3) from rowP_s e (by omega)]
             refine row50n (s := 3) (by omega) (by omega) ?_
             rw [nI_1]
             exact ih (p + 1) _ (i + 1) _ (by omega) (by omega))
          | (have e : stt (ch tx tl p) = 0 := by unfold stt; rw [if_neg z1, if_neg z2, if_neg z3]
             rw [show rowP tx tl (t + 1) p r = (r, p) from if_pos e]
             exact row50z ⟨rfl, rfl, rfl, rfl⟩)
    ·
      have z1 := of_decide_eq_true (bI_n0.mp h16)
      rw [if_pos z1]
      refine w_iconst k28_19 ?_
      refine w_goto k28_20 ?_
      first
        | (have e : stt (ch tx tl p) = 1 := by unfold stt; rw [if_pos z1]
           have h0 : ch tx tl p ≠ 0 := by omega
           have hin : p < tl := ch_in h0
           rw [show rowP tx tl (t + 1) p r = rowP tx tl t (p + 1) (r * 4 + 1) from rowP_s e (by omega)]
           refine row50n (s := 1) (by omega) (by omega) ?_
           rw [nI_1]
           exact ih (p + 1) _ (i + 1) _ (by omega) (by omega))
        | (have e : stt (ch tx tl p) = 2 := by unfold stt; rw [if_neg z1, if_pos z2]
           have h0 : ch tx tl p ≠ 0 := by omega
           have hin : p < tl := ch_in h0
           rw [show rowP tx tl (t + 1) p r = rowP tx tl t (p + 1) (r * 4 + 2) from rowP_s e (by omega)]
           refine row50n (s := 2) (by omega) (by omega) ?_
           rw [nI_1]
           exact ih (p + 1) _ (i + 1) _ (by omega) (by omega))
        | (have e : stt (ch tx tl p) = 3 := by unfold stt; rw [if_neg z1, if_neg z2, if_pos z3]
           have h0 : ch tx tl p ≠ 0 := by omega
           have hin : p < tl := ch_in h0
           rw [show rowP tx tl (t + 1) p r = rowP tx tl t (p + 1) (r * 4 + 3) from rowP_s e (by omega)]
           refine row50n (s := 3) (by omega) (by omega) ?_
           rw [nI_1]
           exact ih (p + 1) _ (i + 1) _ (by omega) (by omega))
        | (have e : stt (ch tx tl p) = 0 := by unfold stt; rw [if_neg z1, if_neg z2, if_neg z3]
           rw [show rowP tx tl (t + 1) p r = (r, p) from if_pos e]
           exact row50z ⟨rfl, rfl, rfl, rfl⟩)
set_option maxHeartbeats 1000000 in
theorem sp_row {S : Scr} {d : Nat} {f : FF} {g : GG} {n tl p : Nat} {tx : Nat → Nat} (hn : 137 ≤ n) (G : GOk g) (hL : CLe f tx tl) (hT : TxOk tx tl) (hp : p ≤ 200) : Wp S (d + 2) 28 0 [some (.ref 1), none, none, none] [] n (setP f p) g (Is (some (.int (nI (rowP tx tl 8 p 0).1))) n (setP f (rowP tx tl 8 p 0).2) g) := by
  refine w_iconst k28_0 ?_
  refine w_istore_n k28_1 (ls' := [_, _, _, _]) rfl ?_
  refine w_iconst k28_2 ?_
  refine w_istore_n k28_3 (ls' := [_, _, _, _]) rfl ?_
  exact lp_row hn G hL hT 8 p 0 0 none rfl hp
