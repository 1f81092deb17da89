/-! SPECS, 38: the model reads -/
def setQ (f : FF) (p : Nat) : FF := fup f 137 2 (nI p)
theorem setQ_setQ {f : FF} {p q : Nat} : fup (setQ f p) 137 2 (nI q) = setQ f q := by
  funext x y
  unfold setQ fup
  by_cases h : x = 137 ∧ y = 2
  · rw [if_pos h, if_pos h]
  · rw [if_neg h, if_neg h, if_neg h]
theorem setQ_at {f : FF} {p : Nat} : setQ f p 137 2 = nI p := fup_self
theorem setQ_ne {f : FF} {p k : Nat} (h : k ≠ 2) : setQ f p 137 k = f 137 k := fup_ne h
theorem setQ_no {f : FF} {p x : Nat} (h : x ≠ 137) : setQ f p x = f x := by funext y; exact fup_no h
theorem setQ_id {f : FF} {p : Nat} (h : f 137 2 = nI p) : setQ f p = f := by
  funext x y
  unfold setQ fup
  split
  · rename_i hh
    rw [hh.1, hh.2, h]
  · rfl
theorem ch_le {tx : Nat → Nat} {tl p : Nat} (h : ¬ p < tl) : ch tx tl p = 0 := if_neg h
set_option maxHeartbeats 1000000 in
theorem mp_here {S : Scr} {d : Nat} {f : FF} {g : GG} {tl p : Nat} {tx : Nat → Nat} (G : GOm g) (hL : MLe f tx tl) (hT : TxOk tx tl) (hp : p ≤ 202) : Wp S d 64 0 [some (.ref 137)] [] 153 (setQ f p) g (Is (some (.int (nI (ch tx tl p)))) 153 (setQ f p) g) := by
  refine w_aload_n k64_0 rfl rfl ?_
  refine w_geti k64_1 (k := 2) kd137 (by decide) ?_
  rw [setQ_at]
  refine w_aload_n k64_4 rfl rfl ?_
  have h200 := hL.2.1
  refine w_geti k64_5 (k := 0) kd137 (by decide) ?_
  rw [setQ_ne (by omega), hL.1]
  refine w_icmp_ge k64_8 (fun h8 => ?_) (fun h8 => ?_)
  ·
    have hz : ¬ p < tl := fun hh => nI_ge hh (by omega) h8
    refine w_iconst k64_23 ?_
    refine w_iret k64_24 mt64 (.int) rfl (rfl) ?_
    first
      | (rw [show ch tx tl p = tx p from if_pos hz]; exact ⟨rfl, rfl, rfl, rfl⟩)
      | (rw [ch_le hz]; exact ⟨rfl, rfl, rfl, rfl⟩)
  ·
    have hz : p < tl := Nat.not_le.mp fun hh => h8 (nI_le hh (by omega))
    refine w_aload_n k64_11 rfl rfl ?_
    refine w_getr k64_12 (k := 1) kd137 (by decide) (r137_1 G) ?_
    refine w_aload_n k64_15 rfl rfl ?_
    refine w_geti k64_16 (k := 2) kd137 (by decide) ?_
    rw [setQ_at]
    refine w_iald k64_19 kd138 (nI_pos (by omega)) (nI_clamp (by omega)) (by omega) ?_
    rw [setQ_no (by omega), hL.2.2 p hz]
    refine w_goto k64_20 ?_
    refine w_iret k64_24 mt64 (.int) rfl (rfl) ?_
    first
      | (rw [show ch tx tl p = tx p from if_pos hz]; exact ⟨rfl, rfl, rfl, rfl⟩)
      | (rw [ch_le hz]; exact ⟨rfl, rfl, rfl, rfl⟩)
/-- a number with its end -/
def numE (tx : Nat → Nat) (tl p e : Nat) : Option (Nat × Nat) := match num tx tl p with
  | none => none
  | some (v, p1) => if ch tx tl p1 = e then some (v, p1 + 1) else none
def nE (tx : Nat → Nat) (tl p e : Nat) : Int32 := match numE tx tl p e with
  | some q => nI q.1
  | none => -1
theorem numE_in {tx : Nat → Nat} {tl p e v p1 : Nat} (he : e ≠ 0) (h : numE tx tl p e = some (v, p1)) : v < 100 ∧ p1 ≤ tl ∧ p < p1 := by
  unfold numE at h
  split at h
  · cases h
  · rename_i hn
    split at h
    · rename_i hc
      have h1 := num_in hn
      have h2 := Option.some.inj h
      have e1 := congrArg Prod.fst h2
      have e2 := congrArg Prod.snd h2
      have h3 := ch_in (by rw [hc]; exact he)
      simp only at e1 e2
      omega
    · cases h
theorem nE_T {tx : Nat → Nat} {tl p e : Nat} (he : e ≠ 0) (h : 0 ≤ nE tx tl p e) : ∃ v p1, numE tx tl p e = some (v, p1) ∧ nE tx tl p e = nI v ∧ v < 100 ∧ p1 ≤ tl ∧ p < p1 := by
  unfold nE at h ⊢
  cases hq : numE tx tl p e with
  | none => rw [hq] at h; exact absurd h (by decide)
  | some q => exact ⟨q.1, q.2, rfl, rfl, numE_in he hq⟩
theorem nE_F {tx : Nat → Nat} {tl p e : Nat} (he : e ≠ 0) (h : ¬ 0 ≤ nE tx tl p e) : numE tx tl p e = none := by
  cases hq : numE tx tl p e with
  | none => rfl
  | some q =>
    have := numE_in (v := q.1) (p1 := q.2) he hq
    refine absurd ?_ h
    unfold nE
    rw [hq]
    exact nI_pos' (by omega)
def NuQ (f : FF) (g : GG) (tx : Nat → Nat) (tl p e : Nat) : Option Value → Nat → FF → GG → Prop := fun v n' f' g' => v = some (.int (nE tx tl p e)) ∧ n' = 153 ∧ g' = g ∧ ∃ q, f' = setQ f q ∧ ∀ w, numE tx tl p e = some w → q = w.2
theorem NuQ.no {f : FF} {g : GG} {tx : Nat → Nat} {tl p e q : Nat} (h : numE tx tl p e = none) : NuQ f g tx tl p e (some (.int (-1))) 153 (setQ f q) g := by
  refine ⟨?_, rfl, rfl, q, rfl, fun w hw => by rw [h] at hw; cases hw⟩
  unfold nE
  rw [h]
theorem NuQ.yes {f : FF} {g : GG} {tx : Nat → Nat} {tl p e v p1 : Nat} (h : numE tx tl p e = some (v, p1)) : NuQ f g tx tl p e (some (.int (nI v))) 153 (setQ f p1) g := by
  refine ⟨?_, rfl, rfl, p1, rfl, fun w hw => by rw [h] at hw; rw [← Option.some.inj hw]⟩
  unfold nE
  rw [h]
set_option maxHeartbeats 1000000 in
theorem mp_number {S : Scr} {d : Nat} {f : FF} {g : GG} {tl p : Nat} {tx : Nat → Nat} (G : GOm g) (hL : MLe f tx tl) (hT : TxOk tx tl) (hp : p ≤ 202) {e : Nat} (he : e < 127) : Wp S (d + 1) 65 0 [some (.ref 137), some (.int (nI e)), none] [] 153 (setQ f p) g (NuQ f g tx tl p e) := by
  refine w_aload_n k65_0 rfl rfl ?_
  refine w_vI k65_1 mt64 kd137 ⟨rfl, by decide⟩ [] rfl rfl rfl (mp_here G hL hT (by omega)) ?_
  refine w_bipush k65_4 ?_
  refine w_bipush k65_6 ?_
  refine w_sI k65_8 (by decide) mt59 [_, _, _] rfl rfl rfl (mp_in _ _ _) ?_
  rw [isD_I (ch_lt hT p)]
  refine w_if_ne k65_11 (fun h11 => ?_) (fun h11 => ?_)
  ·
    have z1 := bI_n0.mp h11
    have i1 := isD_in z1
    have h200 := hL.2.1
    refine w_aload_n k65_16 rfl rfl ?_
    refine w_vI k65_17 mt64 kd137 ⟨rfl, by decide⟩ [] rfl rfl rfl (mp_here G hL hT (by omega)) ?_
    refine w_bipush k65_20 ?_
    refine w_isub k65_22 ?_
    refine w_top (nI (ch tx tl p - 48)) (pk_sub (b := 48) (by omega)) ?_
    refine w_istore_n k65_23 (ls' := [_, _, _]) rfl ?_
    refine w_aload_n k65_24 rfl rfl ?_
    refine w_dup k65_25 rfl ?_
    refine w_geti k65_26 (k := 2) kd137 (by decide) ?_
    rw [setQ_at]
    refine w_iconst k65_29 ?_
    refine w_iadd k65_30 ?_
    refine w_top (nI (p + 1)) (nI_1 _) ?_
    refine w_puti k65_31 (k := 2) kd137 (by decide) ?_
    rw [setQ_setQ]
    refine w_aload_n k65_34 rfl rfl ?_
    refine w_vI k65_35 mt64 kd137 ⟨rfl, by decide⟩ [] rfl rfl rfl (mp_here (p := p + 1) G hL hT (by omega)) ?_
    refine w_bipush k65_38 ?_
    refine w_bipush k65_40 ?_
    refine w_sI k65_42 (by decide) mt59 [_, _, _] rfl rfl rfl (mp_in _ _ _) ?_
    rw [isD_I (ch_lt hT (p + 1))]
    refine w_if_eq k65_45 (fun h45 => ?_) (fun h45 => ?_)
    ·
      have z2 := bI_0.mp h45
      have hnum : num tx tl p = some (ch tx tl p - 48, p + 1) := by unfold num; rw [z1, z2]; rfl
      refine w_aload_n k65_71 rfl rfl ?_
      refine w_vI k65_72 mt64 kd137 ⟨rfl, by decide⟩ [] rfl rfl rfl (mp_here (p := p + 1) G hL hT (by omega)) ?_
      have c1 := ch_lt hT (p + 1)
      refine w_iload_n k65_75 rfl ?_
      refine w_icmp_eq k65_76 (fun h76 => ?_) (fun h76 => ?_)
      ·
        have z3 : ch tx tl (p + 1) = e := (nI_eq (by omega) (by omega)).mp h76
        have hE : numE tx tl p e = some (ch tx tl p - 48, p + 1 + 1) := by unfold numE; rw [hnum]; exact if_pos z3
        refine w_aload_n k65_81 rfl rfl ?_
        refine w_dup k65_82 rfl ?_
        refine w_geti k65_83 (k := 2) kd137 (by decide) ?_
        rw [setQ_at]
        refine w_iconst k65_86 ?_
        refine w_iadd k65_87 ?_
        rw [nI_1]
        refine w_puti k65_88 (k := 2) kd137 (by decide) ?_
        rw [setQ_setQ]
        refine w_iload_n k65_91 rfl ?_
        refine w_iret k65_92 mt65 (.int) rfl (rfl) ?_
        first
          | exact NuQ.yes hE
          | exact NuQ.no hE
      ·
        have z3 : ¬ ch tx tl (p + 1) = e := fun hh => h76 (by rw [hh])
        have hE : numE tx tl p e = none := by unfold numE; rw [hnum]; exact if_neg z3
        refine w_iconst k65_79 ?_
        refine w_iret k65_80 mt65 (.int) rfl (rfl) ?_
        first
          | exact NuQ.yes hE
          | exact NuQ.no hE
    ·
      have z2 := bI_n0.mp h45
      have i2 := isD_in z2
      have hnum : num tx tl p = some ((ch tx tl p - 48) * 10 + (ch tx tl (p + 1) - 48), p + 2) := by unfold num; rw [z1, z2]; rfl
      refine w_bipush k65_48 ?_
      refine w_iload_n k65_50 rfl ?_
      refine w_imul k65_51 ?_
      refine w_top (nI ((ch tx tl p - 48) * 10)) (by rw [Nat.mul_comm]; exact pk_mul 10 _) ?_
      refine w_aload_n k65_52 rfl rfl ?_
      refine w_vI k65_53 mt64 kd137 ⟨rfl, by decide⟩ [] rfl rfl rfl (mp_here (p := p + 1) G hL hT (by omega)) ?_
      refine w_iadd k65_56 ?_
      rw [nI_add]
      refine w_bipush k65_57 ?_
      refine w_isub k65_59 ?_
      refine w_top (nI ((ch tx tl p - 48) * 10 + (ch tx tl (p + 1) - 48))) (by rw [show (48 : Int32) = nI 48 from rfl, nI_sub (by omega)]; congr 1; omega) ?_
      refine w_istore_n k65_60 (ls' := [_, _, _]) rfl ?_
      refine w_aload_n k65_61 rfl rfl ?_
      refine w_dup k65_62 rfl ?_
      refine w_geti k65_63 (k := 2) kd137 (by decide) ?_
      rw [setQ_at]
      refine w_iconst k65_66 ?_
      refine w_iadd k65_67 ?_
      refine w_top (nI (p + 2)) (nI_1 (p + 1)) ?_
      refine w_puti k65_68 (k := 2) kd137 (by decide) ?_
      rw [setQ_setQ]
      refine w_aload_n k65_71 rfl rfl ?_
      refine w_vI k65_72 mt64 kd137 ⟨rfl, by decide⟩ [] rfl rfl rfl (mp_here (p := p + 2) G hL hT (by omega)) ?_
      have c1 := ch_lt hT (p + 2)
      refine w_iload_n k65_75 rfl ?_
      refine w_icmp_eq k65_76 (fun h76 => ?_) (fun h76 => ?_)
      ·
        have z3 : ch tx tl (p + 2) = e := (nI_eq (by omega) (by omega)).mp h76
        have hE : numE tx tl p e = some ((ch tx tl p - 48) * 10 + (ch tx tl (p + 1) - 48), p + 2 + 1) := by unfold numE; rw [hnum]; exact if_pos z3
        refine w_aload_n k65_81 rfl rfl ?_
        refine w_dup k65_82 rfl ?_
        refine w_geti k65_83 (k := 2) kd137 (by decide) ?_
        rw [setQ_at]
        refine w_iconst k65_86 ?_
        refine w_iadd k65_87 ?_
        rw [nI_1]
        refine w_puti k65_88 (k := 2) kd137 (by decide) ?_
        rw [setQ_setQ]
        refine w_iload_n k65_91 rfl ?_
        refine w_iret k65_92 mt65 (.int) rfl (rfl) ?_
        first
          | exact NuQ.yes hE
          | exact NuQ.no hE
      ·
        have z3 : ¬ ch tx tl (p + 2) = e := fun hh => h76 (by rw [hh])
        have hE : numE tx tl p e = none := by unfold numE; rw [hnum]; exact if_neg z3
        refine w_iconst k65_79 ?_
        refine w_iret k65_80 mt65 (.int) rfl (rfl) ?_
        first
          | exact NuQ.yes hE
          | exact NuQ.no hE
  ·
    have z1 := bI_0.mp h11
    refine w_iconst k65_14 ?_
    refine w_iret k65_15 mt65 (.int) rfl (rfl) ?_
    exact NuQ.no (by unfold numE num; rw [z1]; rfl)
def OffRd (f f' : FF) : Prop := (∀ x, x ≠ 137 → (x < 139 ∨ 144 < x) → f' x = f x) ∧ ∀ k, (k < 2 ∨ 5 < k) → f' 137 k = f 137 k
theorem OffRd.rf {f : FF} : OffRd f f := ⟨fun _ _ _ => rfl, fun _ _ => rfl⟩
theorem OffRd.tr {f f1 f2 : FF} (h : OffRd f f1) (h2 : OffRd f1 f2) : OffRd f f2 := ⟨fun x a b => (h2.1 x a b).trans (h.1 x a b), fun k a => (h2.2 k a).trans (h.2 k a)⟩
theorem OffRd.q {f : FF} {p : Nat} : OffRd f (setQ f p) := ⟨fun x a _ => setQ_no a, fun k a => setQ_ne (by omega)⟩
theorem OffRd.up7 {f : FF} {k : Nat} {w : Int32} (hk : 2 ≤ k ∧ k ≤ 5) : OffRd f (fup f 137 k w) := ⟨fun x a _ => by funext y; exact fup_no a, fun q a => fup_ne (by omega)⟩
theorem OffRd.upa {f : FF} {x k : Nat} {w : Int32} (hx : 139 ≤ x ∧ x ≤ 144) : OffRd f (fup f x k w) := ⟨fun q a b => by funext y; exact fup_no (by omega), fun q a => fup_no (by omega)⟩
theorem MLe.off {f f' : FF} {tx : Nat → Nat} {tl : Nat} (h : MLe f tx tl) (ho : OffRd f f') : MLe f' tx tl := ⟨by rw [ho.2 0 (by omega)]; exact h.1, h.2.1, fun i hi => by rw [ho.1 138 (by omega) (by omega)]; exact h.2.2 i hi⟩
/-- what the model has read -/
def RMd (f : FF) (V : Va) (M : Nat → Nat → Nat) : Prop := f 137 3 = nI V.1 ∧ f 137 4 = nI (M 0 2) ∧ f 137 5 = nI (M 0 1) ∧ (∀ c, c < V.1 → f 139 c = nI (V.2.1 c) ∧ f 140 c = nI (V.2.2.1 c) ∧ f 141 c = nI (V.2.2.2 c)) ∧ ∀ m, m < M 0 2 → f 142 m = nI (M (m + 1) 2) ∧ f 143 m = nI (M (m + 1) 0) ∧ f 144 m = nI (M (m + 1) 3)
theorem RMd.q {f : FF} {V : Va} {M : Nat → Nat → Nat} {p : Nat} (h : RMd f V M) : RMd (setQ f p) V M := ⟨by rw [setQ_ne (by omega)]; exact h.1, by rw [setQ_ne (by omega)]; exact h.2.1, by rw [setQ_ne (by omega)]; exact h.2.2.1, fun c hc => by rw [setQ_no (by omega), setQ_no (by omega), setQ_no (by omega)]; exact h.2.2.2.1 c hc, fun m hm => by rw [setQ_no (by omega), setQ_no (by omega), setQ_no (by omega)]; exact h.2.2.2.2 m hm⟩
/-- what an item leaves -/
def ItM (f : FF) (g : GG) (r : Option (Nat × Va × (Nat → Nat → Nat))) : Option Value → Nat → FF → GG → Prop := fun v n' f' g' => v = some (.int (bI r.isSome)) ∧ n' = 153 ∧ g' = g ∧ OffRd f f' ∧ (∀ q, r = some q → f' 137 2 = nI q.1 ∧ RMd f' q.2.1 q.2.2)
theorem ItM.no {f f' : FF} {g : GG} {r : Option (Nat × Va × (Nat → Nat → Nat))} (hr : r = none) (ho : OffRd f f') : ItM f g r (some (.int 0)) 153 f' g := by subst hr; exact ⟨rfl, rfl, rfl, ho, fun q hq => nomatch hq⟩
theorem ItM.yes {f f' : FF} {g : GG} {r : Option (Nat × Va × (Nat → Nat → Nat))} {q : Nat × Va × (Nat → Nat → Nat)} (hr : r = some q) (ho : OffRd f f') (h1 : f' 137 2 = nI q.1) (h2 : RMd f' q.2.1 q.2.2) : ItM f g r (some (.int 1)) 153 f' g := by subst hr; exact ⟨rfl, rfl, rfl, ho, fun w hw => by rw [← Option.some.inj hw]; exact ⟨h1, h2⟩⟩
set_option maxHeartbeats 1000000 in
theorem mp_sits {S : Scr} {d : Nat} {f : FF} {g : GG} (G : GOm g) {V : Va} {M : Nat → Nat → Nat} (hR : RMd f V M) (h9 : V.1 < 9) (k p x : Nat) : Wp S d 53 0 [some (.ref 137), some (.int (nI k)), some (.int (nI p)), some (.int (nI x))] [] 153 f g (fun v n' f' g' => v = none ∧ n' = 153 ∧ g' = g ∧ OffRd f f' ∧ f' 137 2 = f 137 2 ∧ RMd f' (vAdd V k p x) M) := by
  refine w_aload_n k53_0 rfl rfl ?_
  refine w_getr k53_1 (k := 6) kd137 (by decide) (r137_6 G) ?_
  refine w_aload_n k53_4 rfl rfl ?_
  refine w_geti k53_5 (k := 3) kd137 (by decide) ?_
  rw [hR.1]
  refine w_iload_n k53_8 rfl ?_
  refine w_iast k53_9 kd139 (nI_pos (by omega)) (nI_clamp (by omega)) (by omega) ?_
  refine w_aload_n k53_10 rfl rfl ?_
  refine w_getr k53_11 (k := 7) kd137 (by decide) (r137_7 G) ?_
  refine w_aload_n k53_14 rfl rfl ?_
  refine w_geti k53_15 (k := 3) kd137 (by decide) ?_
  rw [fup_no (by omega), hR.1]
  refine w_iload_n k53_18 rfl ?_
  refine w_iast k53_19 kd140 (nI_pos (by omega)) (nI_clamp (by omega)) (by omega) ?_
  refine w_aload_n k53_20 rfl rfl ?_
  refine w_getr k53_21 (k := 8) kd137 (by decide) (r137_8 G) ?_
  refine w_aload_n k53_24 rfl rfl ?_
  refine w_geti k53_25 (k := 3) kd137 (by decide) ?_
  rw [fup_no (by omega), fup_no (by omega), hR.1]
  refine w_iload_n k53_28 rfl ?_
  refine w_iast k53_29 kd141 (nI_pos (by omega)) (nI_clamp (by omega)) (by omega) ?_
  refine w_aload_n k53_30 rfl rfl ?_
  refine w_dup k53_31 rfl ?_
  refine w_geti k53_32 (k := 3) kd137 (by decide) ?_
  rw [fup_no (by omega), fup_no (by omega), fup_no (by omega), hR.1]
  refine w_iconst k53_35 ?_
  refine w_iadd k53_36 ?_
  refine w_top (nI (V.1 + 1)) (nI_1 _) ?_
  refine w_puti k53_37 (k := 3) kd137 (by decide) ?_
  refine w_vret k53_40 mt53 rfl ?_
  refine ⟨rfl, rfl, rfl, (((OffRd.upa (by omega)).tr (OffRd.upa (by omega))).tr (OffRd.upa (by omega))).tr (OffRd.up7 (by omega)), by rw [fup_ne (by omega), fup_no (by omega), fup_no (by omega), fup_no (by omega)], fup_self, ?_, ?_, fun c hc => ?_, fun m hm => ?_⟩
  · rw [fup_ne (by omega), fup_no (by omega), fup_no (by omega), fup_no (by omega)]
    exact hR.2.1
  · rw [fup_ne (by omega), fup_no (by omega), fup_no (by omega), fup_no (by omega)]
    exact hR.2.2.1
  · have hc : c < V.1 + 1 := hc
    show _ = nI (if c = V.1 then k else V.2.1 c) ∧ _ = nI (if c = V.1 then p else V.2.2.1 c) ∧ _ = nI (if c = V.1 then x else V.2.2.2 c)
    by_cases hcv : c = V.1
    · rw [if_pos hcv, if_pos hcv, if_pos hcv, hcv]
      refine ⟨?_, ?_, ?_⟩
      · rw [fup_no (by omega), fup_no (by omega), fup_no (by omega), fup_self]
      · rw [fup_no (by omega), fup_no (by omega), fup_self]
      · rw [fup_no (by omega), fup_self]
    · have h1 := hR.2.2.2.1 c (by omega)
      rw [if_neg hcv, if_neg hcv, if_neg hcv]
      refine ⟨?_, ?_, ?_⟩
      · rw [fup_no (by omega), fup_no (by omega), fup_no (by omega), fup_ne hcv]
        exact h1.1
      · rw [fup_no (by omega), fup_no (by omega), fup_ne hcv, fup_no (by omega)]
        exact h1.2.1
      · rw [fup_no (by omega), fup_ne hcv, fup_no (by omega), fup_no (by omega)]
        exact h1.2.2
  · rw [fup_no (by omega), fup_no (by omega), fup_no (by omega), fup_no (by omega), fup_no (by omega), fup_no (by omega), fup_no (by omega), fup_no (by omega), fup_no (by omega), fup_no (by omega), fup_no (by omega), fup_no (by omega)]
    exact hR.2.2.2.2 m hm
set_option maxHeartbeats 1000000 in
theorem mp_begins {S : Scr} {d : Nat} {f : FF} {g : GG} (G : GOm g) {V : Va} {M : Nat → Nat → Nat} (hR : RMd f V M) (h6 : M 0 2 < 6) (c t r : Nat) : Wp S d 54 0 [some (.ref 137), some (.int (nI c)), some (.int (nI t)), some (.int (nI r))] [] 153 f g (fun v n' f' g' => v = none ∧ n' = 153 ∧ g' = g ∧ OffRd f f' ∧ f' 137 2 = f 137 2 ∧ RMd f' V (mAdd M c t r)) := by
  refine w_aload_n k54_0 rfl rfl ?_
  refine w_getr k54_1 (k := 9) kd137 (by decide) (r137_9 G) ?_
  refine w_aload_n k54_4 rfl rfl ?_
  refine w_geti k54_5 (k := 4) kd137 (by decide) ?_
  rw [hR.2.1]
  refine w_iload_n k54_8 rfl ?_
  refine w_iast k54_9 kd142 (nI_pos (by omega)) (nI_clamp (by omega)) (by omega) ?_
  refine w_aload_n k54_10 rfl rfl ?_
  refine w_getr k54_11 (k := 10) kd137 (by decide) (r137_10 G) ?_
  refine w_aload_n k54_14 rfl rfl ?_
  refine w_geti k54_15 (k := 4) kd137 (by decide) ?_
  rw [fup_no (by omega), hR.2.1]
  refine w_iload_n k54_18 rfl ?_
  refine w_iast k54_19 kd143 (nI_pos (by omega)) (nI_clamp (by omega)) (by omega) ?_
  refine w_aload_n k54_20 rfl rfl ?_
  refine w_getr k54_21 (k := 11) kd137 (by decide) (r137_11 G) ?_
  refine w_aload_n k54_24 rfl rfl ?_
  refine w_geti k54_25 (k := 4) kd137 (by decide) ?_
  rw [fup_no (by omega), fup_no (by omega), hR.2.1]
  refine w_iload_n k54_28 rfl ?_
  refine w_iast k54_29 kd144 (nI_pos (by omega)) (nI_clamp (by omega)) (by omega) ?_
  refine w_aload_n k54_30 rfl rfl ?_
  refine w_dup k54_31 rfl ?_
  refine w_geti k54_32 (k := 4) kd137 (by decide) ?_
  rw [fup_no (by omega), fup_no (by omega), fup_no (by omega), hR.2.1]
  refine w_iconst k54_35 ?_
  refine w_iadd k54_36 ?_
  refine w_top (nI (M 0 2 + 1)) (nI_1 _) ?_
  refine w_puti k54_37 (k := 4) kd137 (by decide) ?_
  refine w_vret k54_40 mt54 rfl ?_
  refine ⟨rfl, rfl, rfl, (((OffRd.upa (by omega)).tr (OffRd.upa (by omega))).tr (OffRd.upa (by omega))).tr (OffRd.up7 (by omega)), by rw [fup_ne (by omega), fup_no (by omega), fup_no (by omega), fup_no (by omega)], ?_, fup_self, ?_, fun c hc => ?_, fun m hm => ?_⟩
  · rw [fup_ne (by omega), fup_no (by omega), fup_no (by omega), fup_no (by omega)]
    exact hR.1
  · rw [fup_ne (by omega), fup_no (by omega), fup_no (by omega), fup_no (by omega)]
    exact hR.2.2.1
  · rw [fup_no (by omega), fup_no (by omega), fup_no (by omega), fup_no (by omega), fup_no (by omega), fup_no (by omega), fup_no (by omega), fup_no (by omega), fup_no (by omega), fup_no (by omega), fup_no (by omega), fup_no (by omega)]
    exact hR.2.2.2.1 c hc
  · have hm : m < M 0 2 + 1 := hm
    by_cases hmv : m = M 0 2
    · have e : mAdd M c t r (m + 1) = fun k => if k = 0 then t else if k = 2 then c else if k = 3 then r else 0 := by funext k; rw [hmv]; simp [mAdd]
      rw [e, hmv]
      refine ⟨?_, ?_, ?_⟩
      · rw [fup_no (by omega), fup_no (by omega), fup_no (by omega), fup_self]
        rfl
      · rw [fup_no (by omega), fup_no (by omega), fup_self]
        rfl
      · rw [fup_no (by omega), fup_self]
        rfl
    · have e : mAdd M c t r (m + 1) = M (m + 1) := by funext k; unfold mAdd; rw [if_neg (by omega), if_neg (by omega)]
      have h1 := hR.2.2.2.2 m (by omega)
      rw [e]
      refine ⟨?_, ?_, ?_⟩
      · rw [fup_no (by omega), fup_no (by omega), fup_no (by omega), fup_ne hmv]
        exact h1.1
      · rw [fup_no (by omega), fup_no (by omega), fup_ne hmv, fup_no (by omega)]
        exact h1.2.1
      · rw [fup_no (by omega), fup_ne hmv, fup_no (by omega), fup_no (by omega)]
        exact h1.2.2
