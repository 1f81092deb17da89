/-! SPECS, 17: the reader, the whole text -/
theorem num_in {tx : Nat → Nat} {tl p v p1 : Nat} (h : num tx tl p = some (v, p1)) : v < 100 ∧ p1 ≤ tl ∧ p < p1 := by
  unfold num at h
  split at h
  · rename_i a
    have a1 : 48 ≤ ch tx tl p ∧ ch tx tl p ≤ 57 := of_decide_eq_true a
    have a2 := ch_in (tx := tx) (tl := tl) (p := p) (by omega)
    split at h
    · rename_i b
      have b1 : 48 ≤ ch tx tl (p + 1) ∧ ch tx tl (p + 1) ≤ 57 := of_decide_eq_true b
      have b2 := ch_in (tx := tx) (tl := tl) (p := p + 1) (by omega)
      have h2 := Option.some.inj h
      have e1 : (ch tx tl p - 48) * 10 + (ch tx tl (p + 1) - 48) = v := congrArg Prod.fst h2
      have e2 : p + 2 = p1 := congrArg Prod.snd h2
      omega
    · have h2 := Option.some.inj h
      have e1 : ch tx tl p - 48 = v := congrArg Prod.fst h2
      have e2 : p + 1 = p1 := congrArg Prod.snd h2
      omega
  · cases h
theorem VWf.add {V : Va} (h : VWf V) {k p x : Nat} (hb : vcB V k p x = true) : VWf (vAdd V k p x) := by
  have b : V.1 < 9 ∧ k ≤ 4 ∧ (1 ≤ p ∧ p ≤ 20) ∧ x ≤ V.1 := of_decide_eq_true hb
  refine ⟨by show V.1 + 1 ≤ 9; omega, fun c hc => ?_⟩
  have hc : c < V.1 + 1 := hc
  show (if c = V.1 then k else V.2.1 c) ≤ 4 ∧ 1 ≤ (if c = V.1 then p else V.2.2.1 c) ∧ (if c = V.1 then p else V.2.2.1 c) ≤ 20 ∧ (if c = V.1 then x else V.2.2.2 c) ≤ c
  by_cases hcv : c = V.1
  · rw [if_pos hcv, if_pos hcv, if_pos hcv]
    omega
  · rw [if_neg hcv, if_neg hcv, if_neg hcv]
    exact h.2 c (by omega)
theorem MsW.add {V : Va} {k p x t : Nat} {μ : Nat → Nat} (h : MsW V t μ) : MsW (vAdd V k p x) t μ := by
  obtain ⟨h1, h2, h3, h4, h5, h6, h7, h8, h9⟩ := h
  have hne : ¬ μ 2 = V.1 := by omega
  refine ⟨h1, h2, by show μ 2 < V.1 + 1; omega, h4, h5, h6, h7, fun hh => ⟨(h8 hh).1, ?_⟩, ?_⟩
  · show (if μ 2 = V.1 then x else V.2.2.2 (μ 2)) = μ 2
    rw [if_neg hne]
    exact (h8 hh).2
  · show μ 4 ≤ (if μ 2 = V.1 then p else V.2.2.1 (μ 2))
    rw [if_neg hne]
    exact h9
theorem MoW.vadd {V : Va} {M : Nat → Nat → Nat} (h : MoW V M) (k p x : Nat) : MoW (vAdd V k p x) M := ⟨h.1, h.2.1, h.2.2.1, fun m hm => (h.2.2.2 m hm).add⟩
theorem MoW.add {V : Va} {M : Nat → Nat → Nat} (h : MoW V M) {c t r : Nat} (h6 : M 0 2 < 6) (hc : c < V.1) (ht : M 0 0 ≤ t) (ht2 : t < 2 ^ 30) (hr : RowOk r) : MoW V (mAdd M c t r) := by
  refine ⟨by show M 0 2 + 1 ≤ 6; omega, h.2.1, h.2.2.1, fun m hm => ?_⟩
  have hm : m < M 0 2 + 1 := hm
  by_cases hmm : m = M 0 2
  · have e : mAdd M c t r (m + 1) = fun k => if k = 0 then t else if k = 2 then c else if k = 3 then r else 0 := by
      funext k
      unfold mAdd
      rw [if_neg (by omega), if_pos (by omega)]
    rw [e]
    exact ⟨ht2, Nat.zero_le _, hc, hr, Nat.zero_le _, (show 0 < 2 ^ 30 by decide), fun _ => ⟨ht, rfl⟩, fun hh => absurd (show (0 : Nat) = 2 from hh) (by decide), Nat.zero_le _⟩
  · have e : mAdd M c t r (m + 1) = M (m + 1) := by
      funext k
      unfold mAdd
      rw [if_neg (by omega), if_neg (by omega)]
    rw [e]
    exact h.2.2.2 m (by omega)
theorem MoW.ind {V : Va} {M : Nat → Nat → Nat} (h : MoW V M) {x : Nat} (hx : x < 512) : MoW V (mset0 M 1 x) := by
  refine ⟨h.1, h.2.1, hx, fun m hm => ?_⟩
  have e : mset0 M 1 x (m + 1) = M (m + 1) := by
    funext k
    unfold mset0
    exact if_neg (by omega)
  rw [e]
  exact h.2.2.2 m hm
/-- all is well that was read so far -/
def RdW (tl : Nat) (q : Nat × Va × (Nat → Nat → Nat)) : Prop := q.1 ≤ tl ∧ VWf q.2.1 ∧ MoW q.2.1 q.2.2 ∧ q.2.2 0 0 = 0
theorem xor_b {a c : Nat} (ha : a < 512) (hc : c < 9) : a ^^^ 2 ^ c < 512 := Nat.xor_lt_two_pow (n := 9) ha (Nat.pow_lt_pow_right (by omega) (by omega))
theorem chairP_ok {tx : Nat → Nat} {tl p : Nat} {V : Va} {M : Nat → Nat → Nat} (hV : VWf V) (hW : MoW V M) (h0 : M 0 0 = 0) {q : Nat × Va} (h : chairP tx tl p V = some q) : RdW tl (q.1, q.2, M) := by
  unfold chairP at h
  split at h
  · cases h
  · split at h
    · split at h
      · cases h
      · split at h
        · split at h
          · cases h
          · split at h
            · rename_i hc
              have hh := Option.some.inj h
              subst hh
              have := ch_in (by rw [hc.1]; decide)
              exact ⟨by show _ + 1 ≤ tl; omega, hV.add hc.2, hW.vadd _ _ _, h0⟩
            · cases h
        · cases h
    · cases h
theorem msgP_ok {tx : Nat → Nat} {tl p : Nat} {V : Va} {M : Nat → Nat → Nat} (hV : VWf V) (hW : MoW V M) (h0 : M 0 0 = 0) {q : Nat × (Nat → Nat → Nat)} (h : msgP tx tl p V M = some q) : RdW tl (q.1, V, q.2) := by
  unfold msgP at h
  split at h
  · cases h
  · split at h
    · split at h
      · cases h
      · rename_i hn2
        split at h
        · split at h
          · rename_i hc
            have hh := Option.some.inj h
            subst hh
            have h1 := ch_in (by rw [hc.2.1]; decide)
            have h2 := num_in hn2
            exact ⟨by show _ + 1 ≤ tl; omega, hV, hW.add hc.2.2.2 hc.2.2.1 (by rw [h0]; exact Nat.zero_le _) (by omega) rowP_row, h0⟩
          · cases h
        · cases h
    · cases h
theorem indP_ok {tx : Nat → Nat} {tl p : Nat} {V : Va} {M : Nat → Nat → Nat} (hV : VWf V) (hW : MoW V M) (h0 : M 0 0 = 0) {q : Nat × (Nat → Nat → Nat)} (h : indP tx tl p V M = some q) : RdW tl (q.1, V, q.2) := by
  unfold indP at h
  split at h
  · cases h
  · split at h
    · rename_i hc
      have hh := Option.some.inj h
      subst hh
      have h1 := ch_in (by rw [hc.1]; decide)
      have h9 := hV.1
      refine ⟨by show _ + 1 ≤ tl; omega, hV, ?_, ?_⟩
      · show MoW V (if _ then _ else _)
        split
        · exact hW
        · exact hW.ind (xor_b hW.2.2.1 (by omega))
      · show (if _ then _ else _ : Nat → Nat → Nat) 0 0 = 0
        split
        · exact h0
        · exact h0
    · cases h
theorem itemP_ok {tx : Nat → Nat} {tl p : Nat} {V : Va} {M : Nat → Nat → Nat} (hV : VWf V) (hW : MoW V M) (h0 : M 0 0 = 0) {q : Nat × Va × (Nat → Nat → Nat)} (h : itemP tx tl p V M = some q) : RdW tl q := by
  unfold itemP at h
  split at h
  · obtain ⟨a, ha, rfl⟩ := Option.map_eq_some_iff.mp h
    exact chairP_ok hV hW h0 ha
  · split at h
    · obtain ⟨a, ha, rfl⟩ := Option.map_eq_some_iff.mp h
      exact msgP_ok hV hW h0 ha
    · split at h
      · obtain ⟨a, ha, rfl⟩ := Option.map_eq_some_iff.mp h
        exact indP_ok hV hW h0 ha
      · cases h
theorem setP_id {f : FF} {p : Nat} (h : f 1 3 = nI p) : setP f p = f := by
  funext x y
  unfold setP fup
  split
  · rename_i hh
    rw [hh.1, hh.2, h]
  · rfl
/-- what is read: the place of the fault, if there is one; the valley; the moment -/
def rdP (tx : Nat → Nat) (tl : Nat) : Nat → Nat → Va → (Nat → Nat → Nat) → Option Nat × Va × (Nat → Nat → Nat)
  | 0, _, V, M => (none, V, M)
  | t + 1, p, V, M => if p < tl then (match itemP tx tl p V M with
    | none => (some p, V, M)
    | some q => rdP tx tl t q.1 q.2.1 q.2.2) else (none, V, M)
theorem rdP_ok {tx : Nat → Nat} {tl : Nat} : ∀ t p V M, VWf V → MoW V M → M 0 0 = 0 → VWf (rdP tx tl t p V M).2.1 ∧ MoW (rdP tx tl t p V M).2.1 (rdP tx tl t p V M).2.2 ∧ (rdP tx tl t p V M).2.2 0 0 = 0 := by
  intro t
  induction t with
  | zero => intro p V M h1 h2 h3; exact ⟨h1, h2, h3⟩
  | succ t ih =>
    intro p V M h1 h2 h3
    unfold rdP
    split
    · split
      · exact ⟨h1, h2, h3⟩
      · rename_i hq
        have := itemP_ok h1 h2 h3 hq
        exact ih _ _ _ this.2.1 this.2.2.1 this.2.2.2
    · exact ⟨h1, h2, h3⟩
def rdV (r : Option Nat) : Int32 := match r with
  | some p => nI p
  | none => -4
def RdQ (n : Nat) (f : FF) (g : GG) (r : Option Nat × Va × (Nat → Nat → Nat)) : Option Value → Nat → FF → GG → Prop := fun v n' f' g' => v = some (.int (rdV r.1)) ∧ n' = n ∧ g' = g ∧ (∀ x, (x ≠ 1 ∧ x < 4) ∨ 17 ≤ x → f' x = f x) ∧ (r.1 = none → CVa f' 4 r.2.1 ∧ CMo f' 8 r.2.2)
theorem CLe.eq {f f1 : FF} {tx : Nat → Nat} {tl : Nat} (h : CLe f tx tl) (ho : ∀ x, x = 2 ∨ x = 3 → f1 x = f x) : CLe f1 tx tl := ⟨by rw [ho 2 (by omega)]; exact h.1, h.2.1, fun i hi => by rw [ho 3 (by omega)]; exact h.2.2 i hi⟩
def va0 : Va := (0, (fun _ => 0), (fun _ => 0), (fun _ => 0))
def mo0 : Nat → Nat → Nat := fun _ _ => 0
theorem va0_W : VWf va0 := ⟨by decide, fun c hc => absurd hc (Nat.not_lt_zero c)⟩
theorem mo0_W {V : Va} : MoW V mo0 := ⟨by decide, by decide, by decide, fun c hc => absurd hc (Nat.not_lt_zero c)⟩
theorem sp_readItem2 {S : Scr} {d : Nat} {f : FF} {g : GG} {n tl p : Nat} {tx : Nat → Nat} (hn : 137 ≤ n) (G : GOk g) (hL : CLe f tx tl) (hT : TxOk tx tl) (hp : p ≤ 200) {V : Va} {M : Nat → Nat → Nat} (hC : CVa f 4 V) (hV : VWf V) (hM : CMo f 8 M) (hM6 : M 0 2 ≤ 6) (hMI : M 0 1 < 512) (h3 : f 1 3 = nI p) : Wp S (d + 4) 38 0 [some (.ref 1)] [] n f g (ItQ n f g (itemP tx tl p V M)) := by
  have h := sp_readItem (S := S) (d := d) hn G hL hT hp hC hV hM hM6 hMI
  rw [setP_id h3] at h
  have e : ∀ {v n' f' g'}, ItQ n (setP f p) g (itemP tx tl p V M) v n' f' g' → ItQ n f g (itemP tx tl p V M) v n' f' g' := fun hh => by rw [setP_id h3] at hh; exact hh
  exact h
set_option maxHeartbeats 1000000 in
theorem lp_read {S : Scr} {d : Nat} {f : FF} {g : GG} {n tl : Nat} {tx : Nat → Nat} (hn : 137 ≤ n) (G : GOk g) (hL : CLe f tx tl) (hT : TxOk tx tl) : ∀ (t k p : Nat) (V : Va) (M : Nat → Nat → Nat) (f1 : FF) (y : Option Value), t + k = 200 → (∀ x, (x ≠ 1 ∧ x < 4) ∨ 17 ≤ x → f1 x = f x) → f1 1 3 = nI p → CVa f1 4 V → CMo f1 8 M → RdW tl (p, V, M) → Wp S (d + 5) 39 21 [some (.ref 1), some (.int (nI k)), y] [] n f1 g (RdQ n f g (rdP tx tl t p V M)) := by
  intro t
  induction t with
  | zero =>
    intro k p V M f1 y e0 e1 e2 e3 e4 e5
    refine w_iload_n k39_21 rfl ?_
    refine w_sipush k39_22 ?_
    refine w_icmp_ge k39_25 (fun h25 => ?_) (fun h25 => absurd (nI_le (a := 200) (by omega) (by omega)) h25)
    refine w_bipush k39_62 ?_
    refine w_iret k39_64 mt39 (.int) rfl (rfl) ?_
    exact ⟨rfl, rfl, rfl, e1, fun _ => ⟨e3, e4⟩⟩
  | succ t ih =>
    intro k p V M f1 y e0 e1 e2 e3 e4 e5
    refine w_iload_n k39_21 rfl ?_
    refine w_sipush k39_22 ?_
    have h200 := hL.2.1
    have hp0 : p ≤ tl := e5.1
    have hL1 := hL.eq (fun x hx => e1 x (by omega))
    refine w_icmp_ge k39_25 (fun h25 => absurd h25 (nI_ge (b := 200) (by omega) (by omega))) (fun h25 => ?_)
    refine w_aload_n k39_28 rfl rfl ?_
    refine w_geti k39_29 (k := 3) (kc1 hn) (by decide) ?_
    rw [e2]
    refine w_aload_n k39_32 rfl rfl ?_
    refine w_getr k39_33 (k := 0) (kc1 hn) (by decide) (r1_0 G) ?_
    refine w_vI k39_36 mt19 (kc2 hn) ⟨rfl, by decide⟩ [] rfl rfl rfl (sp_Llen hn hL1) ?_
    refine w_icmp_ge k39_39 (fun h39 => ?_) (fun h39 => ?_)
    ·
      have hz : ¬ p < tl := fun hh => nI_ge hh (by omega) h39
      refine w_bipush k39_62 ?_
      refine w_iret k39_64 mt39 (.int) rfl (rfl) ?_
      first
        | (rw [show rdP tx tl (t + 1) p V M = (none, V, M) from by simp only [rdP]; rw [if_neg hz]]
           exact ⟨rfl, rfl, rfl, e1, fun _ => ⟨e3, e4⟩⟩)
        | (rw [show rdP tx tl (t + 1) p V M = (some p, V, M) from by simp only [rdP]; rw [if_pos hz, hq]]
           exact ⟨rfl, rfl, rfl, fun x hx => by rw [hO x hx]; exact e1 x hx, fun hh => nomatch hh⟩)
    ·
      have hz : p < tl := Nat.not_le.mp fun hh => h39 (nI_le hh (by omega))
      refine w_aload_n k39_42 rfl rfl ?_
      refine w_geti k39_43 (k := 3) (kc1 hn) (by decide) ?_
      rw [e2]
      refine w_istore_n k39_46 (ls' := [_, _, _]) rfl ?_
      refine w_aload_n k39_47 rfl rfl ?_
      refine w_vA k39_48 mt38 (kc1 hn) ⟨rfl, by decide⟩ [] rfl rfl rfl (sp_readItem2 hn G hL1 hT (by omega) e3 e5.2.1 e4 e5.2.2.1.1 e5.2.2.1.2.2.1 e2) ?_
      rintro v1 n1 f2 g1 hQ
      obtain rfl := hQ.b01
      obtain ⟨hn1, hg1, hO, hr⟩ := hQ
      have hn2 := hn1.symm
      subst hn2
      have hg2 := hg1.symm
      subst hg2
      refine w_if_ne k39_51 (fun h51 => ?_) (fun h51 => ?_)
      ·
        obtain ⟨q, hq⟩ := Option.isSome_iff_exists.mp (bI_n0.mp h51)
        refine w_iinc k39_56 rfl (ls' := [_, _, _]) rfl ?_
        refine w_goto k39_59 ?_
        rw [nI_1]
        rw [show rdP tx tl (t + 1) p V M = rdP tx tl t q.1 q.2.1 q.2.2 from by simp only [rdP]; rw [if_pos hz, hq]]
        rw [hq] at hr
        exact ih (k + 1) q.1 q.2.1 q.2.2 f2 _ (by omega) (fun x hx => by rw [hO x hx]; exact e1 x hx) hr.2.1 hr.2.2.1 hr.2.2.2 (itemP_ok e5.2.1 e5.2.2.1 e5.2.2.2 hq)
      ·
        have hq : itemP tx tl p V M = none := Option.not_isSome_iff_eq_none.mp (by rw [bI_0.mp h51]; decide)
        refine w_iload_n k39_54 rfl ?_
        refine w_iret k39_55 mt39 (.int) rfl (rfl) ?_
        first
          | (rw [show rdP tx tl (t + 1) p V M = (none, V, M) from by simp only [rdP]; rw [if_neg hz]]
             exact ⟨rfl, rfl, rfl, e1, fun _ => ⟨e3, e4⟩⟩)
          | (rw [show rdP tx tl (t + 1) p V M = (some p, V, M) from by simp only [rdP]; rw [if_pos hz, hq]]
             exact ⟨rfl, rfl, rfl, fun x hx => by rw [hO x hx]; exact e1 x hx, fun hh => nomatch hh⟩)
set_option maxHeartbeats 1000000 in
theorem sp_read {S : Scr} {d : Nat} {f : FF} {g : GG} {n tl : Nat} {tx : Nat → Nat} (hn : 137 ≤ n) (G : GOk g) (hL : CLe f tx tl) (hT : TxOk tx tl) : Wp S (d + 5) 39 0 [some (.ref 1), none, none] [] n f g (RdQ n f g (rdP tx tl 200 0 va0 mo0)) := by
  refine w_aload_n k39_0 rfl rfl ?_
  refine w_getr k39_1 (k := 1) (kc1 hn) (by decide) (r1_1 G) ?_
  refine w_vV k39_4 mt17 (kc4 hn) ⟨rfl, by decide⟩ [] rfl rfl rfl (sp_Vclear (va4 hn G)) ?_
  refine w_aload_n k39_7 rfl rfl ?_
  refine w_getr k39_8 (k := 2) (kc1 hn) (by decide) (r1_2 G) ?_
  refine w_vA k39_11 mt18 (kc8 hn) ⟨rfl, by decide⟩ [] rfl rfl rfl (sp_Mclear (mo8 hn G)) ?_
  rintro _ _ f2 _ ⟨rfl, rfl, rfl, hO, hM2⟩
  refine w_aload_n k39_14 rfl rfl ?_
  refine w_iconst k39_15 ?_
  refine w_puti k39_16 (k := 3) (kc1 hn) (by decide) ?_
  refine w_iconst k39_19 ?_
  refine w_istore_n k39_20 (ls' := [_, _, _]) rfl ?_
  refine lp_read hn G hL hT 200 0 0 va0 mo0 _ _ rfl (fun x hx => ?_) fup_self ⟨?_, fun c hc => absurd hc (Nat.not_lt_zero c)⟩ ?_ ⟨Nat.zero_le _, va0_W, mo0_W, rfl⟩
  · funext y
    rw [fup_no (by omega), hO x (by omega), fup_no (by omega)]
  · rw [fup_no (by omega), hO 4 (by omega), fup_self]
    rfl
  · exact hM2.setP (p := 0) (by omega)
