/-! SPECS, 14: the reader, items -/
def vAdd (V : Va) (k p x : Nat) : Va := (V.1 + 1, (fun c => if c = V.1 then k else V.2.1 c), (fun c => if c = V.1 then p else V.2.2.1 c), (fun c => if c = V.1 then x else V.2.2.2 c))
def VC (V : Va) (k p x : Nat) : Prop := V.1 < 9 ∧ k ≤ 4 ∧ (1 ≤ p ∧ p ≤ 20) ∧ x ≤ V.1
theorem VC_dec (V : Va) (k p x : Nat) : (decide (V.1 < 9 ∧ k ≤ 4 ∧ (1 ≤ p ∧ p ≤ 20) ∧ x ≤ V.1) = true) ↔ VC V k p x := decide_eq_true_iff
def vcB (V : Va) (k p x : Nat) : Bool := decide (V.1 < 9 ∧ k ≤ 4 ∧ (1 ≤ p ∧ p ≤ 20) ∧ x ≤ V.1)
theorem btw {a b c : Nat} (ha : a < 2 ^ 31) (hb : b < 2 ^ 31) (hc : c < 2 ^ 31) : decide (nI b ≤ nI a ∧ nI a ≤ nI c) = decide (b ≤ a ∧ a ≤ c) := by
  congr 1
  rw [nI_leI hb ha, nI_leI ha hc]
set_option maxHeartbeats 1000000 in
theorem sp_Vadd {S : Scr} {d : Nat} {f : FF} {g : GG} {n v : Nat} {V : Va} (hv : VaOk n g v) (hC : CVa f v V) (h9v : V.1 ≤ 9) {k p x : Nat} (hk : k < 2 ^ 31) (hp : p < 2 ^ 31) (hx : x < 2 ^ 31) : Wp S (d + 1) 25 0 [some (.ref v), some (.int (nI k)), some (.int (nI p)), some (.int (nI x))] [] n f g (fun v' n' f' g' => v' = some (.int (bI (vcB V k p x))) ∧ n' = n ∧ g' = g ∧ (∀ y, y < v ∨ v + 4 ≤ y → f' y = f y) ∧ CVa f' v (if vcB V k p x = true then vAdd V k p x else V)) := by
  refine w_aload_n k25_0 rfl rfl ?_
  refine w_geti k25_1 (k := 3) hv.1 (by decide) ?_
  rw [hC.1]
  refine w_bipush k25_4 ?_
  refine w_icmp_ge k25_6 (fun h6 => ?_) (fun h6 => ?_)
  ·
    have y1 : ¬ V.1 < 9 := fun hh => nI_ge (b := 9) hh (by omega) h6
    refine w_iconst k25_40 ?_
    refine w_iret k25_41 mt25 (.boolean) rfl (rfl) ?_
    first
      | (have hb : vcB V k p x = true := by
           have a1 := of_decide_eq_true z15
           have a2 := of_decide_eq_true z25
           have a3 := of_decide_eq_true z37
           exact decide_eq_true ⟨y1, a1.2, a2, a3.2⟩
         rw [hb]
         refine ⟨rfl, rfl, rfl, fun y hy => by funext q; rw [fup_no (by omega), fup_no (by omega), fup_no (by omega), fup_no (by omega)], ?_⟩
         rw [if_pos rfl]
         refine ⟨fup_self, fun c hc => ?_⟩
         have hc : c < V.1 + 1 := hc
         by_cases hcv : c = V.1
         · subst hcv
           simp [fup, vAdd]
         · have h1 := hC.2 c (by omega)
           simp [fup, vAdd, hcv]
           exact h1)
      | (have hb : vcB V k p x = false := by
           apply decide_eq_false
           rintro ⟨b1, b2, b3, b4⟩
           first
             | exact y1 b1
             | (have := of_decide_eq_false z15; exact this ⟨Nat.zero_le _, b2⟩)
             | (have := of_decide_eq_false z25; exact this b3)
             | (have := of_decide_eq_false z37; exact this ⟨Nat.zero_le _, b4⟩)
         rw [hb]
         exact ⟨rfl, rfl, rfl, fun _ _ => rfl, hC⟩)
  ·
    have y1 : V.1 < 9 := Nat.not_le.mp fun hh => h6 (nI_le (a := 9) hh (by omega))
    refine w_iload_n k25_9 rfl ?_
    refine w_iconst k25_10 ?_
    refine w_iconst k25_11 ?_
    refine w_sI k25_12 (by decide) mt22 [_, _, _] rfl rfl rfl (sp_isBetween _ _ _) ?_
    rw [show decide ((0 : Int32) ≤ nI k ∧ nI k ≤ 4) = decide (0 ≤ k ∧ k ≤ 4) from btw (b := 0) (c := 4) hk (by omega) (by omega)]
    refine w_if_eq k25_15 (fun h15 => ?_) (fun h15 => ?_)
    ·
      have z15 := bI_0.mp h15
      refine w_iconst k25_40 ?_
      refine w_iret k25_41 mt25 (.boolean) rfl (rfl) ?_
      first
        | (have hb : vcB V k p x = true := by
             have a1 := of_decide_eq_true z15
             have a2 := of_decide_eq_true z25
             have a3 := of_decide_eq_true z37
             exact decide_eq_true ⟨y1, a1.2, a2, a3.2⟩
           rw [hb]
           refine ⟨rfl, rfl, rfl, fun y hy => by funext q; rw [fup_no (by omega), fup_no (by omega), fup_no (by omega), fup_no (by omega)], ?_⟩
           rw [if_pos rfl]
           refine ⟨fup_self, fun c hc => ?_⟩
           have hc : c < V.1 + 1 := hc
           by_cases hcv : c = V.1
           · subst hcv
             simp [fup, vAdd]
           · have h1 := hC.2 c (by omega)
             simp [fup, vAdd, hcv]
             exact h1)
        | (have hb : vcB V k p x = false := by
             apply decide_eq_false
             rintro ⟨b1, b2, b3, b4⟩
             first
               | exact y1 b1
               | (have := of_decide_eq_false z15; exact this ⟨Nat.zero_le _, b2⟩)
               | (have := of_decide_eq_false z25; exact this b3)
               | (have := of_decide_eq_false z37; exact this ⟨Nat.zero_le _, b4⟩)
           rw [hb]
           exact ⟨rfl, rfl, rfl, fun _ _ => rfl, hC⟩)
    ·
      have z15 := bI_n0.mp h15
      refine w_iload_n k25_18 rfl ?_
      refine w_iconst k25_19 ?_
      refine w_bipush k25_20 ?_
      refine w_sI k25_22 (by decide) mt22 [_, _, _] rfl rfl rfl (sp_isBetween _ _ _) ?_
      rw [show decide ((1 : Int32) ≤ nI p ∧ nI p ≤ 20) = decide (1 ≤ p ∧ p ≤ 20) from btw (b := 1) (c := 20) hp (by omega) (by omega)]
      refine w_if_eq k25_25 (fun h25 => ?_) (fun h25 => ?_)
      ·
        have z25 := bI_0.mp h25
        refine w_iconst k25_40 ?_
        refine w_iret k25_41 mt25 (.boolean) rfl (rfl) ?_
        first
          | (have hb : vcB V k p x = true := by
               have a1 := of_decide_eq_true z15
               have a2 := of_decide_eq_true z25
               have a3 := of_decide_eq_true z37
               exact decide_eq_true ⟨y1, a1.2, a2, a3.2⟩
             rw [hb]
             refine ⟨rfl, rfl, rfl, fun y hy => by funext q; rw [fup_no (by omega), fup_no (by omega), fup_no (by omega), fup_no (by omega)], ?_⟩
             rw [if_pos rfl]
             refine ⟨fup_self, fun c hc => ?_⟩
             have hc : c < V.1 + 1 := hc
             by_cases hcv : c = V.1
             · subst hcv
               simp [fup, vAdd]
             · have h1 := hC.2 c (by omega)
               simp [fup, vAdd, hcv]
               exact h1)
          | (have hb : vcB V k p x = false := by
               apply decide_eq_false
               rintro ⟨b1, b2, b3, b4⟩
               first
                 | exact y1 b1
                 | (have := of_decide_eq_false z15; exact this ⟨Nat.zero_le _, b2⟩)
                 | (have := of_decide_eq_false z25; exact this b3)
                 | (have := of_decide_eq_false z37; exact this ⟨Nat.zero_le _, b4⟩)
             rw [hb]
             exact ⟨rfl, rfl, rfl, fun _ _ => rfl, hC⟩)
      ·
        have z25 := bI_n0.mp h25
        refine w_iload_n k25_28 rfl ?_
        refine w_iconst k25_29 ?_
        refine w_aload_n k25_30 rfl rfl ?_
        refine w_geti k25_31 (k := 3) hv.1 (by decide) ?_
        rw [hC.1]
        refine w_sI k25_34 (by decide) mt22 [_, _, _] rfl rfl rfl (sp_isBetween _ _ _) ?_
        rw [show decide ((0 : Int32) ≤ nI x ∧ nI x ≤ nI V.1) = decide (0 ≤ x ∧ x ≤ V.1) from btw (b := 0) hx (by omega) (by omega)]
        refine w_if_ne k25_37 (fun h37 => ?_) (fun h37 => ?_)
        ·
          have z37 := bI_n0.mp h37
          refine w_aload_n k25_42 rfl rfl ?_
          refine w_getr k25_43 (k := 0) hv.1 (by decide) hv.2.2.2.2.1 ?_
          refine w_aload_n k25_46 rfl rfl ?_
          refine w_geti k25_47 (k := 3) hv.1 (by decide) ?_
          rw [hC.1]
          refine w_iload_n k25_50 rfl ?_
          refine w_sV k25_51 (by decide) mt15 [_, _, _] rfl rfl rfl (sp_set hv.2.1 y1 (by omega)) ?_
          refine w_aload_n k25_54 rfl rfl ?_
          refine w_getr k25_55 (k := 1) hv.1 (by decide) hv.2.2.2.2.2.1 ?_
          refine w_aload_n k25_58 rfl rfl ?_
          refine w_geti k25_59 (k := 3) hv.1 (by decide) ?_
          refine w_top (nI V.1) (by rw [fup_no (by omega)]; exact hC.1) ?_
          refine w_iload_n k25_62 rfl ?_
          refine w_sV k25_63 (by decide) mt15 [_, _, _] rfl rfl rfl (sp_set hv.2.2.1 y1 (by omega)) ?_
          refine w_aload_n k25_66 rfl rfl ?_
          refine w_getr k25_67 (k := 2) hv.1 (by decide) hv.2.2.2.2.2.2 ?_
          refine w_aload_n k25_70 rfl rfl ?_
          refine w_geti k25_71 (k := 3) hv.1 (by decide) ?_
          refine w_top (nI V.1) (by rw [fup_no (by omega), fup_no (by omega)]; exact hC.1) ?_
          refine w_iload_n k25_74 rfl ?_
          refine w_sV k25_75 (by decide) mt15 [_, _, _] rfl rfl rfl (sp_set hv.2.2.2.1 y1 (by omega)) ?_
          refine w_aload_n k25_78 rfl rfl ?_
          refine w_dup k25_79 rfl ?_
          refine w_geti k25_80 (k := 3) hv.1 (by decide) ?_
          refine w_top (nI V.1) (by rw [fup_no (by omega), fup_no (by omega), fup_no (by omega)]; exact hC.1) ?_
          refine w_iconst k25_83 ?_
          refine w_iadd k25_84 ?_
          refine w_top (nI (V.1 + 1)) (nI_1 _) ?_
          refine w_puti k25_85 (k := 3) hv.1 (by decide) ?_
          refine w_iconst k25_88 ?_
          refine w_iret k25_89 mt25 (.boolean) rfl (rfl) ?_
          first
            | (have hb : vcB V k p x = true := by
                 have a1 := of_decide_eq_true z15
                 have a2 := of_decide_eq_true z25
                 have a3 := of_decide_eq_true z37
                 exact decide_eq_true ⟨y1, a1.2, a2, a3.2⟩
               rw [hb]
               refine ⟨rfl, rfl, rfl, fun y hy => by funext q; rw [fup_no (by omega), fup_no (by omega), fup_no (by omega), fup_no (by omega)], ?_⟩
               rw [if_pos rfl]
               refine ⟨fup_self, fun c hc => ?_⟩
               have hc : c < V.1 + 1 := hc
               by_cases hcv : c = V.1
               · subst hcv
                 simp [fup, vAdd]
               · have h1 := hC.2 c (by omega)
                 simp [fup, vAdd, hcv]
                 exact h1)
            | (have hb : vcB V k p x = false := by
                 apply decide_eq_false
                 rintro ⟨b1, b2, b3, b4⟩
                 first
                   | exact y1 b1
                   | (have := of_decide_eq_false z15; exact this ⟨Nat.zero_le _, b2⟩)
                   | (have := of_decide_eq_false z25; exact this b3)
                   | (have := of_decide_eq_false z37; exact this ⟨Nat.zero_le _, b4⟩)
               rw [hb]
               exact ⟨rfl, rfl, rfl, fun _ _ => rfl, hC⟩)
        ·
          have z37 := bI_0.mp h37
          refine w_iconst k25_40 ?_
          refine w_iret k25_41 mt25 (.boolean) rfl (rfl) ?_
          first
            | (have hb : vcB V k p x = true := by
                 have a1 := of_decide_eq_true z15
                 have a2 := of_decide_eq_true z25
                 have a3 := of_decide_eq_true z37
                 exact decide_eq_true ⟨y1, a1.2, a2, a3.2⟩
               rw [hb]
               refine ⟨rfl, rfl, rfl, fun y hy => by funext q; rw [fup_no (by omega), fup_no (by omega), fup_no (by omega), fup_no (by omega)], ?_⟩
               rw [if_pos rfl]
               refine ⟨fup_self, fun c hc => ?_⟩
               have hc : c < V.1 + 1 := hc
               by_cases hcv : c = V.1
               · subst hcv
                 simp [fup, vAdd]
               · have h1 := hC.2 c (by omega)
                 simp [fup, vAdd, hcv]
                 exact h1)
            | (have hb : vcB V k p x = false := by
                 apply decide_eq_false
                 rintro ⟨b1, b2, b3, b4⟩
                 first
                   | exact y1 b1
                   | (have := of_decide_eq_false z15; exact this ⟨Nat.zero_le _, b2⟩)
                   | (have := of_decide_eq_false z25; exact this b3)
                   | (have := of_decide_eq_false z37; exact this ⟨Nat.zero_le _, b4⟩)
               rw [hb]
               exact ⟨rfl, rfl, rfl, fun _ _ => rfl, hC⟩)
theorem sp_Madd2 {S : Scr} {d : Nat} {f : FF} {g : GG} {n a : Nat} {M : Nat → Nat → Nat} (ha : MoOk n g a) (hA : CMo f a M) (h6p : M 0 2 ≤ 6) (c t r : Nat) : Wp S (d + 1) 32 0 [some (.ref a), some (.int (nI c)), some (.int (nI t)), some (.int (nI r))] [] n f g (fun v n' f' g' => v = some (.int (bI (decide (M 0 2 < 6)))) ∧ n' = n ∧ g' = g ∧ OffM f f' a ∧ CMo f' a (if M 0 2 < 6 then mAdd M c t r else M)) := by
  refine (sp_Madd ha hA h6p c t r).mono ?_
  intro v n' f' g' h
  by_cases hz : M 0 2 < 6
  · rw [if_pos hz] at h ⊢
    obtain ⟨rfl, rfl, rfl, h1, h2⟩ := h
    exact ⟨by rw [decide_eq_true hz]; rfl, rfl, rfl, h1, h2⟩
  · rw [if_neg hz] at h ⊢
    obtain ⟨rfl, rfl, rfl, rfl⟩ := h
    exact ⟨by rw [decide_eq_false hz]; rfl, rfl, rfl, OffM.rf, hA⟩
def chairP (tx : Nat → Nat) (tl p : Nat) (V : Va) : Option (Nat × Va) := match num tx tl p with
  | none => none
  | some (k, p1) => if ch tx tl p1 = 44 then (match num tx tl (p1 + 1) with
    | none => none
    | some (pc, p2) => if ch tx tl p2 = 44 then (match num tx tl (p2 + 1) with
      | none => none
      | some (x, p3) => if ch tx tl p3 = 59 ∧ vcB V k pc x = true then some (p3 + 1, vAdd V k pc x) else none) else none) else none
def msgP (tx : Nat → Nat) (tl p : Nat) (V : Va) (M : Nat → Nat → Nat) : Option (Nat × (Nat → Nat → Nat)) := match num tx tl p with
  | none => none
  | some (c, p1) => if ch tx tl p1 = 44 then (match num tx tl (p1 + 1) with
    | none => none
    | some (t, p2) => if ch tx tl p2 = 44 then (if (rowP tx tl 8 (p2 + 1) 0).1 ≠ 0 ∧ ch tx tl (rowP tx tl 8 (p2 + 1) 0).2 = 59 ∧ c < V.1 ∧ M 0 2 < 6 then some ((rowP tx tl 8 (p2 + 1) 0).2 + 1, mAdd M c t (rowP tx tl 8 (p2 + 1) 0).1) else none) else none) else none
def indP (tx : Nat → Nat) (tl p : Nat) (V : Va) (M : Nat → Nat → Nat) : Option (Nat × (Nat → Nat → Nat)) := match num tx tl p with
  | none => none
  | some (c, p1) => if ch tx tl p1 = 59 ∧ c < V.1 then some (p1 + 1, if (M 0 1).testBit c = true then M else mset0 M 1 (M 0 1 ^^^ 2 ^ c)) else none
theorem nv_T {tx : Nat → Nat} {tl p : Nat} (h200 : tl ≤ 200) (hT : TxOk tx tl) (h : nv tx tl p < 0) : num tx tl p = none := by
  rcases nv_neg (p := p) h200 hT with h1 | ⟨v, -, h2, h3, -⟩
  · exact h1.2.1
  · rw [h2] at h; exact absurd h (nI_pos (by omega))
theorem nv_F {tx : Nat → Nat} {tl p : Nat} (h200 : tl ≤ 200) (hT : TxOk tx tl) (h : ¬ nv tx tl p < 0) : ∃ v p1, num tx tl p = some (v, p1) ∧ np tx tl p = p1 ∧ nv tx tl p = nI v ∧ v < 100 ∧ p1 ≤ tl ∧ p < p1 := by
  rcases nv_neg (p := p) h200 hT with h1 | ⟨v, h2, h3, h4, h5, h6⟩
  · exact absurd h1.1 h
  · exact ⟨v, _, h2, rfl, h3, h4, h5, h6⟩
theorem tk_in {tx : Nat → Nat} {tl p c : Nat} (h : ch tx tl p = c) (hc : c ≠ 0) : p < tl := by
  subst h
  exact ch_in hc
/-- what an item leaves -/
def ItQ (n : Nat) (f : FF) (g : GG) (r : Option (Nat × Va × (Nat → Nat → Nat))) : Option Value → Nat → FF → GG → Prop := fun v n' f' g' => n' = n ∧ g' = g ∧ (∀ x, (x ≠ 1 ∧ x < 4) ∨ 17 ≤ x → f' x = f x) ∧ (match r with
  | some q => v = some (.int 1) ∧ f' 1 3 = nI q.1 ∧ CVa f' 4 q.2.1 ∧ CMo f' 8 q.2.2
  | none => v = some (.int 0))
theorem ItQ.no {n : Nat} {f f' : FF} {g : GG} {r : Option (Nat × Va × (Nat → Nat → Nat))} (hr : r = none) (ho : ∀ x, (x ≠ 1 ∧ x < 4) ∨ 17 ≤ x → f' x = f x) : ItQ n f g r (some (.int 0)) n f' g := by subst hr; exact ⟨rfl, rfl, ho, rfl⟩
theorem ItQ.yes {n : Nat} {f f' : FF} {g : GG} {r : Option (Nat × Va × (Nat → Nat → Nat))} {q : Nat × Va × (Nat → Nat → Nat)} (hr : r = some q) (ho : ∀ x, (x ≠ 1 ∧ x < 4) ∨ 17 ≤ x → f' x = f x) (h1 : f' 1 3 = nI q.1) (h2 : CVa f' 4 q.2.1) (h3 : CMo f' 8 q.2.2) : ItQ n f g r (some (.int 1)) n f' g := by subst hr; exact ⟨rfl, rfl, ho, rfl, h1, h2, h3⟩
theorem setP_off {f : FF} {p : Nat} : ∀ x, (x ≠ 1 ∧ x < 4) ∨ 17 ≤ x → setP f p x = f x := fun x hx => setP_no (by omega)
set_option maxHeartbeats 1000000 in
theorem sp_readChair {S : Scr} {d : Nat} {f : FF} {g : GG} {n tl p : Nat} {tx : Nat → Nat} (hn : 137 ≤ n) (G : GOk g) (hL : CLe f tx tl) (hT : TxOk tx tl) (hp : p ≤ 200) {V : Va} {M : Nat → Nat → Nat} (hC : CVa f 4 V) (hV : VWf V) (hM : CMo f 8 M) (hM6 : M 0 2 ≤ 6) (hMI : M 0 1 < 512) : Wp S (d + 3) 26 0 [some (.ref 1), none, none, none] [] n (setP f p) g (ItQ n f g ((chairP tx tl p V).map fun q => (q.1, q.2, M))) := by
  refine w_aload_n k26_0 rfl rfl ?_
  have h200 := hL.2.1
  refine w_vI k26_1 mt24 (kc1 hn) ⟨rfl, by decide⟩ [] rfl rfl rfl (sp_number hn G hL hT (by omega)) ?_
  refine w_istore_n k26_4 (ls' := [_, _, _, _]) rfl ?_
  refine w_iload_n k26_5 rfl ?_
  refine w_if_lt k26_6 (fun h6 => ?_) (fun h6 => ?_)
  ·
    have q1 := nv_T h200 hT h6
    refine w_iconst k26_18 ?_
    refine w_iret k26_19 mt26 (.boolean) rfl (rfl) ?_
    first
      | (refine ItQ.no ?_ setP_off; simp [chairP, q1]; done)
      | (refine ItQ.no ?_ setP_off; simp [chairP, q1, k1]; done)
      | (refine ItQ.no ?_ setP_off; simp [chairP, q1, k1, q2]; done)
      | (refine ItQ.no ?_ setP_off; simp [chairP, q1, k1, q2, k2]; done)
      | (refine ItQ.no ?_ setP_off; simp [chairP, q1, k1, q2, k2, q3]; done)
      | (refine ItQ.no ?_ setP_off; simp [chairP, q1, k1, q2, k2, q3, k3]; done)
      | (refine ItQ.no ?_ (fun x hx => by rw [hO x (by omega)]; exact setP_off x hx); simp [chairP, q1, k1, q2, k2, q3, k3, z68]; done)
      | (rw [z68, if_pos rfl] at hC2
         exact ItQ.yes (q := (q3p + 1, vAdd V q1v q2v q3v, M)) (by simp [chairP, q1, k1, q2, k2, q3, k3, z68]) (fun x hx => by rw [hO x (by omega)]; exact setP_off x hx) (by rw [hO 1 (by omega)]; exact setP_at) hC2 ((hM.setP (p := q3p + 1) (by omega)).eq hM6 (fun x h1 h2 => hO x (by omega))))
  ·
    obtain ⟨q1v, q1p, q1, q1e, q1n, q1l, q1b, q1c⟩ := nv_F h200 hT h6
    rw [q1e, q1n]
    refine w_aload_n k26_9 rfl rfl ?_
    refine w_bipush k26_10 ?_
    refine w_vI k26_12 mt21 (kc1 hn) ⟨rfl, by decide⟩ [_] rfl rfl rfl (sp_takes hn G hL hT (by omega) (c := 44) (by omega)) ?_
    refine w_if_ne k26_15 (fun h15 => ?_) (fun h15 => ?_)
    ·
      have k1 := of_decide_eq_true (bI_n0.mp h15)
      rw [if_pos k1]
      refine w_aload_n k26_20 rfl rfl ?_
      have i1 := tk_in k1 (by omega)
      refine w_vI k26_21 mt24 (kc1 hn) ⟨rfl, by decide⟩ [] rfl rfl rfl (sp_number hn G hL hT (by omega)) ?_
      refine w_istore_n k26_24 (ls' := [_, _, _, _]) rfl ?_
      refine w_iload_n k26_25 rfl ?_
      refine w_if_lt k26_26 (fun h26 => ?_) (fun h26 => ?_)
      ·
        have q2 := nv_T h200 hT h26
        refine w_iconst k26_38 ?_
        refine w_iret k26_39 mt26 (.boolean) rfl (rfl) ?_
        first
          | (refine ItQ.no ?_ setP_off; simp [chairP, q1]; done)
          | (refine ItQ.no ?_ setP_off; simp [chairP, q1, k1]; done)
          | (refine ItQ.no ?_ setP_off; simp [chairP, q1, k1, q2]; done)
          | (refine ItQ.no ?_ setP_off; simp [chairP, q1, k1, q2, k2]; done)
          | (refine ItQ.no ?_ setP_off; simp [chairP, q1, k1, q2, k2, q3]; done)
          | (refine ItQ.no ?_ setP_off; simp [chairP, q1, k1, q2, k2, q3, k3]; done)
          | (refine ItQ.no ?_ (fun x hx => by rw [hO x (by omega)]; exact setP_off x hx); simp [chairP, q1, k1, q2, k2, q3, k3, z68]; done)
          | (rw [z68, if_pos rfl] at hC2
             exact ItQ.yes (q := (q3p + 1, vAdd V q1v q2v q3v, M)) (by simp [chairP, q1, k1, q2, k2, q3, k3, z68]) (fun x hx => by rw [hO x (by omega)]; exact setP_off x hx) (by rw [hO 1 (by omega)]; exact setP_at) hC2 ((hM.setP (p := q3p + 1) (by omega)).eq hM6 (fun x h1 h2 => hO x (by omega))))
      ·
        obtain ⟨q2v, q2p, q2, q2e, q2n, q2l, q2b, q2c⟩ := nv_F h200 hT h26
        rw [q2e, q2n]
        refine w_aload_n k26_29 rfl rfl ?_
        refine w_bipush k26_30 ?_
        refine w_vI k26_32 mt21 (kc1 hn) ⟨rfl, by decide⟩ [_] rfl rfl rfl (sp_takes hn G hL hT (by omega) (c := 44) (by omega)) ?_
        refine w_if_ne k26_35 (fun h35 => ?_) (fun h35 => ?_)
        ·
          have k2 := of_decide_eq_true (bI_n0.mp h35)
          rw [if_pos k2]
          refine w_aload_n k26_40 rfl rfl ?_
          have i2 := tk_in k2 (by omega)
          refine w_vI k26_41 mt24 (kc1 hn) ⟨rfl, by decide⟩ [] rfl rfl rfl (sp_number hn G hL hT (by omega)) ?_
          refine w_istore_n k26_44 (ls' := [_, _, _, _]) rfl ?_
          refine w_iload_n k26_45 rfl ?_
          refine w_if_lt k26_46 (fun h46 => ?_) (fun h46 => ?_)
          ·
            have q3 := nv_T h200 hT h46
            refine w_iconst k26_75 ?_
            refine w_iret k26_76 mt26 (.boolean) rfl (rfl) ?_
            first
              | (refine ItQ.no ?_ setP_off; simp [chairP, q1]; done)
              | (refine ItQ.no ?_ setP_off; simp [chairP, q1, k1]; done)
              | (refine ItQ.no ?_ setP_off; simp [chairP, q1, k1, q2]; done)
              | (refine ItQ.no ?_ setP_off; simp [chairP, q1, k1, q2, k2]; done)
              | (refine ItQ.no ?_ setP_off; simp [chairP, q1, k1, q2, k2, q3]; done)
              | (refine ItQ.no ?_ setP_off; simp [chairP, q1, k1, q2, k2, q3, k3]; done)
              | (refine ItQ.no ?_ (fun x hx => by rw [hO x (by omega)]; exact setP_off x hx); simp [chairP, q1, k1, q2, k2, q3, k3, z68]; done)
              | (rw [z68, if_pos rfl] at hC2
                 exact ItQ.yes (q := (q3p + 1, vAdd V q1v q2v q3v, M)) (by simp [chairP, q1, k1, q2, k2, q3, k3, z68]) (fun x hx => by rw [hO x (by omega)]; exact setP_off x hx) (by rw [hO 1 (by omega)]; exact setP_at) hC2 ((hM.setP (p := q3p + 1) (by omega)).eq hM6 (fun x h1 h2 => hO x (by omega))))
          ·
            obtain ⟨q3v, q3p, q3, q3e, q3n, q3l, q3b, q3c⟩ := nv_F h200 hT h46
            rw [q3e, q3n]
            refine w_aload_n k26_49 rfl rfl ?_
            refine w_bipush k26_50 ?_
            refine w_vI k26_52 mt21 (kc1 hn) ⟨rfl, by decide⟩ [_] rfl rfl rfl (sp_takes hn G hL hT (by omega) (c := 59) (by omega)) ?_
            refine w_if_eq k26_55 (fun h55 => ?_) (fun h55 => ?_)
            ·
              have k3 := of_decide_eq_false (bI_0.mp h55)
              rw [if_neg k3]
              refine w_iconst k26_75 ?_
              refine w_iret k26_76 mt26 (.boolean) rfl (rfl) ?_
              first
                | (refine ItQ.no ?_ setP_off; simp [chairP, q1]; done)
                | (refine ItQ.no ?_ setP_off; simp [chairP, q1, k1]; done)
                | (refine ItQ.no ?_ setP_off; simp [chairP, q1, k1, q2]; done)
                | (refine ItQ.no ?_ setP_off; simp [chairP, q1, k1, q2, k2]; done)
                | (refine ItQ.no ?_ setP_off; simp [chairP, q1, k1, q2, k2, q3]; done)
                | (refine ItQ.no ?_ setP_off; simp [chairP, q1, k1, q2, k2, q3, k3]; done)
                | (refine ItQ.no ?_ (fun x hx => by rw [hO x (by omega)]; exact setP_off x hx); simp [chairP, q1, k1, q2, k2, q3, k3, z68]; done)
                | (rw [z68, if_pos rfl] at hC2
                   exact ItQ.yes (q := (q3p + 1, vAdd V q1v q2v q3v, M)) (by simp [chairP, q1, k1, q2, k2, q3, k3, z68]) (fun x hx => by rw [hO x (by omega)]; exact setP_off x hx) (by rw [hO 1 (by omega)]; exact setP_at) hC2 ((hM.setP (p := q3p + 1) (by omega)).eq hM6 (fun x h1 h2 => hO x (by omega))))
            ·
              have k3 := of_decide_eq_true (bI_n0.mp h55)
              rw [if_pos k3]
              refine w_aload_n k26_58 rfl rfl ?_
              refine w_getr k26_59 (k := 1) (kc1 hn) (by decide) (r1_1 G) ?_
              refine w_iload_n k26_62 rfl ?_
              refine w_iload_n k26_63 rfl ?_
              refine w_iload_n k26_64 rfl ?_
              have i3 := tk_in k3 (by omega)
              have h99 := hV.1
              refine w_vA k26_65 mt25 (kc4 hn) ⟨rfl, by decide⟩ [_, _, _] rfl rfl rfl (sp_Vadd (va4 hn G) (hC.setP (by omega)) h99 (by omega) (by omega) (by omega)) ?_
              rintro _ _ f2 _ ⟨rfl, rfl, rfl, hO, hC2⟩
              refine w_if_eq k26_68 (fun h68 => ?_) (fun h68 => ?_)
              ·
                have z68 := bI_0.mp h68
                refine w_iconst k26_75 ?_
                refine w_iret k26_76 mt26 (.boolean) rfl (rfl) ?_
                first
                  | (refine ItQ.no ?_ setP_off; simp [chairP, q1]; done)
                  | (refine ItQ.no ?_ setP_off; simp [chairP, q1, k1]; done)
                  | (refine ItQ.no ?_ setP_off; simp [chairP, q1, k1, q2]; done)
                  | (refine ItQ.no ?_ setP_off; simp [chairP, q1, k1, q2, k2]; done)
                  | (refine ItQ.no ?_ setP_off; simp [chairP, q1, k1, q2, k2, q3]; done)
                  | (refine ItQ.no ?_ setP_off; simp [chairP, q1, k1, q2, k2, q3, k3]; done)
                  | (refine ItQ.no ?_ (fun x hx => by rw [hO x (by omega)]; exact setP_off x hx); simp [chairP, q1, k1, q2, k2, q3, k3, z68]; done)
                  | (rw [z68, if_pos rfl] at hC2
                     exact ItQ.yes (q := (q3p + 1, vAdd V q1v q2v q3v, M)) (by simp [chairP, q1, k1, q2, k2, q3, k3, z68]) (fun x hx => by rw [hO x (by omega)]; exact setP_off x hx) (by rw [hO 1 (by omega)]; exact setP_at) hC2 ((hM.setP (p := q3p + 1) (by omega)).eq hM6 (fun x h1 h2 => hO x (by omega))))
              ·
                have z68 := bI_n0.mp h68
                refine w_iconst k26_71 ?_
                refine w_goto k26_72 ?_
                refine w_iret k26_76 mt26 (.boolean) rfl (rfl) ?_
                first
                  | (refine ItQ.no ?_ setP_off; simp [chairP, q1]; done)
                  | (refine ItQ.no ?_ setP_off; simp [chairP, q1, k1]; done)
                  | (refine ItQ.no ?_ setP_off; simp [chairP, q1, k1, q2]; done)
                  | (refine ItQ.no ?_ setP_off; simp [chairP, q1, k1, q2, k2]; done)
                  | (refine ItQ.no ?_ setP_off; simp [chairP, q1, k1, q2, k2, q3]; done)
                  | (refine ItQ.no ?_ setP_off; simp [chairP, q1, k1, q2, k2, q3, k3]; done)
                  | (refine ItQ.no ?_ (fun x hx => by rw [hO x (by omega)]; exact setP_off x hx); simp [chairP, q1, k1, q2, k2, q3, k3, z68]; done)
                  | (rw [z68, if_pos rfl] at hC2
                     exact ItQ.yes (q := (q3p + 1, vAdd V q1v q2v q3v, M)) (by simp [chairP, q1, k1, q2, k2, q3, k3, z68]) (fun x hx => by rw [hO x (by omega)]; exact setP_off x hx) (by rw [hO 1 (by omega)]; exact setP_at) hC2 ((hM.setP (p := q3p + 1) (by omega)).eq hM6 (fun x h1 h2 => hO x (by omega))))
        ·
          have k2 := of_decide_eq_false (bI_0.mp h35)
          rw [if_neg k2]
          refine w_iconst k26_38 ?_
          refine w_iret k26_39 mt26 (.boolean) rfl (rfl) ?_
          first
            | (refine ItQ.no ?_ setP_off; simp [chairP, q1]; done)
            | (refine ItQ.no ?_ setP_off; simp [chairP, q1, k1]; done)
            | (refine ItQ.no ?_ setP_off; simp [chairP, q1, k1, q2]; done)
            | (refine ItQ.no ?_ setP_off; simp [chairP, q1, k1, q2, k2]; done)
            | (refine ItQ.no ?_ setP_off; simp [chairP, q1, k1, q2, k2, q3]; done)
            | (refine ItQ.no ?_ setP_off; simp [chairP, q1, k1, q2, k2, q3, k3]; done)
            | (refine ItQ.no ?_ (fun x hx => by rw [hO x (by omega)]; exact setP_off x hx); simp [chairP, q1, k1, q2, k2, q3, k3, z68]; done)
            | (rw [z68, if_pos rfl] at hC2
               exact ItQ.yes (q := (q3p + 1, vAdd V q1v q2v q3v, M)) (by simp [chairP, q1, k1, q2, k2, q3, k3, z68]) (fun x hx => by rw [hO x (by omega)]; exact setP_off x hx) (by rw [hO 1 (by omega)]; exact setP_at) hC2 ((hM.setP (p := q3p + 1) (by omega)).eq hM6 (fun x h1 h2 => hO x (by omega))))
    ·
      have k1 := of_decide_eq_false (bI_0.mp h15)
      rw [if_neg k1]
      refine w_iconst k26_18 ?_
      refine w_iret k26_19 mt26 (.boolean) rfl (rfl) ?_
      first
        | (refine ItQ.no ?_ setP_off; simp [chairP, q1]; done)
        | (refine ItQ.no ?_ setP_off; simp [chairP, q1, k1]; done)
        | (refine ItQ.no ?_ setP_off; simp [chairP, q1, k1, q2]; done)
        | (refine ItQ.no ?_ setP_off; simp [chairP, q1, k1, q2, k2]; done)
        | (refine ItQ.no ?_ setP_off; simp [chairP, q1, k1, q2, k2, q3]; done)
        | (refine ItQ.no ?_ setP_off; simp [chairP, q1, k1, q2, k2, q3, k3]; done)
        | (refine ItQ.no ?_ (fun x hx => by rw [hO x (by omega)]; exact setP_off x hx); simp [chairP, q1, k1, q2, k2, q3, k3, z68]; done)
        | (rw [z68, if_pos rfl] at hC2
           exact ItQ.yes (q := (q3p + 1, vAdd V q1v q2v q3v, M)) (by simp [chairP, q1, k1, q2, k2, q3, k3, z68]) (fun x hx => by rw [hO x (by omega)]; exact setP_off x hx) (by rw [hO 1 (by omega)]; exact setP_at) hC2 ((hM.setP (p := q3p + 1) (by omega)).eq hM6 (fun x h1 h2 => hO x (by omega))))
