/-! SPECS, 40: the model reads the whole text, lays it -/
theorem ItM.setQ {f : FF} {g : GG} {p : Nat} {r : Option (Nat × Va × (Nat → Nat → Nat))} {v : Option Value} {n' : Nat} {f' : FF} {g' : GG} (h : ItM f g r v n' f' g') (h0 : OffRd f f) : ItM f g r v n' f' g' := h
theorem RMd.ind {f : FF} {V : Va} {M : Nat → Nat → Nat} {x : Nat} {w : Int32} (h : RMd f V M) (hw : w = nI x) : RMd (fup f 137 5 w) V (mset0 M 1 x) := by
  subst hw
  have e : ∀ m, mset0 M 1 x (m + 1) = M (m + 1) := fun m => by funext q; exact if_neg (by omega)
  refine ⟨by rw [fup_ne (by omega)]; exact h.1, by rw [fup_ne (by omega)]; exact h.2.1, fup_self, fun c hc => by rw [fup_no (by omega), fup_no (by omega), fup_no (by omega)]; exact h.2.2.2.1 c hc, fun m hm => ?_⟩
  rw [e, fup_no (by omega), fup_no (by omega), fup_no (by omega)]
  exact h.2.2.2.2 m hm
theorem mset0_id {M : Nat → Nat → Nat} : mset0 M 1 (M 0 1) = M := by
  funext i j
  unfold mset0
  split
  · rename_i h
    rw [h.1, h.2]
  · rfl
theorem nE_m1 {x : Int32} {N : Nat} (h : x = -1) : decide ((0 : Int32) ≤ x ∧ x < nI N) = false := by
  subst h
  exact decide_eq_false (fun hh => absurd hh.1 (by decide))
set_option maxHeartbeats 1000000 in
theorem ml_ri54n {S : Scr} {d : Nat} {f : FF} {g : GG} {p : Nat} {V : Va} {M : Nat → Nat → Nat} {q1 x : Int32} {R : Option (Nat × Va × (Nat → Nat → Nat))} (G : GOm g) (hR : RMd f V M) (hMI : M 0 1 < 512) (h9 : V.1 ≤ 9) (hx : decide ((0 : Int32) ≤ x ∧ x < nI V.1) = false) (hr : R = none) : Wp S (d + 3) 69 54 [some (.ref 137), some (.int q1), some (.int x)] [] 153 (setQ f p) g (ItM f g R) := by
  refine w_aload_n k69_54 rfl rfl ?_
  refine w_dup k69_55 rfl ?_
  refine w_geti k69_56 (k := 5) kd137 (by decide) ?_
  rw [setQ_ne (by omega), hR.2.2.1]
  refine w_iload_n k69_59 rfl ?_
  refine w_iconst k69_60 ?_
  refine w_aload_n k69_61 rfl rfl ?_
  refine w_geti k69_62 (k := 3) kd137 (by decide) ?_
  rw [setQ_ne (by omega), hR.1]
  refine w_iconst k69_65 ?_
  refine w_isub k69_66 ?_
  refine w_sI k69_67 (by decide) mt59 [_, _, _] rfl rfl rfl (mp_in _ _ _) ?_
  rw [le_pred0 (by omega), hx]
  refine w_if_eq k69_70 (fun h70 => ?_) (fun h70 => absurd (rfl) h70)
  refine w_iconst k69_79 ?_
  refine w_ior k69_80 ?_
  refine w_puti k69_81 (k := 5) kd137 (by decide) ?_
  refine w_iload_n k69_84 rfl ?_
  refine w_iconst k69_85 ?_
  refine w_aload_n k69_86 rfl rfl ?_
  refine w_geti k69_87 (k := 3) kd137 (by decide) ?_
  rw [fup_ne (by omega), setQ_ne (by omega), hR.1]
  refine w_iconst k69_90 ?_
  refine w_isub k69_91 ?_
  refine w_sI k69_92 (by decide) mt59 [_, _, _] rfl rfl rfl (mp_in _ _ _) ?_
  rw [le_pred0 (by omega), hx]
  refine w_iret k69_95 mt69 (.boolean) rfl (rfl) ?_
  exact ItM.no hr (OffRd.q.tr (OffRd.up7 (by omega)))
set_option maxHeartbeats 1000000 in
theorem ml_ri54y {S : Scr} {d : Nat} {f : FF} {g : GG} {p c : Nat} {V : Va} {M : Nat → Nat → Nat} {q1 : Int32} {R : Option (Nat × Va × (Nat → Nat → Nat))} (G : GOm g) (hR : RMd f V M) (hMI : M 0 1 < 512) (h9 : V.1 ≤ 9) (hc : c < V.1) (hr : R = some (p, V, if (M 0 1).testBit c = true then M else mset0 M 1 (M 0 1 ^^^ 2 ^ c))) : Wp S (d + 3) 69 54 [some (.ref 137), some (.int q1), some (.int (nI c))] [] 153 (setQ f p) g (ItM f g R) := by
  refine w_aload_n k69_54 rfl rfl ?_
  refine w_dup k69_55 rfl ?_
  refine w_geti k69_56 (k := 5) kd137 (by decide) ?_
  rw [setQ_ne (by omega), hR.2.2.1]
  refine w_iload_n k69_59 rfl ?_
  refine w_iconst k69_60 ?_
  refine w_aload_n k69_61 rfl rfl ?_
  refine w_geti k69_62 (k := 3) kd137 (by decide) ?_
  rw [setQ_ne (by omega), hR.1]
  refine w_iconst k69_65 ?_
  refine w_isub k69_66 ?_
  refine w_sI k69_67 (by decide) mt59 [_, _, _] rfl rfl rfl (mp_in _ _ _) ?_
  rw [le_pred0 (by omega), has_dec (by omega) (by omega), decide_eq_true hc]
  refine w_if_eq k69_70 (fun h70 => absurd h70 (by decide)) (fun h70 => ?_)
  refine w_iconst k69_73 ?_
  refine w_iload_n k69_74 rfl ?_
  refine w_ishl k69_75 ?_
  rw [shl1_n (by omega)]
  refine w_goto k69_76 ?_
  refine w_ior k69_80 ?_
  rw [nI_or]
  refine w_puti k69_81 (k := 5) kd137 (by decide) ?_
  refine w_iload_n k69_84 rfl ?_
  refine w_iconst k69_85 ?_
  refine w_aload_n k69_86 rfl rfl ?_
  refine w_geti k69_87 (k := 3) kd137 (by decide) ?_
  rw [fup_ne (by omega), setQ_ne (by omega), hR.1]
  refine w_iconst k69_90 ?_
  refine w_isub k69_91 ?_
  refine w_sI k69_92 (by decide) mt59 [_, _, _] rfl rfl rfl (mp_in _ _ _) ?_
  rw [le_pred0 (by omega), has_dec (by omega) (by omega), decide_eq_true hc]
  refine w_iret k69_95 mt69 (.boolean) rfl (rfl) ?_
  refine ItM.yes hr (OffRd.q.tr (OffRd.up7 (by omega))) ?_ ?_
  · rw [fup_ne (by omega)]
    exact setQ_at
  · have e : (if (M 0 1).testBit c = true then M else mset0 M 1 (M 0 1 ^^^ 2 ^ c)) = mset0 M 1 (M 0 1 ||| 2 ^ c) := by
      rw [← or_set]
      split
      · exact mset0_id.symm
      · rfl
    show RMd _ V (if (M 0 1).testBit c = true then M else mset0 M 1 (M 0 1 ^^^ 2 ^ c))
    rw [e]
    exact hR.q.ind rfl
set_option maxHeartbeats 1000000 in
theorem mp_readsItem {S : Scr} {d : Nat} {f : FF} {g : GG} {tl p : Nat} {tx : Nat → Nat} (G : GOm g) (hL : MLe f tx tl) (hT : TxOk tx tl) (hp : p ≤ 200) {V : Va} {M : Nat → Nat → Nat} (hR : RMd f V M) (hV : VWf V) (hM6 : M 0 2 ≤ 6) (hMI : M 0 1 < 512) : Wp S (d + 3) 69 0 [some (.ref 137), none, none] [] 153 (setQ f p) g (ItM f g (itemP tx tl p V M)) := by
  have h9 := hV.1
  have h200 := hL.2.1
  refine w_aload_n k69_0 rfl rfl ?_
  refine w_vI k69_1 mt64 kd137 ⟨rfl, by decide⟩ [] rfl rfl rfl (mp_here G hL hT (by omega)) ?_
  refine w_istore_n k69_4 (ls' := [_, _, _]) rfl ?_
  refine w_aload_n k69_5 rfl rfl ?_
  refine w_dup k69_6 rfl ?_
  refine w_geti k69_7 (k := 2) kd137 (by decide) ?_
  rw [setQ_at]
  refine w_iconst k69_10 ?_
  refine w_iadd k69_11 ?_
  refine w_top (nI (p + 1)) (nI_1 _) ?_
  refine w_puti k69_12 (k := 2) kd137 (by decide) ?_
  rw [setQ_setQ]
  refine w_iload_n k69_15 rfl ?_
  refine w_bipush k69_16 ?_
  have hcl := ch_lt hT p
  refine w_icmp_ne k69_18 (fun h18 => ?_) (fun h18 => ?_)
  ·
    have k1 : ¬ ch tx tl p = 99 := fun hh => h18 (by rw [hh]; rfl)
    refine w_iload_n k69_26 rfl ?_
    refine w_bipush k69_27 ?_
    refine w_icmp_ne k69_29 (fun h29 => ?_) (fun h29 => ?_)
    ·
      have k2 : ¬ ch tx tl p = 109 := fun hh => h29 (by rw [hh]; rfl)
      refine w_iload_n k69_37 rfl ?_
      refine w_bipush k69_38 ?_
      refine w_icmp_ne k69_40 (fun h40 => ?_) (fun h40 => ?_)
      ·
        have k3 : ¬ ch tx tl p = 105 := fun hh => h40 (by rw [hh]; rfl)
        refine w_iconst k69_52 ?_
        refine w_istore_n k69_53 (ls' := [_, _, _]) rfl ?_
        first
          | (have eI : itemP tx tl p V M = none := by unfold itemP; rw [if_neg k1, if_neg k2, if_neg k3]
             exact ml_ri54n G hR hMI h9 (nE_m1 rfl) eI)
          | (have eI : itemP tx tl p V M = (indE tx tl (p + 1) V M).map fun q => (q.1, V, q.2) := by unfold itemP; rw [if_neg k1, if_neg k2, if_pos k3, ind_E]
             by_cases hn : 0 ≤ nE tx tl (p + 1) 59
             · obtain ⟨v, p1, e1, e2, l1, b1, c1⟩ := nE_T (by decide) hn
               have ex : p1 = x1 := (hx1 _ e1).symm
               subst ex
               rw [e2]
               by_cases hc : v < V.1
               · exact ml_ri54y G hR hMI h9 hc (by rw [eI]; simp [indE, e1, hc])
               · exact ml_ri54n G hR hMI h9 (by rw [has_dec (by omega) (by omega)]; exact decide_eq_false hc) (by rw [eI]; simp [indE, e1, hc])
             · have e1 := nE_F (by decide) hn
               exact ml_ri54n G hR hMI h9 (nE_m1 (by unfold nE; rw [e1])) (by rw [eI]; simp [indE, e1]))
      ·
        have k3 : ch tx tl p = 105 := (nI_eq (b := 105) (by omega) (by omega)).mp h40
        refine w_aload_n k69_43 rfl rfl ?_
        refine w_bipush k69_44 ?_
        refine w_vA k69_46 mt65 kd137 ⟨rfl, by decide⟩ [_] rfl rfl rfl (mp_number (p := p + 1) G hL hT (by omega) (e := 59) (by omega)) ?_
        rintro _ _ _ _ ⟨rfl, rfl, rfl, x1, rfl, hx1⟩
        refine w_goto k69_49 ?_
        refine w_istore_n k69_53 (ls' := [_, _, _]) rfl ?_
        first
          | (have eI : itemP tx tl p V M = none := by unfold itemP; rw [if_neg k1, if_neg k2, if_neg k3]
             exact ml_ri54n G hR hMI h9 (nE_m1 rfl) eI)
          | (have eI : itemP tx tl p V M = (indE tx tl (p + 1) V M).map fun q => (q.1, V, q.2) := by unfold itemP; rw [if_neg k1, if_neg k2, if_pos k3, ind_E]
             by_cases hn : 0 ≤ nE tx tl (p + 1) 59
             · obtain ⟨v, p1, e1, e2, l1, b1, c1⟩ := nE_T (by decide) hn
               have ex : p1 = x1 := (hx1 _ e1).symm
               subst ex
               rw [e2]
               by_cases hc : v < V.1
               · exact ml_ri54y G hR hMI h9 hc (by rw [eI]; simp [indE, e1, hc])
               · exact ml_ri54n G hR hMI h9 (by rw [has_dec (by omega) (by omega)]; exact decide_eq_false hc) (by rw [eI]; simp [indE, e1, hc])
             · have e1 := nE_F (by decide) hn
               exact ml_ri54n G hR hMI h9 (nE_m1 (by unfold nE; rw [e1])) (by rw [eI]; simp [indE, e1]))
    ·
      have k2 : ch tx tl p = 109 := (nI_eq (b := 109) (by omega) (by omega)).mp h29
      refine w_aload_n k69_32 rfl rfl ?_
      refine w_vA k69_33 mt68 kd137 ⟨rfl, by decide⟩ [] rfl rfl rfl (mp_readsMessage (p := p + 1) G hL hT (by omega) hR hV hM6 hMI) ?_
      rintro v1 n1 f1 g1 ⟨rfl, rfl, rfl, hO, hq⟩
      refine w_iret k69_36 mt69 (.boolean) rfl (nar_b _) ?_
      rw [← msg_E] at hq ⊢
      rw [show itemP tx tl p V M = (msgP tx tl (p + 1) V M).map fun q => (q.1, V, q.2) from by unfold itemP; rw [if_neg k1, if_pos k2]]
      exact ⟨rfl, rfl, rfl, hO, hq⟩
  ·
    have k1 : ch tx tl p = 99 := (nI_eq (b := 99) (by omega) (by omega)).mp h18
    refine w_aload_n k69_21 rfl rfl ?_
    refine w_vA k69_22 mt66 kd137 ⟨rfl, by decide⟩ [] rfl rfl rfl (mp_readsChair (p := p + 1) G hL hT (by omega) hR hV hM6 hMI) ?_
    rintro v1 n1 f1 g1 ⟨rfl, rfl, rfl, hO, hq⟩
    refine w_iret k69_25 mt69 (.boolean) rfl (nar_b _) ?_
    rw [← chair_E] at hq ⊢
    rw [show itemP tx tl p V M = (chairP tx tl (p + 1) V).map fun q => (q.1, q.2, M) from if_pos k1]
    exact ⟨rfl, rfl, rfl, hO, hq⟩
set_option maxHeartbeats 1000000 in
theorem mp_anew {S : Scr} {d : Nat} {f : FF} {g : GG}  : Wp S d 52 0 [some (.ref 137)] [] 153 f g (Is none 153 (fup (fup (fup f 137 3 0) 137 4 0) 137 5 0) g) := by
  refine w_aload_n k52_0 rfl rfl ?_
  refine w_iconst k52_1 ?_
  refine w_puti k52_2 (k := 3) kd137 (by decide) ?_
  refine w_aload_n k52_5 rfl rfl ?_
  refine w_iconst k52_6 ?_
  refine w_puti k52_7 (k := 4) kd137 (by decide) ?_
  refine w_aload_n k52_10 rfl rfl ?_
  refine w_iconst k52_11 ?_
  refine w_puti k52_12 (k := 5) kd137 (by decide) ?_
  refine w_vret k52_15 mt52 rfl ?_
  exact ⟨rfl, rfl, rfl, rfl⟩
set_option maxHeartbeats 1000000 in
theorem ml_faultOf {S : Scr} {d : Nat} {f : FF} {g : GG} {tl : Nat} {tx : Nat → Nat} (G : GOm g) (hL : MLe f tx tl) (hT : TxOk tx tl) : ∀ (t p : Nat) (V : Va) (M : Nat → Nat → Nat) (f1 : FF) (q : Option Value), tl ≤ t + p → OffRd f f1 → f1 137 2 = nI p → RMd f1 V M → RdW tl (p, V, M) → Wp S (d + 4) 70 9 [some (.ref 137), q] [] 153 f1 g (fun v n' f' g' => v = some (.int (rdV (rdP tx tl t p V M).1)) ∧ n' = 153 ∧ g' = g ∧ OffRd f f' ∧ ((rdP tx tl t p V M).1 = none → RMd f' (rdP tx tl t p V M).2.1 (rdP tx tl t p V M).2.2)) := by
  have h200 := hL.2.1
  intro t
  induction t with
  | zero =>
    intro p V M f1 q e0 e1 e2 e3 e4
    have hp0 : p ≤ tl := e4.1
    have hL1 := hL.off e1
    refine w_aload_n k70_9 rfl rfl ?_
    refine w_geti k70_10 (k := 2) kd137 (by decide) ?_
    rw [e2]
    refine w_aload_n k70_13 rfl rfl ?_
    refine w_geti k70_14 (k := 0) kd137 (by decide) ?_
    rw [hL1.1]
    refine w_icmp_ge k70_17 (fun h17 => ?_) (fun h17 => absurd (nI_le (by omega) (by omega)) h17)
    refine w_bipush k70_37 ?_
    refine w_iret k70_39 mt70 (.int) rfl (rfl) ?_
    exact ⟨rfl, rfl, rfl, e1, fun _ => e3⟩
  | succ t ih =>
    intro p V M f1 q e0 e1 e2 e3 e4
    have hp0 : p ≤ tl := e4.1
    have hL1 := hL.off e1
    have hri := mp_readsItem (S := S) (d := d) (p := p) G hL1 hT (by omega) e3 e4.2.1 e4.2.2.1.1 e4.2.2.1.2.2.1
    rw [setQ_id e2] at hri
    refine w_aload_n k70_9 rfl rfl ?_
    refine w_geti k70_10 (k := 2) kd137 (by decide) ?_
    rw [e2]
    refine w_aload_n k70_13 rfl rfl ?_
    refine w_geti k70_14 (k := 0) kd137 (by decide) ?_
    rw [hL1.1]
    refine w_icmp_ge k70_17 (fun h17 => ?_) (fun h17 => ?_)
    ·
      have hz : ¬ p < tl := fun hh => nI_ge hh (by omega) h17
      refine w_bipush k70_37 ?_
      refine w_iret k70_39 mt70 (.int) rfl (rfl) ?_
      first
        | (rw [show rdP tx tl (t + 1) p V M = (none, V, M) from by simp only [rdP]; rw [if_neg hz]]
           exact ⟨rfl, rfl, rfl, e1, fun _ => e3⟩)
        | (rw [show rdP tx tl (t + 1) p V M = (some p, V, M) from by simp only [rdP]; rw [if_pos hz, hw]]
           exact ⟨rfl, rfl, rfl, e1.tr hO, fun hh => nomatch hh⟩)
    ·
      have hz : p < tl := Nat.not_le.mp fun hh => h17 (nI_le hh (by omega))
      refine w_aload_n k70_20 rfl rfl ?_
      refine w_geti k70_21 (k := 2) kd137 (by decide) ?_
      rw [e2]
      refine w_istore_n k70_24 (ls' := [_, _]) rfl ?_
      refine w_aload_n k70_25 rfl rfl ?_
      refine w_vA k70_26 mt69 kd137 ⟨rfl, by decide⟩ [] rfl rfl rfl hri ?_
      rintro v1 n1 f2 g1 ⟨rfl, rfl, rfl, hO, hr⟩
      refine w_if_ne k70_29 (fun h29 => ?_) (fun h29 => ?_)
      ·
        obtain ⟨w, hw⟩ := Option.isSome_iff_exists.mp (bI_n0.mp h29)
        refine w_goto k70_34 ?_
        rw [show rdP tx tl (t + 1) p V M = rdP tx tl t w.1 w.2.1 w.2.2 from by simp only [rdP]; rw [if_pos hz, hw]]
        have hg := itemP_gt hw
        have hr2 := hr w hw
        exact ih w.1 w.2.1 w.2.2 f2 _ (by omega) (e1.tr hO) hr2.1 hr2.2 (itemP_ok e4.2.1 e4.2.2.1 e4.2.2.2 hw)
      ·
        have hw : itemP tx tl p V M = none := Option.not_isSome_iff_eq_none.mp (by rw [bI_0.mp h29]; decide)
        refine w_iload_n k70_32 rfl ?_
        refine w_iret k70_33 mt70 (.int) rfl (rfl) ?_
        first
          | (rw [show rdP tx tl (t + 1) p V M = (none, V, M) from by simp only [rdP]; rw [if_neg hz]]
             exact ⟨rfl, rfl, rfl, e1, fun _ => e3⟩)
          | (rw [show rdP tx tl (t + 1) p V M = (some p, V, M) from by simp only [rdP]; rw [if_pos hz, hw]]
             exact ⟨rfl, rfl, rfl, e1.tr hO, fun hh => nomatch hh⟩)
set_option maxHeartbeats 1000000 in
theorem mp_faultOf {S : Scr} {d : Nat} {f : FF} {g : GG} {tl : Nat} {tx : Nat → Nat} (G : GOm g) (hL : MLe f tx tl) (hT : TxOk tx tl) : Wp S (d + 4) 70 0 [some (.ref 137), none] [] 153 f g (fun v n' f' g' => v = some (.int (rdV (rdP tx tl 200 0 va0 mo0).1)) ∧ n' = 153 ∧ g' = g ∧ OffRd f f' ∧ ((rdP tx tl 200 0 va0 mo0).1 = none → RMd f' (rdP tx tl 200 0 va0 mo0).2.1 (rdP tx tl 200 0 va0 mo0).2.2)) := by
  refine w_aload_n k70_0 rfl rfl ?_
  refine w_vV k70_1 mt52 kd137 ⟨rfl, by decide⟩ [] rfl rfl rfl mp_anew ?_
  refine w_aload_n k70_4 rfl rfl ?_
  refine w_iconst k70_5 ?_
  refine w_puti k70_6 (k := 2) kd137 (by decide) ?_
  refine ml_faultOf G hL hT 200 0 va0 mo0 _ _ (by have := hL.2.1; omega) ((((OffRd.up7 (by omega)).tr (OffRd.up7 (by omega))).tr (OffRd.up7 (by omega))).tr (OffRd.up7 (by omega))) fup_self ⟨?_, ?_, ?_, fun c hc => absurd hc (Nat.not_lt_zero c), fun c hc => absurd hc (Nat.not_lt_zero c)⟩ ⟨Nat.zero_le _, va0_W, mo0_W, rfl⟩
  · rw [fup_ne (by omega), fup_ne (by omega), fup_ne (by omega), fup_self]
    rfl
  · rw [fup_ne (by omega), fup_ne (by omega), fup_self]
    rfl
  · rw [fup_ne (by omega), fup_self]
    rfl
theorem MRl.rd {f f' : FF} {g : GG} {tx : Nat → Nat} {tl : Nat} {V : Va} {M : Nat → Nat → Nat} {uN : Nat} {uL : Nat → Nat → Nat → Nat} {kN : Nat} {kL : Nat → Nat → Nat → Nat} {sn : Nat} {se : Nat → Nat → Nat} (h : MRl f g tx tl V M uN uL kN kL sn se) (ho : OffRd f f') : MRl f' g tx tl V M uN uL kN kL sn se := by
  obtain ⟨h1, h2, h3, h4, ⟨a, h5, h6, h7, h8, h9⟩, h10, h11⟩ := h
  refine ⟨h1, h2.off ho, h3.off (ho.2 12 (by omega)) (ho.1 _ (by omega) (by omega)) (ho.1 _ (by omega) (by omega)) (ho.1 _ (by omega) (by omega)), ?_, ⟨a, h5, ?_, ?_, h8, ?_⟩, ⟨?_, h10.2.1, ?_⟩, ⟨?_, h11.2.1, ?_⟩⟩
  · rw [ho.1 148 (by omega) (by omega)]; exact h4
  · rw [ho.2 19 (by omega)]; exact h6
  · rw [ho.2 18 (by omega)]; exact h7
  · intro i hi; rw [ho.1 150 (by omega) (by omega)]; exact h9 i hi
  · rw [ho.2 23 (by omega)]; exact h10.1
  · intro i hi; rw [ho.1 152 (by omega) (by omega)]; exact h10.2.2 i hi
  · rw [ho.2 21 (by omega)]; exact h11.1
  · intro i hi; rw [ho.1 151 (by omega) (by omega)]; exact h11.2.2 i hi
set_option maxHeartbeats 1000000 in
theorem mp_fault {S : Scr} {d : Nat} {f : FF} {g : GG} {B : Nat} {tx : Nat → Nat} {tl : Nat} {V : Va} {M : Nat → Nat → Nat} {uN : Nat} {uL : Nat → Nat → Nat → Nat} {kN : Nat} {kL : Nat → Nat → Nat → Nat} {sn : Nat} {se : Nat → Nat → Nat} (G : GOm g) (hR : MRl f g tx tl V M uN uL kN kL sn se) (hW : StW B tx tl V M uN uL kN kL sn se) (h1 : 1 ≤ V.1)  : Wp S (d + 5) 71 0 [some (.ref 137)] [] 153 f g (MdQ f g (rdV (rdP tx tl 200 0 va0 mo0).1) tx tl V M uN uL kN kL sn se) := by
  obtain ⟨g0, hL, hVa, hA, hU, hK, hS⟩ := id hR
  have h200 := hL.2.1
  have hV := hW.2.1
  have hM := hW.2.2.1.1
  have h9 := hV.1
  have hm6 := hM.1
  have hmt := hM.2.1
  have hmi := hM.2.2.1
  refine w_aload_n k71_0 rfl rfl ?_
  refine w_vA k71_1 mt70 kd137 ⟨rfl, by decide⟩ [] rfl rfl rfl (mp_faultOf G hL hW.1) ?_
  rintro _ _ f2 _ ⟨rfl, rfl, rfl, hO, hr⟩
  refine w_iret k71_4 mt71 (.int) rfl (rfl) ?_
  exact ⟨rfl, rfl, rfl, fun x hx => hO.1 x (by omega) (by omega), hR.rd hO⟩
/-- fresh messages -/
def FrM (M : Nat → Nat → Nat) : Prop := M 0 0 = 0 ∧ ∀ m, m < M 0 2 → M (m + 1) 1 = 0 ∧ M (m + 1) 4 = 0
theorem itemP_fr {tx : Nat → Nat} {tl p : Nat} {V : Va} {M : Nat → Nat → Nat} (hF : FrM M) {q : Nat × Va × (Nat → Nat → Nat)} (h : itemP tx tl p V M = some q) : FrM q.2.2 := by
  unfold itemP at h
  split at h
  · obtain ⟨a, ha, rfl⟩ := Option.map_eq_some_iff.mp h
    exact hF
  · split at h
    · obtain ⟨a, ha, rfl⟩ := Option.map_eq_some_iff.mp h
      rw [msg_E] at ha
      unfold msgE at ha
      split at ha
      · cases ha
      · split at ha
        · cases ha
        · split at ha
          · cases ha
          · split at ha
            · rw [← Option.some.inj ha]
              refine ⟨hF.1, fun m hm => ?_⟩
              have hm : m < M 0 2 + 1 := hm
              by_cases hmv : m = M 0 2
              · exact ⟨by simp [mAdd, hmv], by simp [mAdd, hmv]⟩
              · have h2 := hF.2 m (by omega)
                refine ⟨?_, ?_⟩
                · show mAdd M _ _ _ (m + 1) 1 = 0
                  unfold mAdd
                  rw [if_neg (by omega), if_neg (by omega)]
                  exact h2.1
                · show mAdd M _ _ _ (m + 1) 4 = 0
                  unfold mAdd
                  rw [if_neg (by omega), if_neg (by omega)]
                  exact h2.2
            · cases ha
    · split at h
      · obtain ⟨a, ha, rfl⟩ := Option.map_eq_some_iff.mp h
        rw [ind_E] at ha
        unfold indE at ha
        split at ha
        · cases ha
        · split at ha
          · rw [← Option.some.inj ha]
            show FrM (if _ then _ else _)
            split
            · exact hF
            · refine ⟨hF.1, fun m hm => ?_⟩
              have e : ∀ x, mset0 M 1 x (m + 1) = M (m + 1) := fun x => by funext k; exact if_neg (by omega)
              rw [e]
              exact hF.2 m hm
          · cases ha
      · cases h
theorem rdP_fr {tx : Nat → Nat} {tl : Nat} : ∀ t p V M, FrM M → FrM (rdP tx tl t p V M).2.2 := by
  intro t
  induction t with
  | zero => intro p V M h; exact h
  | succ t ih =>
    intro p V M h
    unfold rdP
    split
    · split
      · exact h
      · rename_i hq
        exact ih _ _ _ (itemP_fr h hq)
    · exact h
theorem MR1.congr {ρ : Nat → Int32} {M M' : Nat → Nat → Nat} (h : MR1 ρ M) (h0 : M' 0 0 = M 0 0) (h1 : M' 0 1 = M 0 1) (h2 : M' 0 2 = M 0 2) (h3 : ∀ m, m < M 0 2 → ∀ k, k < 6 → msV (M' (m + 1)) k = msV (M (m + 1)) k) : MR1 ρ M' :=
  ⟨by rw [h0]; exact h.1, by rw [h1]; exact h.2.1, by rw [h2]; exact h.2.2.1, fun m hm k hk => by rw [h3 m (by omega) k hk]; exact h.2.2.2 m (by omega) k hk⟩
set_option maxHeartbeats 1000000 in
theorem ml_laid10 {S : Scr} {d : Nat} {f : FF} {g : GG} {P : Option Value → Nat → FF → GG → Prop} (G : GOm g) (hk : ∀ f1 : FF, (∀ x, x ≠ 145 → x ≠ 146 → x ≠ 147 → f1 x = f x) → (∀ c, c < 9 → f1 145 c = f 139 c ∧ f1 146 c = f 140 c ∧ f1 147 c = f 141 c) → Wp S (d + 1) 56 58 [some (.ref 137), some (.int (nI 9))] [] 153 f1 g P) : ∀ (t k : Nat) (f1 : FF), t + k = 9 → (∀ x, x ≠ 145 → x ≠ 146 → x ≠ 147 → f1 x = f x) → (∀ c, c < k → f1 145 c = f 139 c ∧ f1 146 c = f 140 c ∧ f1 147 c = f 141 c) → Wp S (d + 1) 56 10 [some (.ref 137), some (.int (nI k))] [] 153 f1 g P := by
  intro t
  induction t with
  | zero =>
    intro k f1 e0 e1 e2
    obtain rfl : k = 9 := by omega
    refine w_iload_n k56_10 rfl ?_
    refine w_bipush k56_11 ?_
    refine w_icmp_ge k56_13 (fun h13 => ?_) (fun h13 => absurd (nI_le (a := 9) (by omega) (by omega)) h13)
    exact hk f1 e1 e2
  | succ t ih =>
    intro k f1 e0 e1 e2
    refine w_iload_n k56_10 rfl ?_
    refine w_bipush k56_11 ?_
    refine w_icmp_ge k56_13 (fun h13 => absurd h13 (nI_ge (b := 9) (by omega) (by omega))) (fun h13 => ?_)
    refine w_aload_n k56_16 rfl rfl ?_
    refine w_getr k56_17 (k := 13) kd137 (by decide) (r137_13 G) ?_
    refine w_iload_n k56_20 rfl ?_
    refine w_aload_n k56_21 rfl rfl ?_
    refine w_getr k56_22 (k := 6) kd137 (by decide) (r137_6 G) ?_
    refine w_iload_n k56_25 rfl ?_
    refine w_iald k56_26 kd139 (nI_pos (by omega)) (nI_clamp (by omega)) (by omega) ?_
    refine w_iast k56_27 kd145 (nI_pos (by omega)) (nI_clamp (by omega)) (by omega) ?_
    refine w_aload_n k56_28 rfl rfl ?_
    refine w_getr k56_29 (k := 14) kd137 (by decide) (r137_14 G) ?_
    refine w_iload_n k56_32 rfl ?_
    refine w_aload_n k56_33 rfl rfl ?_
    refine w_getr k56_34 (k := 7) kd137 (by decide) (r137_7 G) ?_
    refine w_iload_n k56_37 rfl ?_
    refine w_iald k56_38 kd140 (nI_pos (by omega)) (nI_clamp (by omega)) (by omega) ?_
    refine w_iast k56_39 kd146 (nI_pos (by omega)) (nI_clamp (by omega)) (by omega) ?_
    refine w_aload_n k56_40 rfl rfl ?_
    refine w_getr k56_41 (k := 15) kd137 (by decide) (r137_15 G) ?_
    refine w_iload_n k56_44 rfl ?_
    refine w_aload_n k56_45 rfl rfl ?_
    refine w_getr k56_46 (k := 8) kd137 (by decide) (r137_8 G) ?_
    refine w_iload_n k56_49 rfl ?_
    refine w_iald k56_50 kd141 (nI_pos (by omega)) (nI_clamp (by omega)) (by omega) ?_
    refine w_iast k56_51 kd147 (nI_pos (by omega)) (nI_clamp (by omega)) (by omega) ?_
    refine w_iinc k56_52 rfl (ls' := [_, _]) rfl ?_
    refine w_goto k56_55 ?_
    rw [nI_1]
    refine ih (k + 1) _ (by omega) (fun x a1 a2 a3 => by funext y; rw [fup_no a3, fup_no a2, fup_no a1, e1 x a1 a2 a3]) (fun c hc => ?_)
    by_cases hck : c = k
    · subst hck
      refine ⟨?_, ?_, ?_⟩
      · rw [fup_no (by omega), fup_no (by omega), fup_self, e1 139 (by omega) (by omega) (by omega)]
      · rw [fup_no (by omega), fup_self, fup_no (by omega), e1 140 (by omega) (by omega) (by omega)]
      · rw [fup_self, fup_no (by omega), fup_no (by omega), e1 141 (by omega) (by omega) (by omega)]
    · have h3 := e2 c (by omega)
      refine ⟨?_, ?_, ?_⟩
      · rw [fup_no (by omega), fup_no (by omega), fup_ne hck]; exact h3.1
      · rw [fup_no (by omega), fup_ne hck, fup_no (by omega)]; exact h3.2.1
      · rw [fup_ne hck, fup_no (by omega), fup_no (by omega)]; exact h3.2.2
set_option maxHeartbeats 1000000 in
theorem ml_laid60 {S : Scr} {d : Nat} {f : FF} {g : GG} {P : Option Value → Nat → FF → GG → Prop} (G : GOm g) (hk : ∀ f1 : FF, (∀ x, x ≠ 148 → f1 x = f x) → (∀ q, q < 39 → f1 148 q = 0) → Wp S (d + 1) 56 79 [some (.ref 137), some (.int (nI 39))] [] 153 f1 g P) : ∀ (t k : Nat) (f1 : FF), t + k = 39 → (∀ x, x ≠ 148 → f1 x = f x) → (∀ q, q < k → f1 148 q = 0) → Wp S (d + 1) 56 60 [some (.ref 137), some (.int (nI k))] [] 153 f1 g P := by
  intro t
  induction t with
  | zero =>
    intro k f1 e0 e1 e2
    obtain rfl : k = 39 := by omega
    refine w_iload_n k56_60 rfl ?_
    refine w_bipush k56_61 ?_
    refine w_icmp_ge k56_63 (fun h63 => ?_) (fun h63 => absurd (nI_le (a := 39) (by omega) (by omega)) h63)
    exact hk f1 e1 e2
  | succ t ih =>
    intro k f1 e0 e1 e2
    refine w_iload_n k56_60 rfl ?_
    refine w_bipush k56_61 ?_
    refine w_icmp_ge k56_63 (fun h63 => absurd h63 (nI_ge (b := 39) (by omega) (by omega))) (fun h63 => ?_)
    refine w_aload_n k56_66 rfl rfl ?_
    refine w_getr k56_67 (k := 16) kd137 (by decide) (r137_16 G) ?_
    refine w_iload_n k56_70 rfl ?_
    refine w_iconst k56_71 ?_
    refine w_iast k56_72 kd148 (nI_pos (by omega)) (nI_clamp (by omega)) (by omega) ?_
    refine w_iinc k56_73 rfl (ls' := [_, _]) rfl ?_
    refine w_goto k56_76 ?_
    rw [nI_1]
    refine ih (k + 1) _ (by omega) (fun x a1 => by funext y; rw [fup_no a1, e1 x a1]) (fun q hq => ?_)
    by_cases hqk : q = k
    · rw [hqk, fup_self]
    · rw [fup_ne hqk]; exact e2 q (by omega)
set_option maxHeartbeats 1000000 in
theorem ml_laid91 {S : Scr} {d : Nat} {f : FF} {g : GG} {P : Option Value → Nat → FF → GG → Prop} {V : Va} {M : Nat → Nat → Nat} (G : GOm g) (hR : RMd f V M) (hF : FrM M) (h6 : M 0 2 ≤ 6) (hk : ∀ f1 : FF, (∀ x, x ≠ 148 → f1 x = f x) → MR1 (f1 148) (mset0 M 2 (M 0 2)) → Wp S (d + 1) 56 130 [some (.ref 137), some (.int (nI (M 0 2)))] [] 153 f1 g P) : ∀ (t k : Nat) (f1 : FF), t + k = M 0 2 → (∀ x, x ≠ 148 → f1 x = f x) → MR1 (f1 148) (mset0 M 2 k) → Wp S (d + 1) 56 91 [some (.ref 137), some (.int (nI k))] [] 153 f1 g P := by
  intro t
  induction t with
  | zero =>
    intro k f1 e0 e1 e2
    obtain rfl : k = M 0 2 := by omega
    refine w_iload_n k56_91 rfl ?_
    refine w_aload_n k56_92 rfl rfl ?_
    refine w_geti k56_93 (k := 4) kd137 (by decide) ?_
    rw [e1 137 (by omega), hR.2.1]
    refine w_icmp_ge k56_96 (fun h96 => ?_) (fun h96 => absurd (nI_le (Nat.le_refl _) (by omega)) h96)
    exact hk f1 e1 e2
  | succ t ih =>
    intro k f1 e0 e1 e2
    have hm := hR.2.2.2.2 k (by omega)
    have hf := hF.2 k (by omega)
    refine w_iload_n k56_91 rfl ?_
    refine w_aload_n k56_92 rfl rfl ?_
    refine w_geti k56_93 (k := 4) kd137 (by decide) ?_
    rw [e1 137 (by omega), hR.2.1]
    refine w_icmp_ge k56_96 (fun h96 => absurd h96 (nI_ge (by omega) (by omega))) (fun h96 => ?_)
    refine w_aload_n k56_99 rfl rfl ?_
    refine w_getr k56_100 (k := 16) kd137 (by decide) (r137_16 G) ?_
    refine w_aload_n k56_103 rfl rfl ?_
    refine w_getr k56_104 (k := 9) kd137 (by decide) (r137_9 G) ?_
    refine w_iload_n k56_107 rfl ?_
    refine w_iald k56_108 kd142 (nI_pos (by omega)) (nI_clamp (by omega)) (by omega) ?_
    rw [e1 142 (by omega), hm.1]
    refine w_aload_n k56_109 rfl rfl ?_
    refine w_getr k56_110 (k := 10) kd137 (by decide) (r137_10 G) ?_
    refine w_iload_n k56_113 rfl ?_
    refine w_iald k56_114 kd143 (nI_pos (by omega)) (nI_clamp (by omega)) (by omega) ?_
    rw [e1 143 (by omega), hm.2.1]
    refine w_aload_n k56_115 rfl rfl ?_
    refine w_getr k56_116 (k := 11) kd137 (by decide) (r137_11 G) ?_
    refine w_iload_n k56_119 rfl ?_
    refine w_iald k56_120 kd144 (nI_pos (by omega)) (nI_clamp (by omega)) (by omega) ?_
    rw [e1 144 (by omega), hm.2.2]
    refine w_sA k56_121 (by decide) mt55 [_, _, _, _] rfl rfl rfl (mp_adds kd148 e2 (show k < 6 by omega) (M (k + 1) 2) (M (k + 1) 0) (M (k + 1) 3)) ?_
    rintro _ _ f2 _ ⟨rfl, rfl, rfl, hO, hM2⟩
    refine w_iinc k56_124 rfl (ls' := [_, _]) rfl ?_
    refine w_goto k56_127 ?_
    rw [nI_1]
    refine ih (k + 1) f2 (by omega) (fun x hx => by rw [hO x hx, e1 x hx]) (hM2.congr rfl rfl rfl (fun m hm q hq => ?_))
    have hm : m < k + 1 := hm
    have e3 : ∀ j, mset0 M 2 (k + 1) (m + 1) j = M (m + 1) j := fun j => if_neg (by omega)
    have e3' : mset0 M 2 (k + 1) (m + 1) = M (m + 1) := funext e3
    rw [e3']
    by_cases hmk : m = k
    · subst hmk
      have e4 : mAdd (mset0 M 2 m) (M (m + 1) 2) (M (m + 1) 0) (M (m + 1) 3) (m + 1) = fun j => if j = 0 then M (m + 1) 0 else if j = 2 then M (m + 1) 2 else if j = 3 then M (m + 1) 3 else 0 := by
        funext j
        show (if m + 1 = 0 then _ else if m + 1 = m + 1 then _ else _) = _
        rw [if_neg (by omega), if_pos rfl]
      rw [e4]
      rcases (show q = 0 ∨ q = 1 ∨ q = 2 ∨ q = 3 ∨ q = 4 ∨ q = 5 by omega) with rfl | rfl | rfl | rfl | rfl | rfl
      · rfl
      · exact congrArg nI hf.1
      · rfl
      · rfl
      · exact congrArg nI hf.2
      · show (if M (m + 1) 1 = 2 then nI (M (m + 1) 5) else -4) = -4
        rw [if_neg (by omega)]
    · have e4 : mAdd (mset0 M 2 k) (M (k + 1) 2) (M (k + 1) 0) (M (k + 1) 3) (m + 1) = M (m + 1) := by
        funext j
        show (if m + 1 = 0 then _ else if m + 1 = k + 1 then _ else mset0 M 2 k (m + 1) j) = _
        rw [if_neg (by omega), if_neg (by omega)]
        exact if_neg (by omega)
      rw [e4]
set_option maxHeartbeats 1000000 in
theorem mp_laid {S : Scr} {d : Nat} {f : FF} {g : GG} {tx : Nat → Nat} {tl : Nat} {V : Va} {M : Nat → Nat → Nat} {uN : Nat} {uL : Nat → Nat → Nat → Nat} {kN : Nat} {kL : Nat → Nat → Nat → Nat} {sn : Nat} {se : Nat → Nat → Nat} {V2 : Va} {M2 : Nat → Nat → Nat} (G : GOm g) (hL : MLe f tx tl) (hU : MUn f uN uL) (g0 : GOm g) (hRd : RMd f V2 M2) (hV2 : VWf V2) (hF : FrM M2) (h6 : M2 0 2 ≤ 6) : Wp S (d + 1) 56 0 [some (.ref 137), none] [] 153 f g (MdQv f g tx tl V2 M2 0 uL 0 kL 0 se) := by
  have h99 := hV2.1
  refine w_aload_n k56_0 rfl rfl ?_
  refine w_aload_n k56_1 rfl rfl ?_
  refine w_geti k56_2 (k := 3) kd137 (by decide) ?_
  rw [hRd.1]
  refine w_puti k56_5 (k := 12) kd137 (by decide) ?_
  refine w_iconst k56_8 ?_
  refine w_istore_n k56_9 (ls' := [_, _]) rfl ?_
  refine ml_laid10 G (fun f2 o2 r2 => ?_) 9 0 _ rfl (fun _ _ _ _ => rfl) (fun q hq => absurd hq (Nat.not_lt_zero q))
  refine w_iconst k56_58 ?_
  refine w_istore_n k56_59 (ls' := [_, _]) rfl ?_
  refine ml_laid60 G (fun f3 o3 r3 => ?_) 39 0 f2 rfl (fun _ _ => rfl) (fun q hq => absurd hq (Nat.not_lt_zero q))
  refine w_aload_n k56_79 rfl rfl ?_
  refine w_getr k56_80 (k := 16) kd137 (by decide) (r137_16 G) ?_
  refine w_iconst k56_83 ?_
  refine w_aload_n k56_84 rfl rfl ?_
  refine w_geti k56_85 (k := 5) kd137 (by decide) ?_
  rw [o3 137 (by omega), o2 137 (by omega) (by omega) (by omega), fup_ne (by omega), hRd.2.2.1]
  refine w_iast k56_88 kd148 (by decide) (show (1 : Int32).toNatClampNeg = 1 from rfl) (by decide) ?_
  have hRd3 : RMd (fup f3 148 1 (nI (M2 0 1))) V2 M2 := by
    have hZ : ∀ x, x ≠ 145 → x ≠ 146 → x ≠ 147 → x ≠ 148 → x ≠ 137 → fup f3 148 1 (nI (M2 0 1)) x = f x := fun x a1 a2 a3 a4 a5 => by funext y; rw [fup_no a4, o3 x a4, o2 x a1 a2 a3, fup_no a5]
    have hZ7 : ∀ k, k ≠ 12 → fup f3 148 1 (nI (M2 0 1)) 137 k = f 137 k := fun k b1 => by rw [fup_no (by omega), o3 137 (by omega), o2 137 (by omega) (by omega) (by omega), fup_ne b1]
    exact ⟨by rw [hZ7 3 (by omega)]; exact hRd.1, by rw [hZ7 4 (by omega)]; exact hRd.2.1, by rw [hZ7 5 (by omega)]; exact hRd.2.2.1, fun c hc => by rw [hZ 139 (by omega) (by omega) (by omega) (by omega) (by omega), hZ 140 (by omega) (by omega) (by omega) (by omega) (by omega), hZ 141 (by omega) (by omega) (by omega) (by omega) (by omega)]; exact hRd.2.2.2.1 c hc, fun m hm => by rw [hZ 142 (by omega) (by omega) (by omega) (by omega) (by omega), hZ 143 (by omega) (by omega) (by omega) (by omega) (by omega), hZ 144 (by omega) (by omega) (by omega) (by omega) (by omega)]; exact hRd.2.2.2.2 m hm⟩
  refine w_iconst k56_89 ?_
  refine w_istore_n k56_90 (ls' := [_, _]) rfl ?_
  refine ml_laid91 (f := fup f3 148 1 (nI (M2 0 1))) G hRd3 hF h6 (fun f4 o4 r4 => ?_) (M2 0 2) 0 _ (by omega) (fun _ _ => rfl) ?_
  ·
    refine w_aload_n k56_130 rfl rfl ?_
    refine w_iconst k56_131 ?_
    refine w_puti k56_132 (k := 18) kd137 (by decide) ?_
    refine w_aload_n k56_135 rfl rfl ?_
    refine w_iconst k56_136 ?_
    refine w_puti k56_137 (k := 23) kd137 (by decide) ?_
    refine w_aload_n k56_140 rfl rfl ?_
    refine w_iconst k56_141 ?_
    refine w_puti k56_142 (k := 21) kd137 (by decide) ?_
    refine w_vret k56_145 mt56 rfl ?_
    have hX : ∀ x, x ≠ 145 → x ≠ 146 → x ≠ 147 → x ≠ 148 → x ≠ 137 → fup (fup (fup f4 137 18 0) 137 23 0) 137 21 0 x = f x := fun x a1 a2 a3 a4 a5 => by funext y; rw [fup_no a5, fup_no a5, fup_no a5, o4 x a4, fup_no a4, o3 x a4, o2 x a1 a2 a3, fup_no a5]
    have h7 : ∀ k, k ≠ 12 → k ≠ 18 → k ≠ 21 → k ≠ 23 → fup (fup (fup f4 137 18 0) 137 23 0) 137 21 0 137 k = f 137 k := fun k b1 b2 b3 b4 => by rw [fup_ne b3, fup_ne b4, fup_ne b2, o4 137 (by omega), fup_no (by omega), o3 137 (by omega), o2 137 (by omega) (by omega) (by omega), fup_ne b1]
    have hY : ∀ x, x ≠ 137 → x ≠ 148 → fup (fup (fup f4 137 18 0) 137 23 0) 137 21 0 x = f2 x := fun x a5 a4 => by funext y; rw [fup_no a5, fup_no a5, fup_no a5, o4 x a4, fup_no a4, o3 x a4]
    obtain ⟨a, u1, u2, u3, u4, u5⟩ := hU
    refine ⟨rfl, rfl, rfl, fun x hx => hX x (by omega) (by omega) (by omega) (by omega) (by omega), g0, ⟨by rw [h7 0 (by omega) (by omega) (by omega) (by omega)]; exact hL.1, hL.2.1, fun i hi => by rw [hX 138 (by omega) (by omega) (by omega) (by omega) (by omega)]; exact hL.2.2 i hi⟩, ⟨?_, fun c hc => ?_⟩, ?_, ⟨(a + uN) % 8, by omega, by rw [h7 19 (by omega) (by omega) (by omega) (by omega), u2]; congr 1; omega, by rw [fup_ne (by omega), fup_ne (by omega), fup_self]; rfl, by omega, fun i hi => absurd hi (Nat.not_lt_zero i)⟩, ⟨by rw [fup_ne (by omega), fup_self]; rfl, by omega, fun i hi => absurd hi (Nat.not_lt_zero i)⟩, ⟨fup_self, by omega, fun i hi => absurd hi (Nat.not_lt_zero i)⟩⟩
    · rw [fup_ne (by omega), fup_ne (by omega), fup_ne (by omega), o4 137 (by omega), fup_no (by omega), o3 137 (by omega), o2 137 (by omega) (by omega) (by omega), fup_self]
    · rw [hY 145 (by omega) (by omega), hY 146 (by omega) (by omega), hY 147 (by omega) (by omega)]
      have h3 := r2 c (by omega)
      rw [h3.1, h3.2.1, h3.2.2, fup_no (by omega), fup_no (by omega), fup_no (by omega)]
      exact hRd.2.2.2.1 c hc
    · rw [show fup (fup (fup f4 137 18 0) 137 23 0) 137 21 0 148 = f4 148 from by funext y; rw [fup_no (by omega), fup_no (by omega), fup_no (by omega)]]
      refine r4.congr rfl rfl rfl (fun m hm k hk => ?_)
      have e3 : mset0 M2 2 (M2 0 2) (m + 1) = M2 (m + 1) := funext fun j => if_neg (by omega)
      rw [e3]
  · refine ⟨?_, fup_self, ?_, fun m hm => absurd hm (Nat.not_lt_zero m)⟩
    · rw [fup_ne (by omega), r3 0 (by omega)]
      show (0 : Int32) = nI (M2 0 0)
      rw [hF.1]
      rfl
    · rw [fup_ne (by omega), r3 2 (by omega)]
      rfl
set_option maxHeartbeats 1000000 in
theorem mp_lay {S : Scr} {d : Nat} {f : FF} {g : GG} {B : Nat} {tx : Nat → Nat} {tl : Nat} {V : Va} {M : Nat → Nat → Nat} {uN : Nat} {uL : Nat → Nat → Nat → Nat} {kN : Nat} {kL : Nat → Nat → Nat → Nat} {sn : Nat} {se : Nat → Nat → Nat} (G : GOm g) (hR : MRl f g tx tl V M uN uL kN kL sn se) (hW : StW B tx tl V M uN uL kN kL sn se) (h1 : 1 ≤ V.1)  : Wp S (d + 5) 74 0 [some (.ref 137)] [] 153 f g (fun v n' f' g' => if (rdP tx tl 200 0 va0 mo0).1 = none ∧ (rdP tx tl 200 0 va0 mo0).2.1.1 ≠ 0 then MdQ f g (nI (rdP tx tl 200 0 va0 mo0).2.1.1) tx tl (rdP tx tl 200 0 va0 mo0).2.1 (rdP tx tl 200 0 va0 mo0).2.2 0 uL 0 kL 0 se v n' f' g' else MdQ f g (-2) tx tl V M uN uL kN kL sn se v n' f' g') := by
  obtain ⟨g0, hL, hVa, hA, hU, hK, hS⟩ := id hR
  have h200 := hL.2.1
  have hV := hW.2.1
  have hM := hW.2.2.1.1
  have h9 := hV.1
  have hm6 := hM.1
  have hmt := hM.2.1
  have hmi := hM.2.2.1
  refine w_aload_n k74_0 rfl rfl ?_
  have rok := rdP_ok (tx := tx) (tl := tl) 200 0 va0 mo0 va0_W mo0_W rfl
  have r99 := rok.1.1
  refine w_vA k74_1 mt70 kd137 ⟨rfl, by decide⟩ [] rfl rfl rfl (mp_faultOf G hL hW.1) ?_
  rintro _ _ f2 _ ⟨rfl, rfl, rfl, hO, hr⟩
  have hR2 := hR.rd hO
  refine w_bipush k74_4 ?_
  refine w_icmp_ne k74_6 (fun h6 => ?_) (fun h6 => ?_)
  ·
    have hz : ¬ (rdP tx tl 200 0 va0 mo0).1 = none := fun hh => h6 (by rw [hh]; rfl)
    refine w_bipush k74_16 ?_
    refine w_iret k74_18 mt74 (.int) rfl (rfl) ?_
    skip
    first
      | (rw [if_neg (fun hh => hz hh.1)]; exact ⟨rfl, rfl, rfl, fun x hx => hO.1 x (by omega) (by omega), hR2⟩)
      | (rw [if_neg (fun hh => hh.2 hy)]; exact ⟨rfl, rfl, rfl, fun x hx => hO.1 x (by omega) (by omega), hR2⟩)
      | (rw [if_pos ⟨hz, hy⟩]; exact ⟨rfl, rfl, rfl, fun x hx => by rw [hO3 x hx, hO.1 x (by omega) (by omega)], hR3⟩)
  ·
    have hz : (rdP tx tl 200 0 va0 mo0).1 = none := rdV_4 h6 (fun p hp => by have := rdP_lt _ _ _ _ _ hp; omega)
    have hr2 := hr hz
    refine w_aload_n k74_9 rfl rfl ?_
    refine w_geti k74_10 (k := 3) kd137 (by decide) ?_
    rw [hr2.1]
    refine w_if_ne k74_13 (fun h13 => ?_) (fun h13 => ?_)
    ·
      have hy : (rdP tx tl 200 0 va0 mo0).2.1.1 ≠ 0 := fun hh => h13 (by rw [hh]; rfl)
      refine w_aload_n k74_19 rfl rfl ?_
      refine w_vA k74_20 mt56 kd137 ⟨rfl, by decide⟩ [] rfl rfl rfl (mp_laid (V := V) (M := M) (kN := kN) (kL := kL) (sn := sn) (se := se) (V2 := (rdP tx tl 200 0 va0 mo0).2.1) (M2 := (rdP tx tl 200 0 va0 mo0).2.2) G hR2.2.1 hR2.2.2.2.2.1 hR2.1 hr2 rok.1 (rdP_fr 200 0 va0 mo0 ⟨rfl, fun m hm => absurd hm (Nat.not_lt_zero m)⟩) rok.2.1.1) ?_
      rintro _ _ f3 _ ⟨rfl, rfl, rfl, hO3, hR3⟩
      refine w_aload_n k74_23 rfl rfl ?_
      refine w_geti k74_24 (k := 12) kd137 (by decide) ?_
      rw [hR3.2.2.1.1]
      refine w_iret k74_27 mt74 (.int) rfl (rfl) ?_
      skip
      first
        | (rw [if_neg (fun hh => hz hh.1)]; exact ⟨rfl, rfl, rfl, fun x hx => hO.1 x (by omega) (by omega), hR2⟩)
        | (rw [if_neg (fun hh => hh.2 hy)]; exact ⟨rfl, rfl, rfl, fun x hx => hO.1 x (by omega) (by omega), hR2⟩)
        | (rw [if_pos ⟨hz, hy⟩]; exact ⟨rfl, rfl, rfl, fun x hx => by rw [hO3 x hx, hO.1 x (by omega) (by omega)], hR3⟩)
    ·
      have hy : (rdP tx tl 200 0 va0 mo0).2.1.1 = 0 := (nI_eq (b := 0) (by omega) (by omega)).mp h13
      refine w_bipush k74_16 ?_
      refine w_iret k74_18 mt74 (.int) rfl (rfl) ?_
      skip
      first
        | (rw [if_neg (fun hh => hz hh.1)]; exact ⟨rfl, rfl, rfl, fun x hx => hO.1 x (by omega) (by omega), hR2⟩)
        | (rw [if_neg (fun hh => hh.2 hy)]; exact ⟨rfl, rfl, rfl, fun x hx => hO.1 x (by omega) (by omega), hR2⟩)
        | (rw [if_pos ⟨hz, hy⟩]; exact ⟨rfl, rfl, rfl, fun x hx => by rw [hO3 x hx, hO.1 x (by omega) (by omega)], hR3⟩)
