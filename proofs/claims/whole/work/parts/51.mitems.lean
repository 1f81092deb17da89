/-! SPECS, 39: the model reads, on -/
def chairE (tx : Nat → Nat) (tl p : Nat) (V : Va) : Option (Nat × Va) := match numE tx tl p 44 with
  | none => none
  | some (k, p1) => match numE tx tl p1 44 with
    | none => none
    | some (pc, p2) => match numE tx tl p2 59 with
      | none => none
      | some (x, p3) => if vcB V k pc x = true then some (p3, vAdd V k pc x) else none
theorem chair_E {tx : Nat → Nat} {tl p : Nat} {V : Va} : chairP tx tl p V = chairE tx tl p V := by
  unfold chairP chairE numE
  cases num tx tl p with
  | none => rfl
  | some q1 =>
    by_cases c1 : ch tx tl q1.2 = 44
    · simp only [if_pos c1]
      cases num tx tl (q1.2 + 1) with
      | none => rfl
      | some q2 =>
        by_cases c2 : ch tx tl q2.2 = 44
        · simp only [if_pos c2]
          cases num tx tl (q2.2 + 1) with
          | none => rfl
          | some q3 =>
            by_cases c3 : ch tx tl q3.2 = 59
            · simp only [if_pos c3]
              by_cases c4 : vcB V q1.1 q2.1 q3.1 = true
              · rw [if_pos ⟨c3, c4⟩, if_pos c4]
              · rw [if_neg (fun hh => c4 hh.2), if_neg c4]
            · simp only [if_neg c3]
              rw [if_neg (fun hh => c3 hh.1)]
        · simp only [if_neg c2]
    · simp only [if_neg c1]
def stL (tx : Nat → Nat) (tl t p r : Nat) : Option (Nat × Nat) := if (rowP tx tl t p r).1 ≠ 0 ∧ ch tx tl (rowP tx tl t p r).2 = 59 then some ((rowP tx tl t p r).1, (rowP tx tl t p r).2 + 1) else none
def msgE (tx : Nat → Nat) (tl p : Nat) (V : Va) (M : Nat → Nat → Nat) : Option (Nat × (Nat → Nat → Nat)) := match numE tx tl p 44 with
  | none => none
  | some (c, p1) => match numE tx tl p1 44 with
    | none => none
    | some (t, p2) => match stL tx tl 8 p2 0 with
      | none => none
      | some (r, p3) => if c < V.1 ∧ M 0 2 < 6 then some (p3, mAdd M c t r) else none
theorem msg_E {tx : Nat → Nat} {tl p : Nat} {V : Va} {M : Nat → Nat → Nat} : msgP tx tl p V M = msgE tx tl p V M := by
  unfold msgP msgE numE
  cases num tx tl p with
  | none => rfl
  | some q1 =>
    by_cases c1 : ch tx tl q1.2 = 44
    · simp only [if_pos c1]
      cases num tx tl (q1.2 + 1) with
      | none => rfl
      | some q2 =>
        by_cases c2 : ch tx tl q2.2 = 44
        · simp only [if_pos c2, stL]
          by_cases c3 : (rowP tx tl 8 (q2.2 + 1) 0).1 ≠ 0 ∧ ch tx tl (rowP tx tl 8 (q2.2 + 1) 0).2 = 59
          · simp only [if_pos c3]
            by_cases c4 : q1.1 < V.1 ∧ M 0 2 < 6
            · rw [if_pos ⟨c3.1, c3.2, c4.1, c4.2⟩, if_pos c4]
            · rw [if_neg (fun hh => c4 ⟨hh.2.2.1, hh.2.2.2⟩), if_neg c4]
          · simp only [if_neg c3]
            rw [if_neg (fun hh => c3 ⟨hh.1, hh.2.1⟩)]
        · simp only [if_neg c2]
    · simp only [if_neg c1]
def indE (tx : Nat → Nat) (tl p : Nat) (V : Va) (M : Nat → Nat → Nat) : Option (Nat × (Nat → Nat → Nat)) := match numE tx tl p 59 with
  | none => none
  | some (c, p1) => if c < V.1 then some (p1, if (M 0 1).testBit c = true then M else mset0 M 1 (M 0 1 ^^^ 2 ^ c)) else none
theorem ind_E {tx : Nat → Nat} {tl p : Nat} {V : Va} {M : Nat → Nat → Nat} : indP tx tl p V M = indE tx tl p V M := by
  unfold indP indE numE
  cases num tx tl p with
  | none => rfl
  | some q1 =>
    by_cases c1 : ch tx tl q1.2 = 59
    · simp only [if_pos c1]
      by_cases c4 : q1.1 < V.1
      · rw [if_pos ⟨c1, c4⟩, if_pos c4]
      · rw [if_neg (fun hh => c4 hh.2), if_neg c4]
    · simp only [if_neg c1]
      rw [if_neg (fun hh => c1 hh.1)]
theorem or_set {a c : Nat} : (if a.testBit c = true then a else a ^^^ 2 ^ c) = a ||| 2 ^ c := by
  apply Nat.eq_of_testBit_eq
  intro i
  by_cases h : a.testBit c = true
  · rw [if_pos h, Nat.testBit_or, Nat.testBit_two_pow]
    by_cases hi : c = i
    · subst hi; rw [h]; rfl
    · rw [decide_eq_false hi, Bool.or_false]
  · rw [if_neg h, Nat.testBit_xor, Nat.testBit_or, Nat.testBit_two_pow]
    by_cases hi : c = i
    · subst hi
      rw [Bool.not_eq_true] at h
      rw [h, decide_eq_true (rfl : c = c)]
      rfl
    · rw [decide_eq_false hi, Bool.or_false, Bool.xor_false]
theorem itemP_gt {tx : Nat → Nat} {tl p : Nat} {V : Va} {M : Nat → Nat → Nat} {q : Nat × Va × (Nat → Nat → Nat)} (h : itemP tx tl p V M = some q) : p < q.1 := by
  unfold itemP at h
  split at h
  · obtain ⟨a, ha, rfl⟩ := Option.map_eq_some_iff.mp h
    rw [chair_E] at ha
    unfold chairE at ha
    split at ha
    · cases ha
    · rename_i h1
      split at ha
      · cases ha
      · rename_i h2
        split at ha
        · cases ha
        · rename_i h3
          split at ha
          · rw [← Option.some.inj ha]
            have a1 := numE_in (by decide) h1
            have a2 := numE_in (by decide) h2
            have a3 := numE_in (by decide) h3
            show p < _
            omega
          · cases ha
  · split at h
    · obtain ⟨a, ha, rfl⟩ := Option.map_eq_some_iff.mp h
      rw [msg_E] at ha
      unfold msgE at ha
      split at ha
      · cases ha
      · rename_i h1
        split at ha
        · cases ha
        · rename_i h2
          split at ha
          · cases ha
          · rename_i h3
            split at ha
            · rw [← Option.some.inj ha]
              have a1 := numE_in (by decide) h1
              have a2 := numE_in (by decide) h2
              unfold stL at h3
              split at h3
              · have e3 := congrArg Prod.snd (Option.some.inj h3)
                have a3 := rowP_in (tx := tx) (tl := tl) 8 _ 0 a2.2.1
                simp only at e3
                show p < _
                omega
              · cases h3
            · cases ha
    · split at h
      · obtain ⟨a, ha, rfl⟩ := Option.map_eq_some_iff.mp h
        rw [ind_E] at ha
        unfold indE at ha
        split at ha
        · cases ha
        · rename_i h1
          split at ha
          · rw [← Option.some.inj ha]
            have a1 := numE_in (by decide) h1
            show p < _
            omega
          · cases ha
      · cases h
set_option maxHeartbeats 1000000 in
theorem mp_readsChair {S : Scr} {d : Nat} {f : FF} {g : GG} {tl p : Nat} {tx : Nat → Nat} (G : GOm g) (hL : MLe f tx tl) (hT : TxOk tx tl) (hp : p ≤ 202) {V : Va} {M : Nat → Nat → Nat} (hR : RMd f V M) (hV : VWf V) (hM6 : M 0 2 ≤ 6) (hMI : M 0 1 < 512) : Wp S (d + 2) 66 0 [some (.ref 137), none, none, none] [] 153 (setQ f p) g (ItM f g ((chairE tx tl p V).map fun q => (q.1, q.2, M))) := by
  have h99 := hV.1
  have h200 := hL.2.1
  refine w_aload_n k66_0 rfl rfl ?_
  refine w_bipush k66_1 ?_
  refine w_vA k66_3 mt65 kd137 ⟨rfl, by decide⟩ [_] rfl rfl rfl (mp_number (p := p) G hL hT (by omega) (e := 44) (by omega)) ?_
  rintro _ _ _ _ ⟨rfl, rfl, rfl, x1, rfl, hx1⟩
  refine w_istore_n k66_6 (ls' := [_, _, _, _]) rfl ?_
  refine w_iload_n k66_7 rfl ?_
  refine w_if_ge k66_8 (fun h8 => ?_) (fun h8 => ?_)
  ·
    obtain ⟨q1v, q1p, q1, q1e, q1l, q1b, q1c⟩ := nE_T (by decide) (h8)
    have ex1 : q1p = x1 := (hx1 _ q1).symm
    subst ex1
    rw [q1e]
    refine w_aload_n k66_15 rfl rfl ?_
    refine w_bipush k66_16 ?_
    refine w_vA k66_18 mt65 kd137 ⟨rfl, by decide⟩ [_] rfl rfl rfl (mp_number (p := q1p) G hL hT (by omega) (e := 44) (by omega)) ?_
    rintro _ _ _ _ ⟨rfl, rfl, rfl, x2, rfl, hx2⟩
    refine w_istore_n k66_21 (ls' := [_, _, _, _]) rfl ?_
    refine w_iload_n k66_22 rfl ?_
    refine w_if_ge k66_23 (fun h23 => ?_) (fun h23 => ?_)
    ·
      obtain ⟨q2v, q2p, q2, q2e, q2l, q2b, q2c⟩ := nE_T (by decide) (h23)
      have ex2 : q2p = x2 := (hx2 _ q2).symm
      subst ex2
      rw [q2e]
      refine w_aload_n k66_30 rfl rfl ?_
      refine w_bipush k66_31 ?_
      refine w_vA k66_33 mt65 kd137 ⟨rfl, by decide⟩ [_] rfl rfl rfl (mp_number (p := q2p) G hL hT (by omega) (e := 59) (by omega)) ?_
      rintro _ _ _ _ ⟨rfl, rfl, rfl, x3, rfl, hx3⟩
      refine w_istore_n k66_36 (ls' := [_, _, _, _]) rfl ?_
      refine w_iload_n k66_37 rfl ?_
      refine w_if_lt k66_38 (fun h38 => ?_) (fun h38 => ?_)
      ·
        have q3 : numE tx tl q2p 59 = none := nE_F (by decide) (Int32.not_le.mpr h38)
        refine w_iconst k66_73 ?_
        refine w_iret k66_74 mt66 (.boolean) rfl (rfl) ?_
        first
          | (refine ItM.no ?_ OffRd.q; simp [chairE, q1]; done)
          | (refine ItM.no ?_ OffRd.q; simp [chairE, q1, q2]; done)
          | (refine ItM.no ?_ OffRd.q; simp [chairE, q1, q2, q3]; done)
          | (have hv : vcB V q1v q2v q3v = true := decide_eq_true ⟨z4, z1, z2, z3⟩
             refine ItM.yes (q := (q3p, vAdd V q1v q2v q3v, M)) ?_ (OffRd.q.tr hO) (by rw [hp2]; exact setQ_at) hR2
             simp [chairE, q1, q2, q3, hv]; done)
          | (have hv : vcB V q1v q2v q3v = false := by
               apply decide_eq_false
               rintro ⟨b1, b2, b3, b4⟩
               first
                 | exact z1 b2
                 | exact z2 b3
                 | exact z3 b4
                 | exact z4 b1
             refine ItM.no ?_ OffRd.q
             simp [chairE, q1, q2, q3, hv]; done)
      ·
        obtain ⟨q3v, q3p, q3, q3e, q3l, q3b, q3c⟩ := nE_T (by decide) (Int32.not_lt.mp h38)
        have ex3 : q3p = x3 := (hx3 _ q3).symm
        subst ex3
        rw [q3e]
        refine w_iload_n k66_41 rfl ?_
        refine w_iconst k66_42 ?_
        refine w_icmp_gt k66_43 (fun h43 => ?_) (fun h43 => ?_)
        ·
          have z1 : ¬ q1v ≤ 4 := fun hh => absurd ((nI_ltI (a := 4) (by omega) (by omega)).mp h43) (by omega)
          refine w_iconst k66_73 ?_
          refine w_iret k66_74 mt66 (.boolean) rfl (rfl) ?_
          first
            | (refine ItM.no ?_ OffRd.q; simp [chairE, q1]; done)
            | (refine ItM.no ?_ OffRd.q; simp [chairE, q1, q2]; done)
            | (refine ItM.no ?_ OffRd.q; simp [chairE, q1, q2, q3]; done)
            | (have hv : vcB V q1v q2v q3v = true := decide_eq_true ⟨z4, z1, z2, z3⟩
               refine ItM.yes (q := (q3p, vAdd V q1v q2v q3v, M)) ?_ (OffRd.q.tr hO) (by rw [hp2]; exact setQ_at) hR2
               simp [chairE, q1, q2, q3, hv]; done)
            | (have hv : vcB V q1v q2v q3v = false := by
                 apply decide_eq_false
                 rintro ⟨b1, b2, b3, b4⟩
                 first
                   | exact z1 b2
                   | exact z2 b3
                   | exact z3 b4
                   | exact z4 b1
               refine ItM.no ?_ OffRd.q
               simp [chairE, q1, q2, q3, hv]; done)
        ·
          have z1 : q1v ≤ 4 := Nat.not_lt.mp fun hh => h43 ((nI_ltI (a := 4) (by omega) (by omega)).mpr hh)
          refine w_iload_n k66_46 rfl ?_
          refine w_iconst k66_47 ?_
          refine w_bipush k66_48 ?_
          refine w_sI k66_50 (by decide) mt59 [_, _, _] rfl rfl rfl (mp_in _ _ _) ?_
          rw [show decide ((1 : Int32) ≤ nI q2v ∧ nI q2v ≤ 20) = decide (1 ≤ q2v ∧ q2v ≤ 20) from btw (b := 1) (c := 20) (by omega) (by omega) (by omega)]
          refine w_if_eq k66_53 (fun h53 => ?_) (fun h53 => ?_)
          ·
            have z2 := of_decide_eq_false (bI_0.mp h53)
            refine w_iconst k66_73 ?_
            refine w_iret k66_74 mt66 (.boolean) rfl (rfl) ?_
            first
              | (refine ItM.no ?_ OffRd.q; simp [chairE, q1]; done)
              | (refine ItM.no ?_ OffRd.q; simp [chairE, q1, q2]; done)
              | (refine ItM.no ?_ OffRd.q; simp [chairE, q1, q2, q3]; done)
              | (have hv : vcB V q1v q2v q3v = true := decide_eq_true ⟨z4, z1, z2, z3⟩
                 refine ItM.yes (q := (q3p, vAdd V q1v q2v q3v, M)) ?_ (OffRd.q.tr hO) (by rw [hp2]; exact setQ_at) hR2
                 simp [chairE, q1, q2, q3, hv]; done)
              | (have hv : vcB V q1v q2v q3v = false := by
                   apply decide_eq_false
                   rintro ⟨b1, b2, b3, b4⟩
                   first
                     | exact z1 b2
                     | exact z2 b3
                     | exact z3 b4
                     | exact z4 b1
                 refine ItM.no ?_ OffRd.q
                 simp [chairE, q1, q2, q3, hv]; done)
          ·
            have z2 := of_decide_eq_true (bI_n0.mp h53)
            refine w_iload_n k66_56 rfl ?_
            refine w_aload_n k66_57 rfl rfl ?_
            refine w_geti k66_58 (k := 3) kd137 (by decide) ?_
            rw [setQ_ne (by omega), hR.1]
            refine w_icmp_gt k66_61 (fun h61 => ?_) (fun h61 => ?_)
            ·
              have z3 : ¬ q3v ≤ V.1 := fun hh => absurd ((nI_ltI (by omega) (by omega)).mp h61) (by omega)
              refine w_iconst k66_73 ?_
              refine w_iret k66_74 mt66 (.boolean) rfl (rfl) ?_
              first
                | (refine ItM.no ?_ OffRd.q; simp [chairE, q1]; done)
                | (refine ItM.no ?_ OffRd.q; simp [chairE, q1, q2]; done)
                | (refine ItM.no ?_ OffRd.q; simp [chairE, q1, q2, q3]; done)
                | (have hv : vcB V q1v q2v q3v = true := decide_eq_true ⟨z4, z1, z2, z3⟩
                   refine ItM.yes (q := (q3p, vAdd V q1v q2v q3v, M)) ?_ (OffRd.q.tr hO) (by rw [hp2]; exact setQ_at) hR2
                   simp [chairE, q1, q2, q3, hv]; done)
                | (have hv : vcB V q1v q2v q3v = false := by
                     apply decide_eq_false
                     rintro ⟨b1, b2, b3, b4⟩
                     first
                       | exact z1 b2
                       | exact z2 b3
                       | exact z3 b4
                       | exact z4 b1
                   refine ItM.no ?_ OffRd.q
                   simp [chairE, q1, q2, q3, hv]; done)
            ·
              have z3 : q3v ≤ V.1 := Nat.not_lt.mp fun hh => h61 ((nI_ltI (by omega) (by omega)).mpr hh)
              refine w_aload_n k66_64 rfl rfl ?_
              refine w_geti k66_65 (k := 3) kd137 (by decide) ?_
              rw [setQ_ne (by omega), hR.1]
              refine w_bipush k66_68 ?_
              refine w_icmp_ne k66_70 (fun h70 => ?_) (fun h70 => ?_)
              ·
                have z4 : V.1 < 9 := by
                  have : ¬ V.1 = 9 := fun hh => h70 (by rw [hh]; rfl)
                  omega
                refine w_aload_n k66_75 rfl rfl ?_
                refine w_iload_n k66_76 rfl ?_
                refine w_iload_n k66_77 rfl ?_
                refine w_iload_n k66_78 rfl ?_
                refine w_vA k66_79 mt53 kd137 ⟨rfl, by decide⟩ [_, _, _] rfl rfl rfl (mp_sits (f := setQ f q3p) G hR.q z4 q1v q2v q3v) ?_
                rintro _ _ f2 _ ⟨rfl, rfl, rfl, hO, hp2, hR2⟩
                refine w_iconst k66_82 ?_
                refine w_iret k66_83 mt66 (.boolean) rfl (rfl) ?_
                first
                  | (refine ItM.no ?_ OffRd.q; simp [chairE, q1]; done)
                  | (refine ItM.no ?_ OffRd.q; simp [chairE, q1, q2]; done)
                  | (refine ItM.no ?_ OffRd.q; simp [chairE, q1, q2, q3]; done)
                  | (have hv : vcB V q1v q2v q3v = true := decide_eq_true ⟨z4, z1, z2, z3⟩
                     refine ItM.yes (q := (q3p, vAdd V q1v q2v q3v, M)) ?_ (OffRd.q.tr hO) (by rw [hp2]; exact setQ_at) hR2
                     simp [chairE, q1, q2, q3, hv]; done)
                  | (have hv : vcB V q1v q2v q3v = false := by
                       apply decide_eq_false
                       rintro ⟨b1, b2, b3, b4⟩
                       first
                         | exact z1 b2
                         | exact z2 b3
                         | exact z3 b4
                         | exact z4 b1
                     refine ItM.no ?_ OffRd.q
                     simp [chairE, q1, q2, q3, hv]; done)
              ·
                have z4 : ¬ V.1 < 9 := by
                  have := (nI_eq (b := 9) (by omega) (by omega)).mp h70
                  omega
                refine w_iconst k66_73 ?_
                refine w_iret k66_74 mt66 (.boolean) rfl (rfl) ?_
                first
                  | (refine ItM.no ?_ OffRd.q; simp [chairE, q1]; done)
                  | (refine ItM.no ?_ OffRd.q; simp [chairE, q1, q2]; done)
                  | (refine ItM.no ?_ OffRd.q; simp [chairE, q1, q2, q3]; done)
                  | (have hv : vcB V q1v q2v q3v = true := decide_eq_true ⟨z4, z1, z2, z3⟩
                     refine ItM.yes (q := (q3p, vAdd V q1v q2v q3v, M)) ?_ (OffRd.q.tr hO) (by rw [hp2]; exact setQ_at) hR2
                     simp [chairE, q1, q2, q3, hv]; done)
                  | (have hv : vcB V q1v q2v q3v = false := by
                       apply decide_eq_false
                       rintro ⟨b1, b2, b3, b4⟩
                       first
                         | exact z1 b2
                         | exact z2 b3
                         | exact z3 b4
                         | exact z4 b1
                     refine ItM.no ?_ OffRd.q
                     simp [chairE, q1, q2, q3, hv]; done)
    ·
      have q2 : numE tx tl q1p 44 = none := nE_F (by decide) (h23)
      refine w_iconst k66_26 ?_
      refine w_goto k66_27 ?_
      refine w_istore_n k66_36 (ls' := [_, _, _, _]) rfl ?_
      refine w_iload_n k66_37 rfl ?_
      refine w_if_lt k66_38 (fun h38 => ?_) (fun h38 => absurd (by decide) h38)
      refine w_iconst k66_73 ?_
      refine w_iret k66_74 mt66 (.boolean) rfl (rfl) ?_
      first
        | (refine ItM.no ?_ OffRd.q; simp [chairE, q1]; done)
        | (refine ItM.no ?_ OffRd.q; simp [chairE, q1, q2]; done)
        | (refine ItM.no ?_ OffRd.q; simp [chairE, q1, q2, q3]; done)
  ·
    have q1 : numE tx tl p 44 = none := nE_F (by decide) (h8)
    refine w_iconst k66_11 ?_
    refine w_goto k66_12 ?_
    refine w_istore_n k66_21 (ls' := [_, _, _, _]) rfl ?_
    refine w_iload_n k66_22 rfl ?_
    refine w_if_ge k66_23 (fun h23 => absurd h23 (by decide)) (fun h23 => ?_)
    refine w_iconst k66_26 ?_
    refine w_goto k66_27 ?_
    refine w_istore_n k66_36 (ls' := [_, _, _, _]) rfl ?_
    refine w_iload_n k66_37 rfl ?_
    refine w_if_lt k66_38 (fun h38 => ?_) (fun h38 => absurd (by decide) h38)
    refine w_iconst k66_73 ?_
    refine w_iret k66_74 mt66 (.boolean) rfl (rfl) ?_
    first
      | (refine ItM.no ?_ OffRd.q; simp [chairE, q1]; done)
      | (refine ItM.no ?_ OffRd.q; simp [chairE, q1, q2]; done)
      | (refine ItM.no ?_ OffRd.q; simp [chairE, q1, q2, q3]; done)
def sE (r : Option (Nat × Nat)) : Int32 := match r with
  | some q => nI q.1
  | none => -1
def StQ (f : FF) (g : GG) (r : Option (Nat × Nat)) : Option Value → Nat → FF → GG → Prop := fun v n' f' g' => v = some (.int (sE r)) ∧ n' = 153 ∧ g' = g ∧ ∃ q, f' = setQ f q ∧ ∀ w, r = some w → q = w.2
theorem StQ.no {f : FF} {g : GG} {r : Option (Nat × Nat)} {q : Nat} (h : r = none) : StQ f g r (some (.int (-1))) 153 (setQ f q) g := by
  subst h
  exact ⟨rfl, rfl, rfl, q, rfl, fun w hw => nomatch hw⟩
theorem StQ.yes {f : FF} {g : GG} {r : Option (Nat × Nat)} {v q : Nat} (h : r = some (v, q)) : StQ f g r (some (.int (nI v))) 153 (setQ f q) g := by
  subst h
  exact ⟨rfl, rfl, rfl, q, rfl, fun w hw => by rw [← Option.some.inj hw]⟩
set_option maxHeartbeats 1000000 in
theorem ml_st61z {S : Scr} {d : Nat} {f : FF} {g : GG} {p : Nat} {r i : Int32} {R : Option (Nat × Nat)} (hR : R = none) : Wp S (d + 1) 67 61 [some (.ref 137), some (.int r), some (.int i), some (.int 1), some (.int 0)] [] 153 (setQ f p) g (StQ f g R) := by
  refine w_iload k67_61 rfl ?_
  refine w_if_le k67_63 (fun h63 => ?_) (fun h63 => absurd (by decide) h63)
  refine w_iconst k67_76 ?_
  refine w_istore_n k67_77 (ls' := [_, _, _, _, _]) rfl ?_
  refine w_iload_n k67_78 rfl ?_
  refine w_if_eq k67_79 (fun h79 => ?_) (fun h79 => absurd (rfl) h79)
  refine w_iload_n k67_91 rfl ?_
  refine w_istore_n k67_92 (ls' := [_, _, _, _, _]) rfl ?_
  refine w_iinc k67_93 rfl (ls' := [_, _, _, _, _]) rfl ?_
  refine w_aload_n k67_96 rfl rfl ?_
  refine w_dup k67_97 rfl ?_
  refine w_geti k67_98 (k := 2) kd137 (by decide) ?_
  rw [setQ_at]
  refine w_iconst k67_101 ?_
  refine w_iadd k67_102 ?_
  refine w_top (nI (p + 1)) (nI_1 _) ?_
  refine w_puti k67_103 (k := 2) kd137 (by decide) ?_
  rw [setQ_setQ]
  refine w_goto k67_106 ?_
  refine w_iload_n k67_6 rfl ?_
  refine w_if_eq k67_7 (fun h7 => ?_) (fun h7 => absurd (rfl) h7)
  refine w_iload_n k67_109 rfl ?_
  refine w_if_eq k67_110 (fun h110 => ?_) (fun h110 => absurd (rfl) h110)
  refine w_iconst k67_117 ?_
  refine w_iret k67_118 mt67 (.int) rfl (rfl) ?_
  exact StQ.no hR
set_option maxHeartbeats 1000000 in
theorem ml_st61f {S : Scr} {d : Nat} {f : FF} {g : GG} {p s i : Nat} {r : Int32} {R : Option (Nat × Nat)} (hR : R = none) (hs : 0 < s) (hs4 : s < 4) (hi : 8 ≤ i) (hi2 : i < 2 ^ 31) : Wp S (d + 1) 67 61 [some (.ref 137), some (.int r), some (.int (nI i)), some (.int 1), some (.int (nI s))] [] 153 (setQ f p) g (StQ f g R) := by
  refine w_iload k67_61 rfl ?_
  refine w_if_le k67_63 (fun h63 => absurd h63 (fun hh => absurd ((nI_leI (b := 0) (by omega) (by omega)).mp hh) (by omega))) (fun h63 => ?_)
  refine w_iload_n k67_66 rfl ?_
  refine w_bipush k67_67 ?_
  refine w_icmp_ge k67_69 (fun h69 => ?_) (fun h69 => absurd (nI_le (a := 8) hi hi2) h69)
  refine w_iconst k67_76 ?_
  refine w_istore_n k67_77 (ls' := [_, _, _, _, _]) rfl ?_
  refine w_iload_n k67_78 rfl ?_
  refine w_if_eq k67_79 (fun h79 => ?_) (fun h79 => absurd (rfl) h79)
  refine w_iload_n k67_91 rfl ?_
  refine w_istore_n k67_92 (ls' := [_, _, _, _, _]) rfl ?_
  refine w_iinc k67_93 rfl (ls' := [_, _, _, _, _]) rfl ?_
  refine w_aload_n k67_96 rfl rfl ?_
  refine w_dup k67_97 rfl ?_
  refine w_geti k67_98 (k := 2) kd137 (by decide) ?_
  rw [setQ_at]
  refine w_iconst k67_101 ?_
  refine w_iadd k67_102 ?_
  refine w_top (nI (p + 1)) (nI_1 _) ?_
  refine w_puti k67_103 (k := 2) kd137 (by decide) ?_
  rw [setQ_setQ]
  refine w_goto k67_106 ?_
  refine w_iload_n k67_6 rfl ?_
  refine w_if_eq k67_7 (fun h7 => ?_) (fun h7 => absurd (rfl) h7)
  refine w_iload_n k67_109 rfl ?_
  refine w_if_eq k67_110 (fun h110 => ?_) (fun h110 => absurd (rfl) h110)
  refine w_iconst k67_117 ?_
  refine w_iret k67_118 mt67 (.int) rfl (rfl) ?_
  exact StQ.no hR
set_option maxHeartbeats 1000000 in
theorem ml_st61n {S : Scr} {d : Nat} {f : FF} {g : GG} {P : Option Value → Nat → FF → GG → Prop} {p s i r : Nat} (hs : 0 < s) (hs4 : s < 4) (hi : i < 8) (hk : Wp S (d + 1) 67 6 [some (.ref 137), some (.int (nI (r * 4 + s))), some (.int (nI (i + 1))), some (.int 1), some (.int (nI s))] [] 153 (setQ f (p + 1)) g P) : Wp S (d + 1) 67 61 [some (.ref 137), some (.int (nI r)), some (.int (nI i)), some (.int 1), some (.int (nI s))] [] 153 (setQ f p) g P := by
  refine w_iload k67_61 rfl ?_
  refine w_if_le k67_63 (fun h63 => absurd h63 (fun hh => absurd ((nI_leI (b := 0) (by omega) (by omega)).mp hh) (by omega))) (fun h63 => ?_)
  refine w_iload_n k67_66 rfl ?_
  refine w_bipush k67_67 ?_
  refine w_icmp_ge k67_69 (fun h69 => absurd h69 (nI_ge (b := 8) hi (by omega))) (fun h69 => ?_)
  refine w_iconst k67_72 ?_
  refine w_goto k67_73 ?_
  refine w_istore_n k67_77 (ls' := [_, _, _, _, _]) rfl ?_
  refine w_iload_n k67_78 rfl ?_
  refine w_if_eq k67_79 (fun h79 => absurd h79 (by decide)) (fun h79 => ?_)
  refine w_iconst k67_82 ?_
  refine w_iload_n k67_83 rfl ?_
  refine w_imul k67_84 ?_
  refine w_top (nI (r * 4)) (by rw [Nat.mul_comm]; exact pk_mul 4 r) ?_
  refine w_iload k67_85 rfl ?_
  refine w_iadd k67_87 ?_
  rw [nI_add]
  refine w_goto k67_88 ?_
  refine w_istore_n k67_92 (ls' := [_, _, _, _, _]) rfl ?_
  refine w_iinc k67_93 rfl (ls' := [_, _, _, _, _]) rfl ?_
  rw [nI_1]
  refine w_aload_n k67_96 rfl rfl ?_
  refine w_dup k67_97 rfl ?_
  refine w_geti k67_98 (k := 2) kd137 (by decide) ?_
  rw [setQ_at]
  refine w_iconst k67_101 ?_
  refine w_iadd k67_102 ?_
  refine w_top (nI (p + 1)) (nI_1 _) ?_
  refine w_puti k67_103 (k := 2) kd137 (by decide) ?_
  rw [setQ_setQ]
  refine w_goto k67_106 ?_
  exact hk
theorem rowP_z {tx : Nat → Nat} {tl t p r : Nat} (h : stt (ch tx tl p) = 0) : rowP tx tl t p r = (r, p) := by
  cases t with
  | zero => rfl
  | succ t => exact if_pos h
set_option maxHeartbeats 1000000 in
theorem ml_stitches {S : Scr} {d : Nat} {f : FF} {g : GG} {tl : Nat} {tx : Nat → Nat} (G : GOm g) (hL : MLe f tx tl) (hT : TxOk tx tl) : ∀ (t p r i : Nat) (q : Option Value), t + i = 8 → p ≤ 202 → (r = 0 ↔ i = 0) → Wp S (d + 1) 67 6 [some (.ref 137), some (.int (nI r)), some (.int (nI i)), some (.int 1), q] [] 153 (setQ f p) g (StQ f g (stL tx tl t p r)) := by
  have h200 := hL.2.1
  intro t
  induction t with
  | zero =>
    intro p r i q e0 hp e2
    refine w_iload_n k67_6 rfl ?_
    refine w_if_eq k67_7 (fun h7 => absurd h7 (by decide)) (fun h7 => ?_)
    refine w_aload_n k67_10 rfl rfl ?_
    refine w_vI k67_11 mt64 kd137 ⟨rfl, by decide⟩ [] rfl rfl rfl (mp_here G hL hT (by omega)) ?_
    refine w_bipush k67_14 ?_
    have hcl := ch_lt hT p
    refine w_icmp_eq k67_16 (fun h16 => ?_) (fun h16 => ?_)
    ·
      have z0 : ch tx tl p = 59 := (nI_eq (b := 59) (by omega) (by omega)).mp h16
      refine w_iload_n k67_109 rfl ?_
      refine w_if_eq k67_110 (fun h110 => absurd h110 (by decide)) (fun h110 => ?_)
      refine w_iload_n k67_113 rfl ?_
      refine w_if_ne k67_114 (fun h114 => ?_) (fun h114 => ?_)
      ·
        have w1 : ¬ i = 0 := fun hh => h114 (by rw [hh]; rfl)
        refine w_aload_n k67_119 rfl rfl ?_
        refine w_dup k67_120 rfl ?_
        refine w_geti k67_121 (k := 2) kd137 (by decide) ?_
        rw [setQ_at]
        refine w_iconst k67_124 ?_
        refine w_iadd k67_125 ?_
        refine w_top (nI (p + 1)) (nI_1 _) ?_
        refine w_puti k67_126 (k := 2) kd137 (by decide) ?_
        rw [setQ_setQ]
        refine w_iload_n k67_129 rfl ?_
        refine w_iret k67_130 mt67 (.int) rfl (rfl) ?_
        have hs0 : stt (ch tx tl p) = 0 := by rw [z0]; rfl
        first
          | exact StQ.no (by unfold stL; rw [rowP_z hs0, if_neg (fun hh => hh.1 (e2.mpr w1))])
          | exact StQ.yes (by unfold stL; rw [rowP_z hs0]; exact if_pos ⟨fun hh => w1 (e2.mp hh), z0⟩)
      ·
        have w1 : i = 0 := (nI_eq (b := 0) (by omega) (by omega)).mp h114
        refine w_iconst k67_117 ?_
        refine w_iret k67_118 mt67 (.int) rfl (rfl) ?_
        have hs0 : stt (ch tx tl p) = 0 := by rw [z0]; rfl
        first
          | exact StQ.no (by unfold stL; rw [rowP_z hs0, if_neg (fun hh => hh.1 (e2.mpr w1))])
          | exact StQ.yes (by unfold stL; rw [rowP_z hs0]; exact if_pos ⟨fun hh => w1 (e2.mp hh), z0⟩)
    ·
      have z0 : ¬ ch tx tl p = 59 := fun hh => h16 (by rw [hh]; rfl)
      refine w_aload_n k67_19 rfl rfl ?_
      refine w_vI k67_20 mt64 kd137 ⟨rfl, by decide⟩ [] rfl rfl rfl (mp_here G hL hT (by omega)) ?_
      refine w_bipush k67_23 ?_
      refine w_icmp_ne k67_25 (fun h25 => ?_) (fun h25 => ?_)
      ·
        have y1 : ¬ ch tx tl p = 112 := fun hh => h25 (by rw [hh]; rfl)
        refine w_aload_n k67_32 rfl rfl ?_
        refine w_vI k67_33 mt64 kd137 ⟨rfl, by decide⟩ [] rfl rfl rfl (mp_here G hL hT (by omega)) ?_
        refine w_bipush k67_36 ?_
        refine w_icmp_ne k67_38 (fun h38 => ?_) (fun h38 => ?_)
        ·
          have y2 : ¬ ch tx tl p = 117 := fun hh => h38 (by rw [hh]; rfl)
          refine w_aload_n k67_45 rfl rfl ?_
          refine w_vI k67_46 mt64 kd137 ⟨rfl, by decide⟩ [] rfl rfl rfl (mp_here G hL hT (by omega)) ?_
          refine w_bipush k67_49 ?_
          refine w_icmp_ne k67_51 (fun h51 => ?_) (fun h51 => ?_)
          ·
            have y3 : ¬ ch tx tl p = 115 := fun hh => h51 (by rw [hh]; rfl)
            refine w_iconst k67_58 ?_
            refine w_istore k67_59 (ls' := [_, _, _, _, _]) rfl ?_
            first
              | (have hs : stt (ch tx tl p) = 1 := by unfold stt; rw [if_pos y1]
                 exact ml_st61f (s := 1) (by unfold stL; rw [if_neg (fun hh => z0 hh.2)]) (by omega) (by omega) (by omega) (by omega))
              | (have hs : stt (ch tx tl p) = 2 := by unfold stt; rw [if_neg y1, if_pos y2]
                 exact ml_st61f (s := 2) (by unfold stL; rw [if_neg (fun hh => z0 hh.2)]) (by omega) (by omega) (by omega) (by omega))
              | (have hs : stt (ch tx tl p) = 3 := by unfold stt; rw [if_neg y1, if_neg y2, if_pos y3]
                 exact ml_st61f (s := 3) (by unfold stL; rw [if_neg (fun hh => z0 hh.2)]) (by omega) (by omega) (by omega) (by omega))
              | (have hs : stt (ch tx tl p) = 0 := by unfold stt; rw [if_neg y1, if_neg y2, if_neg y3]
                 exact ml_st61z (by unfold stL; rw [if_neg (fun hh => z0 (by rw [show rowP tx tl 0 p r = (r, p) from rowP_z hs] at hh; exact hh.2))]))
          ·
            have y3 : ch tx tl p = 115 := (nI_eq (b := 115) (by omega) (by omega)).mp h51
            refine w_iconst k67_54 ?_
            refine w_goto k67_55 ?_
            refine w_istore k67_59 (ls' := [_, _, _, _, _]) rfl ?_
            first
              | (have hs : stt (ch tx tl p) = 1 := by unfold stt; rw [if_pos y1]
                 exact ml_st61f (s := 1) (by unfold stL; rw [if_neg (fun hh => z0 hh.2)]) (by omega) (by omega) (by omega) (by omega))
              | (have hs : stt (ch tx tl p) = 2 := by unfold stt; rw [if_neg y1, if_pos y2]
                 exact ml_st61f (s := 2) (by unfold stL; rw [if_neg (fun hh => z0 hh.2)]) (by omega) (by omega) (by omega) (by omega))
              | (have hs : stt (ch tx tl p) = 3 := by unfold stt; rw [if_neg y1, if_neg y2, if_pos y3]
                 exact ml_st61f (s := 3) (by unfold stL; rw [if_neg (fun hh => z0 hh.2)]) (by omega) (by omega) (by omega) (by omega))
              | (have hs : stt (ch tx tl p) = 0 := by unfold stt; rw [if_neg y1, if_neg y2, if_neg y3]
                 exact ml_st61z (by unfold stL; rw [if_neg (fun hh => z0 (by rw [show rowP tx tl 0 p r = (r, p) from rowP_z hs] at hh; exact hh.2))]))
        ·
          have y2 : ch tx tl p = 117 := (nI_eq (b := 117) (by omega) (by omega)).mp h38
          refine w_iconst k67_41 ?_
          refine w_goto k67_42 ?_
          refine w_istore k67_59 (ls' := [_, _, _, _, _]) rfl ?_
          first
            | (have hs : stt (ch tx tl p) = 1 := by unfold stt; rw [if_pos y1]
               exact ml_st61f (s := 1) (by unfold stL; rw [if_neg (fun hh => z0 hh.2)]) (by omega) (by omega) (by omega) (by omega))
            | (have hs : stt (ch tx tl p) = 2 := by unfold stt; rw [if_neg y1, if_pos y2]
               exact ml_st61f (s := 2) (by unfold stL; rw [if_neg (fun hh => z0 hh.2)]) (by omega) (by omega) (by omega) (by omega))
            | (have hs : stt (ch tx tl p) = 3 := by unfold stt; rw [if_neg y1, if_neg y2, if_pos y3]
               exact ml_st61f (s := 3) (by unfold stL; rw [if_neg (fun hh => z0 hh.2)]) (by omega) (by omega) (by omega) (by omega))
            | (have hs : stt (ch tx tl p) = 0 := by unfold stt; rw [if_neg y1, if_neg y2, if_neg y3]
               exact ml_st61z (by unfold stL; rw [if_neg (fun hh => z0 (by rw [show rowP tx tl 0 p r = (r, p) from rowP_z hs] at hh; exact hh.2))]))
      ·
        have y1 : ch tx tl p = 112 := (nI_eq (b := 112) (by omega) (by omega)).mp h25
        refine w_iconst k67_28 ?_
        refine w_goto k67_29 ?_
        refine w_istore k67_59 (ls' := [_, _, _, _, _]) rfl ?_
        first
          | (have hs : stt (ch tx tl p) = 1 := by unfold stt; rw [if_pos y1]
             exact ml_st61f (s := 1) (by unfold stL; rw [if_neg (fun hh => z0 hh.2)]) (by omega) (by omega) (by omega) (by omega))
          | (have hs : stt (ch tx tl p) = 2 := by unfold stt; rw [if_neg y1, if_pos y2]
             exact ml_st61f (s := 2) (by unfold stL; rw [if_neg (fun hh => z0 hh.2)]) (by omega) (by omega) (by omega) (by omega))
          | (have hs : stt (ch tx tl p) = 3 := by unfold stt; rw [if_neg y1, if_neg y2, if_pos y3]
             exact ml_st61f (s := 3) (by unfold stL; rw [if_neg (fun hh => z0 hh.2)]) (by omega) (by omega) (by omega) (by omega))
          | (have hs : stt (ch tx tl p) = 0 := by unfold stt; rw [if_neg y1, if_neg y2, if_neg y3]
             exact ml_st61z (by unfold stL; rw [if_neg (fun hh => z0 (by rw [show rowP tx tl 0 p r = (r, p) from rowP_z hs] at hh; exact hh.2))]))
  | succ t ih =>
    intro p r i q e0 hp e2
    refine w_iload_n k67_6 rfl ?_
    refine w_if_eq k67_7 (fun h7 => absurd h7 (by decide)) (fun h7 => ?_)
    refine w_aload_n k67_10 rfl rfl ?_
    refine w_vI k67_11 mt64 kd137 ⟨rfl, by decide⟩ [] rfl rfl rfl (mp_here G hL hT (by omega)) ?_
    refine w_bipush k67_14 ?_
    have hcl := ch_lt hT p
    refine w_icmp_eq k67_16 (fun h16 => ?_) (fun h16 => ?_)
    ·
      have z0 : ch tx tl p = 59 := (nI_eq (b := 59) (by omega) (by omega)).mp h16
      refine w_iload_n k67_109 rfl ?_
      refine w_if_eq k67_110 (fun h110 => absurd h110 (by decide)) (fun h110 => ?_)
      refine w_iload_n k67_113 rfl ?_
      refine w_if_ne k67_114 (fun h114 => ?_) (fun h114 => ?_)
      ·
        have w1 : ¬ i = 0 := fun hh => h114 (by rw [hh]; rfl)
        refine w_aload_n k67_119 rfl rfl ?_
        refine w_dup k67_120 rfl ?_
        refine w_geti k67_121 (k := 2) kd137 (by decide) ?_
        rw [setQ_at]
        refine w_iconst k67_124 ?_
        refine w_iadd k67_125 ?_
        refine w_top (nI (p + 1)) (nI_1 _) ?_
        refine w_puti k67_126 (k := 2) kd137 (by decide) ?_
        rw [setQ_setQ]
        refine w_iload_n k67_129 rfl ?_
        refine w_iret k67_130 mt67 (.int) rfl (rfl) ?_
        have hs0 : stt (ch tx tl p) = 0 := by rw [z0]; rfl
        first
          | exact StQ.no (by unfold stL; rw [rowP_z hs0, if_neg (fun hh => hh.1 (e2.mpr w1))])
          | exact StQ.yes (by unfold stL; rw [rowP_z hs0]; exact if_pos ⟨fun hh => w1 (e2.mp hh), z0⟩)
      ·
        have w1 : i = 0 := (nI_eq (b := 0) (by omega) (by omega)).mp h114
        refine w_iconst k67_117 ?_
        refine w_iret k67_118 mt67 (.int) rfl (rfl) ?_
        have hs0 : stt (ch tx tl p) = 0 := by rw [z0]; rfl
        first
          | exact StQ.no (by unfold stL; rw [rowP_z hs0, if_neg (fun hh => hh.1 (e2.mpr w1))])
          | exact StQ.yes (by unfold stL; rw [rowP_z hs0]; exact if_pos ⟨fun hh => w1 (e2.mp hh), z0⟩)
    ·
      have z0 : ¬ ch tx tl p = 59 := fun hh => h16 (by rw [hh]; rfl)
      refine w_aload_n k67_19 rfl rfl ?_
      refine w_vI k67_20 mt64 kd137 ⟨rfl, by decide⟩ [] rfl rfl rfl (mp_here G hL hT (by omega)) ?_
      refine w_bipush k67_23 ?_
      refine w_icmp_ne k67_25 (fun h25 => ?_) (fun h25 => ?_)
      ·
        have y1 : ¬ ch tx tl p = 112 := fun hh => h25 (by rw [hh]; rfl)
        refine w_aload_n k67_32 rfl rfl ?_
        refine w_vI k67_33 mt64 kd137 ⟨rfl, by decide⟩ [] rfl rfl rfl (mp_here G hL hT (by omega)) ?_
        refine w_bipush k67_36 ?_
        refine w_icmp_ne k67_38 (fun h38 => ?_) (fun h38 => ?_)
        ·
          have y2 : ¬ ch tx tl p = 117 := fun hh => h38 (by rw [hh]; rfl)
          refine w_aload_n k67_45 rfl rfl ?_
          refine w_vI k67_46 mt64 kd137 ⟨rfl, by decide⟩ [] rfl rfl rfl (mp_here G hL hT (by omega)) ?_
          refine w_bipush k67_49 ?_
          refine w_icmp_ne k67_51 (fun h51 => ?_) (fun h51 => ?_)
          ·
            have y3 : ¬ ch tx tl p = 115 := fun hh => h51 (by rw [hh]; rfl)
            refine w_iconst k67_58 ?_
            refine w_istore k67_59 (ls' := [_, _, _, _, _]) rfl ?_
            first
              | (have hs : stt (ch tx tl p) = 1 := by unfold stt; rw [if_pos y1]
                 have h0 : ch tx tl p ≠ 0 := by omega
                 have hin : p < tl := ch_in h0
                 refine ml_st61n (s := 1) (by omega) (by omega) (by omega) ?_
                 rw [show stL tx tl (t + 1) p r = stL tx tl t (p + 1) (r * 4 + 1) from by unfold stL; rw [rowP_s hs (by omega)]]
                 exact ih (p + 1) (r * 4 + 1) (i + 1) _ (by omega) (by omega) (by omega))
              | (have hs : stt (ch tx tl p) = 2 := by unfold stt; rw [if_neg y1, if_pos y2]
                 have h0 : ch tx tl p ≠ 0 := by omega
                 have hin : p < tl := ch_in h0
                 refine ml_st61n (s := 2) (by omega) (by omega) (by omega) ?_
                 rw [show stL tx tl (t + 1) p r = stL tx tl t (p + 1) (r * 4 + 2) from by unfold stL; rw [rowP_s hs (by omega)]]
                 exact ih (p + 1) (r * 4 + 2) (i + 1) _ (by omega) (by omega) (by omega))
              | (have hs : stt (ch tx tl p) = 3 := by unfold stt; rw [if_neg y1, if_neg y2, if_pos y3]
                 have h0 : ch tx tl p ≠ 0 := by omega
                 have hin : p < tl := ch_in h0
                 refine ml_st61n (s := 3) (by omega) (by omega) (by omega) ?_
                 rw [show stL tx tl (t + 1) p r = stL tx tl t (p + 1) (r * 4 + 3) from by unfold stL; rw [rowP_s hs (by omega)]]
                 exact ih (p + 1) (r * 4 + 3) (i + 1) _ (by omega) (by omega) (by omega))
              | (have hs : stt (ch tx tl p) = 0 := by unfold stt; rw [if_neg y1, if_neg y2, if_neg y3]
                 exact ml_st61z (by unfold stL; rw [if_neg (fun hh => z0 (by rw [show rowP tx tl (t + 1) p r = (r, p) from rowP_z hs] at hh; exact hh.2))]))
          ·
            have y3 : ch tx tl p = 115 := (nI_eq (b := 115) (by omega) (by omega)).mp h51
            refine w_iconst k67_54 ?_
            refine w_goto k67_55 ?_
            refine w_istore k67_59 (ls' := [_, _, _, _, _]) rfl ?_
            first
              | (have hs : stt (ch tx tl p) = 1 := by unfold stt; rw [if_pos y1]
                 have h0 : ch tx tl p ≠ 0 := by omega
                 have hin : p < tl := ch_in h0
                 refine ml_st61n (s := 1) (by omega) (by omega) (by omega) ?_
                 rw [show stL tx tl (t + 1) p r = stL tx tl t (p + 1) (r * 4 + 1) from by unfold stL; rw [rowP_s hs (by omega)]]
                 exact ih (p + 1) (r * 4 + 1) (i + 1) _ (by omega) (by omega) (by omega))
              | (have hs : stt (ch tx tl p) = 2 := by unfold stt; rw [if_neg y1, if_pos y2]
                 have h0 : ch tx tl p ≠ 0 := by omega
                 have hin : p < tl := ch_in h0
                 refine ml_st61n (s := 2) (by omega) (by omega) (by omega) ?_
                 rw [show stL tx tl (t + 1) p r = stL tx tl t (p + 1) (r * 4 + 2) from by unfold stL; rw [rowP_s hs (by omega)]]
                 exact ih (p + 1) (r * 4 + 2) (i + 1) _ (by omega) (by omega) (by omega))
              | (have hs : stt (ch tx tl p) = 3 := by unfold stt; rw [if_neg y1, if_neg y2, if_pos y3]
                 have h0 : ch tx tl p ≠ 0 := by omega
                 have hin : p < tl := ch_in h0
                 refine ml_st61n (s := 3) (by omega) (by omega) (by omega) ?_
                 rw [show stL tx tl (t + 1) p r = stL tx tl t (p + 1) (r * 4 + 3) from by unfold stL; rw [rowP_s hs (by omega)]]
                 exact ih (p + 1) (r * 4 + 3) (i + 1) _ (by omega) (by omega) (by omega))
              | (have hs : stt (ch tx tl p) = 0 := by unfold stt; rw [if_neg y1, if_neg y2, if_neg y3]
                 exact ml_st61z (by unfold stL; rw [if_neg (fun hh => z0 (by rw [show rowP tx tl (t + 1) p r = (r, p) from rowP_z hs] at hh; exact hh.2))]))
        ·
          have y2 : ch tx tl p = 117 := (nI_eq (b := 117) (by omega) (by omega)).mp h38
          refine w_iconst k67_41 ?_
          refine w_goto k67_42 ?_
          refine w_istore k67_59 (ls' := [_, _, _, _, _]) rfl ?_
          first
            | (have hs : stt (ch tx tl p) = 1 := by unfold stt; rw [if_pos y1]
               have h0 : ch tx tl p ≠ 0 := by omega
               have hin : p < tl := ch_in h0
               refine ml_st61n (s := 1) (by omega) (by omega) (by omega) ?_
               rw [show stL tx tl (t + 1) p r = stL tx tl t (p + 1) (r * 4 + 1) from by unfold stL; rw [rowP_s hs (by omega)]]
               exact ih (p + 1) (r * 4 + 1) (i + 1) _ (by omega) (by omega) (by omega))
            | (have hs : stt (ch tx tl p) = 2 := by unfold stt; rw [if_neg y1, if_pos y2]
               have h0 : ch tx tl p ≠ 0 := by omega
               have hin : p < tl := ch_in h0
               refine ml_st61n (s := 2) (by omega) (by omega) (by omega) ?_
               rw [show stL tx tl (t + 1) p r = stL tx tl t (p + 1) (r * 4 + 2) from by unfold stL; rw [rowP_s hs (by omega)]]
               exact ih (p + 1) (r * 4 + 2) (i + 1) _ (by omega) (by omega) (by omega))
            | (have hs : stt (ch tx tl p) = 3 := by unfold stt; rw [if_neg y1, if_neg y2, if_pos y3]
               have h0 : ch tx tl p ≠ 0 := by omega
               have hin : p < tl := ch_in h0
               refine ml_st61n (s := 3) (by omega) (by omega) (by omega) ?_
               rw [show stL tx tl (t + 1) p r = stL tx tl t (p + 1) (r * 4 + 3) from by unfold stL; rw [rowP_s hs (by omega)]]
               exact ih (p + 1) (r * 4 + 3) (i + 1) _ (by omega) (by omega) (by omega))
            | (have hs : stt (ch tx tl p) = 0 := by unfold stt; rw [if_neg y1, if_neg y2, if_neg y3]
               exact ml_st61z (by unfold stL; rw [if_neg (fun hh => z0 (by rw [show rowP tx tl (t + 1) p r = (r, p) from rowP_z hs] at hh; exact hh.2))]))
      ·
        have y1 : ch tx tl p = 112 := (nI_eq (b := 112) (by omega) (by omega)).mp h25
        refine w_iconst k67_28 ?_
        refine w_goto k67_29 ?_
        refine w_istore k67_59 (ls' := [_, _, _, _, _]) rfl ?_
        first
          | (have hs : stt (ch tx tl p) = 1 := by unfold stt; rw [if_pos y1]
             have h0 : ch tx tl p ≠ 0 := by omega
             have hin : p < tl := ch_in h0
             refine ml_st61n (s := 1) (by omega) (by omega) (by omega) ?_
             rw [show stL tx tl (t + 1) p r = stL tx tl t (p + 1) (r * 4 + 1) from by unfold stL; rw [rowP_s hs (by omega)]]
             exact ih (p + 1) (r * 4 + 1) (i + 1) _ (by omega) (by omega) (by omega))
          | (have hs : stt (ch tx tl p) = 2 := by unfold stt; rw [if_neg y1, if_pos y2]
             have h0 : ch tx tl p ≠ 0 := by omega
             have hin : p < tl := ch_in h0
             refine ml_st61n (s := 2) (by omega) (by omega) (by omega) ?_
             rw [show stL tx tl (t + 1) p r = stL tx tl t (p + 1) (r * 4 + 2) from by unfold stL; rw [rowP_s hs (by omega)]]
             exact ih (p + 1) (r * 4 + 2) (i + 1) _ (by omega) (by omega) (by omega))
          | (have hs : stt (ch tx tl p) = 3 := by unfold stt; rw [if_neg y1, if_neg y2, if_pos y3]
             have h0 : ch tx tl p ≠ 0 := by omega
             have hin : p < tl := ch_in h0
             refine ml_st61n (s := 3) (by omega) (by omega) (by omega) ?_
             rw [show stL tx tl (t + 1) p r = stL tx tl t (p + 1) (r * 4 + 3) from by unfold stL; rw [rowP_s hs (by omega)]]
             exact ih (p + 1) (r * 4 + 3) (i + 1) _ (by omega) (by omega) (by omega))
          | (have hs : stt (ch tx tl p) = 0 := by unfold stt; rw [if_neg y1, if_neg y2, if_neg y3]
             exact ml_st61z (by unfold stL; rw [if_neg (fun hh => z0 (by rw [show rowP tx tl (t + 1) p r = (r, p) from rowP_z hs] at hh; exact hh.2))]))
set_option maxHeartbeats 1000000 in
theorem mp_stitches {S : Scr} {d : Nat} {f : FF} {g : GG} {tl p : Nat} {tx : Nat → Nat} (G : GOm g) (hL : MLe f tx tl) (hT : TxOk tx tl) (hp : p ≤ 202) : Wp S (d + 1) 67 0 [some (.ref 137), none, none, none, none] [] 153 (setQ f p) g (StQ f g (stL tx tl 8 p 0)) := by
  refine w_iconst k67_0 ?_
  refine w_istore_n k67_1 (ls' := [_, _, _, _, _]) rfl ?_
  refine w_iconst k67_2 ?_
  refine w_istore_n k67_3 (ls' := [_, _, _, _, _]) rfl ?_
  refine w_iconst k67_4 ?_
  refine w_istore_n k67_5 (ls' := [_, _, _, _, _]) rfl ?_
  exact ml_stitches G hL hT 8 p 0 0 none rfl hp ⟨fun _ => rfl, fun _ => rfl⟩
theorem stL_in {tx : Nat → Nat} {tl p v p1 : Nat} (hp : p ≤ tl) (h : stL tx tl 8 p 0 = some (v, p1)) : RowOk v ∧ p1 ≤ tl := by
  unfold stL at h
  split at h
  · rename_i hc
    have h2 := Option.some.inj h
    have e1 := congrArg Prod.fst h2
    have e2 := congrArg Prod.snd h2
    have h3 := ch_in (by rw [hc.2]; decide)
    simp only at e1 e2
    rw [← e1]
    exact ⟨rowP_row, by omega⟩
  · cases h
theorem sE_T {tx : Nat → Nat} {tl p : Nat} (hp : p ≤ tl) (h : 0 ≤ sE (stL tx tl 8 p 0)) : ∃ v p1, stL tx tl 8 p 0 = some (v, p1) ∧ sE (stL tx tl 8 p 0) = nI v ∧ RowOk v ∧ p1 ≤ tl := by
  cases hq : stL tx tl 8 p 0 with
  | none => rw [hq] at h; exact absurd h (by decide)
  | some q =>
    have := stL_in (v := q.1) (p1 := q.2) hp hq
    exact ⟨q.1, q.2, rfl, rfl, this.1, this.2⟩
theorem sE_F {tx : Nat → Nat} {tl p : Nat} (hp : p ≤ tl) (h : ¬ 0 ≤ sE (stL tx tl 8 p 0)) : stL tx tl 8 p 0 = none := by
  cases hq : stL tx tl 8 p 0 with
  | none => rfl
  | some q =>
    have := (stL_in (v := q.1) (p1 := q.2) hp hq).1.lt
    rw [hq] at h
    exact absurd (nI_pos' (n := q.1) (by omega)) h
set_option maxHeartbeats 1000000 in
theorem mp_readsMessage {S : Scr} {d : Nat} {f : FF} {g : GG} {tl p : Nat} {tx : Nat → Nat} (G : GOm g) (hL : MLe f tx tl) (hT : TxOk tx tl) (hp : p ≤ 202) {V : Va} {M : Nat → Nat → Nat} (hR : RMd f V M) (hV : VWf V) (hM6 : M 0 2 ≤ 6) (hMI : M 0 1 < 512) : Wp S (d + 2) 68 0 [some (.ref 137), none, none, none] [] 153 (setQ f p) g (ItM f g ((msgE tx tl p V M).map fun q => (q.1, V, q.2))) := by
  have h99 := hV.1
  have h200 := hL.2.1
  refine w_aload_n k68_0 rfl rfl ?_
  refine w_bipush k68_1 ?_
  refine w_vA k68_3 mt65 kd137 ⟨rfl, by decide⟩ [_] rfl rfl rfl (mp_number (p := p) G hL hT (by omega) (e := 44) (by omega)) ?_
  rintro _ _ _ _ ⟨rfl, rfl, rfl, x1, rfl, hx1⟩
  refine w_istore_n k68_6 (ls' := [_, _, _, _]) rfl ?_
  refine w_iload_n k68_7 rfl ?_
  refine w_if_ge k68_8 (fun h8 => ?_) (fun h8 => ?_)
  ·
    obtain ⟨q1v, q1p, q1, q1e, q1l, q1b, q1c⟩ := nE_T (by decide) (h8)
    have ex1 : q1p = x1 := (hx1 _ q1).symm
    subst ex1
    rw [q1e]
    refine w_aload_n k68_15 rfl rfl ?_
    refine w_bipush k68_16 ?_
    refine w_vA k68_18 mt65 kd137 ⟨rfl, by decide⟩ [_] rfl rfl rfl (mp_number (p := q1p) G hL hT (by omega) (e := 44) (by omega)) ?_
    rintro _ _ _ _ ⟨rfl, rfl, rfl, x2, rfl, hx2⟩
    refine w_istore_n k68_21 (ls' := [_, _, _, _]) rfl ?_
    refine w_iload_n k68_22 rfl ?_
    refine w_if_ge k68_23 (fun h23 => ?_) (fun h23 => ?_)
    ·
      obtain ⟨q2v, q2p, q2, q2e, q2l, q2b, q2c⟩ := nE_T (by decide) (h23)
      have ex2 : q2p = x2 := (hx2 _ q2).symm
      subst ex2
      rw [q2e]
      refine w_aload_n k68_30 rfl rfl ?_
      refine w_vA k68_31 mt67 kd137 ⟨rfl, by decide⟩ [] rfl rfl rfl (mp_stitches (p := q2p) G hL hT (by omega)) ?_
      rintro _ _ _ _ ⟨rfl, rfl, rfl, x3, rfl, hx3⟩
      refine w_istore_n k68_34 (ls' := [_, _, _, _]) rfl ?_
      refine w_iload_n k68_35 rfl ?_
      refine w_if_lt k68_36 (fun h36 => ?_) (fun h36 => ?_)
      ·
        have q3 : stL tx tl 8 q2p 0 = none := sE_F q2b (Int32.not_le.mpr h36)
        refine w_iconst k68_56 ?_
        refine w_iret k68_57 mt68 (.boolean) rfl (rfl) ?_
        first
          | (refine ItM.no ?_ OffRd.q; simp [msgE, q1]; done)
          | (refine ItM.no ?_ OffRd.q; simp [msgE, q1, q2]; done)
          | (refine ItM.no ?_ OffRd.q; simp [msgE, q1, q2, q3]; done)
          | (refine ItM.yes (q := (q3p, V, mAdd M q1v q2v q3v)) ?_ (OffRd.q.tr hO) (by rw [hp2]; exact setQ_at) hR2
             simp [msgE, q1, q2, q3, z1, z2]; done)
          | (refine ItM.no ?_ OffRd.q
             simp [msgE, q1, q2, q3, z1]; done)
          | (refine ItM.no ?_ OffRd.q
             simp [msgE, q1, q2, q3, z1, z2]; done)
      ·
        obtain ⟨q3v, q3p, q3, q3e, q3r, q3b⟩ := sE_T q2b (Int32.not_lt.mp h36)
        have ex3 : q3p = x3 := (hx3 _ q3).symm
        subst ex3
        rw [q3e]
        refine w_iload_n k68_39 rfl ?_
        refine w_aload_n k68_40 rfl rfl ?_
        refine w_geti k68_41 (k := 3) kd137 (by decide) ?_
        rw [setQ_ne (by omega), hR.1]
        refine w_icmp_ge k68_44 (fun h44 => ?_) (fun h44 => ?_)
        ·
          have z1 : ¬ q1v < V.1 := Nat.not_lt.mpr ((nI_leI (by omega) (by omega)).mp h44)
          refine w_iconst k68_56 ?_
          refine w_iret k68_57 mt68 (.boolean) rfl (rfl) ?_
          first
            | (refine ItM.no ?_ OffRd.q; simp [msgE, q1]; done)
            | (refine ItM.no ?_ OffRd.q; simp [msgE, q1, q2]; done)
            | (refine ItM.no ?_ OffRd.q; simp [msgE, q1, q2, q3]; done)
            | (refine ItM.yes (q := (q3p, V, mAdd M q1v q2v q3v)) ?_ (OffRd.q.tr hO) (by rw [hp2]; exact setQ_at) hR2
               simp [msgE, q1, q2, q3, z1, z2]; done)
            | (refine ItM.no ?_ OffRd.q
               simp [msgE, q1, q2, q3, z1]; done)
            | (refine ItM.no ?_ OffRd.q
               simp [msgE, q1, q2, q3, z1, z2]; done)
        ·
          have z1 : q1v < V.1 := Nat.not_le.mp fun hh => h44 ((nI_leI (by omega) (by omega)).mpr hh)
          refine w_aload_n k68_47 rfl rfl ?_
          refine w_geti k68_48 (k := 4) kd137 (by decide) ?_
          rw [setQ_ne (by omega), hR.2.1]
          refine w_bipush k68_51 ?_
          refine w_icmp_ne k68_53 (fun h53 => ?_) (fun h53 => ?_)
          ·
            have z2 : M 0 2 < 6 := by
              have : ¬ M 0 2 = 6 := fun hh => h53 (by rw [hh]; rfl)
              omega
            refine w_aload_n k68_58 rfl rfl ?_
            refine w_iload_n k68_59 rfl ?_
            refine w_iload_n k68_60 rfl ?_
            refine w_iload_n k68_61 rfl ?_
            refine w_vA k68_62 mt54 kd137 ⟨rfl, by decide⟩ [_, _, _] rfl rfl rfl (mp_begins (f := setQ f q3p) G hR.q z2 q1v q2v q3v) ?_
            rintro _ _ f2 _ ⟨rfl, rfl, rfl, hO, hp2, hR2⟩
            refine w_iconst k68_65 ?_
            refine w_iret k68_66 mt68 (.boolean) rfl (rfl) ?_
            first
              | (refine ItM.no ?_ OffRd.q; simp [msgE, q1]; done)
              | (refine ItM.no ?_ OffRd.q; simp [msgE, q1, q2]; done)
              | (refine ItM.no ?_ OffRd.q; simp [msgE, q1, q2, q3]; done)
              | (refine ItM.yes (q := (q3p, V, mAdd M q1v q2v q3v)) ?_ (OffRd.q.tr hO) (by rw [hp2]; exact setQ_at) hR2
                 simp [msgE, q1, q2, q3, z1, z2]; done)
              | (refine ItM.no ?_ OffRd.q
                 simp [msgE, q1, q2, q3, z1]; done)
              | (refine ItM.no ?_ OffRd.q
                 simp [msgE, q1, q2, q3, z1, z2]; done)
          ·
            have z2 : ¬ M 0 2 < 6 := by
              have := (nI_eq (b := 6) (by omega) (by omega)).mp h53
              omega
            refine w_iconst k68_56 ?_
            refine w_iret k68_57 mt68 (.boolean) rfl (rfl) ?_
            first
              | (refine ItM.no ?_ OffRd.q; simp [msgE, q1]; done)
              | (refine ItM.no ?_ OffRd.q; simp [msgE, q1, q2]; done)
              | (refine ItM.no ?_ OffRd.q; simp [msgE, q1, q2, q3]; done)
              | (refine ItM.yes (q := (q3p, V, mAdd M q1v q2v q3v)) ?_ (OffRd.q.tr hO) (by rw [hp2]; exact setQ_at) hR2
                 simp [msgE, q1, q2, q3, z1, z2]; done)
              | (refine ItM.no ?_ OffRd.q
                 simp [msgE, q1, q2, q3, z1]; done)
              | (refine ItM.no ?_ OffRd.q
                 simp [msgE, q1, q2, q3, z1, z2]; done)
    ·
      have q2 : numE tx tl q1p 44 = none := nE_F (by decide) (h23)
      refine w_iconst k68_26 ?_
      refine w_goto k68_27 ?_
      refine w_istore_n k68_34 (ls' := [_, _, _, _]) rfl ?_
      refine w_iload_n k68_35 rfl ?_
      refine w_if_lt k68_36 (fun h36 => ?_) (fun h36 => absurd (by decide) h36)
      refine w_iconst k68_56 ?_
      refine w_iret k68_57 mt68 (.boolean) rfl (rfl) ?_
      first
        | (refine ItM.no ?_ OffRd.q; simp [msgE, q1]; done)
        | (refine ItM.no ?_ OffRd.q; simp [msgE, q1, q2]; done)
        | (refine ItM.no ?_ OffRd.q; simp [msgE, q1, q2, q3]; done)
  ·
    have q1 : numE tx tl p 44 = none := nE_F (by decide) (h8)
    refine w_iconst k68_11 ?_
    refine w_goto k68_12 ?_
    refine w_istore_n k68_21 (ls' := [_, _, _, _]) rfl ?_
    refine w_iload_n k68_22 rfl ?_
    refine w_if_ge k68_23 (fun h23 => absurd h23 (by decide)) (fun h23 => ?_)
    refine w_iconst k68_26 ?_
    refine w_goto k68_27 ?_
    refine w_istore_n k68_34 (ls' := [_, _, _, _]) rfl ?_
    refine w_iload_n k68_35 rfl ?_
    refine w_if_lt k68_36 (fun h36 => ?_) (fun h36 => absurd (by decide) h36)
    refine w_iconst k68_56 ?_
    refine w_iret k68_57 mt68 (.boolean) rfl (rfl) ?_
    first
      | (refine ItM.no ?_ OffRd.q; simp [msgE, q1]; done)
      | (refine ItM.no ?_ OffRd.q; simp [msgE, q1, q2]; done)
      | (refine ItM.no ?_ OffRd.q; simp [msgE, q1, q2, q3]; done)
