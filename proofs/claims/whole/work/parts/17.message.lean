/-! SPECS, 8: one message -/
def mu (μ : Nat → Nat) (k v : Nat) : Nat → Nat := fun j => if j = k then v else μ j
/-- the message at m -/
def MsR (f : FF) (m : Nat) (μ : Nat → Nat) : Prop := ∀ k, k < 6 → f m k = nI (μ k)
def Off (f f' : FF) (m : Nat) : Prop := ∀ x, x ≠ m → f' x = f x
theorem Off.rf {f : FF} {m : Nat} : Off f f m := fun _ _ => rfl
theorem Off.tr {f f1 f2 : FF} {m : Nat} (h : Off f f1 m) (h2 : Off f1 f2 m) : Off f f2 m := fun x hx => (h2 x hx).trans (h x hx)
theorem Off.up {f : FF} {m k : Nat} {w : Int32} : Off f (fup f m k w) m := fun x hx => by funext y; simp [fup, hx]
theorem MsR.up {f : FF} {m : Nat} {μ : Nat → Nat} (h : MsR f m μ) (k v : Nat) : MsR (fup f m k (nI v)) m (mu μ k v) := by
  intro j hj
  unfold fup mu
  by_cases hjk : j = k
  · rw [if_pos ⟨rfl, hjk⟩, if_pos hjk]
  · rw [if_neg (fun hh => hjk hh.2), if_neg hjk]
    exact h j hj
theorem fup_self {f : FF} {m k : Nat} {w : Int32} : fup f m k w m k = w := by simp [fup]
theorem fup_ne {f : FF} {m k j : Nat} {w : Int32} (h : j ≠ k) : fup f m k w m j = f m j := by simp [fup, h]
theorem fup_no {f : FF} {m x k j : Nat} {w : Int32} (h : x ≠ m) : fup f m k w x j = f x j := by simp [fup, h]
theorem kd_ne {n a b : Nat} {p q : Nat × Nat} (ha : kd KKl n a = some p) (hb : kd KKl n b = some q) (h : p ≠ q) : a ≠ b := fun e => h (by subst e; rw [ha] at hb; exact Option.some.inj hb)
theorem CVa.off {f f' : FF} {v : Nat} {V : Va} (h : CVa f v V) (h0 : f' v = f v) (h1 : f' (v + 1) = f (v + 1)) (h2 : f' (v + 2) = f (v + 2)) (h3 : f' (v + 3) = f (v + 3)) : CVa f' v V := ⟨by rw [h0]; exact h.1, fun c hc => by rw [h1, h2, h3]; exact h.2 c hc⟩
theorem CVa.msg {f f' : FF} {g : GG} {n v m : Nat} {V : Va} (h : CVa f v V) (hv : VaOk n g v) (hm : kd KKl n m = some (1, 6)) (ho : Off f f' m) : CVa f' v V :=
  h.off (ho _ (kd_ne hv.1 hm (by decide))) (ho _ (kd_ne hv.2.1 hm (by decide))) (ho _ (kd_ne hv.2.2.1 hm (by decide))) (ho _ (kd_ne hv.2.2.2.1 hm (by decide)))
/-- an end: an answer, and the message -/
def MsQ (v0 : Option Value) (n : Nat) (f : FF) (g : GG) (m : Nat) (μ : Nat → Nat) : Option Value → Nat → FF → GG → Prop := fun v n' f' g' => v = v0 ∧ n' = n ∧ g' = g ∧ Off f f' m ∧ MsR f' m μ
def msK (V : Va) (t : Nat) (μ : Nat → Nat) : Nat → Nat :=
  if V.2.2.2 (μ 2) = μ 2 then mu (mu (mu μ 3 (kn (V.2.1 (μ 2)) (μ 3))) 1 2) 5 t else mu (mu μ 3 (kn (V.2.1 (μ 2)) (μ 3))) 2 (V.2.2.2 (μ 2))
def msC (V : Va) (t : Nat) (μ : Nat → Nat) : Nat → Nat :=
  if μ 4 = 0 then μ else if μ 4 = 1 then msK V t (mu μ 4 0) else mu μ 4 (μ 4 - 1)
def msB (V : Va) (t I : Nat) (μ : Nat → Nat) : Nat → Nat :=
  if μ 1 ≠ 1 then μ else msC V t (if μ 4 = 0 ∧ I.testBit (μ 2) = false then mu μ 4 (V.2.2.1 (μ 2)) else μ)
/-- a minute of a message -/
def msA (V : Va) (t I : Nat) (μ : Nat → Nat) : Nat → Nat := msB V t I (if μ 1 = 0 ∧ μ 0 = t then mu μ 1 1 else μ)
/-- a message is well -/
def MsW (V : Va) (t : Nat) (μ : Nat → Nat) : Prop := μ 0 < 2 ^ 30 ∧ μ 1 ≤ 2 ∧ μ 2 < V.1 ∧ RowOk (μ 3) ∧ μ 4 ≤ 20 ∧ μ 5 < 2 ^ 30 ∧ (μ 1 = 0 → t ≤ μ 0 ∧ μ 4 = 0) ∧ (μ 1 = 2 → μ 4 = 0 ∧ V.2.2.2 (μ 2) = μ 2) ∧ μ 4 ≤ V.2.2.1 (μ 2)
set_option maxHeartbeats 1000000 in
theorem sp_startAs {S : Scr} {d : Nat} {f : FF} {g : GG} {n m c t r : Nat} (hm : kd KKl n m = some (1, 6)) : Wp S d 31 0 [some (.ref m), some (.int (nI c)), some (.int (nI t)), some (.int (nI r))] [] n f g (MsQ none n f g m (fun k => if k = 0 then t else if k = 2 then c else if k = 3 then r else 0)) := by
  refine w_aload_n k31_0 rfl rfl ?_
  refine w_iload_n k31_1 rfl ?_
  refine w_puti k31_2 (k := 0) hm (by decide) ?_
  refine w_aload_n k31_5 rfl rfl ?_
  refine w_iconst k31_6 ?_
  refine w_puti k31_7 (k := 1) hm (by decide) ?_
  refine w_aload_n k31_10 rfl rfl ?_
  refine w_iload_n k31_11 rfl ?_
  refine w_puti k31_12 (k := 2) hm (by decide) ?_
  refine w_aload_n k31_15 rfl rfl ?_
  refine w_iload_n k31_16 rfl ?_
  refine w_puti k31_17 (k := 3) hm (by decide) ?_
  refine w_aload_n k31_20 rfl rfl ?_
  refine w_iconst k31_21 ?_
  refine w_puti k31_22 (k := 4) hm (by decide) ?_
  refine w_aload_n k31_25 rfl rfl ?_
  refine w_iconst k31_26 ?_
  refine w_puti k31_27 (k := 5) hm (by decide) ?_
  refine w_vret k31_30 mt31 rfl ?_
  refine ⟨rfl, rfl, rfl, ((((Off.up.tr Off.up).tr Off.up).tr Off.up).tr Off.up).tr Off.up, fun k hk => ?_⟩
  rcases (show k = 0 ∨ k = 1 ∨ k = 2 ∨ k = 3 ∨ k = 4 ∨ k = 5 by omega) with rfl | rfl | rfl | rfl | rfl | rfl <;> simp [fup] <;> rfl
set_option maxHeartbeats 1000000 in
theorem sp_Mcopy {S : Scr} {d : Nat} {f : FF} {g : GG} {n m q : Nat} {μ : Nat → Nat} (hm : kd KKl n m = some (1, 6)) (hq : kd KKl n q = some (1, 6)) (hne : q ≠ m) (hR : MsR f q μ) : Wp S d 45 0 [some (.ref m), some (.ref q)] [] n f g (MsQ none n f g m μ) := by
  refine w_aload_n k45_0 rfl rfl ?_
  refine w_aload_n k45_1 rfl rfl ?_
  refine w_geti k45_2 (k := 0) hq (by decide) ?_
  refine w_puti k45_5 (k := 0) hm (by decide) ?_
  refine w_aload_n k45_8 rfl rfl ?_
  refine w_aload_n k45_9 rfl rfl ?_
  refine w_geti k45_10 (k := 1) hq (by decide) ?_
  refine w_puti k45_13 (k := 1) hm (by decide) ?_
  refine w_aload_n k45_16 rfl rfl ?_
  refine w_aload_n k45_17 rfl rfl ?_
  refine w_geti k45_18 (k := 2) hq (by decide) ?_
  refine w_puti k45_21 (k := 2) hm (by decide) ?_
  refine w_aload_n k45_24 rfl rfl ?_
  refine w_aload_n k45_25 rfl rfl ?_
  refine w_geti k45_26 (k := 3) hq (by decide) ?_
  refine w_puti k45_29 (k := 3) hm (by decide) ?_
  refine w_aload_n k45_32 rfl rfl ?_
  refine w_aload_n k45_33 rfl rfl ?_
  refine w_geti k45_34 (k := 4) hq (by decide) ?_
  refine w_puti k45_37 (k := 4) hm (by decide) ?_
  refine w_aload_n k45_40 rfl rfl ?_
  refine w_aload_n k45_41 rfl rfl ?_
  refine w_geti k45_42 (k := 5) hq (by decide) ?_
  refine w_puti k45_45 (k := 5) hm (by decide) ?_
  refine w_vret k45_48 mt45 rfl ?_
  refine ⟨rfl, rfl, rfl, ((((Off.up.tr Off.up).tr Off.up).tr Off.up).tr Off.up).tr Off.up, fun k hk => ?_⟩
  have h := hR k hk
  rcases (show k = 0 ∨ k = 1 ∨ k = 2 ∨ k = 3 ∨ k = 4 ∨ k = 5 by omega) with rfl | rfl | rfl | rfl | rfl | rfl <;> simp [fup, hne] <;> exact h
set_option maxHeartbeats 1000000 in
theorem sp_isAt {S : Scr} {d : Nat} {f : FF} {g : GG} {n m c : Nat} {μ : Nat → Nat} (hm : kd KKl n m = some (1, 6)) (hR : MsR f m μ) (h1 : μ 1 < 2 ^ 31) (h2 : μ 2 < 2 ^ 31) (hc : c < 2 ^ 31) : Wp S d 75 0 [some (.ref m), some (.int (nI c))] [] n f g (Is (some (.int (bI (decide (μ 1 = 1 ∧ μ 2 = c))))) n f g) := by
  refine w_aload_n k75_0 rfl rfl ?_
  refine w_geti k75_1 (k := 1) hm (by decide) ?_
  rw [hR 1 (by omega)]
  refine w_iconst k75_4 ?_
  refine w_icmp_ne k75_5 (fun h5 => ?_) (fun h5 => ?_)
  ·
    have z1 : ¬ μ 1 = 1 := fun hh => h5 (by rw [hh]; rfl)
    refine w_iconst k75_20 ?_
    refine w_iret k75_21 mt75 (.boolean) rfl (rfl) ?_
    first
      | (rw [decide_eq_true ⟨z1, z2⟩]; exact ⟨rfl, rfl, rfl, rfl⟩)
      | (rw [decide_eq_false (fun hh => z2 hh.2)]; exact ⟨rfl, rfl, rfl, rfl⟩)
      | (rw [decide_eq_false (fun hh => z1 hh.1)]; exact ⟨rfl, rfl, rfl, rfl⟩)
  ·
    have z1 : μ 1 = 1 := (nI_eq (b := 1) h1 (by omega)).mp h5
    refine w_aload_n k75_8 rfl rfl ?_
    refine w_geti k75_9 (k := 2) hm (by decide) ?_
    rw [hR 2 (by omega)]
    refine w_iload_n k75_12 rfl ?_
    refine w_icmp_ne k75_13 (fun h13 => ?_) (fun h13 => ?_)
    ·
      have z2 : ¬ μ 2 = c := fun hh => h13 (by rw [hh])
      refine w_iconst k75_20 ?_
      refine w_iret k75_21 mt75 (.boolean) rfl (rfl) ?_
      first
        | (rw [decide_eq_true ⟨z1, z2⟩]; exact ⟨rfl, rfl, rfl, rfl⟩)
        | (rw [decide_eq_false (fun hh => z2 hh.2)]; exact ⟨rfl, rfl, rfl, rfl⟩)
        | (rw [decide_eq_false (fun hh => z1 hh.1)]; exact ⟨rfl, rfl, rfl, rfl⟩)
    ·
      have z2 : μ 2 = c := (nI_eq h2 hc).mp h13
      refine w_iconst k75_16 ?_
      refine w_goto k75_17 ?_
      refine w_iret k75_21 mt75 (.boolean) rfl (rfl) ?_
      first
        | (rw [decide_eq_true ⟨z1, z2⟩]; exact ⟨rfl, rfl, rfl, rfl⟩)
        | (rw [decide_eq_false (fun hh => z2 hh.2)]; exact ⟨rfl, rfl, rfl, rfl⟩)
        | (rw [decide_eq_false (fun hh => z1 hh.1)]; exact ⟨rfl, rfl, rfl, rfl⟩)
set_option maxHeartbeats 1000000 in
theorem sp_knitOn {S : Scr} {d : Nat} {f : FF} {g : GG} {n m v t : Nat} {V : Va} {μ : Nat → Nat} (hm : kd KKl n m = some (1, 6)) (hv : VaOk n g v) (hC : CVa f v V) (hV : VWf V) (hR : MsR f m μ) (h2 : μ 2 < V.1) (h3 : μ 3 < 65536) : Wp S (d + 3) 102 0 [some (.ref m), some (.ref v), some (.int (nI t))] [] n f g (MsQ none n f g m (msK V t μ)) := by
  refine w_aload_n k102_0 rfl rfl ?_
  refine w_aload_n k102_1 rfl rfl ?_
  refine w_aload_n k102_2 rfl rfl ?_
  refine w_geti k102_3 (k := 2) hm (by decide) ?_
  rw [hR 2 (by omega)]
  refine w_vI k102_6 mt41 hv.1 ⟨rfl, by decide⟩ [_] rfl rfl rfl (sp_kindOf hv hC hV.1 h2) ?_
  refine w_aload_n k102_9 rfl rfl ?_
  refine w_geti k102_10 (k := 3) hm (by decide) ?_
  rw [hR 3 (by omega)]
  refine w_sI k102_13 (by decide) mt92 [_, _] rfl rfl rfl (sp_knitted (hV.2 _ h2).1 h3) ?_
  refine w_puti k102_16 (k := 3) hm (by decide) ?_
  have R1 := hR.up 3 (kn (V.2.1 (μ 2)) (μ 3))
  have hC1 := hC.msg hv hm (Off.up (k := 3) (w := nI (kn (V.2.1 (μ 2)) (μ 3))))
  refine w_aload_n k102_19 rfl rfl ?_
  refine w_aload_n k102_20 rfl rfl ?_
  refine w_geti k102_21 (k := 2) hm (by decide) ?_
  rw [R1 2 (by omega), show mu μ 3 (kn (V.2.1 (μ 2)) (μ 3)) 2 = μ 2 from rfl]
  refine w_vI k102_24 mt101 hv.1 ⟨rfl, by decide⟩ [_] rfl rfl rfl (sp_isAtSea hv hC1 hV h2) ?_
  refine w_if_eq k102_27 (fun h27 => ?_) (fun h27 => ?_)
  ·
    have hz := of_decide_eq_false (bI_0.mp h27)
    refine w_aload_n k102_43 rfl rfl ?_
    refine w_aload_n k102_44 rfl rfl ?_
    refine w_aload_n k102_45 rfl rfl ?_
    refine w_geti k102_46 (k := 2) hm (by decide) ?_
    rw [R1 2 (by omega), show mu μ 3 (kn (V.2.1 (μ 2)) (μ 3)) 2 = μ 2 from rfl]
    refine w_vI k102_49 mt43 hv.1 ⟨rfl, by decide⟩ [_] rfl rfl rfl (sp_nextOf hv hC1 hV.1 h2) ?_
    refine w_puti k102_52 (k := 2) hm (by decide) ?_
    refine w_vret k102_55 mt102 rfl ?_
    first
      | exact ⟨rfl, rfl, rfl, (Off.up.tr Off.up).tr Off.up, by unfold msK; rw [if_pos hz]; exact (R1.up 1 2).up 5 t⟩
      | exact ⟨rfl, rfl, rfl, Off.up.tr Off.up, by unfold msK; rw [if_neg hz]; exact R1.up 2 _⟩
  ·
    have hz := of_decide_eq_true (bI_n0.mp h27)
    refine w_aload_n k102_30 rfl rfl ?_
    refine w_iconst k102_31 ?_
    refine w_puti k102_32 (k := 1) hm (by decide) ?_
    refine w_aload_n k102_35 rfl rfl ?_
    refine w_iload_n k102_36 rfl ?_
    refine w_puti k102_37 (k := 5) hm (by decide) ?_
    refine w_goto k102_40 ?_
    refine w_vret k102_55 mt102 rfl ?_
    first
      | exact ⟨rfl, rfl, rfl, (Off.up.tr Off.up).tr Off.up, by unfold msK; rw [if_pos hz]; exact (R1.up 1 2).up 5 t⟩
      | exact ⟨rfl, rfl, rfl, Off.up.tr Off.up, by unfold msK; rw [if_neg hz]; exact R1.up 2 _⟩
set_option maxHeartbeats 1000000 in
theorem lp_m59 {S : Scr} {d : Nat} {f : FF} {g : GG} {n m v t : Nat} {V : Va} {μ : Nat → Nat} (hm : kd KKl n m = some (1, 6)) (hv : VaOk n g v) (hC : CVa f v V) (hV : VWf V) (hR : MsR f m μ) (h2 : μ 2 < V.1) (h3 : μ 3 < 65536) (h4 : μ 4 ≤ 20) {I : Nat} : Wp S (d + 4) 103 59 [some (.ref m), some (.ref v), some (.int (nI t)), some (.int (nI I))] [] n f g (MsQ none n f g m (msC V t μ)) := by
  refine w_aload_n k103_59 rfl rfl ?_
  refine w_geti k103_60 (k := 4) hm (by decide) ?_
  rw [hR 4 (by omega)]
  refine w_if_ne k103_63 (fun h63 => ?_) (fun h63 => ?_)
  ·
    have z4 : ¬ μ 4 = 0 := fun hh => h63 (by rw [hh]; rfl)
    refine w_aload_n k103_67 rfl rfl ?_
    refine w_dup k103_68 rfl ?_
    refine w_geti k103_69 (k := 4) hm (by decide) ?_
    rw [hR 4 (by omega)]
    refine w_iconst k103_72 ?_
    refine w_isub k103_73 ?_
    refine w_top (nI (μ 4 - 1)) (pk_sub (b := 1) (by omega)) ?_
    refine w_puti k103_74 (k := 4) hm (by decide) ?_
    have R1 := hR.up 4 (μ 4 - 1)
    have hC1 := hC.msg hv hm (Off.up (k := 4) (w := nI (μ 4 - 1)))
    refine w_aload_n k103_77 rfl rfl ?_
    refine w_geti k103_78 (k := 4) hm (by decide) ?_
    rw [R1 4 (by omega), show mu μ 4 (μ 4 - 1) 4 = μ 4 - 1 from rfl]
    refine w_if_ne k103_81 (fun h81 => ?_) (fun h81 => ?_)
    ·
      have z5 : ¬ μ 4 = 1 := fun hh => h81 (by rw [hh]; rfl)
      refine w_vret k103_90 mt103 rfl ?_
      first
        | exact ⟨rfl, rfl, rfl, Off.rf, by unfold msC; rw [if_pos z4]; exact hR⟩
        | exact ⟨rfl, rfl, rfl, Off.up.tr hO, by unfold msC; rw [if_neg z4, if_pos z5]; rw [z5] at hR2; exact hR2⟩
        | exact ⟨rfl, rfl, rfl, Off.up, by unfold msC; rw [if_neg z4, if_neg z5]; exact R1⟩
    ·
      have z5 : μ 4 = 1 := by
        have := (nI_eq (b := 0) (by omega) (by omega)).mp h81
        omega
      refine w_aload_n k103_84 rfl rfl ?_
      refine w_aload_n k103_85 rfl rfl ?_
      refine w_iload_n k103_86 rfl ?_
      refine w_vA k103_87 mt102 hm ⟨rfl, by decide⟩ [_, _] rfl rfl rfl (sp_knitOn hm hv hC1 hV R1 h2 h3) ?_
      rintro _ _ f2 _ ⟨rfl, rfl, rfl, hO, hR2⟩
      refine w_vret k103_90 mt103 rfl ?_
      first
        | exact ⟨rfl, rfl, rfl, Off.rf, by unfold msC; rw [if_pos z4]; exact hR⟩
        | exact ⟨rfl, rfl, rfl, Off.up.tr hO, by unfold msC; rw [if_neg z4, if_pos z5]; rw [z5] at hR2; exact hR2⟩
        | exact ⟨rfl, rfl, rfl, Off.up, by unfold msC; rw [if_neg z4, if_neg z5]; exact R1⟩
  ·
    have z4 : μ 4 = 0 := (nI_eq (b := 0) (by omega) (by omega)).mp h63
    refine w_vret k103_66 mt103 rfl ?_
    first
      | exact ⟨rfl, rfl, rfl, Off.rf, by unfold msC; rw [if_pos z4]; exact hR⟩
      | exact ⟨rfl, rfl, rfl, Off.up.tr hO, by unfold msC; rw [if_neg z4, if_pos z5]; rw [z5] at hR2; exact hR2⟩
      | exact ⟨rfl, rfl, rfl, Off.up, by unfold msC; rw [if_neg z4, if_neg z5]; exact R1⟩
set_option maxHeartbeats 1000000 in
theorem lp_m20 {S : Scr} {d : Nat} {f : FF} {g : GG} {n m v t : Nat} {V : Va} {μ : Nat → Nat} (hm : kd KKl n m = some (1, 6)) (hv : VaOk n g v) (hC : CVa f v V) (hV : VWf V) (hR : MsR f m μ) (h1 : μ 1 ≤ 2) (h2 : μ 2 < V.1) (h3 : μ 3 < 65536) (h4 : μ 4 ≤ 20) {I : Nat} (hI : I < 2 ^ 31) : Wp S (d + 4) 103 20 [some (.ref m), some (.ref v), some (.int (nI t)), some (.int (nI I))] [] n f g (MsQ none n f g m (msB V t I μ)) := by
  refine w_aload_n k103_20 rfl rfl ?_
  have hp := hV.2 _ h2
  have h99 := hV.1
  refine w_geti k103_21 (k := 1) hm (by decide) ?_
  rw [hR 1 (by omega)]
  refine w_iconst k103_24 ?_
  refine w_icmp_eq k103_25 (fun h25 => ?_) (fun h25 => ?_)
  ·
    have z1 : μ 1 = 1 := (nI_eq (b := 1) (by omega) (by omega)).mp h25
    refine w_aload_n k103_29 rfl rfl ?_
    refine w_geti k103_30 (k := 4) hm (by decide) ?_
    rw [hR 4 (by omega)]
    refine w_if_ne k103_33 (fun h33 => ?_) (fun h33 => ?_)
    ·
      have z4 : ¬ μ 4 = 0 := fun hh => h33 (by rw [hh]; rfl)
      first
        | (have e : msB V t I μ = msC V t (mu μ 4 (V.2.2.1 (μ 2))) := by unfold msB; rw [if_neg (fun hh => hh z1), if_pos ⟨z4, z6⟩]
           rw [e]
           refine (lp_m59 hm hv (hC.msg hv hm Off.up) hV (hR.up 4 _) h2 h3 hp.2.2.1).mono ?_
           rintro _ _ f2 _ ⟨rfl, rfl, rfl, hO, hR2⟩
           exact ⟨rfl, rfl, rfl, Off.up.tr hO, hR2⟩)
        | (have e : msB V t I μ = msC V t μ := by
             unfold msB
             rw [if_neg (fun hh => hh z1), if_neg]
             first
               | exact fun hh => z4 hh.1
               | exact fun hh => absurd (z6.symm.trans hh.2) (by decide)
           rw [e]
           exact lp_m59 hm hv hC hV hR h2 h3 h4)
    ·
      have z4 : μ 4 = 0 := (nI_eq (b := 0) (by omega) (by omega)).mp h33
      refine w_iload_n k103_36 rfl ?_
      refine w_aload_n k103_37 rfl rfl ?_
      refine w_geti k103_38 (k := 2) hm (by decide) ?_
      rw [hR 2 (by omega)]
      refine w_sI k103_41 (by decide) mt34 [_, _] rfl rfl rfl (sp_isIn hI (by omega)) ?_
      refine w_if_ne k103_44 (fun h44 => ?_) (fun h44 => ?_)
      ·
        have z6 := bI_n0.mp h44
        first
          | (have e : msB V t I μ = msC V t (mu μ 4 (V.2.2.1 (μ 2))) := by unfold msB; rw [if_neg (fun hh => hh z1), if_pos ⟨z4, z6⟩]
             rw [e]
             refine (lp_m59 hm hv (hC.msg hv hm Off.up) hV (hR.up 4 _) h2 h3 hp.2.2.1).mono ?_
             rintro _ _ f2 _ ⟨rfl, rfl, rfl, hO, hR2⟩
             exact ⟨rfl, rfl, rfl, Off.up.tr hO, hR2⟩)
          | (have e : msB V t I μ = msC V t μ := by
               unfold msB
               rw [if_neg (fun hh => hh z1), if_neg]
               first
                 | exact fun hh => z4 hh.1
                 | exact fun hh => absurd (z6.symm.trans hh.2) (by decide)
             rw [e]
             exact lp_m59 hm hv hC hV hR h2 h3 h4)
      ·
        have z6 := bI_0.mp h44
        refine w_aload_n k103_47 rfl rfl ?_
        refine w_aload_n k103_48 rfl rfl ?_
        refine w_aload_n k103_49 rfl rfl ?_
        refine w_geti k103_50 (k := 2) hm (by decide) ?_
        rw [hR 2 (by omega)]
        refine w_vI k103_53 mt42 hv.1 ⟨rfl, by decide⟩ [_] rfl rfl rfl (sp_paceOf hv hC hV.1 h2) ?_
        refine w_puti k103_56 (k := 4) hm (by decide) ?_
        first
          | (have e : msB V t I μ = msC V t (mu μ 4 (V.2.2.1 (μ 2))) := by unfold msB; rw [if_neg (fun hh => hh z1), if_pos ⟨z4, z6⟩]
             rw [e]
             refine (lp_m59 hm hv (hC.msg hv hm Off.up) hV (hR.up 4 _) h2 h3 hp.2.2.1).mono ?_
             rintro _ _ f2 _ ⟨rfl, rfl, rfl, hO, hR2⟩
             exact ⟨rfl, rfl, rfl, Off.up.tr hO, hR2⟩)
          | (have e : msB V t I μ = msC V t μ := by
               unfold msB
               rw [if_neg (fun hh => hh z1), if_neg]
               first
                 | exact fun hh => z4 hh.1
                 | exact fun hh => absurd (z6.symm.trans hh.2) (by decide)
             rw [e]
             exact lp_m59 hm hv hC hV hR h2 h3 h4)
  ·
    have z1 : μ 1 ≠ 1 := fun hh => h25 (by rw [hh]; rfl)
    refine w_vret k103_28 mt103 rfl ?_
    exact ⟨rfl, rfl, rfl, Off.rf, by unfold msB; rw [if_pos z1]; exact hR⟩
set_option maxHeartbeats 1000000 in
theorem sp_Mminute {S : Scr} {d : Nat} {f : FF} {g : GG} {n m v t : Nat} {V : Va} {μ : Nat → Nat} (hm : kd KKl n m = some (1, 6)) (hv : VaOk n g v) (hC : CVa f v V) (hV : VWf V) (hR : MsR f m μ) (h0 : μ 0 < 2 ^ 31) (ht : t < 2 ^ 31) (h1 : μ 1 ≤ 2) (h2 : μ 2 < V.1) (h3 : μ 3 < 65536) (h4p : μ 4 ≤ 20) {I : Nat} (hI : I < 2 ^ 31) : Wp S (d + 4) 103 0 [some (.ref m), some (.ref v), some (.int (nI t)), some (.int (nI I))] [] n f g (MsQ none n f g m (msA V t I μ)) := by
  refine w_aload_n k103_0 rfl rfl ?_
  refine w_geti k103_1 (k := 1) hm (by decide) ?_
  rw [hR 1 (by omega)]
  refine w_if_ne k103_4 (fun h4 => ?_) (fun h4 => ?_)
  ·
    have z1 : ¬ μ 1 = 0 := fun hh => h4 (by rw [hh]; rfl)
    first
      | (have e : msA V t I μ = msB V t I (mu μ 1 1) := by unfold msA; rw [if_pos ⟨z1, z0⟩]
         rw [e]
         refine (lp_m20 hm hv (hC.msg hv hm Off.up) hV (hR.up 1 1) (by show (1 : Nat) ≤ 2; omega) h2 h3 h4p hI).mono ?_
         rintro _ _ f2 _ ⟨rfl, rfl, rfl, hO, hR2⟩
         exact ⟨rfl, rfl, rfl, Off.up.tr hO, hR2⟩)
      | (have e : msA V t I μ = msB V t I μ := by
           unfold msA
           rw [if_neg]
           first
             | exact fun hh => z1 hh.1
             | exact fun hh => z0 hh.2
         rw [e]
         exact lp_m20 hm hv hC hV hR h1 h2 h3 h4p hI)
  ·
    have z1 : μ 1 = 0 := (nI_eq (b := 0) (by omega) (by omega)).mp h4
    refine w_aload_n k103_7 rfl rfl ?_
    refine w_geti k103_8 (k := 0) hm (by decide) ?_
    rw [hR 0 (by omega)]
    refine w_iload_n k103_11 rfl ?_
    refine w_icmp_ne k103_12 (fun h12 => ?_) (fun h12 => ?_)
    ·
      have z0 : ¬ μ 0 = t := fun hh => h12 (by rw [hh])
      first
        | (have e : msA V t I μ = msB V t I (mu μ 1 1) := by unfold msA; rw [if_pos ⟨z1, z0⟩]
           rw [e]
           refine (lp_m20 hm hv (hC.msg hv hm Off.up) hV (hR.up 1 1) (by show (1 : Nat) ≤ 2; omega) h2 h3 h4p hI).mono ?_
           rintro _ _ f2 _ ⟨rfl, rfl, rfl, hO, hR2⟩
           exact ⟨rfl, rfl, rfl, Off.up.tr hO, hR2⟩)
        | (have e : msA V t I μ = msB V t I μ := by
             unfold msA
             rw [if_neg]
             first
               | exact fun hh => z1 hh.1
               | exact fun hh => z0 hh.2
           rw [e]
           exact lp_m20 hm hv hC hV hR h1 h2 h3 h4p hI)
    ·
      have z0 : μ 0 = t := (nI_eq h0 ht).mp h12
      refine w_aload_n k103_15 rfl rfl ?_
      refine w_iconst k103_16 ?_
      refine w_puti k103_17 (k := 1) hm (by decide) ?_
      first
        | (have e : msA V t I μ = msB V t I (mu μ 1 1) := by unfold msA; rw [if_pos ⟨z1, z0⟩]
           rw [e]
           refine (lp_m20 hm hv (hC.msg hv hm Off.up) hV (hR.up 1 1) (by show (1 : Nat) ≤ 2; omega) h2 h3 h4p hI).mono ?_
           rintro _ _ f2 _ ⟨rfl, rfl, rfl, hO, hR2⟩
           exact ⟨rfl, rfl, rfl, Off.up.tr hO, hR2⟩)
        | (have e : msA V t I μ = msB V t I μ := by
             unfold msA
             rw [if_neg]
             first
               | exact fun hh => z1 hh.1
               | exact fun hh => z0 hh.2
           rw [e]
           exact lp_m20 hm hv hC hV hR h1 h2 h3 h4p hI)
