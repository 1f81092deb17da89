/-! SPECS, 34: the model, what comes, whom it hangs on, what was seen -/
set_option maxHeartbeats 1000000 in
theorem ml_comesBy {S : Scr} {d : Nat} {f : FF} {g : GG} (G : GOm g) {V : Va} (hVa : MVa f V) (hV : VWf V) {x : Int32} {ok : Nat} {K : Nat → Nat} (hK : ∀ c, c < V.1 → K c = (if nI c = x then ok else V.2.1 c) ∧ K c ≤ 4) {q1 q2 q4 : Int32} (hq : q4 = nI ok) : ∀ (t c r : Nat), c < t → c < V.1 → RowOk r → Wp S (d + 2) 130 25 [some (.ref 137), some (.int q1), some (.int q2), some (.int x), some (.int q4), some (.int (nI (kn (K c) r))), some (.int (nI c))] [] 153 f g (Is (some (.int (nI (cmW V K t c r)))) 153 f g) := by
  have h99 := hV.1
  intro t
  induction t with
  | zero =>
    intro c r h
    exact absurd h (Nat.not_lt_zero c)
  | succ t ih =>
    intro c r h0 hc hr
    have hKc := hK c hc
    have ho := hV.on hc
    have hKo := hK _ ho
    have hle := (hV.2 c hc).2.2.2
    refine w_aload_n k130_25 rfl rfl ?_
    refine w_getr k130_26 (k := 15) kd137 (by decide) (r137_15 G) ?_
    refine w_iload k130_29 rfl ?_
    refine w_iald k130_31 kd147 (nI_pos (by omega)) (nI_clamp (by omega)) (by omega) ?_
    rw [(hVa.2 c hc).2.2]
    refine w_iload k130_32 rfl ?_
    refine w_icmp_eq k130_34 (fun h34 => ?_) (fun h34 => ?_)
    ·
      have zs : V.2.2.2 c = c := (nI_eq (by omega) (by omega)).mp h34
      refine w_iload k130_84 rfl ?_
      refine w_iret k130_86 mt130 (.int) rfl (rfl) ?_
      rw [show cmW V K (t + 1) c r = kn (K c) r from if_pos zs]
      exact ⟨rfl, rfl, rfl, rfl⟩
    ·
      have zs : ¬ V.2.2.2 c = c := fun hh => h34 (by rw [hh])
      refine w_aload_n k130_37 rfl rfl ?_
      refine w_getr k130_38 (k := 15) kd137 (by decide) (r137_15 G) ?_
      refine w_iload k130_41 rfl ?_
      refine w_iald k130_43 kd147 (nI_pos (by omega)) (nI_clamp (by omega)) (by omega) ?_
      rw [(hVa.2 c hc).2.2]
      refine w_iload_n k130_44 rfl ?_
      refine w_icmp_ne k130_45 (fun h45 => ?_) (fun h45 => ?_)
      ·
        refine w_aload_n k130_53 rfl rfl ?_
        refine w_getr k130_54 (k := 13) kd137 (by decide) (r137_13 G) ?_
        refine w_aload_n k130_57 rfl rfl ?_
        refine w_getr k130_58 (k := 15) kd137 (by decide) (r137_15 G) ?_
        refine w_iload k130_61 rfl ?_
        refine w_iald k130_63 kd147 (nI_pos (by omega)) (nI_clamp (by omega)) (by omega) ?_
        rw [(hVa.2 c hc).2.2]
        refine w_iald k130_64 kd145 (nI_pos (by omega)) (nI_clamp (by omega)) (by omega) ?_
        rw [(hVa.2 _ ho).1]
        refine w_top (nI (K (V.2.2.2 c))) (by rw [hKo.1, if_neg h45]) ?_
        refine w_iload k130_65 rfl ?_
        refine w_sI k130_67 (by decide) mt97 [_, _] rfl rfl rfl (mp_knitBy hKo.2 (kn_ok hr)) ?_
        refine w_istore k130_70 (ls' := [_, _, _, _, _, _, _]) rfl ?_
        refine w_aload_n k130_72 rfl rfl ?_
        refine w_getr k130_73 (k := 15) kd137 (by decide) (r137_15 G) ?_
        refine w_iload k130_76 rfl ?_
        refine w_iald k130_78 kd147 (nI_pos (by omega)) (nI_clamp (by omega)) (by omega) ?_
        rw [(hVa.2 c hc).2.2]
        refine w_istore k130_79 (ls' := [_, _, _, _, _, _, _]) rfl ?_
        refine w_goto k130_81 ?_
        rw [show cmW V K (t + 1) c r = cmW V K t (V.2.2.2 c) (kn (K c) r) from if_neg zs]
        exact ih _ _ (by omega) ho (kn_ok hr)
      ·
        refine w_iload k130_48 rfl ?_
        refine w_top (nI (K (V.2.2.2 c))) (by rw [hKo.1, if_pos h45, hq]) ?_
        refine w_goto k130_50 ?_
        refine w_iload k130_65 rfl ?_
        refine w_sI k130_67 (by decide) mt97 [_, _] rfl rfl rfl (mp_knitBy hKo.2 (kn_ok hr)) ?_
        refine w_istore k130_70 (ls' := [_, _, _, _, _, _, _]) rfl ?_
        refine w_aload_n k130_72 rfl rfl ?_
        refine w_getr k130_73 (k := 15) kd137 (by decide) (r137_15 G) ?_
        refine w_iload k130_76 rfl ?_
        refine w_iald k130_78 kd147 (nI_pos (by omega)) (nI_clamp (by omega)) (by omega) ?_
        rw [(hVa.2 c hc).2.2]
        refine w_istore k130_79 (ls' := [_, _, _, _, _, _, _]) rfl ?_
        refine w_goto k130_81 ?_
        rw [show cmW V K (t + 1) c r = cmW V K t (V.2.2.2 c) (kn (K c) r) from if_neg zs]
        exact ih _ _ (by omega) ho (kn_ok hr)
set_option maxHeartbeats 1000000 in
theorem mp_comesBy {S : Scr} {d : Nat} {f : FF} {g : GG} (G : GOm g) {V : Va} (hVa : MVa f V) (hV : VWf V) {x : Int32} {ok : Nat} {K : Nat → Nat} (hK : ∀ c, c < V.1 → K c = (if nI c = x then ok else V.2.1 c) ∧ K c ≤ 4) {c r : Nat} (hc : c < V.1) (hr : RowOk r) : Wp S (d + 2) 130 0 [some (.ref 137), some (.int (nI c)), some (.int (nI r)), some (.int x), some (.int (nI ok)), none, none] [] 153 f g (Is (some (.int (nI (cmW V K 9 c r)))) 153 f g) := by
  have h99 := hV.1
  refine w_iload_n k130_0 rfl ?_
  refine w_iload_n k130_1 rfl ?_
  refine w_icmp_ne k130_2 (fun h2 => ?_) (fun h2 => ?_)
  ·
    refine w_aload_n k130_10 rfl rfl ?_
    refine w_getr k130_11 (k := 13) kd137 (by decide) (r137_13 G) ?_
    refine w_iload_n k130_14 rfl ?_
    refine w_iald k130_15 kd145 (nI_pos (by omega)) (nI_clamp (by omega)) (by omega) ?_
    rw [(hVa.2 c hc).1]
    refine w_top (nI (K c)) (by rw [(hK c hc).1, if_neg h2]) ?_
    refine w_iload_n k130_16 rfl ?_
    refine w_sI k130_17 (by decide) mt97 [_, _] rfl rfl rfl (mp_knitBy (hK c hc).2 hr) ?_
    refine w_istore k130_20 (ls' := [_, _, _, _, _, _, _]) rfl ?_
    refine w_iload_n k130_22 rfl ?_
    refine w_istore k130_23 (ls' := [_, _, _, _, _, _, _]) rfl ?_
    exact ml_comesBy G hVa hV hK rfl 9 c r (by omega) hc hr
  ·
    refine w_iload k130_5 rfl ?_
    refine w_top (nI (K c)) (by rw [(hK c hc).1, if_pos h2]) ?_
    refine w_goto k130_7 ?_
    refine w_iload_n k130_16 rfl ?_
    refine w_sI k130_17 (by decide) mt97 [_, _] rfl rfl rfl (mp_knitBy (hK c hc).2 hr) ?_
    refine w_istore k130_20 (ls' := [_, _, _, _, _, _, _]) rfl ?_
    refine w_iload_n k130_22 rfl ?_
    refine w_istore k130_23 (ls' := [_, _, _, _, _, _, _]) rfl ?_
    exact ml_comesBy G hVa hV hK rfl 9 c r (by omega) hc hr
set_option maxHeartbeats 1000000 in
theorem mp_comesOf {S : Scr} {d : Nat} {f : FF} {g : GG} (G : GOm g) {V : Va} (hVa : MVa f V) (hV : VWf V) {c r : Nat} (hc : c < V.1) (hr : RowOk r) : Wp S (d + 3) 131 0 [some (.ref 137), some (.int (nI c)), some (.int (nI r))] [] 153 f g (Is (some (.int (nI (cmW V V.2.1 9 c r)))) 153 f g) := by
  refine w_aload_n k131_0 rfl rfl ?_
  refine w_iload_n k131_1 rfl ?_
  refine w_iload_n k131_2 rfl ?_
  refine w_iconst k131_3 ?_
  refine w_iconst k131_4 ?_
  refine w_vI k131_5 mt130 kd137 ⟨rfl, by decide⟩ [_, _, _, _] rfl rfl rfl (mp_comesBy (ok := 0) G hVa hV (k0_ok hV) hc hr) ?_
  refine w_iret k131_8 mt131 (.int) rfl (rfl) ?_
  exact ⟨rfl, rfl, rfl, rfl⟩
def mnW (V : Va) : Nat → Nat → Nat
  | 0, _ => 0
  | t + 1, c => if V.2.2.2 c = c then V.2.2.1 c else V.2.2.1 c + mnW V t (V.2.2.2 c)
theorem mnW_mi {V : Va} (hV : VWf V) : ∀ t c, c < t → c < V.1 → mnW V t c = miN V c := by
  intro t
  induction t with
  | zero => intro c h; omega
  | succ t ih =>
    intro c h hc
    have hle := (hV.2 c hc).2.2.2
    simp only [mnW]
    split
    · rename_i hs
      rw [mi_sea hc hs]
    · rename_i hs
      rw [mi_on hV hc hs, ih _ (by omega) (hV.on hc)]
set_option maxHeartbeats 1000000 in
theorem ml_comes {S : Scr} {d : Nat} {f : FF} {g : GG} {P : Option Value → Nat → FF → GG → Prop} (G : GOm g) {V : Va} (hVa : MVa f V) (hV : VWf V) {q1 q2 q3 : Int32} {T : Nat} (hk : ∀ q : Nat, Wp S (d + 4) 132 78 [some (.ref 137), some (.int q1), some (.int q2), some (.int q3), some (.int (nI T)), some (.int (nI q))] [] 153 f g P) : ∀ (t c a : Nat), c < t → c < V.1 → a + mnW V t c = T → Wp S (d + 4) 132 37 [some (.ref 137), some (.int q1), some (.int q2), some (.int q3), some (.int (nI (a + V.2.2.1 c))), some (.int (nI c))] [] 153 f g P := by
  have h99 := hV.1
  intro t
  induction t with
  | zero =>
    intro c a h
    exact absurd h (Nat.not_lt_zero c)
  | succ t ih =>
    intro c a h0 hc hT
    have ho := hV.on hc
    have hle := (hV.2 c hc).2.2.2
    simp only [mnW] at hT
    refine w_aload_n k132_37 rfl rfl ?_
    refine w_getr k132_38 (k := 15) kd137 (by decide) (r137_15 G) ?_
    refine w_iload k132_41 rfl ?_
    refine w_iald k132_43 kd147 (nI_pos (by omega)) (nI_clamp (by omega)) (by omega) ?_
    rw [(hVa.2 c hc).2.2]
    refine w_iload k132_44 rfl ?_
    refine w_icmp_eq k132_46 (fun h46 => ?_) (fun h46 => ?_)
    ·
      have zs : V.2.2.2 c = c := (nI_eq (by omega) (by omega)).mp h46
      rw [if_pos zs] at hT
      rw [hT]
      exact hk c
    ·
      have zs : ¬ V.2.2.2 c = c := fun hh => h46 (by rw [hh])
      rw [if_neg zs] at hT
      refine w_iload k132_49 rfl ?_
      refine w_aload_n k132_51 rfl rfl ?_
      refine w_getr k132_52 (k := 14) kd137 (by decide) (r137_14 G) ?_
      refine w_aload_n k132_55 rfl rfl ?_
      refine w_getr k132_56 (k := 15) kd137 (by decide) (r137_15 G) ?_
      refine w_iload k132_59 rfl ?_
      refine w_iald k132_61 kd147 (nI_pos (by omega)) (nI_clamp (by omega)) (by omega) ?_
      rw [(hVa.2 c hc).2.2]
      refine w_iald k132_62 kd146 (nI_pos (by omega)) (nI_clamp (by omega)) (by omega) ?_
      rw [(hVa.2 _ ho).2.1]
      refine w_iadd k132_63 ?_
      refine w_top (nI (a + V.2.2.1 c + V.2.2.1 (V.2.2.2 c))) (nI_add _ _) ?_
      refine w_istore k132_64 (ls' := [_, _, _, _, _, _]) rfl ?_
      refine w_aload_n k132_66 rfl rfl ?_
      refine w_getr k132_67 (k := 15) kd137 (by decide) (r137_15 G) ?_
      refine w_iload k132_70 rfl ?_
      refine w_iald k132_72 kd147 (nI_pos (by omega)) (nI_clamp (by omega)) (by omega) ?_
      rw [(hVa.2 c hc).2.2]
      refine w_istore k132_73 (ls' := [_, _, _, _, _, _]) rfl ?_
      refine w_goto k132_75 ?_
      exact ih _ (a + V.2.2.1 c) (by omega) ho (by omega)
set_option maxHeartbeats 1000000 in
theorem mp_comes {S : Scr} {d : Nat} {f : FF} {g : GG} {B : Nat} {tx : Nat → Nat} {tl : Nat} {V : Va} {M : Nat → Nat → Nat} {uN : Nat} {uL : Nat → Nat → Nat → Nat} {kN : Nat} {kL : Nat → Nat → Nat → Nat} {sn : Nat} {se : Nat → Nat → Nat} (G : GOm g) (hR : MRl f g tx tl V M uN uL kN kL sn se) (hW : StW B tx tl V M uN uL kN kL sn se) (h1 : 1 ≤ V.1) {c r w : Nat} (hc : c < V.1) (hr : RowOk r) (hr0 : isRowI (nI r) = true) (hw : w < 2) : Wp S (d + 4) 132 0 [some (.ref 137), some (.int (nI c)), some (.int (nI r)), some (.int (nI w)), none, none] [] 153 f g (MdQ f g (if w = 0 then nI (cmW V V.2.1 9 c r) else nI (mtS V (wyW V 9 c 0) V.1 0 0)) tx tl V M uN uL kN kL sn se) := by
  obtain ⟨g0, hL, hVa, hA, hU, hK, hS⟩ := id hR
  have h200 := hL.2.1
  have hV := hW.2.1
  have hM := hW.2.2.1.1
  have h9 := hV.1
  have hm6 := hM.1
  have hmt := hM.2.1
  have hmi := hM.2.2.1
  refine w_aload_n k132_0 rfl rfl ?_
  refine w_iload_n k132_1 rfl ?_
  refine w_vI k132_2 mt78 kd137 ⟨rfl, by decide⟩ [_] rfl rfl rfl (mp_isChair G hVa h9 h1 _) ?_
  rw [has_dec (by omega) (by omega)]
  refine w_if_eq k132_5 (fun h5 => absurd h5 (bI_n0.mpr (decide_eq_true hc))) (fun h5 => ?_)
  refine w_iload_n k132_8 rfl ?_
  refine w_sI k132_9 (by decide) mt94 [_] rfl rfl rfl (mp_isRow _) ?_
  refine w_if_eq k132_12 (fun h12 => absurd h12 (bI_n0.mpr hr0)) (fun h12 => ?_)
  refine w_iload_n k132_15 rfl ?_
  refine w_iconst k132_16 ?_
  refine w_iconst k132_17 ?_
  refine w_sI k132_18 (by decide) mt59 [_, _, _] rfl rfl rfl (mp_in _ _ _) ?_
  refine w_if_ne k132_21 (fun h21 => ?_) (fun h21 => absurd h21 (bI_n0.mpr (decide_eq_true ⟨(nI_leI (a := 0) (by omega) (by omega)).mpr (by omega), (nI_leI (b := 1) (by omega) (by omega)).mpr (by omega)⟩)))
  refine w_aload_n k132_26 rfl rfl ?_
  refine w_getr k132_27 (k := 14) kd137 (by decide) (r137_14 G) ?_
  refine w_iload_n k132_30 rfl ?_
  refine w_iald k132_31 kd146 (nI_pos (by omega)) (nI_clamp (by omega)) (by omega) ?_
  rw [(hVa.2 c hc).2.1]
  refine w_istore k132_32 (ls' := [_, _, _, _, _, _]) rfl ?_
  refine w_iload_n k132_34 rfl ?_
  refine w_istore k132_35 (ls' := [_, _, _, _, _, _]) rfl ?_
  have e0 : nI (V.2.2.1 c) = nI (0 + V.2.2.1 c) := by rw [Nat.zero_add]
  rw [e0]
  refine ml_comes (T := miN V c) G hVa hV (fun q => ?_) 9 c 0 (by omega) hc (by rw [Nat.zero_add]; exact mnW_mi hV 9 c (by omega) hc)
  refine w_iload_n k132_78 rfl ?_
  refine w_if_ne k132_79 (fun h79 => ?_) (fun h79 => ?_)
  ·
    have y3 : ¬ w = 0 := fun hh => h79 (by rw [hh]; rfl)
    rw [if_neg y3]
    refine w_iload k132_91 rfl ?_
    refine w_iret k132_93 mt132 (.int) rfl (rfl) ?_
    exact MdQ.same hR
  ·
    have y3 : w = 0 := (nI_eq (b := 0) (by omega) (by omega)).mp h79
    rw [if_pos y3]
    refine w_aload_n k132_82 rfl rfl ?_
    refine w_iload_n k132_83 rfl ?_
    refine w_iload_n k132_84 rfl ?_
    refine w_vI k132_85 mt131 kd137 ⟨rfl, by decide⟩ [_, _] rfl rfl rfl (mp_comesOf G hVa hV hc hr) ?_
    refine w_goto k132_88 ?_
    refine w_iret k132_93 mt132 (.int) rfl (rfl) ?_
    exact MdQ.same hR
set_option maxHeartbeats 1000000 in
theorem mp_comes0 {S : Scr} {d : Nat} {f : FF} {g : GG} {B : Nat} {tx : Nat → Nat} {tl : Nat} {V : Va} {M : Nat → Nat → Nat} {uN : Nat} {uL : Nat → Nat → Nat → Nat} {kN : Nat} {kL : Nat → Nat → Nat → Nat} {sn : Nat} {se : Nat → Nat → Nat} (G : GOm g) (hR : MRl f g tx tl V M uN uL kN kL sn se) (hW : StW B tx tl V M uN uL kN kL sn se) (h1 : 1 ≤ V.1) {x y z : Int32} (hb : ¬ ((0 ≤ x ∧ x < nI V.1) ∧ isRowI y = true ∧ 0 ≤ z ∧ z ≤ 1)) : Wp S (d + 4) 132 0 [some (.ref 137), some (.int x), some (.int y), some (.int z), none, none] [] 153 f g (MdQ f g (-1) tx tl V M uN uL kN kL sn se) := by
  obtain ⟨g0, hL, hVa, hA, hU, hK, hS⟩ := id hR
  have h200 := hL.2.1
  have hV := hW.2.1
  have hM := hW.2.2.1.1
  have h9 := hV.1
  have hm6 := hM.1
  have hmt := hM.2.1
  have hmi := hM.2.2.1
  refine w_aload_n k132_0 rfl rfl ?_
  refine w_iload_n k132_1 rfl ?_
  refine w_vI k132_2 mt78 kd137 ⟨rfl, by decide⟩ [_] rfl rfl rfl (mp_isChair G hVa h9 h1 _) ?_
  refine w_if_eq k132_5 (fun h5 => ?_) (fun h5 => ?_)
  ·
    refine w_iconst k132_24 ?_
    refine w_iret k132_25 mt132 (.int) rfl (rfl) ?_
    exact MdQ.same hR
  ·
    have x5 := of_decide_eq_true (bI_n0.mp h5)
    refine w_iload_n k132_8 rfl ?_
    refine w_sI k132_9 (by decide) mt94 [_] rfl rfl rfl (mp_isRow _) ?_
    refine w_if_eq k132_12 (fun h12 => ?_) (fun h12 => ?_)
    ·
      refine w_iconst k132_24 ?_
      refine w_iret k132_25 mt132 (.int) rfl (rfl) ?_
      exact MdQ.same hR
    ·
      have x12 := bI_n0.mp h12
      refine w_iload_n k132_15 rfl ?_
      refine w_iconst k132_16 ?_
      refine w_iconst k132_17 ?_
      refine w_sI k132_18 (by decide) mt59 [_, _, _] rfl rfl rfl (mp_in _ _ _) ?_
      refine w_if_ne k132_21 (fun h21 => absurd (bI_0.mpr (decide_eq_false fun hh => hb ⟨x5, x12, hh⟩)) h21) (fun h21 => ?_)
      refine w_iconst k132_24 ?_
      refine w_iret k132_25 mt132 (.int) rfl (rfl) ?_
      exact MdQ.same hR
set_option maxHeartbeats 1000000 in
theorem ml_code {S : Scr} {d : Nat} {f : FF} {g : GG} {B : Nat} {tx : Nat → Nat} {tl : Nat} {V : Va} {M : Nat → Nat → Nat} {uN : Nat} {uL : Nat → Nat → Nat → Nat} {kN : Nat} {kL : Nat → Nat → Nat → Nat} {sn : Nat} {se : Nat → Nat → Nat} (G : GOm g) (hR : MRl f g tx tl V M uN uL kN kL sn se) (hW : StW B tx tl V M uN uL kN kL sn se) (h1 : 1 ≤ V.1) {c y : Nat} (hc : c < V.1) (hy : y < 2 ^ 31) : ∀ (t : Nat) (s : Nat), (t + s = 256) → Wp S (d + 4) 140 23 [some (.ref 137), some (.int (nI c)), some (.int (nI y)), some (.int (nI s))] [] 153 f g (MdQ f g (cdW V c y t s) tx tl V M uN uL kN kL sn se) := by
  obtain ⟨g0, hL, hVa, hA, hU, hK, hS⟩ := id hR
  have h200 := hL.2.1
  have hV := hW.2.1
  have hM := hW.2.2.1.1
  have h9 := hV.1
  have hm6 := hM.1
  have hmt := hM.2.1
  have hmi := hM.2.2.1
  intro t
  induction t with
  | zero =>
    intro s e0
    refine w_iload_n k140_23 rfl ?_
    refine w_sipush k140_24 ?_
    refine w_icmp_ge k140_27 (fun h27 => ?_) (fun h27 => absurd (nI_le (a := 256) (by omega) (by omega)) h27)
    refine w_bipush k140_55 ?_
    refine w_iret k140_57 mt140 (.int) rfl (rfl) ?_
    exact MdQ.same hR
  | succ t ih =>
    intro s e0
    refine w_iload_n k140_23 rfl ?_
    refine w_sipush k140_24 ?_
    refine w_icmp_ge k140_27 (fun h27 => absurd h27 (nI_ge (b := 256) (by omega) (by omega))) (fun h27 => ?_)
    refine w_iload_n k140_30 rfl ?_
    refine w_sI k140_31 (by decide) mt94 [_] rfl rfl rfl (mp_isRow _) ?_
    refine w_if_eq k140_34 (fun h34 => ?_) (fun h34 => ?_)
    ·
      have y1 := bI_0.mp h34
      refine w_iinc k140_49 rfl (ls' := [_, _, _, _]) rfl ?_
      refine w_goto k140_52 ?_
      rw [nI_1, show cdW V c y (t + 1) s = cdW V c y t (s + 1) from if_neg (by
        rintro ⟨a1, a2⟩
        first
          | exact y2 a2
          | (rw [a1] at y1; cases y1))]
      exact ih (s + 1) (by omega)
    ·
      have y1 := bI_n0.mp h34
      have y1b := (rowI_ok (by omega) y1).1
      refine w_aload_n k140_37 rfl rfl ?_
      refine w_iload_n k140_38 rfl ?_
      refine w_iload_n k140_39 rfl ?_
      refine w_vI k140_40 mt131 kd137 ⟨rfl, by decide⟩ [_, _] rfl rfl rfl (mp_comesOf G hVa hV hc y1b) ?_
      refine w_iload_n k140_43 rfl ?_
      have hlt := cmW_lt (V := V) (K := V.2.1) 9 c s (by omega)
      refine w_icmp_ne k140_44 (fun h44 => ?_) (fun h44 => ?_)
      ·
        have y2 : ¬ cmW V V.2.1 9 c s = y := fun hh => h44 (by rw [hh])
        refine w_iinc k140_49 rfl (ls' := [_, _, _, _]) rfl ?_
        refine w_goto k140_52 ?_
        rw [nI_1, show cdW V c y (t + 1) s = cdW V c y t (s + 1) from if_neg (by
          rintro ⟨a1, a2⟩
          first
            | exact y2 a2
            | (rw [a1] at y1; cases y1))]
        exact ih (s + 1) (by omega)
      ·
        have y2 : cmW V V.2.1 9 c s = y := (nI_eq (by omega) (by omega)).mp h44
        refine w_iload_n k140_47 rfl ?_
        refine w_iret k140_48 mt140 (.int) rfl (rfl) ?_
        rw [show cdW V c y (t + 1) s = nI s from if_pos ⟨y1, y2⟩]
        exact MdQ.same hR
set_option maxHeartbeats 1000000 in
theorem mp_code {S : Scr} {d : Nat} {f : FF} {g : GG} {B : Nat} {tx : Nat → Nat} {tl : Nat} {V : Va} {M : Nat → Nat → Nat} {uN : Nat} {uL : Nat → Nat → Nat → Nat} {kN : Nat} {kL : Nat → Nat → Nat → Nat} {sn : Nat} {se : Nat → Nat → Nat} (G : GOm g) (hR : MRl f g tx tl V M uN uL kN kL sn se) (hW : StW B tx tl V M uN uL kN kL sn se) (h1 : 1 ≤ V.1) {c y : Nat} (hc : c < V.1) (hy : y < 2 ^ 31) (hy0 : isRow0 (nI y) = true) : Wp S (d + 4) 140 0 [some (.ref 137), some (.int (nI c)), some (.int (nI y)), none] [] 153 f g (MdQ f g (cdW V c y 255 1) tx tl V M uN uL kN kL sn se) := by
  obtain ⟨g0, hL, hVa, hA, hU, hK, hS⟩ := id hR
  have h200 := hL.2.1
  have hV := hW.2.1
  have hM := hW.2.2.1.1
  have h9 := hV.1
  have hm6 := hM.1
  have hmt := hM.2.1
  have hmi := hM.2.2.1
  refine w_aload_n k140_0 rfl rfl ?_
  refine w_iload_n k140_1 rfl ?_
  refine w_vI k140_2 mt78 kd137 ⟨rfl, by decide⟩ [_] rfl rfl rfl (mp_isChair G hVa h9 h1 _) ?_
  rw [has_dec (by omega) (by omega)]
  refine w_if_eq k140_5 (fun h5 => absurd h5 (bI_n0.mpr (decide_eq_true hc))) (fun h5 => ?_)
  refine w_iload_n k140_8 rfl ?_
  refine w_if_eq k140_9 (fun h9 => ?_) (fun h9 => ?_)
  ·
    refine w_iconst k140_21 ?_
    refine w_istore_n k140_22 (ls' := [_, _, _, _]) rfl ?_
    exact ml_code G hR hW h1 hc hy 255 1 rfl
  ·
    have h9b := h9
    refine w_iload_n k140_12 rfl ?_
    refine w_sI k140_13 (by decide) mt94 [_] rfl rfl rfl (mp_isRow _) ?_
    refine w_if_ne k140_16 (fun h16 => ?_) (fun h16 => absurd h16 (bI_n0.mpr ((row0_or hy0).resolve_left h9b)))
    refine w_iconst k140_21 ?_
    refine w_istore_n k140_22 (ls' := [_, _, _, _]) rfl ?_
    exact ml_code G hR hW h1 hc hy 255 1 rfl
set_option maxHeartbeats 1000000 in
theorem mp_code0 {S : Scr} {d : Nat} {f : FF} {g : GG} {B : Nat} {tx : Nat → Nat} {tl : Nat} {V : Va} {M : Nat → Nat → Nat} {uN : Nat} {uL : Nat → Nat → Nat → Nat} {kN : Nat} {kL : Nat → Nat → Nat → Nat} {sn : Nat} {se : Nat → Nat → Nat} (G : GOm g) (hR : MRl f g tx tl V M uN uL kN kL sn se) (hW : StW B tx tl V M uN uL kN kL sn se) (h1 : 1 ≤ V.1) {x y : Int32} (hb : ¬ ((0 ≤ x ∧ x < nI V.1) ∧ isRow0 y = true)) : Wp S (d + 4) 140 0 [some (.ref 137), some (.int x), some (.int y), none] [] 153 f g (MdQ f g (-1) tx tl V M uN uL kN kL sn se) := by
  obtain ⟨g0, hL, hVa, hA, hU, hK, hS⟩ := id hR
  have h200 := hL.2.1
  have hV := hW.2.1
  have hM := hW.2.2.1.1
  have h9 := hV.1
  have hm6 := hM.1
  have hmt := hM.2.1
  have hmi := hM.2.2.1
  refine w_aload_n k140_0 rfl rfl ?_
  refine w_iload_n k140_1 rfl ?_
  refine w_vI k140_2 mt78 kd137 ⟨rfl, by decide⟩ [_] rfl rfl rfl (mp_isChair G hVa h9 h1 _) ?_
  refine w_if_eq k140_5 (fun h5 => ?_) (fun h5 => ?_)
  ·
    refine w_iconst k140_19 ?_
    refine w_iret k140_20 mt140 (.int) rfl (rfl) ?_
    exact MdQ.same hR
  ·
    have x5 := of_decide_eq_true (bI_n0.mp h5)
    refine w_iload_n k140_8 rfl ?_
    refine w_if_eq k140_9 (fun h9 => absurd h9 (fun hh => hb ⟨x5, by rw [hh]; rfl⟩)) (fun h9 => ?_)
    refine w_iload_n k140_12 rfl ?_
    refine w_sI k140_13 (by decide) mt94 [_] rfl rfl rfl (mp_isRow _) ?_
    refine w_if_ne k140_16 (fun h16 => absurd (bI_0.mpr (Bool.eq_false_iff.mpr fun hh => hb ⟨x5, row0_r hh⟩)) h16) (fun h16 => ?_)
    refine w_iconst k140_19 ?_
    refine w_iret k140_20 mt140 (.int) rfl (rfl) ?_
    exact MdQ.same hR
set_option maxHeartbeats 1000000 in
theorem ml_could {S : Scr} {d : Nat} {f : FF} {g : GG} {B : Nat} {tx : Nat → Nat} {tl : Nat} {V : Va} {M : Nat → Nat → Nat} {uN : Nat} {uL : Nat → Nat → Nat → Nat} {kN : Nat} {kL : Nat → Nat → Nat → Nat} {sn : Nat} {se : Nat → Nat → Nat} (G : GOm g) (hR : MRl f g tx tl V M uN uL kN kL sn se) (hW : StW B tx tl V M uN uL kN kL sn se) (h1 : 1 ≤ V.1) {c y : Nat} (hc : c < V.1) (hy : y < 2 ^ 31) : ∀ (t : Nat) (s a : Nat), (t + s = 1024) → Wp S (d + 4) 142 26 [some (.ref 137), some (.int (nI c)), some (.int (nI y)), some (.int (nI a)), some (.int (nI s))] [] 153 f g (MdQ f g (nI (cuW V c y t s a)) tx tl V M uN uL kN kL sn se) := by
  obtain ⟨g0, hL, hVa, hA, hU, hK, hS⟩ := id hR
  have h200 := hL.2.1
  have hV := hW.2.1
  have hM := hW.2.2.1.1
  have h9 := hV.1
  have hm6 := hM.1
  have hmt := hM.2.1
  have hmi := hM.2.2.1
  intro t
  induction t with
  | zero =>
    intro s a e0
    refine w_iload k142_26 rfl ?_
    refine w_sipush k142_28 ?_
    refine w_icmp_ge k142_31 (fun h31 => ?_) (fun h31 => absurd (nI_le (a := 1024) (by omega) (by omega)) h31)
    refine w_iload_n k142_67 rfl ?_
    refine w_iret k142_68 mt142 (.int) rfl (rfl) ?_
    exact MdQ.same hR
  | succ t ih =>
    intro s a e0
    refine w_iload k142_26 rfl ?_
    refine w_sipush k142_28 ?_
    refine w_icmp_ge k142_31 (fun h31 => absurd h31 (nI_ge (b := 1024) (by omega) (by omega))) (fun h31 => ?_)
    refine w_iload_n k142_34 rfl ?_
    refine w_iload k142_35 rfl ?_
    refine w_sI k142_37 (by decide) mt94 [_] rfl rfl rfl (mp_isRow _) ?_
    refine w_if_eq k142_40 (fun h40 => ?_) (fun h40 => ?_)
    ·
      have y1 := bI_0.mp h40
      refine w_iconst k142_58 ?_
      refine w_iadd k142_59 ?_
      refine w_istore_n k142_60 (ls' := [_, _, _, _, _]) rfl ?_
      refine w_iinc k142_61 rfl (ls' := [_, _, _, _, _]) rfl ?_
      refine w_goto k142_64 ?_
      rw [nI_1 s]
      first
        | (rw [nI_1 a, cuW_y ⟨y1, y2⟩]; exact ih (s + 1) (a + 1) (by omega))
        | (rw [show nI a + 0 = nI a from nI_add a 0, cuW_n (fun hh => y2 hh.2)]; exact ih (s + 1) a (by omega))
        | (rw [show nI a + 0 = nI a from nI_add a 0, cuW_n (fun hh => by rw [hh.1] at y1; cases y1)]; exact ih (s + 1) a (by omega))
    ·
      have y1 := bI_n0.mp h40
      have y1b := (rowI_ok (by omega) y1).1
      refine w_aload_n k142_43 rfl rfl ?_
      refine w_iload_n k142_44 rfl ?_
      refine w_iload k142_45 rfl ?_
      refine w_vI k142_47 mt131 kd137 ⟨rfl, by decide⟩ [_, _] rfl rfl rfl (mp_comesOf G hVa hV hc y1b) ?_
      refine w_iload_n k142_50 rfl ?_
      have hlt := cmW_lt (V := V) (K := V.2.1) 9 c s (by omega)
      refine w_icmp_ne k142_51 (fun h51 => ?_) (fun h51 => ?_)
      ·
        have y2 : ¬ cmW V V.2.1 9 c s = y := fun hh => h51 (by rw [hh])
        refine w_iconst k142_58 ?_
        refine w_iadd k142_59 ?_
        refine w_istore_n k142_60 (ls' := [_, _, _, _, _]) rfl ?_
        refine w_iinc k142_61 rfl (ls' := [_, _, _, _, _]) rfl ?_
        refine w_goto k142_64 ?_
        rw [nI_1 s]
        first
          | (rw [nI_1 a, cuW_y ⟨y1, y2⟩]; exact ih (s + 1) (a + 1) (by omega))
          | (rw [show nI a + 0 = nI a from nI_add a 0, cuW_n (fun hh => y2 hh.2)]; exact ih (s + 1) a (by omega))
          | (rw [show nI a + 0 = nI a from nI_add a 0, cuW_n (fun hh => by rw [hh.1] at y1; cases y1)]; exact ih (s + 1) a (by omega))
      ·
        have y2 : cmW V V.2.1 9 c s = y := (nI_eq (by omega) (by omega)).mp h51
        refine w_iconst k142_54 ?_
        refine w_goto k142_55 ?_
        refine w_iadd k142_59 ?_
        refine w_istore_n k142_60 (ls' := [_, _, _, _, _]) rfl ?_
        refine w_iinc k142_61 rfl (ls' := [_, _, _, _, _]) rfl ?_
        refine w_goto k142_64 ?_
        rw [nI_1 s]
        first
          | (rw [nI_1 a, cuW_y ⟨y1, y2⟩]; exact ih (s + 1) (a + 1) (by omega))
          | (rw [show nI a + 0 = nI a from nI_add a 0, cuW_n (fun hh => y2 hh.2)]; exact ih (s + 1) a (by omega))
          | (rw [show nI a + 0 = nI a from nI_add a 0, cuW_n (fun hh => by rw [hh.1] at y1; cases y1)]; exact ih (s + 1) a (by omega))
set_option maxHeartbeats 1000000 in
theorem mp_could {S : Scr} {d : Nat} {f : FF} {g : GG} {B : Nat} {tx : Nat → Nat} {tl : Nat} {V : Va} {M : Nat → Nat → Nat} {uN : Nat} {uL : Nat → Nat → Nat → Nat} {kN : Nat} {kL : Nat → Nat → Nat → Nat} {sn : Nat} {se : Nat → Nat → Nat} (G : GOm g) (hR : MRl f g tx tl V M uN uL kN kL sn se) (hW : StW B tx tl V M uN uL kN kL sn se) (h1 : 1 ≤ V.1) {c y : Nat} (hc : c < V.1) (hy : y < 2 ^ 31) (hy0 : isRow0 (nI y) = true) : Wp S (d + 4) 142 0 [some (.ref 137), some (.int (nI c)), some (.int (nI y)), none, none] [] 153 f g (MdQ f g (nI (cuW V c y 1023 1 0)) tx tl V M uN uL kN kL sn se) := by
  obtain ⟨g0, hL, hVa, hA, hU, hK, hS⟩ := id hR
  have h200 := hL.2.1
  have hV := hW.2.1
  have hM := hW.2.2.1.1
  have h9 := hV.1
  have hm6 := hM.1
  have hmt := hM.2.1
  have hmi := hM.2.2.1
  refine w_aload_n k142_0 rfl rfl ?_
  refine w_iload_n k142_1 rfl ?_
  refine w_vI k142_2 mt78 kd137 ⟨rfl, by decide⟩ [_] rfl rfl rfl (mp_isChair G hVa h9 h1 _) ?_
  rw [has_dec (by omega) (by omega)]
  refine w_if_eq k142_5 (fun h5 => absurd h5 (bI_n0.mpr (decide_eq_true hc))) (fun h5 => ?_)
  refine w_iload_n k142_8 rfl ?_
  refine w_if_eq k142_9 (fun h9 => ?_) (fun h9 => ?_)
  ·
    refine w_iconst k142_21 ?_
    refine w_istore_n k142_22 (ls' := [_, _, _, _, _]) rfl ?_
    refine w_iconst k142_23 ?_
    refine w_istore k142_24 (ls' := [_, _, _, _, _]) rfl ?_
    exact ml_could G hR hW h1 hc hy 1023 1 0 rfl
  ·
    have h9b := h9
    refine w_iload_n k142_12 rfl ?_
    refine w_sI k142_13 (by decide) mt94 [_] rfl rfl rfl (mp_isRow _) ?_
    refine w_if_ne k142_16 (fun h16 => ?_) (fun h16 => absurd h16 (bI_n0.mpr ((row0_or hy0).resolve_left h9b)))
    refine w_iconst k142_21 ?_
    refine w_istore_n k142_22 (ls' := [_, _, _, _, _]) rfl ?_
    refine w_iconst k142_23 ?_
    refine w_istore k142_24 (ls' := [_, _, _, _, _]) rfl ?_
    exact ml_could G hR hW h1 hc hy 1023 1 0 rfl
set_option maxHeartbeats 1000000 in
theorem mp_could0 {S : Scr} {d : Nat} {f : FF} {g : GG} {B : Nat} {tx : Nat → Nat} {tl : Nat} {V : Va} {M : Nat → Nat → Nat} {uN : Nat} {uL : Nat → Nat → Nat → Nat} {kN : Nat} {kL : Nat → Nat → Nat → Nat} {sn : Nat} {se : Nat → Nat → Nat} (G : GOm g) (hR : MRl f g tx tl V M uN uL kN kL sn se) (hW : StW B tx tl V M uN uL kN kL sn se) (h1 : 1 ≤ V.1) {x y : Int32} (hb : ¬ ((0 ≤ x ∧ x < nI V.1) ∧ isRow0 y = true)) : Wp S (d + 4) 142 0 [some (.ref 137), some (.int x), some (.int y), none, none] [] 153 f g (MdQ f g (-1) tx tl V M uN uL kN kL sn se) := by
  obtain ⟨g0, hL, hVa, hA, hU, hK, hS⟩ := id hR
  have h200 := hL.2.1
  have hV := hW.2.1
  have hM := hW.2.2.1.1
  have h9 := hV.1
  have hm6 := hM.1
  have hmt := hM.2.1
  have hmi := hM.2.2.1
  refine w_aload_n k142_0 rfl rfl ?_
  refine w_iload_n k142_1 rfl ?_
  refine w_vI k142_2 mt78 kd137 ⟨rfl, by decide⟩ [_] rfl rfl rfl (mp_isChair G hVa h9 h1 _) ?_
  refine w_if_eq k142_5 (fun h5 => ?_) (fun h5 => ?_)
  ·
    refine w_iconst k142_19 ?_
    refine w_iret k142_20 mt142 (.int) rfl (rfl) ?_
    exact MdQ.same hR
  ·
    have x5 := of_decide_eq_true (bI_n0.mp h5)
    refine w_iload_n k142_8 rfl ?_
    refine w_if_eq k142_9 (fun h9 => absurd h9 (fun hh => hb ⟨x5, by rw [hh]; rfl⟩)) (fun h9 => ?_)
    refine w_iload_n k142_12 rfl ?_
    refine w_sI k142_13 (by decide) mt94 [_] rfl rfl rfl (mp_isRow _) ?_
    refine w_if_ne k142_16 (fun h16 => absurd (bI_0.mpr (Bool.eq_false_iff.mpr fun hh => hb ⟨x5, row0_r hh⟩)) h16) (fun h16 => ?_)
    refine w_iconst k142_19 ?_
    refine w_iret k142_20 mt142 (.int) rfl (rfl) ?_
    exact MdQ.same hR
theorem or_t1 {B k x : Nat} (h : B.testBit x = true) : (1 : Int32) = bI ((B ||| 2 ^ k).testBit x) := by rw [or_bit h]; rfl
theorem or_t2 {B k x : Nat} (h : k = x) : (1 : Int32) = bI ((B ||| 2 ^ k).testBit x) := by subst h; rw [Nat.testBit_or, Nat.testBit_two_pow_self, Bool.or_true]; rfl
theorem or_f {B k x : Nat} (h : B.testBit x = false) (h2 : ¬ k = x) : (0 : Int32) = bI ((B ||| 2 ^ k).testBit x) := by rw [Nat.testBit_or, h, Nat.testBit_two_pow, decide_eq_false h2]; rfl
set_option maxHeartbeats 1000000 in
theorem ml_hang {S : Scr} {d : Nat} {f : FF} {g : GG} {P : Option Value → Nat → FF → GG → Prop} (G : GOm g) {V : Va} (hVa : MVa f V) (hV : VWf V) {x : Nat} (hx : x < 2 ^ 31) {q2 q3 : Int32} {W : Nat} (hk : ∀ q : Nat, Wp S d 154 74 [some (.ref 137), some (.int (nI x)), some (.int q2), some (.int q3), some (.int (bI (W.testBit x))), some (.int (nI q))] [] 153 f g P) : ∀ (t c b : Nat), c < t → c < V.1 → wyW V t c b = W → Wp S d 154 27 [some (.ref 137), some (.int (nI x)), some (.int q2), some (.int q3), some (.int (bI ((b ||| 2 ^ c).testBit x))), some (.int (nI c))] [] 153 f g P := by
  have h99 := hV.1
  intro t
  induction t with
  | zero =>
    intro c b h
    exact absurd h (Nat.not_lt_zero c)
  | succ t ih =>
    intro c b h0 hc hT
    have ho := hV.on hc
    have hle := (hV.2 c hc).2.2.2
    simp only [wyW] at hT
    refine w_aload_n k154_27 rfl rfl ?_
    refine w_getr k154_28 (k := 15) kd137 (by decide) (r137_15 G) ?_
    refine w_iload k154_31 rfl ?_
    refine w_iald k154_33 kd147 (nI_pos (by omega)) (nI_clamp (by omega)) (by omega) ?_
    rw [(hVa.2 c hc).2.2]
    refine w_iload k154_34 rfl ?_
    refine w_icmp_eq k154_36 (fun h36 => ?_) (fun h36 => ?_)
    ·
      have zs : V.2.2.2 c = c := (nI_eq (by omega) (by omega)).mp h36
      rw [if_pos zs] at hT
      rw [hT]
      exact hk c
    ·
      have zs : ¬ V.2.2.2 c = c := fun hh => h36 (by rw [hh])
      rw [if_neg zs] at hT
      refine w_iload k154_39 rfl ?_
      refine w_if_ne k154_41 (fun h41 => ?_) (fun h41 => ?_)
      ·
        have z41 := bI_n0.mp h41
        refine w_iconst k154_55 ?_
        refine w_top (bI (((b ||| 2 ^ c) ||| 2 ^ V.2.2.2 c).testBit x)) (by first | exact or_t1 z41 | exact or_t2 z52) ?_
        refine w_goto k154_56 ?_
        refine w_istore k154_60 (ls' := [_, _, _, _, _, _]) rfl ?_
        refine w_aload_n k154_62 rfl rfl ?_
        refine w_getr k154_63 (k := 15) kd137 (by decide) (r137_15 G) ?_
        refine w_iload k154_66 rfl ?_
        refine w_iald k154_68 kd147 (nI_pos (by omega)) (nI_clamp (by omega)) (by omega) ?_
        rw [(hVa.2 c hc).2.2]
        refine w_istore k154_69 (ls' := [_, _, _, _, _, _]) rfl ?_
        refine w_goto k154_71 ?_
        exact ih _ (b ||| 2 ^ c) (by omega) ho hT
      ·
        have z41 := bI_0.mp h41
        refine w_aload_n k154_44 rfl rfl ?_
        refine w_getr k154_45 (k := 15) kd137 (by decide) (r137_15 G) ?_
        refine w_iload k154_48 rfl ?_
        refine w_iald k154_50 kd147 (nI_pos (by omega)) (nI_clamp (by omega)) (by omega) ?_
        rw [(hVa.2 c hc).2.2]
        refine w_iload_n k154_51 rfl ?_
        refine w_icmp_ne k154_52 (fun h52 => ?_) (fun h52 => ?_)
        ·
          have z52 : ¬ V.2.2.2 c = x := fun hh => h52 (by rw [hh])
          refine w_iconst k154_59 ?_
          refine w_top (bI (((b ||| 2 ^ c) ||| 2 ^ V.2.2.2 c).testBit x)) (or_f z41 z52) ?_
          refine w_istore k154_60 (ls' := [_, _, _, _, _, _]) rfl ?_
          refine w_aload_n k154_62 rfl rfl ?_
          refine w_getr k154_63 (k := 15) kd137 (by decide) (r137_15 G) ?_
          refine w_iload k154_66 rfl ?_
          refine w_iald k154_68 kd147 (nI_pos (by omega)) (nI_clamp (by omega)) (by omega) ?_
          rw [(hVa.2 c hc).2.2]
          refine w_istore k154_69 (ls' := [_, _, _, _, _, _]) rfl ?_
          refine w_goto k154_71 ?_
          exact ih _ (b ||| 2 ^ c) (by omega) ho hT
        ·
          have z52 : V.2.2.2 c = x := (nI_eq (by omega) hx).mp h52
          refine w_iconst k154_55 ?_
          refine w_top (bI (((b ||| 2 ^ c) ||| 2 ^ V.2.2.2 c).testBit x)) (by first | exact or_t1 z41 | exact or_t2 z52) ?_
          refine w_goto k154_56 ?_
          refine w_istore k154_60 (ls' := [_, _, _, _, _, _]) rfl ?_
          refine w_aload_n k154_62 rfl rfl ?_
          refine w_getr k154_63 (k := 15) kd137 (by decide) (r137_15 G) ?_
          refine w_iload k154_66 rfl ?_
          refine w_iald k154_68 kd147 (nI_pos (by omega)) (nI_clamp (by omega)) (by omega) ?_
          rw [(hVa.2 c hc).2.2]
          refine w_istore k154_69 (ls' := [_, _, _, _, _, _]) rfl ?_
          refine w_goto k154_71 ?_
          exact ih _ (b ||| 2 ^ c) (by omega) ho hT
set_option maxHeartbeats 1000000 in
theorem ml_hanging {S : Scr} {d : Nat} {f : FF} {g : GG} (G : GOm g) {V : Va} (hVa : MVa f V) (hV : VWf V) {x : Nat} (hx : x < 2 ^ 31) : ∀ (t : Nat) (c a : Nat) (q4 q5 : Option Value), (t + c = V.1) → Wp S d 154 4 [some (.ref 137), some (.int (nI x)), some (.int (nI a)), some (.int (nI c)), q4, q5] [] 153 f g (Is (some (.int (nI (hkS V x t c a)))) 153 f g) := by
  have h9 := hV.1
  intro t
  induction t with
  | zero =>
    intro c a q4 q5 e0
    refine w_iload_n k154_4 rfl ?_
    refine w_aload_n k154_5 rfl rfl ?_
    refine w_geti k154_6 (k := 12) kd137 (by decide) ?_
    rw [hVa.1]
    refine w_icmp_ge k154_9 (fun h9 => ?_) (fun h9 => absurd (nI_le (by omega) (by omega)) h9)
    refine w_iload_n k154_93 rfl ?_
    refine w_iret k154_94 mt154 (.int) rfl (rfl) ?_
    exact ⟨rfl, rfl, rfl, rfl⟩
  | succ t ih =>
    intro c a q4 q5 e0
    refine w_iload_n k154_4 rfl ?_
    refine w_aload_n k154_5 rfl rfl ?_
    refine w_geti k154_6 (k := 12) kd137 (by decide) ?_
    rw [hVa.1]
    refine w_icmp_ge k154_9 (fun h9 => absurd h9 (nI_ge (by omega) (by omega))) (fun h9 => ?_)
    refine w_iload_n k154_12 rfl ?_
    refine w_iload_n k154_13 rfl ?_
    refine w_icmp_ne k154_14 (fun h14 => ?_) (fun h14 => ?_)
    ·
      have z14 : ¬ c = x := fun hh => h14 (by rw [hh])
      refine w_iconst k154_21 ?_
      refine w_top (bI ((0 ||| 2 ^ c).testBit x)) (or_f (Nat.zero_testBit x) z14) ?_
      refine w_istore k154_22 (ls' := [_, _, _, _, _, _]) rfl ?_
      refine w_iload_n k154_24 rfl ?_
      refine w_istore k154_25 (ls' := [_, _, _, _, _, _]) rfl ?_
      refine ml_hang (W := wyW V 9 c 0) G hVa hV hx (fun q => ?_) 9 c 0 (by omega) (by omega) rfl
      refine w_iload_n k154_74 rfl ?_
      refine w_iload k154_75 rfl ?_
      refine w_if_eq k154_77 (fun h77 => ?_) (fun h77 => ?_)
      ·
        have z7 := bI_0.mp h77
        refine w_iconst k154_84 ?_
        refine w_iadd k154_85 ?_
        refine w_istore_n k154_86 (ls' := [_, _, _, _, _, _]) rfl ?_
        refine w_iinc k154_87 rfl (ls' := [_, _, _, _, _, _]) rfl ?_
        refine w_goto k154_90 ?_
        rw [nI_1 c]
        first
          | (rw [hkS_in z7, nI_1 a]; exact ih _ _ _ _ (by omega))
          | (rw [hkS_out z7, show nI a + 0 = nI a from nI_add a 0]; exact ih _ _ _ _ (by omega))
      ·
        have z7 := bI_n0.mp h77
        refine w_iconst k154_80 ?_
        refine w_goto k154_81 ?_
        refine w_iadd k154_85 ?_
        refine w_istore_n k154_86 (ls' := [_, _, _, _, _, _]) rfl ?_
        refine w_iinc k154_87 rfl (ls' := [_, _, _, _, _, _]) rfl ?_
        refine w_goto k154_90 ?_
        rw [nI_1 c]
        first
          | (rw [hkS_in z7, nI_1 a]; exact ih _ _ _ _ (by omega))
          | (rw [hkS_out z7, show nI a + 0 = nI a from nI_add a 0]; exact ih _ _ _ _ (by omega))
    ·
      have z14 : c = x := (nI_eq (by omega) hx).mp h14
      refine w_iconst k154_17 ?_
      refine w_top (bI ((0 ||| 2 ^ c).testBit x)) (or_t2 z14) ?_
      refine w_goto k154_18 ?_
      refine w_istore k154_22 (ls' := [_, _, _, _, _, _]) rfl ?_
      refine w_iload_n k154_24 rfl ?_
      refine w_istore k154_25 (ls' := [_, _, _, _, _, _]) rfl ?_
      refine ml_hang (W := wyW V 9 c 0) G hVa hV hx (fun q => ?_) 9 c 0 (by omega) (by omega) rfl
      refine w_iload_n k154_74 rfl ?_
      refine w_iload k154_75 rfl ?_
      refine w_if_eq k154_77 (fun h77 => ?_) (fun h77 => ?_)
      ·
        have z7 := bI_0.mp h77
        refine w_iconst k154_84 ?_
        refine w_iadd k154_85 ?_
        refine w_istore_n k154_86 (ls' := [_, _, _, _, _, _]) rfl ?_
        refine w_iinc k154_87 rfl (ls' := [_, _, _, _, _, _]) rfl ?_
        refine w_goto k154_90 ?_
        rw [nI_1 c]
        first
          | (rw [hkS_in z7, nI_1 a]; exact ih _ _ _ _ (by omega))
          | (rw [hkS_out z7, show nI a + 0 = nI a from nI_add a 0]; exact ih _ _ _ _ (by omega))
      ·
        have z7 := bI_n0.mp h77
        refine w_iconst k154_80 ?_
        refine w_goto k154_81 ?_
        refine w_iadd k154_85 ?_
        refine w_istore_n k154_86 (ls' := [_, _, _, _, _, _]) rfl ?_
        refine w_iinc k154_87 rfl (ls' := [_, _, _, _, _, _]) rfl ?_
        refine w_goto k154_90 ?_
        rw [nI_1 c]
        first
          | (rw [hkS_in z7, nI_1 a]; exact ih _ _ _ _ (by omega))
          | (rw [hkS_out z7, show nI a + 0 = nI a from nI_add a 0]; exact ih _ _ _ _ (by omega))
set_option maxHeartbeats 1000000 in
theorem mp_hanging {S : Scr} {d : Nat} {f : FF} {g : GG} (G : GOm g) {V : Va} (hVa : MVa f V) (hV : VWf V) {x : Nat} (hx : x < 2 ^ 31) : Wp S d 154 0 [some (.ref 137), some (.int (nI x)), none, none, none, none] [] 153 f g (Is (some (.int (nI (hkS V x V.1 0 0)))) 153 f g) := by
  refine w_iconst k154_0 ?_
  refine w_istore_n k154_1 (ls' := [_, _, _, _, _, _]) rfl ?_
  refine w_iconst k154_2 ?_
  refine w_istore_n k154_3 (ls' := [_, _, _, _, _, _]) rfl ?_
  exact ml_hanging G hVa hV hx V.1 0 0 none none rfl
def hgB (V : Va) : Nat → Nat → Nat → Nat
  | 0, _, b => b
  | t + 1, c, b => if hk V b < hk V c then hgB V t (c + 1) c else hgB V t (c + 1) b
theorem hgA_B {V : Va} : ∀ t c b, hgA V t c b (hk V b) = (hgB V t c b, hk V (hgB V t c b)) := by
  intro t
  induction t with
  | zero => intro c b; rfl
  | succ t ih =>
    intro c b
    simp only [hgA, hgB]
    split
    · exact ih _ _
    · exact ih _ _
theorem hkS_ga {V : Va} {x : Nat} : ∀ t c a, a ≤ hkS V x t c a := by
  intro t
  induction t with
  | zero => intro c a; exact Nat.le_refl _
  | succ t ih => intro c a; simp only [hkS]; exact Nat.le_trans (Nat.le_add_right _ _) (ih _ _)
theorem hgA_0 {V : Va} (h1 : 1 ≤ V.1) : hgA V V.1 0 0 0 = (hgB V (V.1 - 1) 1 0, hk V (hgB V (V.1 - 1) 1 0)) := by
  obtain ⟨n, hn⟩ : ∃ n, V.1 = n + 1 := ⟨V.1 - 1, by omega⟩
  have h0 : 0 < hk V 0 := by
    show 0 < hkS V 0 V.1 0 0
    rw [hn, hkS_in (wyW_me (V := V) (t := 8) (c := 0) (b := 0))]
    exact hkS_ga n 1 1
  rw [hn, show hgA V (n + 1) 0 0 0 = hgA V n 1 0 (hk V 0) from if_pos h0]
  exact hgA_B n 1 0
set_option maxHeartbeats 1000000 in
theorem ml_hangs {S : Scr} {d : Nat} {f : FF} {g : GG} {B : Nat} {tx : Nat → Nat} {tl : Nat} {V : Va} {M : Nat → Nat → Nat} {uN : Nat} {uL : Nat → Nat → Nat → Nat} {kN : Nat} {kL : Nat → Nat → Nat → Nat} {sn : Nat} {se : Nat → Nat → Nat} (G : GOm g) (hR : MRl f g tx tl V M uN uL kN kL sn se) (hW : StW B tx tl V M uN uL kN kL sn se) (h1 : 1 ≤ V.1) {w : Nat} (hw : w < 2) : ∀ (t : Nat) (c b : Nat), (t + c = V.1) → (b < V.1) → Wp S (d + 1) 155 15 [some (.ref 137), some (.int (nI w)), some (.int (nI b)), some (.int (nI c))] [] 153 f g (MdQ f g (if w = 0 then nI (hgB V t c b) else nI (hk V (hgB V t c b))) tx tl V M uN uL kN kL sn se) := by
  obtain ⟨g0, hL, hVa, hA, hU, hK, hS⟩ := id hR
  have h200 := hL.2.1
  have hV := hW.2.1
  have hM := hW.2.2.1.1
  have h9 := hV.1
  have hm6 := hM.1
  have hmt := hM.2.1
  have hmi := hM.2.2.1
  intro t
  induction t with
  | zero =>
    intro c b e0 e1
    refine w_iload_n k155_15 rfl ?_
    refine w_aload_n k155_16 rfl rfl ?_
    refine w_geti k155_17 (k := 12) kd137 (by decide) ?_
    rw [hVa.1]
    refine w_icmp_ge k155_20 (fun h20 => ?_) (fun h20 => absurd (nI_le (by omega) (by omega)) h20)
    refine w_iload_n k155_48 rfl ?_
    refine w_if_ne k155_49 (fun h49 => ?_) (fun h49 => ?_)
    ·
      have y3 : ¬ w = 0 := fun hh => h49 (by rw [hh]; rfl)
      rw [if_neg y3]
      refine w_aload_n k155_56 rfl rfl ?_
      refine w_iload_n k155_57 rfl ?_
      refine w_vI k155_58 mt154 kd137 ⟨rfl, by decide⟩ [_] rfl rfl rfl (mp_hanging G hVa hV (x := b) (by omega)) ?_
      refine w_iret k155_61 mt155 (.int) rfl (rfl) ?_
      exact MdQ.same hR
    ·
      have y3 : w = 0 := (nI_eq (b := 0) (by omega) (by omega)).mp h49
      rw [if_pos y3]
      refine w_iload_n k155_52 rfl ?_
      refine w_goto k155_53 ?_
      refine w_iret k155_61 mt155 (.int) rfl (rfl) ?_
      exact MdQ.same hR
  | succ t ih =>
    intro c b e0 e1
    refine w_iload_n k155_15 rfl ?_
    refine w_aload_n k155_16 rfl rfl ?_
    refine w_geti k155_17 (k := 12) kd137 (by decide) ?_
    rw [hVa.1]
    refine w_icmp_ge k155_20 (fun h20 => absurd h20 (nI_ge (by omega) (by omega))) (fun h20 => ?_)
    refine w_aload_n k155_23 rfl rfl ?_
    refine w_iload_n k155_24 rfl ?_
    refine w_vI k155_25 mt154 kd137 ⟨rfl, by decide⟩ [_] rfl rfl rfl (mp_hanging G hVa hV (x := c) (by omega)) ?_
    refine w_aload_n k155_28 rfl rfl ?_
    refine w_iload_n k155_29 rfl ?_
    refine w_vI k155_30 mt154 kd137 ⟨rfl, by decide⟩ [_] rfl rfl rfl (mp_hanging G hVa hV (x := b) (by omega)) ?_
    have hl1 := hkS_le (V := V) (x := c) V.1 0 0
    have hl2 := hkS_le (V := V) (x := b) V.1 0 0
    have hl3 : hk V c ≤ 0 + V.1 := hl1
    have hl4 : hk V b ≤ 0 + V.1 := hl2
    refine w_icmp_le k155_33 (fun h33 => ?_) (fun h33 => ?_)
    ·
      have y2 : ¬ hk V b < hk V c := Nat.not_lt.mpr ((nI_leI (by omega) (by omega)).mp h33)
      refine w_iload_n k155_40 rfl ?_
      refine w_istore_n k155_41 (ls' := [_, _, _, _]) rfl ?_
      refine w_iinc k155_42 rfl (ls' := [_, _, _, _]) rfl ?_
      refine w_goto k155_45 ?_
      rw [nI_1]
      first
        | (rw [show hgB V (t + 1) c b = hgB V t (c + 1) c from if_pos y2]; exact ih (c + 1) c (by omega) (by omega))
        | (rw [show hgB V (t + 1) c b = hgB V t (c + 1) b from if_neg y2]; exact ih (c + 1) b (by omega) e1)
    ·
      have y2 : hk V b < hk V c := Nat.not_le.mp fun hh => h33 ((nI_leI (a := hkS V c V.1 0 0) (b := hkS V b V.1 0 0) (by omega) (by omega)).mpr hh)
      refine w_iload_n k155_36 rfl ?_
      refine w_goto k155_37 ?_
      refine w_istore_n k155_41 (ls' := [_, _, _, _]) rfl ?_
      refine w_iinc k155_42 rfl (ls' := [_, _, _, _]) rfl ?_
      refine w_goto k155_45 ?_
      rw [nI_1]
      first
        | (rw [show hgB V (t + 1) c b = hgB V t (c + 1) c from if_pos y2]; exact ih (c + 1) c (by omega) (by omega))
        | (rw [show hgB V (t + 1) c b = hgB V t (c + 1) b from if_neg y2]; exact ih (c + 1) b (by omega) e1)
set_option maxHeartbeats 1000000 in
theorem mp_hangs {S : Scr} {d : Nat} {f : FF} {g : GG} {B : Nat} {tx : Nat → Nat} {tl : Nat} {V : Va} {M : Nat → Nat → Nat} {uN : Nat} {uL : Nat → Nat → Nat → Nat} {kN : Nat} {kL : Nat → Nat → Nat → Nat} {sn : Nat} {se : Nat → Nat → Nat} (G : GOm g) (hR : MRl f g tx tl V M uN uL kN kL sn se) (hW : StW B tx tl V M uN uL kN kL sn se) (h1 : 1 ≤ V.1) {w : Nat} (hw : w < 2) : Wp S (d + 1) 155 0 [some (.ref 137), some (.int (nI w)), none, none] [] 153 f g (MdQ f g (if w = 0 then nI (hgA V V.1 0 0 0).1 else nI (hgA V V.1 0 0 0).2) tx tl V M uN uL kN kL sn se) := by
  obtain ⟨g0, hL, hVa, hA, hU, hK, hS⟩ := id hR
  have h200 := hL.2.1
  have hV := hW.2.1
  have hM := hW.2.2.1.1
  have h9 := hV.1
  have hm6 := hM.1
  have hmt := hM.2.1
  have hmi := hM.2.2.1
  refine w_iload_n k155_0 rfl ?_
  refine w_iconst k155_1 ?_
  refine w_iconst k155_2 ?_
  refine w_sI k155_3 (by decide) mt59 [_, _, _] rfl rfl rfl (mp_in _ _ _) ?_
  refine w_if_ne k155_6 (fun h6 => ?_) (fun h6 => absurd h6 (bI_n0.mpr (decide_eq_true ⟨(nI_leI (a := 0) (by omega) (by omega)).mpr (by omega), (nI_leI (b := 1) (by omega) (by omega)).mpr (by omega)⟩)))
  refine w_iconst k155_11 ?_
  refine w_istore_n k155_12 (ls' := [_, _, _, _]) rfl ?_
  refine w_iconst k155_13 ?_
  refine w_istore_n k155_14 (ls' := [_, _, _, _]) rfl ?_
  rw [hgA_0 h1]
  exact ml_hangs G hR hW h1 hw (V.1 - 1) 1 0 (by omega) (by omega)
set_option maxHeartbeats 1000000 in
theorem mp_hangs0 {S : Scr} {d : Nat} {f : FF} {g : GG} {B : Nat} {tx : Nat → Nat} {tl : Nat} {V : Va} {M : Nat → Nat → Nat} {uN : Nat} {uL : Nat → Nat → Nat → Nat} {kN : Nat} {kL : Nat → Nat → Nat → Nat} {sn : Nat} {se : Nat → Nat → Nat} (G : GOm g) (hR : MRl f g tx tl V M uN uL kN kL sn se) (hW : StW B tx tl V M uN uL kN kL sn se) (h1 : 1 ≤ V.1) {x : Int32} (hb : ¬ (0 ≤ x ∧ x ≤ 1)) : Wp S (d + 1) 155 0 [some (.ref 137), some (.int x), none, none] [] 153 f g (MdQ f g (-1) tx tl V M uN uL kN kL sn se) := by
  obtain ⟨g0, hL, hVa, hA, hU, hK, hS⟩ := id hR
  have h200 := hL.2.1
  have hV := hW.2.1
  have hM := hW.2.2.1.1
  have h9 := hV.1
  have hm6 := hM.1
  have hmt := hM.2.1
  have hmi := hM.2.2.1
  refine w_iload_n k155_0 rfl ?_
  refine w_iconst k155_1 ?_
  refine w_iconst k155_2 ?_
  refine w_sI k155_3 (by decide) mt59 [_, _, _] rfl rfl rfl (mp_in _ _ _) ?_
  refine w_if_ne k155_6 (fun h6 => absurd (bI_0.mpr (decide_eq_false hb)) h6) (fun h6 => ?_)
  refine w_iconst k155_9 ?_
  refine w_iret k155_10 mt155 (.int) rfl (rfl) ?_
  exact MdQ.same hR
set_option maxHeartbeats 1000000 in
theorem ml_isSo {S : Scr} {d : Nat} {f : FF} {g : GG} (G : GOm g) {V : Va} (hVa : MVa f V) (hV : VWf V) {sn : Nat} {se : Nat → Nat → Nat} (hS : MSe f sn se) (hse : ∀ i, i < sn → se i 0 < V.1 ∧ RowOk (se i 1) ∧ RowOk (se i 2)) {x : Int32} {ok : Nat} {K : Nat → Nat} (hK : ∀ c, c < V.1 → K c = (if nI c = x then ok else V.2.1 c) ∧ K c ≤ 4) : ∀ (t : Nat) (i : Nat) (b : Bool), (t + i = sn) → Wp S (d + 3) 165 5 [some (.ref 137), some (.int x), some (.int (nI ok)), some (.int (bI b)), some (.int (nI i))] [] 153 f g (Is (some (.int (bI (b && soW V K se t i)))) 153 f g) := by
  have h6 := hS.2.1
  intro t
  induction t with
  | zero =>
    intro i b e0
    refine w_iload k165_5 rfl ?_
    refine w_aload_n k165_7 rfl rfl ?_
    refine w_geti k165_8 (k := 21) kd137 (by decide) ?_
    rw [hS.1]
    refine w_icmp_ge k165_11 (fun h11 => ?_) (fun h11 => absurd (nI_le (by omega) (by omega)) h11)
    refine w_iload_n k165_70 rfl ?_
    refine w_iret k165_71 mt165 (.boolean) rfl (nar_b _) ?_
    rw [show (b && soW V K se 0 i) = b from Bool.and_true b]
    exact ⟨rfl, rfl, rfl, rfl⟩
  | succ t ih =>
    intro i b e0
    refine w_iload k165_5 rfl ?_
    refine w_aload_n k165_7 rfl rfl ?_
    refine w_geti k165_8 (k := 21) kd137 (by decide) ?_
    rw [hS.1]
    have hi := hS.2.2 i (by omega)
    have hi2 := hse i (by omega)
    refine w_icmp_ge k165_11 (fun h11 => absurd h11 (nI_ge (by omega) (by omega))) (fun h11 => ?_)
    refine w_iload_n k165_14 rfl ?_
    refine w_if_eq k165_15 (fun h15 => ?_) (fun h15 => ?_)
    ·
      have zb := bI_0.mp h15
      refine w_iconst k165_62 ?_
      refine w_istore_n k165_63 (ls' := [_, _, _, _, _]) rfl ?_
      refine w_iinc k165_64 rfl (ls' := [_, _, _, _, _]) rfl ?_
      refine w_goto k165_67 ?_
      rw [nI_1]
      first
        | (have e : (b && soW V K se (t + 1) i) = (false && soW V K se t (i + 1)) := by rw [zb]; rfl
           rw [e]
           exact ih (i + 1) false (by omega))
        | (have e : (b && soW V K se (t + 1) i) = (false && soW V K se t (i + 1)) := by rw [show soW V K se (t + 1) i = false from if_neg zc, Bool.and_false]; rfl
           rw [e]
           exact ih (i + 1) false (by omega))
        | (have e : (b && soW V K se (t + 1) i) = (true && soW V K se t (i + 1)) := by rw [zb, show soW V K se (t + 1) i = soW V K se t (i + 1) from if_pos zc]
           rw [e]
           exact ih (i + 1) true (by omega))
    ·
      have zb := bI_n0.mp h15
      refine w_aload_n k165_18 rfl rfl ?_
      refine w_aload_n k165_19 rfl rfl ?_
      refine w_getr k165_20 (k := 22) kd137 (by decide) (r137_22 G) ?_
      refine w_iconst k165_23 ?_
      refine w_iload k165_24 rfl ?_
      refine w_imul k165_26 ?_
      refine w_top (nI (3 * i)) (pk_mul 3 i) ?_
      refine w_iald k165_27 kd151 (nI_pos (by omega)) (nI_clamp (by omega)) (by omega) ?_
      rw [hi.1]
      refine w_aload_n k165_28 rfl rfl ?_
      refine w_getr k165_29 (k := 22) kd137 (by decide) (r137_22 G) ?_
      refine w_iconst k165_32 ?_
      refine w_iload k165_33 rfl ?_
      refine w_imul k165_35 ?_
      refine w_top (nI (3 * i)) (pk_mul 3 i) ?_
      refine w_iconst k165_36 ?_
      refine w_iadd k165_37 ?_
      refine w_top (nI (3 * i + 1)) (nI_add _ 1) ?_
      refine w_iald k165_38 kd151 (nI_pos (by omega)) (nI_clamp (by omega)) (by omega) ?_
      rw [hi.2.1]
      refine w_iload_n k165_39 rfl ?_
      refine w_iload_n k165_40 rfl ?_
      refine w_vI k165_41 mt130 kd137 ⟨rfl, by decide⟩ [_, _, _, _] rfl rfl rfl (mp_comesBy G hVa hV hK hi2.1 hi2.2.1) ?_
      refine w_aload_n k165_44 rfl rfl ?_
      refine w_getr k165_45 (k := 22) kd137 (by decide) (r137_22 G) ?_
      refine w_iconst k165_48 ?_
      refine w_iload k165_49 rfl ?_
      refine w_imul k165_51 ?_
      refine w_top (nI (3 * i)) (pk_mul 3 i) ?_
      refine w_iconst k165_52 ?_
      refine w_iadd k165_53 ?_
      refine w_top (nI (3 * i + 2)) (nI_add _ 2) ?_
      refine w_iald k165_54 kd151 (nI_pos (by omega)) (nI_clamp (by omega)) (by omega) ?_
      rw [hi.2.2]
      have hlt := cmW_lt (V := V) (K := K) 9 (se i 0) (se i 1) hi2.2.1.lt
      have hlt2 := hi2.2.2.lt
      refine w_icmp_ne k165_55 (fun h55 => ?_) (fun h55 => ?_)
      ·
        have zc : ¬ cmW V K 9 (se i 0) (se i 1) = se i 2 := fun hh => h55 (by rw [hh])
        refine w_iconst k165_62 ?_
        refine w_istore_n k165_63 (ls' := [_, _, _, _, _]) rfl ?_
        refine w_iinc k165_64 rfl (ls' := [_, _, _, _, _]) rfl ?_
        refine w_goto k165_67 ?_
        rw [nI_1]
        first
          | (have e : (b && soW V K se (t + 1) i) = (false && soW V K se t (i + 1)) := by rw [zb]; rfl
             rw [e]
             exact ih (i + 1) false (by omega))
          | (have e : (b && soW V K se (t + 1) i) = (false && soW V K se t (i + 1)) := by rw [show soW V K se (t + 1) i = false from if_neg zc, Bool.and_false]; rfl
             rw [e]
             exact ih (i + 1) false (by omega))
          | (have e : (b && soW V K se (t + 1) i) = (true && soW V K se t (i + 1)) := by rw [zb, show soW V K se (t + 1) i = soW V K se t (i + 1) from if_pos zc]
             rw [e]
             exact ih (i + 1) true (by omega))
      ·
        have zc : cmW V K 9 (se i 0) (se i 1) = se i 2 := (nI_eq (by omega) (by omega)).mp h55
        refine w_iconst k165_58 ?_
        refine w_goto k165_59 ?_
        refine w_istore_n k165_63 (ls' := [_, _, _, _, _]) rfl ?_
        refine w_iinc k165_64 rfl (ls' := [_, _, _, _, _]) rfl ?_
        refine w_goto k165_67 ?_
        rw [nI_1]
        first
          | (have e : (b && soW V K se (t + 1) i) = (false && soW V K se t (i + 1)) := by rw [zb]; rfl
             rw [e]
             exact ih (i + 1) false (by omega))
          | (have e : (b && soW V K se (t + 1) i) = (false && soW V K se t (i + 1)) := by rw [show soW V K se (t + 1) i = false from if_neg zc, Bool.and_false]; rfl
             rw [e]
             exact ih (i + 1) false (by omega))
          | (have e : (b && soW V K se (t + 1) i) = (true && soW V K se t (i + 1)) := by rw [zb, show soW V K se (t + 1) i = soW V K se t (i + 1) from if_pos zc]
             rw [e]
             exact ih (i + 1) true (by omega))
set_option maxHeartbeats 1000000 in
theorem mp_isSo {S : Scr} {d : Nat} {f : FF} {g : GG} (G : GOm g) {V : Va} (hVa : MVa f V) (hV : VWf V) {sn : Nat} {se : Nat → Nat → Nat} (hS : MSe f sn se) (hse : ∀ i, i < sn → se i 0 < V.1 ∧ RowOk (se i 1) ∧ RowOk (se i 2)) {x : Int32} {ok : Nat} {K : Nat → Nat} (hK : ∀ c, c < V.1 → K c = (if nI c = x then ok else V.2.1 c) ∧ K c ≤ 4) : Wp S (d + 3) 165 0 [some (.ref 137), some (.int x), some (.int (nI ok)), none, none] [] 153 f g (Is (some (.int (bI (soW V K se sn 0)))) 153 f g) := by
  refine w_iconst k165_0 ?_
  refine w_istore_n k165_1 (ls' := [_, _, _, _, _]) rfl ?_
  refine w_iconst k165_2 ?_
  refine w_istore k165_3 (ls' := [_, _, _, _, _]) rfl ?_
  rw [show soW V K se sn 0 = (true && soW V K se sn 0) from rfl]
  exact ml_isSo G hVa hV hS hse hK sn 0 true rfl
set_option maxHeartbeats 1000000 in
theorem ml_kinds {S : Scr} {d : Nat} {f : FF} {g : GG} {B : Nat} {tx : Nat → Nat} {tl : Nat} {V : Va} {M : Nat → Nat → Nat} {uN : Nat} {uL : Nat → Nat → Nat → Nat} {kN : Nat} {kL : Nat → Nat → Nat → Nat} {sn : Nat} {se : Nat → Nat → Nat} (G : GOm g) (hR : MRl f g tx tl V M uN uL kN kL sn se) (hW : StW B tx tl V M uN uL kN kL sn se) (h1 : 1 ≤ V.1) {c : Nat} (hc : c < V.1) : ∀ (t : Nat) (k a : Nat), (t + k = 5) → Wp S (d + 4) 166 14 [some (.ref 137), some (.int (nI c)), some (.int (nI a)), some (.int (nI k))] [] 153 f g (MdQ f g (nI (kdA V sn se c t k a)) tx tl V M uN uL kN kL sn se) := by
  obtain ⟨g0, hL, hVa, hA, hU, hK, hS⟩ := id hR
  have h200 := hL.2.1
  have hV := hW.2.1
  have hM := hW.2.2.1.1
  have h9 := hV.1
  have hm6 := hM.1
  have hmt := hM.2.1
  have hmi := hM.2.2.1
  intro t
  induction t with
  | zero =>
    intro k a e0
    refine w_iload_n k166_14 rfl ?_
    refine w_iconst k166_15 ?_
    refine w_icmp_gt k166_16 (fun h16 => ?_) (fun h16 => absurd ((nI_ltI (a := 4) (by omega) (by omega)).mpr (by omega)) h16)
    refine w_iload_n k166_44 rfl ?_
    refine w_iret k166_45 mt166 (.int) rfl (rfl) ?_
    exact MdQ.same hR
  | succ t ih =>
    intro k a e0
    refine w_iload_n k166_14 rfl ?_
    refine w_iconst k166_15 ?_
    refine w_icmp_gt k166_16 (fun h16 => absurd h16 (fun hh => absurd ((nI_ltI (a := 4) (by omega) (by omega)).mp hh) (by omega))) (fun h16 => ?_)
    refine w_iload_n k166_19 rfl ?_
    refine w_aload_n k166_20 rfl rfl ?_
    refine w_iload_n k166_21 rfl ?_
    refine w_iload_n k166_22 rfl ?_
    refine w_vI k166_23 mt165 kd137 ⟨rfl, by decide⟩ [_, _] rfl rfl rfl (mp_isSo G hVa hV hS hW.2.2.2.2.2 (kW_ok hV hc (by omega))) ?_
    refine w_if_eq k166_26 (fun h26 => ?_) (fun h26 => ?_)
    ·
      have y1 := bI_0.mp h26
      refine w_iconst k166_35 ?_
      refine w_ior k166_36 ?_
      try rw [nI_or]
      refine w_istore_n k166_37 (ls' := [_, _, _, _]) rfl ?_
      refine w_iinc k166_38 rfl (ls' := [_, _, _, _]) rfl ?_
      refine w_goto k166_41 ?_
      rw [nI_1 k]
      first
        | (rw [kdA_y y1]; exact ih (k + 1) _ (by omega))
        | (rw [kdA_n y1, show nI a ||| 0 = nI a from by rw [show (0 : Int32) = nI 0 from rfl, nI_or, Nat.or_zero]]; exact ih (k + 1) _ (by omega))
    ·
      have y1 := bI_n0.mp h26
      refine w_iconst k166_29 ?_
      refine w_iload_n k166_30 rfl ?_
      refine w_ishl k166_31 ?_
      rw [shl1_n (by omega)]
      refine w_goto k166_32 ?_
      refine w_ior k166_36 ?_
      try rw [nI_or]
      refine w_istore_n k166_37 (ls' := [_, _, _, _]) rfl ?_
      refine w_iinc k166_38 rfl (ls' := [_, _, _, _]) rfl ?_
      refine w_goto k166_41 ?_
      rw [nI_1 k]
      first
        | (rw [kdA_y y1]; exact ih (k + 1) _ (by omega))
        | (rw [kdA_n y1, show nI a ||| 0 = nI a from by rw [show (0 : Int32) = nI 0 from rfl, nI_or, Nat.or_zero]]; exact ih (k + 1) _ (by omega))
set_option maxHeartbeats 1000000 in
theorem mp_kinds {S : Scr} {d : Nat} {f : FF} {g : GG} {B : Nat} {tx : Nat → Nat} {tl : Nat} {V : Va} {M : Nat → Nat → Nat} {uN : Nat} {uL : Nat → Nat → Nat → Nat} {kN : Nat} {kL : Nat → Nat → Nat → Nat} {sn : Nat} {se : Nat → Nat → Nat} (G : GOm g) (hR : MRl f g tx tl V M uN uL kN kL sn se) (hW : StW B tx tl V M uN uL kN kL sn se) (h1 : 1 ≤ V.1) {c : Nat} (hc : c < V.1) : Wp S (d + 4) 166 0 [some (.ref 137), some (.int (nI c)), none, none] [] 153 f g (MdQ f g (nI (kdA V sn se c 5 0 0)) tx tl V M uN uL kN kL sn se) := by
  obtain ⟨g0, hL, hVa, hA, hU, hK, hS⟩ := id hR
  have h200 := hL.2.1
  have hV := hW.2.1
  have hM := hW.2.2.1.1
  have h9 := hV.1
  have hm6 := hM.1
  have hmt := hM.2.1
  have hmi := hM.2.2.1
  refine w_aload_n k166_0 rfl rfl ?_
  refine w_iload_n k166_1 rfl ?_
  refine w_vI k166_2 mt78 kd137 ⟨rfl, by decide⟩ [_] rfl rfl rfl (mp_isChair G hVa h9 h1 _) ?_
  rw [has_dec (by omega) (by omega)]
  refine w_if_ne k166_5 (fun h5 => ?_) (fun h5 => absurd h5 (bI_n0.mpr (decide_eq_true hc)))
  refine w_iconst k166_10 ?_
  refine w_istore_n k166_11 (ls' := [_, _, _, _]) rfl ?_
  refine w_iconst k166_12 ?_
  refine w_istore_n k166_13 (ls' := [_, _, _, _]) rfl ?_
  exact ml_kinds G hR hW h1 hc 5 0 0 rfl
set_option maxHeartbeats 1000000 in
theorem mp_kinds0 {S : Scr} {d : Nat} {f : FF} {g : GG} {B : Nat} {tx : Nat → Nat} {tl : Nat} {V : Va} {M : Nat → Nat → Nat} {uN : Nat} {uL : Nat → Nat → Nat → Nat} {kN : Nat} {kL : Nat → Nat → Nat → Nat} {sn : Nat} {se : Nat → Nat → Nat} (G : GOm g) (hR : MRl f g tx tl V M uN uL kN kL sn se) (hW : StW B tx tl V M uN uL kN kL sn se) (h1 : 1 ≤ V.1) {x : Int32} (hb : ¬ (0 ≤ x ∧ x < nI V.1)) : Wp S (d + 4) 166 0 [some (.ref 137), some (.int x), none, none] [] 153 f g (MdQ f g (-1) tx tl V M uN uL kN kL sn se) := by
  obtain ⟨g0, hL, hVa, hA, hU, hK, hS⟩ := id hR
  have h200 := hL.2.1
  have hV := hW.2.1
  have hM := hW.2.2.1.1
  have h9 := hV.1
  have hm6 := hM.1
  have hmt := hM.2.1
  have hmi := hM.2.2.1
  refine w_aload_n k166_0 rfl rfl ?_
  refine w_iload_n k166_1 rfl ?_
  refine w_vI k166_2 mt78 kd137 ⟨rfl, by decide⟩ [_] rfl rfl rfl (mp_isChair G hVa h9 h1 _) ?_
  refine w_if_ne k166_5 (fun h5 => absurd (bI_0.mpr (decide_eq_false hb)) h5) (fun h5 => ?_)
  refine w_iconst k166_8 ?_
  refine w_iret k166_9 mt166 (.int) rfl (rfl) ?_
  exact MdQ.same hR
def lkF (V : Va) (sn : Nat) (se : Nat → Nat → Nat) (c : Nat) : Nat → Nat → Bool → Bool
  | 0, _, b => b
  | t + 1, k, b => lkF V sn se c t (k + 1) (b || (decide (k ≠ V.2.1 c) && soW V (kW V c k) se sn 0))
def kdB (s : Nat → Bool) : Nat → Nat → Nat → Nat
  | 0, _, a => a
  | t + 1, k, a => kdB s t (k + 1) (if s k = true then a ||| 2 ^ k else a)
def lkB (s : Nat → Bool) (j : Nat) : Nat → Nat → Bool → Bool
  | 0, _, b => b
  | t + 1, k, b => lkB s j t (k + 1) (b || (decide (k ≠ j) && s k))
theorem kdA_B {V : Va} {sn : Nat} {se : Nat → Nat → Nat} {c : Nat} : ∀ t k a, kdA V sn se c t k a = kdB (fun k => soW V (kW V c k) se sn 0) t k a := by
  intro t
  induction t with
  | zero => intro k a; rfl
  | succ t ih => intro k a; simp only [kdA, kdB, ih]
theorem lkF_B {V : Va} {sn : Nat} {se : Nat → Nat → Nat} {c : Nat} : ∀ t k b, lkF V sn se c t k b = lkB (fun k => soW V (kW V c k) se sn 0) (V.2.1 c) t k b := by
  intro t
  induction t with
  | zero => intro k b; rfl
  | succ t ih => intro k b; simp only [lkF, lkB, ih]
def s5 (s0 s1 s2 s3 s4 : Bool) (k : Nat) : Bool := if k = 0 then s0 else if k = 1 then s1 else if k = 2 then s2 else if k = 3 then s3 else s4
theorem kdB_5 (s : Nat → Bool) : kdB s 5 0 0 = kdB (s5 (s 0) (s 1) (s 2) (s 3) (s 4)) 5 0 0 := rfl
theorem lkB_5 (s : Nat → Bool) (j : Nat) : lkB s j 5 0 false = lkB (s5 (s 0) (s 1) (s 2) (s 3) (s 4)) j 5 0 false := rfl
theorem lk_dec : ∀ s0 s1 s2 s3 s4 : Bool, ∀ j : Fin 5, lkB (s5 s0 s1 s2 s3 s4) j.val 5 0 false = !decide (kdB (s5 s0 s1 s2 s3 s4) 5 0 0 &&& (511 ^^^ 2 ^ j.val) = 0) := by decide +kernel
theorem lk_kd {V : Va} {sn : Nat} {se : Nat → Nat → Nat} {c : Nat} (hj : V.2.1 c ≤ 4) : lkF V sn se c 5 0 false = !decide (kdv V sn se c &&& (511 ^^^ 2 ^ V.2.1 c) = 0) := by
  rw [lkF_B, show kdv V sn se c = kdB (fun k => soW V (kW V c k) se sn 0) 5 0 0 from kdA_B 5 0 0, kdB_5, lkB_5]
  exact lk_dec _ _ _ _ _ ⟨V.2.1 c, by omega⟩
theorem or_again (a x : Nat) : a ||| x ||| x = a ||| x := by rw [Nat.or_assoc, Nat.or_self]
set_option maxHeartbeats 1000000 in
theorem ml_lieK {S : Scr} {d : Nat} {f : FF} {g : GG} {P : Option Value → Nat → FF → GG → Prop} {B : Nat} {tx : Nat → Nat} {tl : Nat} {V : Va} {M : Nat → Nat → Nat} {uN : Nat} {uL : Nat → Nat → Nat → Nat} {kN : Nat} {kL : Nat → Nat → Nat → Nat} {sn : Nat} {se : Nat → Nat → Nat} (G : GOm g) (hR : MRl f g tx tl V M uN uL kN kL sn se) (hW : StW B tx tl V M uN uL kN kL sn se) (h1 : 1 ≤ V.1) {c a : Nat} (hc : c < V.1) (hk : Wp S (d + 4) 168 69 [some (.ref 137), some (.int (nI (if lkF V sn se c 5 0 false = true then a ||| 2 ^ c else a))), some (.int (nI c)), some (.int (nI 5))] [] 153 f g P) : ∀ (t k : Nat) (b : Bool), t + k = 5 → lkF V sn se c t k b = lkF V sn se c 5 0 false → Wp S (d + 4) 168 29 [some (.ref 137), some (.int (nI (if b = true then a ||| 2 ^ c else a))), some (.int (nI c)), some (.int (nI k))] [] 153 f g P := by
  obtain ⟨g0, hL, hVa, hA, hU, hK, hS⟩ := id hR
  have h200 := hL.2.1
  have hV := hW.2.1
  have hM := hW.2.2.1.1
  have h9 := hV.1
  have hm6 := hM.1
  have hmt := hM.2.1
  have hmi := hM.2.2.1
  intro t
  induction t with
  | zero =>
    intro k b e0 e1
    obtain rfl : k = 5 := by omega
    have e1 : b = lkF V sn se c 5 0 false := e1
    rw [e1]
    refine w_iload_n k168_29 rfl ?_
    refine w_iconst k168_30 ?_
    refine w_icmp_gt k168_31 (fun h31 => ?_) (fun h31 => absurd ((nI_ltI (a := 4) (b := 5) (by omega) (by omega)).mpr (by omega)) h31)
    exact hk
  | succ t ih =>
    intro k b e0 e1
    have hk4 := (hV.2 c hc).1
    refine w_iload_n k168_29 rfl ?_
    refine w_iconst k168_30 ?_
    refine w_icmp_gt k168_31 (fun h31 => absurd h31 (fun hh => absurd ((nI_ltI (a := 4) (by omega) (by omega)).mp hh) (by omega))) (fun h31 => ?_)
    refine w_iload_n k168_34 rfl ?_
    refine w_iload_n k168_35 rfl ?_
    refine w_aload_n k168_36 rfl rfl ?_
    refine w_getr k168_37 (k := 13) kd137 (by decide) (r137_13 G) ?_
    refine w_iload_n k168_40 rfl ?_
    refine w_iald k168_41 kd145 (nI_pos (by omega)) (nI_clamp (by omega)) (by omega) ?_
    rw [(hVa.2 c hc).1]
    refine w_icmp_eq k168_42 (fun h42 => ?_) (fun h42 => ?_)
    ·
      have y1 : k = V.2.1 c := (nI_eq (by omega) (by omega)).mp h42
      refine w_iconst k168_60 ?_
      refine w_ior k168_61 ?_
      refine w_istore_n k168_62 (ls' := [_, _, _, _]) rfl ?_
      refine w_iinc k168_63 rfl (ls' := [_, _, _, _]) rfl ?_
      refine w_goto k168_66 ?_
      rw [nI_1 k]
      first
        | (have hb : (b || (decide (k ≠ V.2.1 c) && soW V (kW V c k) se sn 0)) = true := by rw [decide_eq_true y1, y2, Bool.true_and, Bool.or_true]
           have e2 : lkF V sn se c t (k + 1) true = lkF V sn se c 5 0 false := by rw [← e1, show lkF V sn se c (t + 1) k b = lkF V sn se c t (k + 1) (b || (decide (k ≠ V.2.1 c) && soW V (kW V c k) se sn 0)) from rfl, hb]
           have e3 : nI (if b = true then a ||| 2 ^ c else a) ||| nI (2 ^ c) = nI (if true = true then a ||| 2 ^ c else a) := by
             rw [nI_or, if_pos rfl]
             congr 1
             cases b with
             | false => rfl
             | true => exact or_again a (2 ^ c)
           rw [e3]
           exact ih (k + 1) true (by omega) e2)
        | (have hb : (b || (decide (k ≠ V.2.1 c) && soW V (kW V c k) se sn 0)) = b := by
             first
               | rw [y2, Bool.and_false, Bool.or_false]
               | rw [decide_eq_false (fun hh => hh y1), Bool.false_and, Bool.or_false]
           have e2 : lkF V sn se c t (k + 1) b = lkF V sn se c 5 0 false := by rw [← e1, show lkF V sn se c (t + 1) k b = lkF V sn se c t (k + 1) (b || (decide (k ≠ V.2.1 c) && soW V (kW V c k) se sn 0)) from rfl, hb]
           rw [show nI (if b = true then a ||| 2 ^ c else a) ||| 0 = nI (if b = true then a ||| 2 ^ c else a) from by rw [show (0 : Int32) = nI 0 from rfl, nI_or, Nat.or_zero]]
           exact ih (k + 1) b (by omega) e2)
    ·
      have y1 : k ≠ V.2.1 c := fun hh => h42 (by rw [hh])
      refine w_aload_n k168_45 rfl rfl ?_
      refine w_iload_n k168_46 rfl ?_
      refine w_iload_n k168_47 rfl ?_
      refine w_vI k168_48 mt165 kd137 ⟨rfl, by decide⟩ [_, _] rfl rfl rfl (mp_isSo G hVa hV hS hW.2.2.2.2.2 (kW_ok hV hc (by omega))) ?_
      refine w_if_eq k168_51 (fun h51 => ?_) (fun h51 => ?_)
      ·
        have y2 := bI_0.mp h51
        refine w_iconst k168_60 ?_
        refine w_ior k168_61 ?_
        refine w_istore_n k168_62 (ls' := [_, _, _, _]) rfl ?_
        refine w_iinc k168_63 rfl (ls' := [_, _, _, _]) rfl ?_
        refine w_goto k168_66 ?_
        rw [nI_1 k]
        first
          | (have hb : (b || (decide (k ≠ V.2.1 c) && soW V (kW V c k) se sn 0)) = true := by rw [decide_eq_true y1, y2, Bool.true_and, Bool.or_true]
             have e2 : lkF V sn se c t (k + 1) true = lkF V sn se c 5 0 false := by rw [← e1, show lkF V sn se c (t + 1) k b = lkF V sn se c t (k + 1) (b || (decide (k ≠ V.2.1 c) && soW V (kW V c k) se sn 0)) from rfl, hb]
             have e3 : nI (if b = true then a ||| 2 ^ c else a) ||| nI (2 ^ c) = nI (if true = true then a ||| 2 ^ c else a) := by
               rw [nI_or, if_pos rfl]
               congr 1
               cases b with
               | false => rfl
               | true => exact or_again a (2 ^ c)
             rw [e3]
             exact ih (k + 1) true (by omega) e2)
          | (have hb : (b || (decide (k ≠ V.2.1 c) && soW V (kW V c k) se sn 0)) = b := by
               first
                 | rw [y2, Bool.and_false, Bool.or_false]
                 | rw [decide_eq_false (fun hh => hh y1), Bool.false_and, Bool.or_false]
             have e2 : lkF V sn se c t (k + 1) b = lkF V sn se c 5 0 false := by rw [← e1, show lkF V sn se c (t + 1) k b = lkF V sn se c t (k + 1) (b || (decide (k ≠ V.2.1 c) && soW V (kW V c k) se sn 0)) from rfl, hb]
             rw [show nI (if b = true then a ||| 2 ^ c else a) ||| 0 = nI (if b = true then a ||| 2 ^ c else a) from by rw [show (0 : Int32) = nI 0 from rfl, nI_or, Nat.or_zero]]
             exact ih (k + 1) b (by omega) e2)
      ·
        have y2 := bI_n0.mp h51
        refine w_iconst k168_54 ?_
        refine w_iload_n k168_55 rfl ?_
        refine w_ishl k168_56 ?_
        rw [shl1_n (by omega)]
        refine w_goto k168_57 ?_
        refine w_ior k168_61 ?_
        refine w_istore_n k168_62 (ls' := [_, _, _, _]) rfl ?_
        refine w_iinc k168_63 rfl (ls' := [_, _, _, _]) rfl ?_
        refine w_goto k168_66 ?_
        rw [nI_1 k]
        first
          | (have hb : (b || (decide (k ≠ V.2.1 c) && soW V (kW V c k) se sn 0)) = true := by rw [decide_eq_true y1, y2, Bool.true_and, Bool.or_true]
             have e2 : lkF V sn se c t (k + 1) true = lkF V sn se c 5 0 false := by rw [← e1, show lkF V sn se c (t + 1) k b = lkF V sn se c t (k + 1) (b || (decide (k ≠ V.2.1 c) && soW V (kW V c k) se sn 0)) from rfl, hb]
             have e3 : nI (if b = true then a ||| 2 ^ c else a) ||| nI (2 ^ c) = nI (if true = true then a ||| 2 ^ c else a) := by
               rw [nI_or, if_pos rfl]
               congr 1
               cases b with
               | false => rfl
               | true => exact or_again a (2 ^ c)
             rw [e3]
             exact ih (k + 1) true (by omega) e2)
          | (have hb : (b || (decide (k ≠ V.2.1 c) && soW V (kW V c k) se sn 0)) = b := by
               first
                 | rw [y2, Bool.and_false, Bool.or_false]
                 | rw [decide_eq_false (fun hh => hh y1), Bool.false_and, Bool.or_false]
             have e2 : lkF V sn se c t (k + 1) b = lkF V sn se c 5 0 false := by rw [← e1, show lkF V sn se c (t + 1) k b = lkF V sn se c t (k + 1) (b || (decide (k ≠ V.2.1 c) && soW V (kW V c k) se sn 0)) from rfl, hb]
             rw [show nI (if b = true then a ||| 2 ^ c else a) ||| 0 = nI (if b = true then a ||| 2 ^ c else a) from by rw [show (0 : Int32) = nI 0 from rfl, nI_or, Nat.or_zero]]
             exact ih (k + 1) b (by omega) e2)
set_option maxHeartbeats 1000000 in
theorem ml_lies {S : Scr} {d : Nat} {f : FF} {g : GG} {B : Nat} {tx : Nat → Nat} {tl : Nat} {V : Va} {M : Nat → Nat → Nat} {uN : Nat} {uL : Nat → Nat → Nat → Nat} {kN : Nat} {kL : Nat → Nat → Nat → Nat} {sn : Nat} {se : Nat → Nat → Nat} (G : GOm g) (hR : MRl f g tx tl V M uN uL kN kL sn se) (hW : StW B tx tl V M uN uL kN kL sn se) (h1 : 1 ≤ V.1)  : ∀ (t : Nat) (c a : Nat) (q : Option Value), (t + c = V.1) → Wp S (d + 4) 168 19 [some (.ref 137), some (.int (nI a)), some (.int (nI c)), q] [] 153 f g (MdQ f g (nI (liA V sn se t c a)) tx tl V M uN uL kN kL sn se) := by
  obtain ⟨g0, hL, hVa, hA, hU, hK, hS⟩ := id hR
  have h200 := hL.2.1
  have hV := hW.2.1
  have hM := hW.2.2.1.1
  have h9 := hV.1
  have hm6 := hM.1
  have hmt := hM.2.1
  have hmi := hM.2.2.1
  intro t
  induction t with
  | zero =>
    intro c a q e0
    refine w_iload_n k168_19 rfl ?_
    refine w_aload_n k168_20 rfl rfl ?_
    refine w_geti k168_21 (k := 12) kd137 (by decide) ?_
    rw [hVa.1]
    refine w_icmp_ge k168_24 (fun h24 => ?_) (fun h24 => absurd (nI_le (by omega) (by omega)) h24)
    refine w_iload_n k168_75 rfl ?_
    refine w_iret k168_76 mt168 (.int) rfl (rfl) ?_
    exact MdQ.same hR
  | succ t ih =>
    intro c a q e0
    refine w_iload_n k168_19 rfl ?_
    refine w_aload_n k168_20 rfl rfl ?_
    have hc : c < V.1 := by omega
    have hk4 := (hV.2 c hc).1
    refine w_geti k168_21 (k := 12) kd137 (by decide) ?_
    rw [hVa.1]
    refine w_icmp_ge k168_24 (fun h24 => absurd h24 (nI_ge (by omega) (by omega))) (fun h24 => ?_)
    refine w_iconst k168_27 ?_
    refine w_istore_n k168_28 (ls' := [_, _, _, _]) rfl ?_
    refine ml_lieK (a := a) (c := c) G hR hW h1 (by omega) ?_ 5 0 false rfl rfl
    rw [lk_kd hk4]
    refine w_iinc k168_69 rfl (ls' := [_, _, _, _]) rfl ?_
    refine w_goto k168_72 ?_
    rw [nI_1 c]
    by_cases hy : kdv V sn se c &&& (511 ^^^ 2 ^ V.2.1 c) = 0
    · rw [liA_n hy, decide_eq_true hy, if_neg (by decide)]
      exact ih (c + 1) a _ (by omega)
    · rw [liA_y hy, decide_eq_false hy, if_pos (by decide)]
      exact ih (c + 1) _ _ (by omega)
set_option maxHeartbeats 1000000 in
theorem mp_lies {S : Scr} {d : Nat} {f : FF} {g : GG} {B : Nat} {tx : Nat → Nat} {tl : Nat} {V : Va} {M : Nat → Nat → Nat} {uN : Nat} {uL : Nat → Nat → Nat → Nat} {kN : Nat} {kL : Nat → Nat → Nat → Nat} {sn : Nat} {se : Nat → Nat → Nat} (G : GOm g) (hR : MRl f g tx tl V M uN uL kN kL sn se) (hW : StW B tx tl V M uN uL kN kL sn se) (h1 : 1 ≤ V.1)  : Wp S (d + 4) 168 0 [some (.ref 137), none, none, none] [] 153 f g (MdQ f g (nI (liA V sn se V.1 0 (if soW V V.2.1 se sn 0 = true then 512 else 0))) tx tl V M uN uL kN kL sn se) := by
  obtain ⟨g0, hL, hVa, hA, hU, hK, hS⟩ := id hR
  have h200 := hL.2.1
  have hV := hW.2.1
  have hM := hW.2.2.1.1
  have h9 := hV.1
  have hm6 := hM.1
  have hmt := hM.2.1
  have hmi := hM.2.2.1
  refine w_aload_n k168_0 rfl rfl ?_
  refine w_iconst k168_1 ?_
  refine w_iconst k168_2 ?_
  refine w_vI k168_3 mt165 kd137 ⟨rfl, by decide⟩ [_, _] rfl rfl rfl (mp_isSo (ok := 0) G hVa hV hS hW.2.2.2.2.2 (k0_ok hV)) ?_
  refine w_if_eq k168_6 (fun h6 => ?_) (fun h6 => ?_)
  ·
    have y1 := bI_0.mp h6
    rw [if_neg (by rw [y1]; decide)]
    refine w_iconst k168_15 ?_
    refine w_istore_n k168_16 (ls' := [_, _, _, _]) rfl ?_
    refine w_iconst k168_17 ?_
    refine w_istore_n k168_18 (ls' := [_, _, _, _]) rfl ?_
    first
      | exact ml_lies G hR hW h1 V.1 0 512 none rfl
      | exact ml_lies G hR hW h1 V.1 0 0 none rfl
  ·
    have y1 := bI_n0.mp h6
    rw [if_pos y1]
    refine w_sipush k168_9 ?_
    refine w_goto k168_12 ?_
    refine w_istore_n k168_16 (ls' := [_, _, _, _]) rfl ?_
    refine w_iconst k168_17 ?_
    refine w_istore_n k168_18 (ls' := [_, _, _, _]) rfl ?_
    first
      | exact ml_lies G hR hW h1 V.1 0 512 none rfl
      | exact ml_lies G hR hW h1 V.1 0 0 none rfl
