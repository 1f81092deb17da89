/-! SPECS, 23: code, could, hangs, kinds, lies, bring, meet -/
theorem rowI_ok {s : Nat} (hs : s < 2 ^ 31) (h : isRowI (nI s) = true) : RowOk s ∧ 0 < s := by
  obtain ⟨r, h1, h2, h3⟩ := isRowI_iff.mp h
  have := h3.lt
  have e : s = r := (nI_eq hs (by omega)).mp h1
  rw [e]
  exact ⟨h3, h2⟩
def cdW (V : Va) (c y : Nat) : Nat → Nat → Int32
  | 0, _ => -4
  | t + 1, s => if isRowI (nI s) = true ∧ cmW V V.2.1 9 c s = y then nI s else cdW V c y t (s + 1)
def cuW (V : Va) (c y : Nat) : Nat → Nat → Nat → Nat
  | 0, _, a => a
  | t + 1, s, a => cuW V c y t (s + 1) (if isRowI (nI s) = true ∧ cmW V V.2.1 9 c s = y then a + 1 else a)
theorem cuW_y {V : Va} {c y t s a : Nat} (h : isRowI (nI s) = true ∧ cmW V V.2.1 9 c s = y) : cuW V c y (t + 1) s a = cuW V c y t (s + 1) (a + 1) := congrArg (cuW V c y t (s + 1)) (if_pos h)
theorem cuW_n {V : Va} {c y t s a : Nat} (h : ¬ (isRowI (nI s) = true ∧ cmW V V.2.1 9 c s = y)) : cuW V c y (t + 1) s a = cuW V c y t (s + 1) a := congrArg (cuW V c y t (s + 1)) (if_neg h)
set_option maxHeartbeats 1000000 in
theorem lp_code {S : Scr} {d : Nat} {f : FF} {g : GG} {n B : Nat} {tx : Nat → Nat} {tl : Nat} {V : Va} {M : Nat → Nat → Nat} {uN : Nat} {uL : Nat → Nat → Nat → Nat} {kN : Nat} {kL : Nat → Nat → Nat → Nat} {sn : Nat} {se : Nat → Nat → Nat} (hn : 137 ≤ n) (G : GOk g) (hR : CR n f g tx tl V M uN uL kN kL sn se) (hW : StW B tx tl V M uN uL kN kL sn se) {c y : Nat} (hc : c < V.1) (hy : y < 2 ^ 31) : ∀ (t : Nat) (s : Nat), (t + s = 256) → Wp S (d + 5) 139 22 [some (.ref 0), some (.int (nI c)), some (.int (nI y)), some (.int (nI s))] [] n f g (CQ n f g (cdW V c y t s) tx tl V M uN uL kN kL sn se) := by
  have h200 := hR.2.1.2.1
  have hC := hR.2.2.1
  have hA := hR.2.2.2.1
  have hK := hR.2.2.2.2.2.1
  have hS := hR.2.2.2.2.2.2
  have hV := hW.2.1
  have hM := hW.2.2.1.1
  have h9 := hV.1
  have hm6 := hM.1
  have hmt := hM.2.1
  have hmi := hM.2.2.1
  intro t
  induction t with
  | zero =>
    intro s e0
    refine w_iload_n k139_22 rfl ?_
    refine w_sipush k139_23 ?_
    refine w_icmp_ge k139_26 (fun h26 => ?_) (fun h26 => absurd (nI_le (a := 256) (by omega) (by omega)) h26)
    refine w_bipush k139_57 ?_
    refine w_iret k139_59 mt139 (.int) rfl (rfl) ?_
    exact CQ.same hR
  | succ t ih =>
    intro s e0
    refine w_iload_n k139_22 rfl ?_
    refine w_sipush k139_23 ?_
    refine w_icmp_ge k139_26 (fun h26 => absurd h26 (nI_ge (b := 256) (by omega) (by omega))) (fun h26 => ?_)
    refine w_iload_n k139_29 rfl ?_
    refine w_sI k139_30 (by decide) mt88 [_] rfl rfl rfl (sp_isRow _) ?_
    refine w_if_eq k139_33 (fun h33 => ?_) (fun h33 => ?_)
    ·
      have y1 := bI_0.mp h33
      refine w_iinc k139_51 rfl (ls' := [_, _, _, _]) rfl ?_
      refine w_goto k139_54 ?_
      rw [nI_1, show cdW V c y (t + 1) s = cdW V c y t (s + 1) from if_neg (by
        rintro ⟨a1, a2⟩
        first
          | exact y2 a2
          | (rw [a1] at y1; cases y1))]
      exact ih (s + 1) (by omega)
    ·
      have y1 := bI_n0.mp h33
      have y1b := (rowI_ok (by omega) y1).1
      refine w_aload_n k139_36 rfl rfl ?_
      refine w_getr k139_37 (k := 2) (kc0 hn) (by decide) (r0_2 G) ?_
      refine w_iload_n k139_40 rfl ?_
      refine w_iload_n k139_41 rfl ?_
      refine w_vI k139_42 mt126 (kc17 hn) ⟨rfl, by decide⟩ [_, _] rfl rfl rfl (sp_rowAtSea (va17 hn G) hC hV hc (by omega)) ?_
      refine w_iload_n k139_45 rfl ?_
      have hlt := cmW_lt (V := V) (K := V.2.1) 9 c s (by omega)
      refine w_icmp_ne k139_46 (fun h46 => ?_) (fun h46 => ?_)
      ·
        have y2 : ¬ cmW V V.2.1 9 c s = y := fun hh => h46 (by rw [hh])
        refine w_iinc k139_51 rfl (ls' := [_, _, _, _]) rfl ?_
        refine w_goto k139_54 ?_
        rw [nI_1, show cdW V c y (t + 1) s = cdW V c y t (s + 1) from if_neg (by
          rintro ⟨a1, a2⟩
          first
            | exact y2 a2
            | (rw [a1] at y1; cases y1))]
        exact ih (s + 1) (by omega)
      ·
        have y2 : cmW V V.2.1 9 c s = y := (nI_eq (by omega) (by omega)).mp h46
        refine w_iload_n k139_49 rfl ?_
        refine w_iret k139_50 mt139 (.int) rfl (rfl) ?_
        rw [show cdW V c y (t + 1) s = nI s from if_pos ⟨y1, y2⟩]
        exact CQ.same hR
set_option maxHeartbeats 1000000 in
theorem sp_code {S : Scr} {d : Nat} {f : FF} {g : GG} {n B : Nat} {tx : Nat → Nat} {tl : Nat} {V : Va} {M : Nat → Nat → Nat} {uN : Nat} {uL : Nat → Nat → Nat → Nat} {kN : Nat} {kL : Nat → Nat → Nat → Nat} {sn : Nat} {se : Nat → Nat → Nat} (hn : 137 ≤ n) (G : GOk g) (hR : CR n f g tx tl V M uN uL kN kL sn se) (hW : StW B tx tl V M uN uL kN kL sn se) {c y : Nat} (hc : c < V.1) (hy : y < 2 ^ 31) (hy0 : isRow0 (nI y) = true) : Wp S (d + 5) 139 0 [some (.ref 0), some (.int (nI c)), some (.int (nI y)), none] [] n f g (CQ n f g (cdW V c y 255 1) tx tl V M uN uL kN kL sn se) := by
  have h200 := hR.2.1.2.1
  have hC := hR.2.2.1
  have hA := hR.2.2.2.1
  have hK := hR.2.2.2.2.2.1
  have hS := hR.2.2.2.2.2.2
  have hV := hW.2.1
  have hM := hW.2.2.1.1
  have h9 := hV.1
  have hm6 := hM.1
  have hmt := hM.2.1
  have hmi := hM.2.2.1
  refine w_aload_n k139_0 rfl rfl ?_
  refine w_getr k139_1 (k := 2) (kc0 hn) (by decide) (r0_2 G) ?_
  refine w_iload_n k139_4 rfl ?_
  refine w_vI k139_5 mt29 (kc17 hn) ⟨rfl, by decide⟩ [_] rfl rfl rfl (sp_Vhas (va17 hn G) hC h9 _) ?_
  rw [has_dec (by omega) (by omega)]
  refine w_if_eq k139_8 (fun h8 => absurd h8 (bI_n0.mpr (decide_eq_true hc))) (fun h8 => ?_)
  refine w_iload_n k139_11 rfl ?_
  refine w_sI k139_12 (by decide) mt89 [_] rfl rfl rfl (sp_isRowOrEmpty _) ?_
  refine w_if_ne k139_15 (fun h15 => ?_) (fun h15 => absurd h15 (bI_n0.mpr hy0))
  refine w_iconst k139_20 ?_
  refine w_istore_n k139_21 (ls' := [_, _, _, _]) rfl ?_
  exact lp_code hn G hR hW hc hy 255 1 rfl
set_option maxHeartbeats 1000000 in
theorem sp_code0 {S : Scr} {d : Nat} {f : FF} {g : GG} {n B : Nat} {tx : Nat → Nat} {tl : Nat} {V : Va} {M : Nat → Nat → Nat} {uN : Nat} {uL : Nat → Nat → Nat → Nat} {kN : Nat} {kL : Nat → Nat → Nat → Nat} {sn : Nat} {se : Nat → Nat → Nat} (hn : 137 ≤ n) (G : GOk g) (hR : CR n f g tx tl V M uN uL kN kL sn se) (hW : StW B tx tl V M uN uL kN kL sn se) {x y : Int32} (hb : ¬ ((0 ≤ x ∧ x < nI V.1) ∧ isRow0 y = true)) : Wp S (d + 5) 139 0 [some (.ref 0), some (.int x), some (.int y), none] [] n f g (CQ n f g (-1) tx tl V M uN uL kN kL sn se) := by
  have h200 := hR.2.1.2.1
  have hC := hR.2.2.1
  have hA := hR.2.2.2.1
  have hK := hR.2.2.2.2.2.1
  have hS := hR.2.2.2.2.2.2
  have hV := hW.2.1
  have hM := hW.2.2.1.1
  have h9 := hV.1
  have hm6 := hM.1
  have hmt := hM.2.1
  have hmi := hM.2.2.1
  refine w_aload_n k139_0 rfl rfl ?_
  refine w_getr k139_1 (k := 2) (kc0 hn) (by decide) (r0_2 G) ?_
  refine w_iload_n k139_4 rfl ?_
  refine w_vI k139_5 mt29 (kc17 hn) ⟨rfl, by decide⟩ [_] rfl rfl rfl (sp_Vhas (va17 hn G) hC h9 _) ?_
  refine w_if_eq k139_8 (fun h8 => ?_) (fun h8 => ?_)
  ·
    refine w_iconst k139_18 ?_
    refine w_iret k139_19 mt139 (.int) rfl (rfl) ?_
    exact CQ.same hR
  ·
    have x8 := of_decide_eq_true (bI_n0.mp h8)
    refine w_iload_n k139_11 rfl ?_
    refine w_sI k139_12 (by decide) mt89 [_] rfl rfl rfl (sp_isRowOrEmpty _) ?_
    refine w_if_ne k139_15 (fun h15 => absurd (bI_0.mpr (Bool.eq_false_iff.mpr fun hh => hb ⟨x8, hh⟩)) h15) (fun h15 => ?_)
    refine w_iconst k139_18 ?_
    refine w_iret k139_19 mt139 (.int) rfl (rfl) ?_
    exact CQ.same hR
set_option maxHeartbeats 1000000 in
theorem lp_could {S : Scr} {d : Nat} {f : FF} {g : GG} {n B : Nat} {tx : Nat → Nat} {tl : Nat} {V : Va} {M : Nat → Nat → Nat} {uN : Nat} {uL : Nat → Nat → Nat → Nat} {kN : Nat} {kL : Nat → Nat → Nat → Nat} {sn : Nat} {se : Nat → Nat → Nat} (hn : 137 ≤ n) (G : GOk g) (hR : CR n f g tx tl V M uN uL kN kL sn se) (hW : StW B tx tl V M uN uL kN kL sn se) {c y : Nat} (hc : c < V.1) (hy : y < 2 ^ 31) : ∀ (t : Nat) (s a : Nat), (t + s = 1024) → Wp S (d + 5) 141 25 [some (.ref 0), some (.int (nI c)), some (.int (nI y)), some (.int (nI a)), some (.int (nI s))] [] n f g (CQ n f g (nI (cuW V c y t s a)) tx tl V M uN uL kN kL sn se) := by
  have h200 := hR.2.1.2.1
  have hC := hR.2.2.1
  have hA := hR.2.2.2.1
  have hK := hR.2.2.2.2.2.1
  have hS := hR.2.2.2.2.2.2
  have hV := hW.2.1
  have hM := hW.2.2.1.1
  have h9 := hV.1
  have hm6 := hM.1
  have hmt := hM.2.1
  have hmi := hM.2.2.1
  intro t
  induction t with
  | zero =>
    intro s a e0
    refine w_iload k141_25 rfl ?_
    refine w_sipush k141_27 ?_
    refine w_icmp_ge k141_30 (fun h30 => ?_) (fun h30 => absurd (nI_le (a := 1024) (by omega) (by omega)) h30)
    refine w_iload_n k141_64 rfl ?_
    refine w_iret k141_65 mt141 (.int) rfl (rfl) ?_
    exact CQ.same hR
  | succ t ih =>
    intro s a e0
    refine w_iload k141_25 rfl ?_
    refine w_sipush k141_27 ?_
    refine w_icmp_ge k141_30 (fun h30 => absurd h30 (nI_ge (b := 1024) (by omega) (by omega))) (fun h30 => ?_)
    refine w_iload k141_33 rfl ?_
    refine w_sI k141_35 (by decide) mt88 [_] rfl rfl rfl (sp_isRow _) ?_
    refine w_if_eq k141_38 (fun h38 => ?_) (fun h38 => ?_)
    ·
      have y1 := bI_0.mp h38
      refine w_iinc k141_58 rfl (ls' := [_, _, _, _, _]) rfl ?_
      refine w_goto k141_61 ?_
      rw [nI_1 s]
      first
        | (rw [nI_1 a, cuW_y ⟨y1, y2⟩]; exact ih (s + 1) (a + 1) (by omega))
        | (rw [cuW_n (fun hh => y2 hh.2)]; exact ih (s + 1) a (by omega))
        | (rw [cuW_n (fun hh => by rw [hh.1] at y1; cases y1)]; exact ih (s + 1) a (by omega))
    ·
      have y1 := bI_n0.mp h38
      have y1b := (rowI_ok (by omega) y1).1
      refine w_aload_n k141_41 rfl rfl ?_
      refine w_getr k141_42 (k := 2) (kc0 hn) (by decide) (r0_2 G) ?_
      refine w_iload_n k141_45 rfl ?_
      refine w_iload k141_46 rfl ?_
      refine w_vI k141_48 mt126 (kc17 hn) ⟨rfl, by decide⟩ [_, _] rfl rfl rfl (sp_rowAtSea (va17 hn G) hC hV hc (by omega)) ?_
      refine w_iload_n k141_51 rfl ?_
      have hlt := cmW_lt (V := V) (K := V.2.1) 9 c s (by omega)
      refine w_icmp_ne k141_52 (fun h52 => ?_) (fun h52 => ?_)
      ·
        have y2 : ¬ cmW V V.2.1 9 c s = y := fun hh => h52 (by rw [hh])
        refine w_iinc k141_58 rfl (ls' := [_, _, _, _, _]) rfl ?_
        refine w_goto k141_61 ?_
        rw [nI_1 s]
        first
          | (rw [nI_1 a, cuW_y ⟨y1, y2⟩]; exact ih (s + 1) (a + 1) (by omega))
          | (rw [cuW_n (fun hh => y2 hh.2)]; exact ih (s + 1) a (by omega))
          | (rw [cuW_n (fun hh => by rw [hh.1] at y1; cases y1)]; exact ih (s + 1) a (by omega))
      ·
        have y2 : cmW V V.2.1 9 c s = y := (nI_eq (by omega) (by omega)).mp h52
        refine w_iinc k141_55 rfl (ls' := [_, _, _, _, _]) rfl ?_
        refine w_iinc k141_58 rfl (ls' := [_, _, _, _, _]) rfl ?_
        refine w_goto k141_61 ?_
        rw [nI_1 s]
        first
          | (rw [nI_1 a, cuW_y ⟨y1, y2⟩]; exact ih (s + 1) (a + 1) (by omega))
          | (rw [cuW_n (fun hh => y2 hh.2)]; exact ih (s + 1) a (by omega))
          | (rw [cuW_n (fun hh => by rw [hh.1] at y1; cases y1)]; exact ih (s + 1) a (by omega))
set_option maxHeartbeats 1000000 in
theorem sp_could {S : Scr} {d : Nat} {f : FF} {g : GG} {n B : Nat} {tx : Nat → Nat} {tl : Nat} {V : Va} {M : Nat → Nat → Nat} {uN : Nat} {uL : Nat → Nat → Nat → Nat} {kN : Nat} {kL : Nat → Nat → Nat → Nat} {sn : Nat} {se : Nat → Nat → Nat} (hn : 137 ≤ n) (G : GOk g) (hR : CR n f g tx tl V M uN uL kN kL sn se) (hW : StW B tx tl V M uN uL kN kL sn se) {c y : Nat} (hc : c < V.1) (hy : y < 2 ^ 31) (hy0 : isRow0 (nI y) = true) : Wp S (d + 5) 141 0 [some (.ref 0), some (.int (nI c)), some (.int (nI y)), none, none] [] n f g (CQ n f g (nI (cuW V c y 1023 1 0)) tx tl V M uN uL kN kL sn se) := by
  have h200 := hR.2.1.2.1
  have hC := hR.2.2.1
  have hA := hR.2.2.2.1
  have hK := hR.2.2.2.2.2.1
  have hS := hR.2.2.2.2.2.2
  have hV := hW.2.1
  have hM := hW.2.2.1.1
  have h9 := hV.1
  have hm6 := hM.1
  have hmt := hM.2.1
  have hmi := hM.2.2.1
  refine w_aload_n k141_0 rfl rfl ?_
  refine w_getr k141_1 (k := 2) (kc0 hn) (by decide) (r0_2 G) ?_
  refine w_iload_n k141_4 rfl ?_
  refine w_vI k141_5 mt29 (kc17 hn) ⟨rfl, by decide⟩ [_] rfl rfl rfl (sp_Vhas (va17 hn G) hC h9 _) ?_
  rw [has_dec (by omega) (by omega)]
  refine w_if_eq k141_8 (fun h8 => absurd h8 (bI_n0.mpr (decide_eq_true hc))) (fun h8 => ?_)
  refine w_iload_n k141_11 rfl ?_
  refine w_sI k141_12 (by decide) mt89 [_] rfl rfl rfl (sp_isRowOrEmpty _) ?_
  refine w_if_ne k141_15 (fun h15 => ?_) (fun h15 => absurd h15 (bI_n0.mpr hy0))
  refine w_iconst k141_20 ?_
  refine w_istore_n k141_21 (ls' := [_, _, _, _, _]) rfl ?_
  refine w_iconst k141_22 ?_
  refine w_istore k141_23 (ls' := [_, _, _, _, _]) rfl ?_
  exact lp_could hn G hR hW hc hy 1023 1 0 rfl
set_option maxHeartbeats 1000000 in
theorem sp_could0 {S : Scr} {d : Nat} {f : FF} {g : GG} {n B : Nat} {tx : Nat → Nat} {tl : Nat} {V : Va} {M : Nat → Nat → Nat} {uN : Nat} {uL : Nat → Nat → Nat → Nat} {kN : Nat} {kL : Nat → Nat → Nat → Nat} {sn : Nat} {se : Nat → Nat → Nat} (hn : 137 ≤ n) (G : GOk g) (hR : CR n f g tx tl V M uN uL kN kL sn se) (hW : StW B tx tl V M uN uL kN kL sn se) {x y : Int32} (hb : ¬ ((0 ≤ x ∧ x < nI V.1) ∧ isRow0 y = true)) : Wp S (d + 5) 141 0 [some (.ref 0), some (.int x), some (.int y), none, none] [] n f g (CQ n f g (-1) tx tl V M uN uL kN kL sn se) := by
  have h200 := hR.2.1.2.1
  have hC := hR.2.2.1
  have hA := hR.2.2.2.1
  have hK := hR.2.2.2.2.2.1
  have hS := hR.2.2.2.2.2.2
  have hV := hW.2.1
  have hM := hW.2.2.1.1
  have h9 := hV.1
  have hm6 := hM.1
  have hmt := hM.2.1
  have hmi := hM.2.2.1
  refine w_aload_n k141_0 rfl rfl ?_
  refine w_getr k141_1 (k := 2) (kc0 hn) (by decide) (r0_2 G) ?_
  refine w_iload_n k141_4 rfl ?_
  refine w_vI k141_5 mt29 (kc17 hn) ⟨rfl, by decide⟩ [_] rfl rfl rfl (sp_Vhas (va17 hn G) hC h9 _) ?_
  refine w_if_eq k141_8 (fun h8 => ?_) (fun h8 => ?_)
  ·
    refine w_iconst k141_18 ?_
    refine w_iret k141_19 mt141 (.int) rfl (rfl) ?_
    exact CQ.same hR
  ·
    have x8 := of_decide_eq_true (bI_n0.mp h8)
    refine w_iload_n k141_11 rfl ?_
    refine w_sI k141_12 (by decide) mt89 [_] rfl rfl rfl (sp_isRowOrEmpty _) ?_
    refine w_if_ne k141_15 (fun h15 => absurd (bI_0.mpr (Bool.eq_false_iff.mpr fun hh => hb ⟨x8, hh⟩)) h15) (fun h15 => ?_)
    refine w_iconst k141_18 ?_
    refine w_iret k141_19 mt141 (.int) rfl (rfl) ?_
    exact CQ.same hR
abbrev hk (V : Va) (c : Nat) : Nat := hkS V c V.1 0 0
def hgA (V : Va) : Nat → Nat → Nat → Nat → Nat × Nat
  | 0, _, b, m => (b, m)
  | t + 1, c, b, m => if m < hk V c then hgA V t (c + 1) c (hk V c) else hgA V t (c + 1) b m
theorem hkS_le {V : Va} {x : Nat} : ∀ t c a, hkS V x t c a ≤ a + t := by
  intro t
  induction t with
  | zero => intro c a; exact Nat.le_refl _
  | succ t ih =>
    intro c a
    simp only [hkS]
    refine Nat.le_trans (ih _ _) ?_
    split <;> omega
set_option maxHeartbeats 1000000 in
theorem lp_hangs {S : Scr} {d : Nat} {f : FF} {g : GG} {n B : Nat} {tx : Nat → Nat} {tl : Nat} {V : Va} {M : Nat → Nat → Nat} {uN : Nat} {uL : Nat → Nat → Nat → Nat} {kN : Nat} {kL : Nat → Nat → Nat → Nat} {sn : Nat} {se : Nat → Nat → Nat} (hn : 137 ≤ n) (G : GOk g) (hR : CR n f g tx tl V M uN uL kN kL sn se) (hW : StW B tx tl V M uN uL kN kL sn se) {w : Nat} (hw : w < 2) : ∀ (t : Nat) (c b m : Nat) (q : Option Value), (t + c = V.1) → (m ≤ 9) → Wp S (d + 5) 153 18 [some (.ref 0), some (.int (nI w)), some (.int (nI b)), some (.int (nI m)), some (.int (nI c)), q] [] n f g (CQ n f g (if w = 0 then nI (hgA V t c b m).1 else nI (hgA V t c b m).2) tx tl V M uN uL kN kL sn se) := by
  have h200 := hR.2.1.2.1
  have hC := hR.2.2.1
  have hA := hR.2.2.2.1
  have hK := hR.2.2.2.2.2.1
  have hS := hR.2.2.2.2.2.2
  have hV := hW.2.1
  have hM := hW.2.2.1.1
  have h9 := hV.1
  have hm6 := hM.1
  have hmt := hM.2.1
  have hmi := hM.2.2.1
  intro t
  induction t with
  | zero =>
    intro c b m q e0 e1
    refine w_iload k153_18 rfl ?_
    refine w_aload_n k153_20 rfl rfl ?_
    refine w_getr k153_21 (k := 2) (kc0 hn) (by decide) (r0_2 G) ?_
    refine w_vI k153_24 mt72 (kc17 hn) ⟨rfl, by decide⟩ [] rfl rfl rfl (sp_Vsize (va17 hn G) hC) ?_
    refine w_icmp_ge k153_27 (fun h27 => ?_) (fun h27 => absurd (nI_le (by omega) (by omega)) h27)
    refine w_iload_n k153_59 rfl ?_
    refine w_if_ne k153_60 (fun h60 => ?_) (fun h60 => ?_)
    ·
      have y3 : ¬ w = 0 := fun hh => h60 (by rw [hh]; rfl)
      refine w_iload_n k153_67 rfl ?_
      refine w_iret k153_68 mt153 (.int) rfl (rfl) ?_
      first
        | (rw [if_pos y3]; exact CQ.same hR)
        | (rw [if_neg y3]; exact CQ.same hR)
    ·
      have y3 : w = 0 := (nI_eq (b := 0) (by omega) (by omega)).mp h60
      refine w_iload_n k153_63 rfl ?_
      refine w_goto k153_64 ?_
      refine w_iret k153_68 mt153 (.int) rfl (rfl) ?_
      first
        | (rw [if_pos y3]; exact CQ.same hR)
        | (rw [if_neg y3]; exact CQ.same hR)
  | succ t ih =>
    intro c b m q e0 e1
    refine w_iload k153_18 rfl ?_
    refine w_aload_n k153_20 rfl rfl ?_
    refine w_getr k153_21 (k := 2) (kc0 hn) (by decide) (r0_2 G) ?_
    refine w_vI k153_24 mt72 (kc17 hn) ⟨rfl, by decide⟩ [] rfl rfl rfl (sp_Vsize (va17 hn G) hC) ?_
    refine w_icmp_ge k153_27 (fun h27 => absurd h27 (nI_ge (by omega) (by omega))) (fun h27 => ?_)
    refine w_aload_n k153_30 rfl rfl ?_
    refine w_getr k153_31 (k := 2) (kc0 hn) (by decide) (r0_2 G) ?_
    refine w_iload k153_34 rfl ?_
    refine w_vI k153_36 mt152 (kc17 hn) ⟨rfl, by decide⟩ [_] rfl rfl rfl (sp_hang (va17 hn G) hC hV (x := c) (by omega)) ?_
    refine w_istore k153_39 (ls' := [_, _, _, _, _, _]) rfl ?_
    refine w_iload k153_41 rfl ?_
    refine w_iload_n k153_43 rfl ?_
    have hkl := hkS_le (V := V) (x := c) V.1 0 0
    have hkl2 : hk V c ≤ 0 + V.1 := hkl
    refine w_icmp_le k153_44 (fun h44 => ?_) (fun h44 => ?_)
    ·
      have y2 : ¬ m < hk V c := Nat.not_lt.mpr ((nI_leI (by omega) (by omega)).mp h44)
      refine w_iinc k153_53 rfl (ls' := [_, _, _, _, _, _]) rfl ?_
      refine w_goto k153_56 ?_
      rw [nI_1]
      first
        | (rw [show hgA V (t + 1) c b m = hgA V t (c + 1) c (hk V c) from if_pos y2]; exact ih (c + 1) c (hk V c) _ (by omega) (by show hkS V c V.1 0 0 ≤ 9; omega))
        | (rw [show hgA V (t + 1) c b m = hgA V t (c + 1) b m from if_neg y2]; exact ih (c + 1) b m _ (by omega) e1)
    ·
      have y2 : m < hk V c := Nat.not_le.mp fun hh => h44 ((nI_leI (by omega) (by omega)).mpr hh)
      refine w_iload k153_47 rfl ?_
      refine w_istore_n k153_49 (ls' := [_, _, _, _, _, _]) rfl ?_
      refine w_iload k153_50 rfl ?_
      refine w_istore_n k153_52 (ls' := [_, _, _, _, _, _]) rfl ?_
      refine w_iinc k153_53 rfl (ls' := [_, _, _, _, _, _]) rfl ?_
      refine w_goto k153_56 ?_
      rw [nI_1]
      first
        | (rw [show hgA V (t + 1) c b m = hgA V t (c + 1) c (hk V c) from if_pos y2]; exact ih (c + 1) c (hk V c) _ (by omega) (by show hkS V c V.1 0 0 ≤ 9; omega))
        | (rw [show hgA V (t + 1) c b m = hgA V t (c + 1) b m from if_neg y2]; exact ih (c + 1) b m _ (by omega) e1)
set_option maxHeartbeats 1000000 in
theorem sp_hangs {S : Scr} {d : Nat} {f : FF} {g : GG} {n B : Nat} {tx : Nat → Nat} {tl : Nat} {V : Va} {M : Nat → Nat → Nat} {uN : Nat} {uL : Nat → Nat → Nat → Nat} {kN : Nat} {kL : Nat → Nat → Nat → Nat} {sn : Nat} {se : Nat → Nat → Nat} (hn : 137 ≤ n) (G : GOk g) (hR : CR n f g tx tl V M uN uL kN kL sn se) (hW : StW B tx tl V M uN uL kN kL sn se) {w : Nat} (hw : w < 2) : Wp S (d + 5) 153 0 [some (.ref 0), some (.int (nI w)), none, none, none, none] [] n f g (CQ n f g (if w = 0 then nI (hgA V V.1 0 0 0).1 else nI (hgA V V.1 0 0 0).2) tx tl V M uN uL kN kL sn se) := by
  have h200 := hR.2.1.2.1
  have hC := hR.2.2.1
  have hA := hR.2.2.2.1
  have hK := hR.2.2.2.2.2.1
  have hS := hR.2.2.2.2.2.2
  have hV := hW.2.1
  have hM := hW.2.2.1.1
  have h9 := hV.1
  have hm6 := hM.1
  have hmt := hM.2.1
  have hmi := hM.2.2.1
  refine w_iload_n k153_0 rfl ?_
  refine w_iconst k153_1 ?_
  refine w_iconst k153_2 ?_
  refine w_sI k153_3 (by decide) mt22 [_, _, _] rfl rfl rfl (sp_isBetween _ _ _) ?_
  refine w_if_ne k153_6 (fun h6 => ?_) (fun h6 => absurd h6 (bI_n0.mpr (decide_eq_true ⟨nI_pos' (by omega), (nI_leI (b := 1) (by omega) (by omega)).mpr (by omega)⟩)))
  refine w_iconst k153_11 ?_
  refine w_istore_n k153_12 (ls' := [_, _, _, _, _, _]) rfl ?_
  refine w_iconst k153_13 ?_
  refine w_istore_n k153_14 (ls' := [_, _, _, _, _, _]) rfl ?_
  refine w_iconst k153_15 ?_
  refine w_istore k153_16 (ls' := [_, _, _, _, _, _]) rfl ?_
  exact lp_hangs hn G hR hW hw V.1 0 0 0 none rfl (by omega)
set_option maxHeartbeats 1000000 in
theorem sp_hangs0 {S : Scr} {d : Nat} {f : FF} {g : GG} {n B : Nat} {tx : Nat → Nat} {tl : Nat} {V : Va} {M : Nat → Nat → Nat} {uN : Nat} {uL : Nat → Nat → Nat → Nat} {kN : Nat} {kL : Nat → Nat → Nat → Nat} {sn : Nat} {se : Nat → Nat → Nat} (hn : 137 ≤ n) (G : GOk g) (hR : CR n f g tx tl V M uN uL kN kL sn se) (hW : StW B tx tl V M uN uL kN kL sn se) {x : Int32} (hb : ¬ (0 ≤ x ∧ x ≤ 1)) : Wp S (d + 5) 153 0 [some (.ref 0), some (.int x), none, none, none, none] [] n f g (CQ n f g (-1) tx tl V M uN uL kN kL sn se) := by
  have h200 := hR.2.1.2.1
  have hC := hR.2.2.1
  have hA := hR.2.2.2.1
  have hK := hR.2.2.2.2.2.1
  have hS := hR.2.2.2.2.2.2
  have hV := hW.2.1
  have hM := hW.2.2.1.1
  have h9 := hV.1
  have hm6 := hM.1
  have hmt := hM.2.1
  have hmi := hM.2.2.1
  refine w_iload_n k153_0 rfl ?_
  refine w_iconst k153_1 ?_
  refine w_iconst k153_2 ?_
  refine w_sI k153_3 (by decide) mt22 [_, _, _] rfl rfl rfl (sp_isBetween _ _ _) ?_
  refine w_if_ne k153_6 (fun h6 => absurd (bI_0.mpr (decide_eq_false hb)) h6) (fun h6 => ?_)
  refine w_iconst k153_9 ?_
  refine w_iret k153_10 mt153 (.int) rfl (rfl) ?_
  exact CQ.same hR
def kW (V : Va) (c k : Nat) : Nat → Nat := fun d => if d = c then k else V.2.1 d
def kdA (V : Va) (sn : Nat) (se : Nat → Nat → Nat) (c : Nat) : Nat → Nat → Nat → Nat
  | 0, _, a => a
  | t + 1, k, a => kdA V sn se c t (k + 1) (if soW V (kW V c k) se sn 0 = true then a ||| 2 ^ k else a)
theorem kdA_y {V : Va} {sn : Nat} {se : Nat → Nat → Nat} {c t k a : Nat} (h : soW V (kW V c k) se sn 0 = true) : kdA V sn se c (t + 1) k a = kdA V sn se c t (k + 1) (a ||| 2 ^ k) := congrArg (kdA V sn se c t (k + 1)) (if_pos h)
theorem kdA_n {V : Va} {sn : Nat} {se : Nat → Nat → Nat} {c t k a : Nat} (h : soW V (kW V c k) se sn 0 = false) : kdA V sn se c (t + 1) k a = kdA V sn se c t (k + 1) a := congrArg (kdA V sn se c t (k + 1)) (if_neg (by rw [h]; decide))
theorem kW_ok {V : Va} (hV : VWf V) {c k : Nat} (hc : c < V.1) (hk : k ≤ 4) : ∀ d, d < V.1 → kW V c k d = (if nI d = nI c then k else V.2.1 d) ∧ kW V c k d ≤ 4 := by
  intro d hd
  have h9 := hV.1
  unfold kW
  by_cases h : d = c
  · rw [if_pos h, if_pos (by rw [h])]
    exact ⟨rfl, hk⟩
  · rw [if_neg h, if_neg (fun hh => h ((nI_eq (by omega) (by omega)).mp hh))]
    exact ⟨rfl, (hV.2 d hd).1⟩
theorem k0_ok {V : Va} (hV : VWf V) : ∀ d, d < V.1 → V.2.1 d = (if nI d = -1 then 0 else V.2.1 d) ∧ V.2.1 d ≤ 4 := fun d hd => by
  have h9 := hV.1
  rw [if_neg (nI_m1 (by omega))]
  exact ⟨rfl, (hV.2 d hd).1⟩
theorem kdA_lt {V : Va} {sn : Nat} {se : Nat → Nat → Nat} {c : Nat} : ∀ t k a, t + k = 5 → a < 2 ^ 5 → kdA V sn se c t k a < 2 ^ 5 := by
  intro t
  induction t with
  | zero => intro k a _ h; exact h
  | succ t ih =>
    intro k a h ha
    simp only [kdA]
    refine ih _ _ (by omega) ?_
    split
    · exact or_lt ha (Nat.pow_lt_pow_right (by omega) (by omega))
    · exact ha
theorem shl1_n {k : Nat} (hk : k < 31) : (1 : Int32) <<< (nI k &&& 31) = nI (2 ^ k) := by
  rw [show (1 : Int32) = nI 1 from rfl, shl_n (by omega) (by rw [Nat.one_mul]; exact Nat.pow_lt_pow_right (by omega) (by omega)), Nat.one_mul]
set_option maxHeartbeats 1000000 in
theorem lp_kdo {S : Scr} {d : Nat} {f : FF} {g : GG} {n B : Nat} {tx : Nat → Nat} {tl : Nat} {V : Va} {M : Nat → Nat → Nat} {uN : Nat} {uL : Nat → Nat → Nat → Nat} {kN : Nat} {kL : Nat → Nat → Nat → Nat} {sn : Nat} {se : Nat → Nat → Nat} (hn : 137 ≤ n) (G : GOk g) (hR : CR n f g tx tl V M uN uL kN kL sn se) (hW : StW B tx tl V M uN uL kN kL sn se) {c : Nat} (hc : c < V.1) : ∀ (t : Nat) (k a : Nat), (t + k = 5) → Wp S (d + 5) 163 4 [some (.ref 0), some (.int (nI c)), some (.int (nI a)), some (.int (nI k))] [] n f g (Is (some (.int (nI (kdA V sn se c t k a)))) n f g) := by
  have h200 := hR.2.1.2.1
  have hC := hR.2.2.1
  have hA := hR.2.2.2.1
  have hK := hR.2.2.2.2.2.1
  have hS := hR.2.2.2.2.2.2
  have hV := hW.2.1
  have hM := hW.2.2.1.1
  have h9 := hV.1
  have hm6 := hM.1
  have hmt := hM.2.1
  have hmi := hM.2.2.1
  intro t
  induction t with
  | zero =>
    intro k a e0
    refine w_iload_n k163_4 rfl ?_
    refine w_iconst k163_5 ?_
    refine w_icmp_ge k163_6 (fun h6 => ?_) (fun h6 => absurd (nI_le (a := 5) (by omega) (by omega)) h6)
    refine w_iload_n k163_37 rfl ?_
    refine w_iret k163_38 mt163 (.int) rfl (rfl) ?_
    exact ⟨rfl, rfl, rfl, rfl⟩
  | succ t ih =>
    intro k a e0
    refine w_iload_n k163_4 rfl ?_
    refine w_iconst k163_5 ?_
    refine w_icmp_ge k163_6 (fun h6 => absurd h6 (nI_ge (b := 5) (by omega) (by omega))) (fun h6 => ?_)
    refine w_aload_n k163_9 rfl rfl ?_
    refine w_getr k163_10 (k := 7) (kc0 hn) (by decide) (r0_7 G) ?_
    refine w_aload_n k163_13 rfl rfl ?_
    refine w_getr k163_14 (k := 2) (kc0 hn) (by decide) (r0_2 G) ?_
    refine w_iload_n k163_17 rfl ?_
    refine w_iload_n k163_18 rfl ?_
    refine w_vI k163_19 mt162 (kc133 hn) ⟨rfl, by decide⟩ [_, _, _] rfl rfl rfl (sp_isSo hn G hS (va17 hn G) hC hV (kW_ok hV hc (by omega)) hW.2.2.2.2.2) ?_
    refine w_if_eq k163_22 (fun h22 => ?_) (fun h22 => ?_)
    ·
      have y1 := bI_0.mp h22
      refine w_iinc k163_31 rfl (ls' := [_, _, _, _]) rfl ?_
      refine w_goto k163_34 ?_
      rw [nI_1 k]
      first
        | (rw [kdA_y y1]; exact ih (k + 1) _ (by omega))
        | (rw [kdA_n y1]; exact ih (k + 1) _ (by omega))
    ·
      have y1 := bI_n0.mp h22
      refine w_iload_n k163_25 rfl ?_
      refine w_iconst k163_26 ?_
      refine w_iload_n k163_27 rfl ?_
      refine w_ishl k163_28 ?_
      rw [shl1_n (by omega)]
      refine w_ior k163_29 ?_
      rw [nI_or]
      refine w_istore_n k163_30 (ls' := [_, _, _, _]) rfl ?_
      refine w_iinc k163_31 rfl (ls' := [_, _, _, _]) rfl ?_
      refine w_goto k163_34 ?_
      rw [nI_1 k]
      first
        | (rw [kdA_y y1]; exact ih (k + 1) _ (by omega))
        | (rw [kdA_n y1]; exact ih (k + 1) _ (by omega))
set_option maxHeartbeats 1000000 in
theorem sp_kdo {S : Scr} {d : Nat} {f : FF} {g : GG} {n B : Nat} {tx : Nat → Nat} {tl : Nat} {V : Va} {M : Nat → Nat → Nat} {uN : Nat} {uL : Nat → Nat → Nat → Nat} {kN : Nat} {kL : Nat → Nat → Nat → Nat} {sn : Nat} {se : Nat → Nat → Nat} (hn : 137 ≤ n) (G : GOk g) (hR : CR n f g tx tl V M uN uL kN kL sn se) (hW : StW B tx tl V M uN uL kN kL sn se) {c : Nat} (hc : c < V.1) : Wp S (d + 5) 163 0 [some (.ref 0), some (.int (nI c)), none, none] [] n f g (Is (some (.int (nI (kdA V sn se c 5 0 0)))) n f g) := by
  refine w_iconst k163_0 ?_
  refine w_istore_n k163_1 (ls' := [_, _, _, _]) rfl ?_
  refine w_iconst k163_2 ?_
  refine w_istore_n k163_3 (ls' := [_, _, _, _]) rfl ?_
  exact lp_kdo hn G hR hW hc 5 0 0 rfl
set_option maxHeartbeats 1000000 in
theorem sp_kinds {S : Scr} {d : Nat} {f : FF} {g : GG} {n B : Nat} {tx : Nat → Nat} {tl : Nat} {V : Va} {M : Nat → Nat → Nat} {uN : Nat} {uL : Nat → Nat → Nat → Nat} {kN : Nat} {kL : Nat → Nat → Nat → Nat} {sn : Nat} {se : Nat → Nat → Nat} (hn : 137 ≤ n) (G : GOk g) (hR : CR n f g tx tl V M uN uL kN kL sn se) (hW : StW B tx tl V M uN uL kN kL sn se) {c : Nat} (hc : c < V.1) : Wp S (d + 6) 164 0 [some (.ref 0), some (.int (nI c))] [] n f g (CQ n f g (nI (kdA V sn se c 5 0 0)) tx tl V M uN uL kN kL sn se) := by
  have h200 := hR.2.1.2.1
  have hC := hR.2.2.1
  have hA := hR.2.2.2.1
  have hK := hR.2.2.2.2.2.1
  have hS := hR.2.2.2.2.2.2
  have hV := hW.2.1
  have hM := hW.2.2.1.1
  have h9 := hV.1
  have hm6 := hM.1
  have hmt := hM.2.1
  have hmi := hM.2.2.1
  refine w_aload_n k164_0 rfl rfl ?_
  refine w_getr k164_1 (k := 2) (kc0 hn) (by decide) (r0_2 G) ?_
  refine w_iload_n k164_4 rfl ?_
  refine w_vI k164_5 mt29 (kc17 hn) ⟨rfl, by decide⟩ [_] rfl rfl rfl (sp_Vhas (va17 hn G) hC h9 _) ?_
  rw [has_dec (by omega) (by omega)]
  refine w_if_eq k164_8 (fun h8 => absurd h8 (bI_n0.mpr (decide_eq_true hc))) (fun h8 => ?_)
  refine w_aload_n k164_11 rfl rfl ?_
  refine w_iload_n k164_12 rfl ?_
  refine w_vI k164_13 mt163 (kc0 hn) ⟨rfl, by decide⟩ [_] rfl rfl rfl (sp_kdo hn G hR hW hc) ?_
  refine w_goto k164_16 ?_
  refine w_iret k164_20 mt164 (.int) rfl (rfl) ?_
  exact CQ.same hR
set_option maxHeartbeats 1000000 in
theorem sp_kinds0 {S : Scr} {d : Nat} {f : FF} {g : GG} {n B : Nat} {tx : Nat → Nat} {tl : Nat} {V : Va} {M : Nat → Nat → Nat} {uN : Nat} {uL : Nat → Nat → Nat → Nat} {kN : Nat} {kL : Nat → Nat → Nat → Nat} {sn : Nat} {se : Nat → Nat → Nat} (hn : 137 ≤ n) (G : GOk g) (hR : CR n f g tx tl V M uN uL kN kL sn se) (hW : StW B tx tl V M uN uL kN kL sn se) {x : Int32} (hb : ¬ (0 ≤ x ∧ x < nI V.1)) : Wp S (d + 6) 164 0 [some (.ref 0), some (.int x)] [] n f g (CQ n f g (-1) tx tl V M uN uL kN kL sn se) := by
  have h200 := hR.2.1.2.1
  have hC := hR.2.2.1
  have hA := hR.2.2.2.1
  have hK := hR.2.2.2.2.2.1
  have hS := hR.2.2.2.2.2.2
  have hV := hW.2.1
  have hM := hW.2.2.1.1
  have h9 := hV.1
  have hm6 := hM.1
  have hmt := hM.2.1
  have hmi := hM.2.2.1
  refine w_aload_n k164_0 rfl rfl ?_
  refine w_getr k164_1 (k := 2) (kc0 hn) (by decide) (r0_2 G) ?_
  refine w_iload_n k164_4 rfl ?_
  refine w_vI k164_5 mt29 (kc17 hn) ⟨rfl, by decide⟩ [_] rfl rfl rfl (sp_Vhas (va17 hn G) hC h9 _) ?_
  refine w_if_eq k164_8 (fun h8 => ?_) (fun h8 => absurd (bI_0.mpr (decide_eq_false hb)) h8)
  refine w_iconst k164_19 ?_
  refine w_iret k164_20 mt164 (.int) rfl (rfl) ?_
  exact CQ.same hR
abbrev kdv (V : Va) (sn : Nat) (se : Nat → Nat → Nat) (c : Nat) : Nat := kdA V sn se c 5 0 0
def liA (V : Va) (sn : Nat) (se : Nat → Nat → Nat) : Nat → Nat → Nat → Nat
  | 0, _, a => a
  | t + 1, c, a => liA V sn se t (c + 1) (if kdv V sn se c &&& (511 ^^^ 2 ^ V.2.1 c) = 0 then a else a ||| 2 ^ c)
theorem liA_n {V : Va} {sn : Nat} {se : Nat → Nat → Nat} {t c a : Nat} (h : kdv V sn se c &&& (511 ^^^ 2 ^ V.2.1 c) = 0) : liA V sn se (t + 1) c a = liA V sn se t (c + 1) a := congrArg (liA V sn se t (c + 1)) (if_pos h)
theorem liA_y {V : Va} {sn : Nat} {se : Nat → Nat → Nat} {t c a : Nat} (h : ¬ kdv V sn se c &&& (511 ^^^ 2 ^ V.2.1 c) = 0) : liA V sn se (t + 1) c a = liA V sn se t (c + 1) (a ||| 2 ^ c) := congrArg (liA V sn se t (c + 1)) (if_neg h)
set_option maxHeartbeats 1000000 in
theorem lp_lies {S : Scr} {d : Nat} {f : FF} {g : GG} {n B : Nat} {tx : Nat → Nat} {tl : Nat} {V : Va} {M : Nat → Nat → Nat} {uN : Nat} {uL : Nat → Nat → Nat → Nat} {kN : Nat} {kL : Nat → Nat → Nat → Nat} {sn : Nat} {se : Nat → Nat → Nat} (hn : 137 ≤ n) (G : GOk g) (hR : CR n f g tx tl V M uN uL kN kL sn se) (hW : StW B tx tl V M uN uL kN kL sn se)  : ∀ (t : Nat) (c a : Nat) (q : Option Value), (t + c = V.1) → Wp S (d + 6) 167 26 [some (.ref 0), some (.int (nI a)), some (.int (nI c)), q] [] n f g (CQ n f g (nI (liA V sn se t c a)) tx tl V M uN uL kN kL sn se) := by
  have h200 := hR.2.1.2.1
  have hC := hR.2.2.1
  have hA := hR.2.2.2.1
  have hK := hR.2.2.2.2.2.1
  have hS := hR.2.2.2.2.2.2
  have hV := hW.2.1
  have hM := hW.2.2.1.1
  have h9 := hV.1
  have hm6 := hM.1
  have hmt := hM.2.1
  have hmi := hM.2.2.1
  intro t
  induction t with
  | zero =>
    intro c a q e0
    refine w_iload_n k167_26 rfl ?_
    refine w_aload_n k167_27 rfl rfl ?_
    refine w_getr k167_28 (k := 2) (kc0 hn) (by decide) (r0_2 G) ?_
    refine w_vI k167_31 mt72 (kc17 hn) ⟨rfl, by decide⟩ [] rfl rfl rfl (sp_Vsize (va17 hn G) hC) ?_
    refine w_icmp_ge k167_34 (fun h34 => ?_) (fun h34 => absurd (nI_le (by omega) (by omega)) h34)
    refine w_iload_n k167_72 rfl ?_
    refine w_iret k167_73 mt167 (.int) rfl (rfl) ?_
    exact CQ.same hR
  | succ t ih =>
    intro c a q e0
    refine w_iload_n k167_26 rfl ?_
    refine w_aload_n k167_27 rfl rfl ?_
    refine w_getr k167_28 (k := 2) (kc0 hn) (by decide) (r0_2 G) ?_
    have hc : c < V.1 := by omega
    have hk4 := (hV.2 c hc).1
    have hkl := kdA_lt (V := V) (sn := sn) (se := se) (c := c) 5 0 0 rfl (by decide)
    refine w_vI k167_31 mt72 (kc17 hn) ⟨rfl, by decide⟩ [] rfl rfl rfl (sp_Vsize (va17 hn G) hC) ?_
    refine w_icmp_ge k167_34 (fun h34 => absurd h34 (nI_ge (by omega) (by omega))) (fun h34 => ?_)
    refine w_aload_n k167_37 rfl rfl ?_
    refine w_iload_n k167_38 rfl ?_
    refine w_vI k167_39 mt163 (kc0 hn) ⟨rfl, by decide⟩ [_] rfl rfl rfl (sp_kdo hn G hR hW hc) ?_
    refine w_iconst k167_42 ?_
    refine w_aload_n k167_43 rfl rfl ?_
    refine w_getr k167_44 (k := 2) (kc0 hn) (by decide) (r0_2 G) ?_
    refine w_iload_n k167_47 rfl ?_
    refine w_vI k167_48 mt41 (kc17 hn) ⟨rfl, by decide⟩ [_] rfl rfl rfl (sp_kindOf (va17 hn G) hC h9 hc) ?_
    refine w_ishl k167_51 ?_
    refine w_iconst k167_52 ?_
    refine w_ixor k167_53 ?_
    refine w_iand k167_54 ?_
    refine w_top (nI (kdv V sn se c &&& (511 ^^^ 2 ^ V.2.1 c))) (ah_n (by omega) (by omega)) ?_
    refine w_istore_n k167_55 (ls' := [_, _, _, _]) rfl ?_
    refine w_iload_n k167_56 rfl ?_
    have hal : kdv V sn se c &&& (511 ^^^ 2 ^ V.2.1 c) < 2 ^ 5 := Nat.lt_of_le_of_lt Nat.and_le_left hkl
    refine w_if_eq k167_57 (fun h57 => ?_) (fun h57 => ?_)
    ·
      have y1 : kdv V sn se c &&& (511 ^^^ 2 ^ V.2.1 c) = 0 := (nI_eq (b := 0) (by omega) (by omega)).mp h57
      refine w_iinc k167_66 rfl (ls' := [_, _, _, _]) rfl ?_
      refine w_goto k167_69 ?_
      rw [nI_1 c]
      first
        | (rw [liA_y y1]; exact ih (c + 1) _ _ (by omega))
        | (rw [liA_n y1]; exact ih (c + 1) _ _ (by omega))
    ·
      have y1 : ¬ kdv V sn se c &&& (511 ^^^ 2 ^ V.2.1 c) = 0 := fun hh => h57 (by rw [hh]; rfl)
      refine w_iload_n k167_60 rfl ?_
      refine w_iconst k167_61 ?_
      refine w_iload_n k167_62 rfl ?_
      refine w_ishl k167_63 ?_
      rw [shl1_n (by omega)]
      refine w_ior k167_64 ?_
      rw [nI_or]
      refine w_istore_n k167_65 (ls' := [_, _, _, _]) rfl ?_
      refine w_iinc k167_66 rfl (ls' := [_, _, _, _]) rfl ?_
      refine w_goto k167_69 ?_
      rw [nI_1 c]
      first
        | (rw [liA_y y1]; exact ih (c + 1) _ _ (by omega))
        | (rw [liA_n y1]; exact ih (c + 1) _ _ (by omega))
set_option maxHeartbeats 1000000 in
theorem sp_lies {S : Scr} {d : Nat} {f : FF} {g : GG} {n B : Nat} {tx : Nat → Nat} {tl : Nat} {V : Va} {M : Nat → Nat → Nat} {uN : Nat} {uL : Nat → Nat → Nat → Nat} {kN : Nat} {kL : Nat → Nat → Nat → Nat} {sn : Nat} {se : Nat → Nat → Nat} (hn : 137 ≤ n) (G : GOk g) (hR : CR n f g tx tl V M uN uL kN kL sn se) (hW : StW B tx tl V M uN uL kN kL sn se)  : Wp S (d + 6) 167 0 [some (.ref 0), none, none, none] [] n f g (CQ n f g (nI (liA V sn se V.1 0 (if soW V V.2.1 se sn 0 = true then 512 else 0))) tx tl V M uN uL kN kL sn se) := by
  have h200 := hR.2.1.2.1
  have hC := hR.2.2.1
  have hA := hR.2.2.2.1
  have hK := hR.2.2.2.2.2.1
  have hS := hR.2.2.2.2.2.2
  have hV := hW.2.1
  have hM := hW.2.2.1.1
  have h9 := hV.1
  have hm6 := hM.1
  have hmt := hM.2.1
  have hmi := hM.2.2.1
  refine w_aload_n k167_0 rfl rfl ?_
  refine w_getr k167_1 (k := 7) (kc0 hn) (by decide) (r0_7 G) ?_
  refine w_aload_n k167_4 rfl rfl ?_
  refine w_getr k167_5 (k := 2) (kc0 hn) (by decide) (r0_2 G) ?_
  refine w_iconst k167_8 ?_
  refine w_iconst k167_9 ?_
  refine w_vI k167_10 mt162 (kc133 hn) ⟨rfl, by decide⟩ [_, _, _] rfl rfl rfl (sp_isSo (ok := 0) hn G hS (va17 hn G) hC hV (k0_ok hV) hW.2.2.2.2.2) ?_
  refine w_if_eq k167_13 (fun h13 => ?_) (fun h13 => ?_)
  ·
    have y1 := bI_0.mp h13
    rw [if_neg (by rw [y1]; decide)]
    refine w_iconst k167_22 ?_
    refine w_istore_n k167_23 (ls' := [_, _, _, _]) rfl ?_
    refine w_iconst k167_24 ?_
    refine w_istore_n k167_25 (ls' := [_, _, _, _]) rfl ?_
    first
      | exact lp_lies hn G hR hW V.1 0 512 none rfl
      | exact lp_lies hn G hR hW V.1 0 0 none rfl
  ·
    have y1 := bI_n0.mp h13
    rw [if_pos y1]
    refine w_sipush k167_16 ?_
    refine w_goto k167_19 ?_
    refine w_istore_n k167_23 (ls' := [_, _, _, _]) rfl ?_
    refine w_iconst k167_24 ?_
    refine w_istore_n k167_25 (ls' := [_, _, _, _]) rfl ?_
    first
      | exact lp_lies hn G hR hW V.1 0 512 none rfl
      | exact lp_lies hn G hR hW V.1 0 0 none rfl
def brA (V : Va) (M : Nat → Nat → Nat) : Nat → Nat → Nat → Option Nat
  | 0, _, h => some h
  | t + 1, m, h => if M (m + 1) 1 = 2 then brA V M t (m + 1) h else if 240 < mgW V (M 0 0) (M (m + 1)) then none else brA V M t (m + 1) (h ||| (ahW V (M (m + 1)) &&& M 0 1))
def brV (r : Option Nat) (w : Nat) : Int32 := match r with
  | none => -4
  | some h => if w = 0 then nI (popc h 9) else nI h
set_option maxHeartbeats 1000000 in
theorem lp_bring {S : Scr} {d : Nat} {f : FF} {g : GG} {n B : Nat} {tx : Nat → Nat} {tl : Nat} {V : Va} {M : Nat → Nat → Nat} {uN : Nat} {uL : Nat → Nat → Nat → Nat} {kN : Nat} {kL : Nat → Nat → Nat → Nat} {sn : Nat} {se : Nat → Nat → Nat} (hn : 137 ≤ n) (G : GOk g) (hR : CR n f g tx tl V M uN uL kN kL sn se) (hW : StW B tx tl V M uN uL kN kL sn se) {w : Nat} (hw : w < 2) : ∀ (t : Nat) (m h : Nat) (q : Option Value), (t + m = M 0 2) → (h < 512) → Wp S (d + 6) 144 15 [some (.ref 0), some (.int (nI w)), some (.int (nI h)), some (.int (nI m)), q] [] n f g (CQ n f g (brV (brA V M t m h) w) tx tl V M uN uL kN kL sn se) := by
  have h200 := hR.2.1.2.1
  have hC := hR.2.2.1
  have hA := hR.2.2.2.1
  have hK := hR.2.2.2.2.2.1
  have hS := hR.2.2.2.2.2.2
  have hV := hW.2.1
  have hM := hW.2.2.1.1
  have h9 := hV.1
  have hm6 := hM.1
  have hmt := hM.2.1
  have hmi := hM.2.2.1
  intro t
  induction t with
  | zero =>
    intro m h q e0 e1
    refine w_iload_n k144_15 rfl ?_
    refine w_aload_n k144_16 rfl rfl ?_
    refine w_getr k144_17 (k := 3) (kc0 hn) (by decide) (r0_3 G) ?_
    refine w_vI k144_20 mt115 (kc21 hn) ⟨rfl, by decide⟩ [] rfl rfl rfl (sp_Msize (mo21 hn G) hA) ?_
    refine w_icmp_ge k144_23 (fun h23 => ?_) (fun h23 => absurd (nI_le (by omega) (by omega)) h23)
    refine w_iload_n k144_95 rfl ?_
    refine w_if_ne k144_96 (fun h96 => ?_) (fun h96 => ?_)
    ·
      have y3 : ¬ w = 0 := fun hh => h96 (by rw [hh]; rfl)
      refine w_iload_n k144_106 rfl ?_
      refine w_iret k144_107 mt144 (.int) rfl (rfl) ?_
      first
        | (rw [show brV (brA V M 0 m h) w = nI (popc h 9) from if_pos y3]; exact CQ.same hR)
        | (rw [show brV (brA V M 0 m h) w = nI h from if_neg y3]; exact CQ.same hR)
    ·
      have y3 : w = 0 := (nI_eq (b := 0) (by omega) (by omega)).mp h96
      refine w_iload_n k144_99 rfl ?_
      refine w_sI k144_100 (by decide) mt143 [_] rfl rfl rfl (sp_bitCount e1) ?_
      refine w_goto k144_103 ?_
      refine w_iret k144_107 mt144 (.int) rfl (rfl) ?_
      first
        | (rw [show brV (brA V M 0 m h) w = nI (popc h 9) from if_pos y3]; exact CQ.same hR)
        | (rw [show brV (brA V M 0 m h) w = nI h from if_neg y3]; exact CQ.same hR)
  | succ t ih =>
    intro m h q e0 e1
    refine w_iload_n k144_15 rfl ?_
    refine w_aload_n k144_16 rfl rfl ?_
    refine w_getr k144_17 (k := 3) (kc0 hn) (by decide) (r0_3 G) ?_
    have hm : m < M 0 2 := by omega
    have hkd := (mo21 hn G).2.2.2.1 m (by omega)
    have hmr := hA.2.2.2 m hm
    have hm12 := hM.l12 h9 m hm
    have hmw := hM.2.2.2 m hm
    have hlt := mgW_lt hV hmw
    have hal := ahW_lt hV hmw.2.2.1
    have hal2 : ahW V (M (m + 1)) &&& M 0 1 < 2 ^ 9 := Nat.lt_of_le_of_lt Nat.and_le_left hal
    refine w_vI k144_20 mt115 (kc21 hn) ⟨rfl, by decide⟩ [] rfl rfl rfl (sp_Msize (mo21 hn G) hA) ?_
    refine w_icmp_ge k144_23 (fun h23 => absurd h23 (nI_ge (by omega) (by omega))) (fun h23 => ?_)
    refine w_aload_n k144_26 rfl rfl ?_
    refine w_getr k144_27 (k := 3) (kc0 hn) (by decide) (r0_3 G) ?_
    refine w_iload_n k144_30 rfl ?_
    refine w_vI k144_31 mt30 (kc21 hn) ⟨rfl, by decide⟩ [_] rfl rfl rfl (sp_get (j := m) (mo21 hn G) (by omega)) ?_
    refine w_astore k144_34 rfl (ls' := [_, _, _, _, _]) rfl ?_
    refine w_aload k144_36 rfl rfl ?_
    refine w_geti k144_38 (k := 1) hkd (by decide) ?_
    rw [hmr 1 (by omega)]
    refine w_iconst k144_41 ?_
    refine w_icmp_ne k144_42 (fun h42 => ?_) (fun h42 => ?_)
    ·
      have y1 : ¬ M (m + 1) 1 = 2 := fun hh => h42 (by rw [hh]; rfl)
      refine w_aload k144_48 rfl rfl ?_
      refine w_aload_n k144_50 rfl rfl ?_
      refine w_getr k144_51 (k := 2) (kc0 hn) (by decide) (r0_2 G) ?_
      refine w_aload_n k144_54 rfl rfl ?_
      refine w_getr k144_55 (k := 3) (kc0 hn) (by decide) (r0_3 G) ?_
      refine w_vI k144_58 mt116 (kc21 hn) ⟨rfl, by decide⟩ [] rfl rfl rfl (sp_Mmin (mo21 hn G) hA) ?_
      refine w_vI k144_61 mt133 hkd ⟨rfl, by decide⟩ [_, _] rfl rfl rfl (sp_msgMin hkd hmr (va17 hn G) hC hV hmw.2.2.1 hmw.2.2.2.2.2.2.2.2 hmt (fun hh => (hmw.2.2.2.2.2.2.1 hh).1) hmw.2.1) ?_
      refine w_sipush k144_64 ?_
      refine w_icmp_le k144_67 (fun h67 => ?_) (fun h67 => ?_)
      ·
        have y2 : ¬ 240 < mgW V (M 0 0) (M (m + 1)) := Nat.not_lt.mpr ((nI_leI (b := 240) (by omega) (by omega)).mp h67)
        refine w_iload_n k144_73 rfl ?_
        refine w_aload_n k144_74 rfl rfl ?_
        refine w_getr k144_75 (k := 3) (kc0 hn) (by decide) (r0_3 G) ?_
        refine w_aload k144_78 rfl rfl ?_
        refine w_aload_n k144_80 rfl rfl ?_
        refine w_getr k144_81 (k := 2) (kc0 hn) (by decide) (r0_2 G) ?_
        refine w_vI k144_84 mt135 (kc21 hn) ⟨rfl, by decide⟩ [_, _] rfl rfl rfl (sp_holding hkd hmr (va17 hn G) hC hV hmw.2.2.1 hmw.2.2.2.2.2.2.2.2 (mo21 hn G) hA) ?_
        refine w_ior k144_87 ?_
        rw [nI_or]
        refine w_istore_n k144_88 (ls' := [_, _, _, _, _]) rfl ?_
        refine w_iinc k144_89 rfl (ls' := [_, _, _, _, _]) rfl ?_
        refine w_goto k144_92 ?_
        rw [nI_1 m]
        first
          | (rw [show brA V M (t + 1) m h = brA V M t (m + 1) h from if_pos y1]; exact ih (m + 1) h _ (by omega) e1)
          | (rw [show brA V M (t + 1) m h = brA V M t (m + 1) (h ||| (ahW V (M (m + 1)) &&& M 0 1)) from by simp only [brA]; rw [if_neg y1, if_neg y2]]; exact ih (m + 1) _ _ (by omega) (or_lt (k := 9) e1 hal2))
      ·
        have y2 : 240 < mgW V (M 0 0) (M (m + 1)) := Nat.not_le.mp fun hh => h67 ((nI_leI (b := 240) (by omega) (by omega)).mpr hh)
        refine w_bipush k144_70 ?_
        refine w_iret k144_72 mt144 (.int) rfl (rfl) ?_
        rw [show brA V M (t + 1) m h = none from by simp only [brA]; rw [if_neg y1, if_pos y2]]
        exact CQ.same hR
    ·
      have y1 : M (m + 1) 1 = 2 := (nI_eq (b := 2) (by omega) (by omega)).mp h42
      refine w_goto k144_45 ?_
      refine w_iinc k144_89 rfl (ls' := [_, _, _, _, _]) rfl ?_
      refine w_goto k144_92 ?_
      rw [nI_1 m]
      first
        | (rw [show brA V M (t + 1) m h = brA V M t (m + 1) h from if_pos y1]; exact ih (m + 1) h _ (by omega) e1)
        | (rw [show brA V M (t + 1) m h = brA V M t (m + 1) (h ||| (ahW V (M (m + 1)) &&& M 0 1)) from by simp only [brA]; rw [if_neg y1, if_neg y2]]; exact ih (m + 1) _ _ (by omega) (or_lt (k := 9) e1 hal2))
set_option maxHeartbeats 1000000 in
theorem sp_bring {S : Scr} {d : Nat} {f : FF} {g : GG} {n B : Nat} {tx : Nat → Nat} {tl : Nat} {V : Va} {M : Nat → Nat → Nat} {uN : Nat} {uL : Nat → Nat → Nat → Nat} {kN : Nat} {kL : Nat → Nat → Nat → Nat} {sn : Nat} {se : Nat → Nat → Nat} (hn : 137 ≤ n) (G : GOk g) (hR : CR n f g tx tl V M uN uL kN kL sn se) (hW : StW B tx tl V M uN uL kN kL sn se) {w : Nat} (hw : w < 2) : Wp S (d + 6) 144 0 [some (.ref 0), some (.int (nI w)), none, none, none] [] n f g (CQ n f g (brV (brA V M (M 0 2) 0 0) w) tx tl V M uN uL kN kL sn se) := by
  have h200 := hR.2.1.2.1
  have hC := hR.2.2.1
  have hA := hR.2.2.2.1
  have hK := hR.2.2.2.2.2.1
  have hS := hR.2.2.2.2.2.2
  have hV := hW.2.1
  have hM := hW.2.2.1.1
  have h9 := hV.1
  have hm6 := hM.1
  have hmt := hM.2.1
  have hmi := hM.2.2.1
  refine w_iload_n k144_0 rfl ?_
  refine w_iconst k144_1 ?_
  refine w_iconst k144_2 ?_
  refine w_sI k144_3 (by decide) mt22 [_, _, _] rfl rfl rfl (sp_isBetween _ _ _) ?_
  refine w_if_ne k144_6 (fun h6 => ?_) (fun h6 => absurd h6 (bI_n0.mpr (decide_eq_true ⟨nI_pos' (by omega), (nI_leI (b := 1) (by omega) (by omega)).mpr (by omega)⟩)))
  refine w_iconst k144_11 ?_
  refine w_istore_n k144_12 (ls' := [_, _, _, _, _]) rfl ?_
  refine w_iconst k144_13 ?_
  refine w_istore_n k144_14 (ls' := [_, _, _, _, _]) rfl ?_
  exact lp_bring hn G hR hW hw _ 0 0 none rfl (by omega)
set_option maxHeartbeats 1000000 in
theorem sp_bring0 {S : Scr} {d : Nat} {f : FF} {g : GG} {n B : Nat} {tx : Nat → Nat} {tl : Nat} {V : Va} {M : Nat → Nat → Nat} {uN : Nat} {uL : Nat → Nat → Nat → Nat} {kN : Nat} {kL : Nat → Nat → Nat → Nat} {sn : Nat} {se : Nat → Nat → Nat} (hn : 137 ≤ n) (G : GOk g) (hR : CR n f g tx tl V M uN uL kN kL sn se) (hW : StW B tx tl V M uN uL kN kL sn se) {x : Int32} (hb : ¬ (0 ≤ x ∧ x ≤ 1)) : Wp S (d + 6) 144 0 [some (.ref 0), some (.int x), none, none, none] [] n f g (CQ n f g (-1) tx tl V M uN uL kN kL sn se) := by
  have h200 := hR.2.1.2.1
  have hC := hR.2.2.1
  have hA := hR.2.2.2.1
  have hK := hR.2.2.2.2.2.1
  have hS := hR.2.2.2.2.2.2
  have hV := hW.2.1
  have hM := hW.2.2.1.1
  have h9 := hV.1
  have hm6 := hM.1
  have hmt := hM.2.1
  have hmi := hM.2.2.1
  refine w_iload_n k144_0 rfl ?_
  refine w_iconst k144_1 ?_
  refine w_iconst k144_2 ?_
  refine w_sI k144_3 (by decide) mt22 [_, _, _] rfl rfl rfl (sp_isBetween _ _ _) ?_
  refine w_if_ne k144_6 (fun h6 => absurd (bI_0.mpr (decide_eq_false hb)) h6) (fun h6 => ?_)
  refine w_iconst k144_9 ?_
  refine w_iret k144_10 mt144 (.int) rfl (rfl) ?_
  exact CQ.same hR
def mtA (V : Va) (i j : Nat) : Nat → Nat → (Nat → Nat → Nat) → Int32
  | 0, _, _ => -4
  | t + 1, k, M => if M (j + 1) 1 = 1 ∧ M (i + 1) 1 = 1 ∧ M (i + 1) 2 = M (j + 1) 2 then nI k else mtA V i j t (k + 1) (mnA V M)
set_option maxHeartbeats 1000000 in
theorem lp_meet {S : Scr} {d : Nat} {f : FF} {g : GG} {n i j : Nat} {V : Va} (hn : 137 ≤ n) (G : GOk g) (hC : CVa f 17 V) (hV : VWf V) : ∀ (t k : Nat) (f1 : FF) (M : Nat → Nat → Nat), t + k = 241 → OffM f f1 30 → CMo f1 30 M → MoW V M → M 0 0 + t < 2 ^ 20 → i < M 0 2 → j < M 0 2 → Wp S (d + 6) 149 42 [some (.ref 0), some (.int (nI i)), some (.int (nI j)), some (.int (nI k))] [] n f1 g (fun v n' f' g' => v = some (.int (mtA V i j t k M)) ∧ n' = n ∧ g' = g ∧ OffM f f' 30) := by
  intro t
  induction t with
  | zero =>
    intro k f1 M e0 e1 e2 e3 e4 e5 e6
    refine w_iload_n k149_42 rfl ?_
    refine w_sipush k149_43 ?_
    refine w_icmp_gt k149_46 (fun h46 => ?_) (fun h46 => absurd ((nI_ltI (a := 240) (by omega) (by omega)).mpr (by omega)) h46)
    refine w_bipush k149_80 ?_
    refine w_iret k149_82 mt149 (.int) rfl (rfl) ?_
    exact ⟨rfl, rfl, rfl, e1⟩
  | succ t ih =>
    intro k f1 M e0 e1 e2 e3 e4 e5 e6
    refine w_iload_n k149_42 rfl ?_
    refine w_sipush k149_43 ?_
    refine w_icmp_gt k149_46 (fun h46 => absurd h46 (fun hh => absurd ((nI_ltI (a := 240) (by omega) (by omega)).mp hh) (by omega))) (fun h46 => ?_)
    refine w_aload_n k149_49 rfl rfl ?_
    refine w_getr k149_50 (k := 4) (kc0 hn) (by decide) (r0_4 G) ?_
    refine w_iload_n k149_53 rfl ?_
    refine w_iload_n k149_54 rfl ?_
    refine w_vI k149_55 mt148 (kc30 hn) ⟨rfl, by decide⟩ [_, _] rfl rfl rfl (sp_together (mo30 hn G) e2 e3 hV e5 e6) ?_
    refine w_if_eq k149_58 (fun h58 => ?_) (fun h58 => ?_)
    ·
      have y1 := of_decide_eq_false (bI_0.mp h58)
      refine w_aload_n k149_63 rfl rfl ?_
      refine w_getr k149_64 (k := 4) (kc0 hn) (by decide) (r0_4 G) ?_
      refine w_aload_n k149_67 rfl rfl ?_
      refine w_getr k149_68 (k := 2) (kc0 hn) (by decide) (r0_2 G) ?_
      refine w_vA k149_71 mt104 (kc30 hn) ⟨rfl, by decide⟩ [_] rfl rfl rfl (sp_minute (mo30 hn G) e2 (va17 hn G) (hC.mo e1 (by omega)) hV e3 (by omega)) ?_
      rintro _ _ f2 _ ⟨rfl, rfl, rfl, hO, hM2⟩
      refine w_iinc k149_74 rfl (ls' := [_, _, _, _]) rfl ?_
      refine w_goto k149_77 ?_
      rw [nI_1, show mtA V i j (t + 1) k M = mtA V i j t (k + 1) (mnA V M) from if_neg y1]
      exact ih (k + 1) f2 (mnA V M) (by omega) (e1.tr hO) hM2 (e3.min hV (by omega)) (by show M 0 0 + 1 + t < 2 ^ 20; omega) e5 e6
    ·
      have y1 := of_decide_eq_true (bI_n0.mp h58)
      refine w_iload_n k149_61 rfl ?_
      refine w_iret k149_62 mt149 (.int) rfl (rfl) ?_
      rw [show mtA V i j (t + 1) k M = nI k from if_pos y1]
      exact ⟨rfl, rfl, rfl, e1⟩
set_option maxHeartbeats 1000000 in
theorem sp_meet {S : Scr} {d : Nat} {f : FF} {g : GG} {n B : Nat} {tx : Nat → Nat} {tl : Nat} {V : Va} {M : Nat → Nat → Nat} {uN : Nat} {uL : Nat → Nat → Nat → Nat} {kN : Nat} {kL : Nat → Nat → Nat → Nat} {sn : Nat} {se : Nat → Nat → Nat} (hn : 137 ≤ n) (G : GOk g) (hR : CR n f g tx tl V M uN uL kN kL sn se) (hW : StW B tx tl V M uN uL kN kL sn se) {i j : Nat} (hi : i < M 0 2) (hj : j < M 0 2) (hij : ¬ i = j) (hB : M 0 0 + 241 < 2 ^ 20) : Wp S (d + 6) 149 0 [some (.ref 0), some (.int (nI i)), some (.int (nI j)), none] [] n f g (CQ n f g (mtA V i j 241 0 M) tx tl V M uN uL kN kL sn se) := by
  have h200 := hR.2.1.2.1
  have hC := hR.2.2.1
  have hA := hR.2.2.2.1
  have hK := hR.2.2.2.2.2.1
  have hS := hR.2.2.2.2.2.2
  have hV := hW.2.1
  have hM := hW.2.2.1.1
  have h9 := hV.1
  have hm6 := hM.1
  have hmt := hM.2.1
  have hmi := hM.2.2.1
  refine w_aload_n k149_0 rfl rfl ?_
  refine w_getr k149_1 (k := 3) (kc0 hn) (by decide) (r0_3 G) ?_
  refine w_iload_n k149_4 rfl ?_
  refine w_vI k149_5 mt82 (kc21 hn) ⟨rfl, by decide⟩ [_] rfl rfl rfl (sp_Mhas (mo21 hn G) hA _) ?_
  rw [has_dec (by omega) (by omega)]
  refine w_if_eq k149_8 (fun h8 => absurd h8 (bI_n0.mpr (decide_eq_true hi))) (fun h8 => ?_)
  refine w_aload_n k149_11 rfl rfl ?_
  refine w_getr k149_12 (k := 3) (kc0 hn) (by decide) (r0_3 G) ?_
  refine w_iload_n k149_15 rfl ?_
  refine w_vI k149_16 mt82 (kc21 hn) ⟨rfl, by decide⟩ [_] rfl rfl rfl (sp_Mhas (mo21 hn G) hA _) ?_
  rw [has_dec (by omega) (by omega)]
  refine w_if_eq k149_19 (fun h19 => absurd h19 (bI_n0.mpr (decide_eq_true hj))) (fun h19 => ?_)
  refine w_iload_n k149_22 rfl ?_
  refine w_iload_n k149_23 rfl ?_
  refine w_icmp_ne k149_24 (fun h24 => ?_) (fun h24 => absurd h24 (fun hh => hij ((nI_eq (by omega) (by omega)).mp hh)))
  refine w_aload_n k149_29 rfl rfl ?_
  refine w_getr k149_30 (k := 4) (kc0 hn) (by decide) (r0_4 G) ?_
  refine w_aload_n k149_33 rfl rfl ?_
  refine w_getr k149_34 (k := 3) (kc0 hn) (by decide) (r0_3 G) ?_
  refine w_vA k149_37 mt46 (kc30 hn) ⟨rfl, by decide⟩ [_] rfl rfl rfl (sp_copy (mo30 hn G) (mo21 hn G) hA hm6 (by omega)) ?_
  rintro _ _ f2 _ ⟨rfl, rfl, rfl, hO, hM2⟩
  have hC2 := hC.mo hO (by omega)
  refine w_iconst k149_40 ?_
  refine w_istore_n k149_41 (ls' := [_, _, _, _]) rfl ?_
  refine (lp_meet hn G hC2 hV 241 0 f2 M rfl OffM.rf hM2 hM hB hi hj).mono ?_
  rintro _ _ f3 _ ⟨rfl, rfl, rfl, hO3⟩
  exact ⟨rfl, rfl, fun x hx => by rw [hO3 x (by omega), hO x (by omega)], fun _ _ => rfl, hR.eq hW (fun x hx => by rw [hO3 x (by omega), hO x (by omega)])⟩
set_option maxHeartbeats 1000000 in
theorem sp_meet0 {S : Scr} {d : Nat} {f : FF} {g : GG} {n B : Nat} {tx : Nat → Nat} {tl : Nat} {V : Va} {M : Nat → Nat → Nat} {uN : Nat} {uL : Nat → Nat → Nat → Nat} {kN : Nat} {kL : Nat → Nat → Nat → Nat} {sn : Nat} {se : Nat → Nat → Nat} (hn : 137 ≤ n) (G : GOk g) (hR : CR n f g tx tl V M uN uL kN kL sn se) (hW : StW B tx tl V M uN uL kN kL sn se) {x y : Int32} (hb : ¬ ((0 ≤ x ∧ x < nI (M 0 2)) ∧ (0 ≤ y ∧ y < nI (M 0 2)) ∧ ¬ x = y)) : Wp S (d + 6) 149 0 [some (.ref 0), some (.int x), some (.int y), none] [] n f g (CQ n f g (-1) tx tl V M uN uL kN kL sn se) := by
  have h200 := hR.2.1.2.1
  have hC := hR.2.2.1
  have hA := hR.2.2.2.1
  have hK := hR.2.2.2.2.2.1
  have hS := hR.2.2.2.2.2.2
  have hV := hW.2.1
  have hM := hW.2.2.1.1
  have h9 := hV.1
  have hm6 := hM.1
  have hmt := hM.2.1
  have hmi := hM.2.2.1
  refine w_aload_n k149_0 rfl rfl ?_
  refine w_getr k149_1 (k := 3) (kc0 hn) (by decide) (r0_3 G) ?_
  refine w_iload_n k149_4 rfl ?_
  refine w_vI k149_5 mt82 (kc21 hn) ⟨rfl, by decide⟩ [_] rfl rfl rfl (sp_Mhas (mo21 hn G) hA _) ?_
  refine w_if_eq k149_8 (fun h8 => ?_) (fun h8 => ?_)
  ·
    refine w_iconst k149_27 ?_
    refine w_iret k149_28 mt149 (.int) rfl (rfl) ?_
    exact CQ.same hR
  ·
    have x8 := of_decide_eq_true (bI_n0.mp h8)
    refine w_aload_n k149_11 rfl rfl ?_
    refine w_getr k149_12 (k := 3) (kc0 hn) (by decide) (r0_3 G) ?_
    refine w_iload_n k149_15 rfl ?_
    refine w_vI k149_16 mt82 (kc21 hn) ⟨rfl, by decide⟩ [_] rfl rfl rfl (sp_Mhas (mo21 hn G) hA _) ?_
    refine w_if_eq k149_19 (fun h19 => ?_) (fun h19 => ?_)
    ·
      refine w_iconst k149_27 ?_
      refine w_iret k149_28 mt149 (.int) rfl (rfl) ?_
      exact CQ.same hR
    ·
      have x19 := of_decide_eq_true (bI_n0.mp h19)
      refine w_iload_n k149_22 rfl ?_
      refine w_iload_n k149_23 rfl ?_
      refine w_icmp_ne k149_24 (fun h24 => absurd (Classical.byContradiction fun hh => hb ⟨x8, x19, hh⟩) h24) (fun h24 => ?_)
      refine w_iconst k149_27 ?_
      refine w_iret k149_28 mt149 (.int) rfl (rfl) ?_
      exact CQ.same hR
