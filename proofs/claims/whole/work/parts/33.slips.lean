/-! SPECS, 24: slips, evening -/
def dW (z k : Nat) : Nat := (7919 * z + 6151 * k + 1) * (7919 * z + 6151 * k + 1) % 65521
theorem lc_7919 : (7919 : Int32).toInt64 = lN 7919 := by decide
theorem lc_6151 : (6151 : Int32).toInt64 = lN 6151 := by decide
theorem lc_65521 : (65521 : Int32).toInt64 = lN 65521 := by decide
theorem lc_10 : (10 : Int32).toInt64 = lN 10 := by decide
theorem lc_1 : (1 : Int32).toInt64 = lN 1 := by decide
theorem lc_0 : (0 : Int32).toInt64 = lN 0 := by decide
set_option maxHeartbeats 1000000 in
theorem sp_draw {S : Scr} {d : Nat} {f : FF} {g : GG} {n z k : Nat} (hz : z ≤ 9999) (hk : k < 60) : Wp S d 178 0 [some (.int (nI z)), some (.int (nI k)), none, none] [] n f g (Is (some (.int (nI (dW z k)))) n f g) := by
  refine w_ldc2 k178_0 ?_
  refine w_iload_n k178_3 rfl ?_
  refine w_i2l k178_4 ?_
  refine w_lmul k178_5 ?_
  refine w_ldc2 k178_6 ?_
  refine w_iload_n k178_9 rfl ?_
  refine w_i2l k178_10 ?_
  refine w_lmul k178_11 ?_
  refine w_ladd k178_12 ?_
  refine w_lconst k178_13 ?_
  refine w_ladd k178_14 ?_
  refine w_topL (lN (7919 * z + 6151 * k + 1)) (by rw [lc_7919, lc_6151, lc_1, nI_l (by omega), nI_l (by omega), lN_mul, lN_mul, lN_add, lN_add]) ?_
  refine w_lstore_n k178_15 (ls' := [_, _, _, _]) rfl ?_
  refine w_lload_n k178_16 rfl ?_
  refine w_lload_n k178_17 rfl ?_
  refine w_lmul k178_18 ?_
  rw [lN_mul]
  refine w_ldc2 k178_19 ?_
  rw [lc_65521]
  refine w_lrem k178_22 (by decide) ?_
  have hx : 7919 * z + 6151 * k + 1 < 2 ^ 31 := by omega
  have hxx : (7919 * z + 6151 * k + 1) * (7919 * z + 6151 * k + 1) < 2 ^ 63 := Nat.lt_of_lt_of_le (Nat.mul_lt_mul'' hx hx) (by decide)
  refine w_topL (lN (dW z k)) (pk_lRem hxx (by decide) (by decide)) ?_
  refine w_l2i k178_23 ?_
  rw [lN_i]
  refine w_iret k178_24 mt178 (.int) rfl (rfl) ?_
  exact ⟨rfl, rfl, rfl, rfl⟩
/-- the chance times ten for each chair on the way -/
def TT (V : Va) (x due : Nat) : Nat → Nat → Nat → Nat
  | 0, _, _ => 0
  | t + 1, c, r => if V.2.2.2 c = c then (if kn (V.2.1 c) r = due then 10 - x else 0) + (if kn (V.2.1 c) (wof r) = due then x else 0) else (10 - x) * TT V x due t (V.2.2.2 c) (kn (V.2.1 c) r) + x * TT V x due t (V.2.2.2 c) (kn (V.2.1 c) (wof r))
theorem wof_lt {r : Nat} (h : r < 65536) : wof r < 65536 := by
  unfold wof
  split
  · omega
  · omega
theorem TT_le {V : Va} {x due : Nat} (hx : x ≤ 10) : ∀ t c r, TT V x due t c r ≤ 10 ^ t := by
  intro t
  induction t with
  | zero => intro c r; exact Nat.zero_le _
  | succ t ih =>
    intro c r
    have hp : 1 ≤ 10 ^ t := Nat.pow_pos (by decide)
    simp only [TT]
    split
    · have e : 10 ^ (t + 1) = 10 ^ t * 10 := Nat.pow_succ ..
      have : 10 ≤ 10 ^ (t + 1) := by omega
      split <;> split <;> omega
    · have h1 := Nat.mul_le_mul_left (10 - x) (ih (V.2.2.2 c) (kn (V.2.1 c) r))
      have h2 := Nat.mul_le_mul_left x (ih (V.2.2.2 c) (kn (V.2.1 c) (wof r)))
      have e : 10 ^ (t + 1) = (10 - x) * 10 ^ t + x * 10 ^ t := by rw [← Nat.add_mul, Nat.sub_add_cancel hx, Nat.pow_succ, Nat.mul_comm]
      omega
set_option maxHeartbeats 1000000 in
theorem lp_tenths {S : Scr} {f : FF} {g : GG} {n B : Nat} {tx : Nat → Nat} {tl : Nat} {V : Va} {M : Nat → Nat → Nat} {uN : Nat} {uL : Nat → Nat → Nat → Nat} {kN : Nat} {kL : Nat → Nat → Nat → Nat} {sn : Nat} {se : Nat → Nat → Nat} (hn : 137 ≤ n) (G : GOk g) (hR : CR n f g tx tl V M uN uL kN kL sn se) (hW : StW B tx tl V M uN uL kN kL sn se) {x due : Nat} (hx : x ≤ 10) (hdue : due < 65536) : ∀ (t d c r k : Nat), t + k = 9 → t ≤ d → c < V.1 → r < 65536 → Wp S (d + 3) 170 0 [some (.ref 17), some (.int (nI c)), some (.int (nI r)), some (.int (nI x)), some (.int (nI due)), some (.int (nI k)), none, none, none, none] [] n f g (Is (some (.long (lN (TT V x due t c r)))) n f g) := by
  have h200 := hR.2.1.2.1
  have hC := hR.2.2.1
  have hA := hR.2.2.2.1
  have hK := hR.2.2.2.2.2.1
  have hS := hR.2.2.2.2.2.2
  have hV := hW.2.1
  have hM := hW.2.2.1.1
  have h9 := hV.1
  have hm6 := hM.1
  have hmt := hM.2.1
  have hmi := hM.2.2.1
  intro t
  induction t with
  | zero =>
    intro d c r k e0 e1 e2 e3
    refine w_iload k170_0 rfl ?_
    refine w_bipush k170_2 ?_
    refine w_icmp_lt k170_4 (fun h4 => absurd h4 (nI_nlt (b := 9) (by omega) (by omega))) (fun h4 => ?_)
    refine w_lconst k170_7 ?_
    rw [lc_0]
    refine w_lret k170_8 mt170 rfl ?_
    exact ⟨rfl, rfl, rfl, rfl⟩
  | succ t ih =>
    intro d c r k e0 e1 hc hr
    obtain ⟨d, rfl⟩ : ∃ q, d = q + 1 := ⟨d - 1, by omega⟩
    have hk4 := (hV.2 c hc).1
    have hk1 := kn_lt (k := V.2.1 c) hr
    have hk2 := kn_lt (k := V.2.1 c) (wof_lt hr)
    refine w_iload k170_0 rfl ?_
    refine w_bipush k170_2 ?_
    refine w_icmp_lt k170_4 (fun h4 => ?_) (fun h4 => absurd (nI_lt (b := 9) (by omega) (by omega)) h4)
    refine w_aload_n k170_9 rfl rfl ?_
    refine w_iload_n k170_10 rfl ?_
    refine w_vI k170_11 mt41 (kc17 hn) ⟨rfl, by decide⟩ [_] rfl rfl rfl (sp_kindOf (va17 hn G) hC h9 hc) ?_
    refine w_istore k170_14 (ls' := [_, _, _, _, _, _, _, _, _, _]) rfl ?_
    refine w_iload k170_16 rfl ?_
    refine w_iload_n k170_18 rfl ?_
    refine w_sI k170_19 (by decide) mt92 [_, _] rfl rfl rfl (sp_knitted hk4 hr) ?_
    refine w_istore k170_22 (ls' := [_, _, _, _, _, _, _, _, _, _]) rfl ?_
    refine w_iload k170_24 rfl ?_
    refine w_iload_n k170_26 rfl ?_
    refine w_sI k170_27 (by decide) mt169 [_] rfl rfl rfl (sp_withoutFirst hr) ?_
    refine w_sI k170_30 (by decide) mt92 [_, _] rfl rfl rfl (sp_knitted hk4 (wof_lt hr)) ?_
    refine w_istore k170_33 (ls' := [_, _, _, _, _, _, _, _, _, _]) rfl ?_
    refine w_aload_n k170_35 rfl rfl ?_
    refine w_iload_n k170_36 rfl ?_
    refine w_vI k170_37 mt101 (kc17 hn) ⟨rfl, by decide⟩ [_] rfl rfl rfl (sp_isAtSea (va17 hn G) hC hV hc) ?_
    refine w_if_eq k170_40 (fun h40 => ?_) (fun h40 => ?_)
    ·
      have y1 := of_decide_eq_false (bI_0.mp h40)
      refine w_aload_n k170_73 rfl rfl ?_
      refine w_iload_n k170_74 rfl ?_
      refine w_vI k170_75 mt43 (kc17 hn) ⟨rfl, by decide⟩ [_] rfl rfl rfl (sp_nextOf (va17 hn G) hC h9 hc) ?_
      refine w_istore k170_78 (ls' := [_, _, _, _, _, _, _, _, _, _]) rfl ?_
      refine w_bipush k170_80 ?_
      refine w_iload_n k170_82 rfl ?_
      refine w_isub k170_83 ?_
      refine w_top (nI (10 - x)) (pk_sub (a := 10) (by omega)) ?_
      refine w_i2l k170_84 ?_
      rw [nI_l (by omega)]
      refine w_aload_n k170_85 rfl rfl ?_
      refine w_iload k170_86 rfl ?_
      refine w_iload k170_88 rfl ?_
      refine w_iload_n k170_90 rfl ?_
      refine w_iload k170_91 rfl ?_
      refine w_iload k170_93 rfl ?_
      refine w_iconst k170_95 ?_
      refine w_iadd k170_96 ?_
      rw [nI_1]
      refine w_sI k170_97 (by decide) mt170 [_, _, _, _, _, _] rfl rfl rfl (ih d _ _ (k + 1) (by omega) (by omega) (hV.on hc) hk1) ?_
      refine w_lmul k170_100 ?_
      rw [lN_mul]
      refine w_iload_n k170_101 rfl ?_
      refine w_i2l k170_102 ?_
      rw [nI_l (by omega)]
      refine w_aload_n k170_103 rfl rfl ?_
      refine w_iload k170_104 rfl ?_
      refine w_iload k170_106 rfl ?_
      refine w_iload_n k170_108 rfl ?_
      refine w_iload k170_109 rfl ?_
      refine w_iload k170_111 rfl ?_
      refine w_iconst k170_113 ?_
      refine w_iadd k170_114 ?_
      rw [nI_1]
      refine w_sI k170_115 (by decide) mt170 [_, _, _, _, _, _] rfl rfl rfl (ih d _ _ (k + 1) (by omega) (by omega) (hV.on hc) hk2) ?_
      refine w_lmul k170_118 ?_
      rw [lN_mul]
      refine w_ladd k170_119 ?_
      rw [lN_add]
      refine w_lret k170_120 mt170 rfl ?_
      refine ⟨?_, rfl, rfl, rfl⟩
      simp only [TT]
      rw [if_neg y1]
    ·
      have y1 := of_decide_eq_true (bI_n0.mp h40)
      refine w_iload k170_43 rfl ?_
      refine w_iload k170_45 rfl ?_
      refine w_icmp_ne k170_47 (fun h47 => ?_) (fun h47 => ?_)
      ·
        have y2 : ¬ kn (V.2.1 c) r = due := fun hh => h47 (by rw [hh])
        refine w_iconst k170_57 ?_
        refine w_top (nI 0) (rfl) ?_
        refine w_iload k170_58 rfl ?_
        refine w_iload k170_60 rfl ?_
        refine w_icmp_ne k170_62 (fun h62 => ?_) (fun h62 => ?_)
        ·
          have y3 : ¬ kn (V.2.1 c) (wof r) = due := fun hh => h62 (by rw [hh])
          refine w_iconst k170_69 ?_
          refine w_top (nI 0) (rfl) ?_
          refine w_iadd k170_70 ?_
          rw [nI_add]
          refine w_i2l k170_71 ?_
          rw [nI_l (by omega)]
          refine w_lret k170_72 mt170 rfl ?_
          refine ⟨?_, rfl, rfl, rfl⟩
          simp only [TT]
          rw [if_pos y1]
          first
            | rw [if_pos y2, if_pos y3]
            | rw [if_pos y2, if_neg y3]
            | rw [if_neg y2, if_pos y3]
            | rw [if_neg y2, if_neg y3]
        ·
          have y3 : kn (V.2.1 c) (wof r) = due := (nI_eq (by omega) (by omega)).mp h62
          refine w_iload_n k170_65 rfl ?_
          refine w_goto k170_66 ?_
          refine w_iadd k170_70 ?_
          rw [nI_add]
          refine w_i2l k170_71 ?_
          rw [nI_l (by omega)]
          refine w_lret k170_72 mt170 rfl ?_
          refine ⟨?_, rfl, rfl, rfl⟩
          simp only [TT]
          rw [if_pos y1]
          first
            | rw [if_pos y2, if_pos y3]
            | rw [if_pos y2, if_neg y3]
            | rw [if_neg y2, if_pos y3]
            | rw [if_neg y2, if_neg y3]
      ·
        have y2 : kn (V.2.1 c) r = due := (nI_eq (by omega) (by omega)).mp h47
        refine w_bipush k170_50 ?_
        refine w_iload_n k170_52 rfl ?_
        refine w_isub k170_53 ?_
        refine w_top (nI (10 - x)) (pk_sub (a := 10) (by omega)) ?_
        refine w_goto k170_54 ?_
        refine w_iload k170_58 rfl ?_
        refine w_iload k170_60 rfl ?_
        refine w_icmp_ne k170_62 (fun h62 => ?_) (fun h62 => ?_)
        ·
          have y3 : ¬ kn (V.2.1 c) (wof r) = due := fun hh => h62 (by rw [hh])
          refine w_iconst k170_69 ?_
          refine w_top (nI 0) (rfl) ?_
          refine w_iadd k170_70 ?_
          rw [nI_add]
          refine w_i2l k170_71 ?_
          rw [nI_l (by omega)]
          refine w_lret k170_72 mt170 rfl ?_
          refine ⟨?_, rfl, rfl, rfl⟩
          simp only [TT]
          rw [if_pos y1]
          first
            | rw [if_pos y2, if_pos y3]
            | rw [if_pos y2, if_neg y3]
            | rw [if_neg y2, if_pos y3]
            | rw [if_neg y2, if_neg y3]
        ·
          have y3 : kn (V.2.1 c) (wof r) = due := (nI_eq (by omega) (by omega)).mp h62
          refine w_iload_n k170_65 rfl ?_
          refine w_goto k170_66 ?_
          refine w_iadd k170_70 ?_
          rw [nI_add]
          refine w_i2l k170_71 ?_
          rw [nI_l (by omega)]
          refine w_lret k170_72 mt170 rfl ?_
          refine ⟨?_, rfl, rfl, rfl⟩
          simp only [TT]
          rw [if_pos y1]
          first
            | rw [if_pos y2, if_pos y3]
            | rw [if_pos y2, if_neg y3]
            | rw [if_neg y2, if_pos y3]
            | rw [if_neg y2, if_neg y3]
def gcA : Nat → Nat → Nat → Nat
  | 0, a, _ => a
  | t + 1, a, b => if b = 0 then a else gcA t b (a % b)
theorem gcA_gcd : ∀ k t a b, b < 2 ^ k → 2 * k ≤ t → gcA t a b = Nat.gcd a b := by
  intro k
  induction k with
  | zero =>
    intro t a b hb _
    have hb0 : b = 0 := by omega
    subst hb0
    rw [Nat.gcd_zero_right]
    cases t with
    | zero => rfl
    | succ t => exact if_pos rfl
  | succ k ih =>
    intro t a b hb ht
    obtain ⟨t, rfl⟩ : ∃ q, t = q + 2 := ⟨t - 2, by omega⟩
    by_cases hb0 : b = 0
    · subst hb0
      rw [Nat.gcd_zero_right]
      exact if_pos rfl
    · rw [show gcA (t + 2) a b = gcA (t + 1) b (a % b) from if_neg hb0]
      have e1 : Nat.gcd a b = Nat.gcd b (a % b) := by rw [Nat.gcd_comm a b, Nat.gcd_rec b a, Nat.gcd_comm]
      rw [e1]
      by_cases hr0 : a % b = 0
      · rw [hr0, Nat.gcd_zero_right]
        exact if_pos rfl
      · rw [show gcA (t + 1) b (a % b) = gcA t (a % b) (b % (a % b)) from if_neg hr0]
        have e2 : Nat.gcd b (a % b) = Nat.gcd (a % b) (b % (a % b)) := by rw [Nat.gcd_comm b, Nat.gcd_rec (a % b) b, Nat.gcd_comm]
        rw [e2]
        refine ih t _ _ ?_ (by omega)
        have h1 : a % b < b := Nat.mod_lt _ (by omega)
        have h2 : b % (a % b) < a % b := Nat.mod_lt _ (by omega)
        have h3 := Nat.div_add_mod b (a % b)
        have h4 : 1 ≤ b / (a % b) := (Nat.one_le_div_iff (by omega)).mpr (by omega)
        have h5 : a % b ≤ (a % b) * (b / (a % b)) := Nat.le_mul_of_pos_right _ h4
        rw [Nat.pow_succ] at hb
        omega
set_option maxHeartbeats 1000000 in
theorem lp_gd {S : Scr} {d : Nat} {f : FF} {g : GG} {n : Nat} {q0 q2 : Int64} : ∀ (t i a b : Nat) (y9 y10 : Option Value), t + i = 100 → a < 2 ^ 63 → b < 2 ^ 63 → Wp S d 172 9 [some (.long q0), none, some (.long q2), none, some (.long (lN a)), none, some (.long (lN b)), none, some (.int (nI i)), y9, y10] [] n f g (Is (some (.long (lN (gcA t a b)))) n f g) := by
  intro t
  induction t with
  | zero =>
    intro i a b y9 y10 e0 e1 e2
    refine w_iload k172_9 rfl ?_
    refine w_bipush k172_11 ?_
    refine w_icmp_ge k172_13 (fun h13 => ?_) (fun h13 => absurd (nI_le (a := 100) (by omega) (by omega)) h13)
    refine w_lload k172_44 rfl ?_
    refine w_lret k172_46 mt172 rfl ?_
    exact ⟨rfl, rfl, rfl, rfl⟩
  | succ t ih =>
    intro i a b y9 y10 e0 e1 e2
    refine w_iload k172_9 rfl ?_
    refine w_bipush k172_11 ?_
    refine w_icmp_ge k172_13 (fun h13 => absurd h13 (nI_ge (b := 100) (by omega) (by omega))) (fun h13 => ?_)
    refine w_lload k172_16 rfl ?_
    refine w_lconst k172_18 ?_
    rw [lc_0]
    refine w_lcmp k172_19 ?_
    refine w_if_eq k172_20 (fun h20 => ?_) (fun h20 => ?_)
    ·
      have y1 : b = 0 := (pk_lEQ e2 (by decide)).mp ((lg_cmp_eq _ _).mp h20)
      refine w_lload k172_44 rfl ?_
      refine w_lret k172_46 mt172 rfl ?_
      rw [show gcA (t + 1) a b = a from if_pos y1]
      exact ⟨rfl, rfl, rfl, rfl⟩
    ·
      have y1 : ¬ b = 0 := fun hh => h20 ((lg_cmp_eq _ _).mpr (by rw [hh]))
      refine w_lload k172_23 rfl ?_
      refine w_lload k172_25 rfl ?_
      refine w_lrem k172_27 (fun hh => y1 ((pk_lEQ (b := 0) e2 (by decide)).mp hh)) ?_
      rw [pk_lRem e1 (by omega) e2]
      refine w_lstore k172_28 (ls' := [_, _, _, _, _, _, _, _, _, _, _]) rfl ?_
      refine w_lload k172_30 rfl ?_
      refine w_lstore k172_32 (ls' := [_, _, _, _, _, _, _, _, _, _, _]) rfl ?_
      refine w_lload k172_34 rfl ?_
      refine w_lstore k172_36 (ls' := [_, _, _, _, _, _, _, _, _, _, _]) rfl ?_
      refine w_iinc k172_38 rfl (ls' := [_, _, _, _, _, _, _, _, _, _, _]) rfl ?_
      refine w_goto k172_41 ?_
      rw [nI_1, show gcA (t + 1) a b = gcA t b (a % b) from if_neg y1]
      have := Nat.mod_lt a (Nat.pos_of_ne_zero y1)
      exact ih (i + 1) b (a % b) _ _ (by omega) e2 (by omega)
set_option maxHeartbeats 1000000 in
theorem sp_gd {S : Scr} {d : Nat} {f : FF} {g : GG} {n a b : Nat} (ha : a < 2 ^ 63) (hb : b < 2 ^ 50) : Wp S d 172 0 [some (.long (lN a)), none, some (.long (lN b)), none, none, none, none, none, none, none, none] [] n f g (Is (some (.long (lN (Nat.gcd a b)))) n f g) := by
  refine w_lload_n k172_0 rfl ?_
  refine w_lstore k172_1 (ls' := [_, _, _, _, _, _, _, _, _, _, _]) rfl ?_
  refine w_lload_n k172_3 rfl ?_
  refine w_lstore k172_4 (ls' := [_, _, _, _, _, _, _, _, _, _, _]) rfl ?_
  refine w_iconst k172_6 ?_
  refine w_istore k172_7 (ls' := [_, _, _, _, _, _, _, _, _, _, _]) rfl ?_
  rw [← gcA_gcd 50 100 a b hb (by decide)]
  exact lp_gd 100 0 a b none none rfl ha (Nat.lt_trans hb (by decide))
/-- what slips tells -/
def slV (a b w : Nat) : Nat := if w = 0 then a / Nat.gcd a b else b / Nat.gcd a b
theorem popc_le (B : Nat) : ∀ k, popc B k ≤ k := by
  intro k
  induction k with
  | zero => exact Nat.le_refl _
  | succ k ih => simp only [popc]; split <;> omega
set_option maxHeartbeats 1000000 in
theorem lp_slips {S : Scr} {d : Nat} {f : FF} {g : GG} {n B : Nat} {tx : Nat → Nat} {tl : Nat} {V : Va} {M : Nat → Nat → Nat} {uN : Nat} {uL : Nat → Nat → Nat → Nat} {kN : Nat} {kL : Nat → Nat → Nat → Nat} {sn : Nat} {se : Nat → Nat → Nat} (hn : 137 ≤ n) (G : GOk g) (hR : CR n f g tx tl V M uN uL kN kL sn se) (hW : StW B tx tl V M uN uL kN kL sn se) {c r x w a : Nat} (hc : c < V.1) (hw : w < 2) (ha : a ≤ 10 ^ 9) : ∀ (t i : Nat), t + i = popc (wyW V 9 c 0) 9 → Wp S (d + 13) 173 68 [some (.ref 0), some (.int (nI c)), some (.int (nI r)), some (.int (nI x)), some (.int (nI w)), some (.long (lN a)), none, some (.long (lN (10 ^ i))), none, some (.int (nI i)), none] [] n f g (CQ n f g (nI (slV a (10 ^ popc (wyW V 9 c 0) 9) w)) tx tl V M uN uL kN kL sn se) := by
  have h200 := hR.2.1.2.1
  have hC := hR.2.2.1
  have hA := hR.2.2.2.1
  have hK := hR.2.2.2.2.2.1
  have hS := hR.2.2.2.2.2.2
  have hV := hW.2.1
  have hM := hW.2.2.1.1
  have h9 := hV.1
  have hm6 := hM.1
  have hmt := hM.2.1
  have hmi := hM.2.2.1
  have hpc := popc_le (wyW V 9 c 0) 9
  intro t
  induction t with
  | zero =>
    intro i e0
    refine w_iload k173_68 rfl ?_
    refine w_aload_n k173_70 rfl rfl ?_
    refine w_getr k173_71 (k := 2) (kc0 hn) (by decide) (r0_2 G) ?_
    refine w_iload_n k173_74 rfl ?_
    refine w_vI k173_75 mt171 (kc17 hn) ⟨rfl, by decide⟩ [_] rfl rfl rfl (sp_chairsSea (va17 hn G) hC hV hc) ?_
    rw [show i = popc (wyW V 9 c 0) 9 by omega]
    have hp9 : 10 ^ popc (wyW V 9 c 0) 9 ≤ 10 ^ 9 := Nat.pow_le_pow_right (by decide) hpc
    have hp0 : 0 < 10 ^ popc (wyW V 9 c 0) 9 := Nat.pow_pos (by decide)
    refine w_icmp_ge k173_78 (fun h78 => ?_) (fun h78 => absurd (nI_le (Nat.le_refl _) (by omega)) h78)
    refine w_lload k173_95 rfl ?_
    refine w_lload k173_97 rfl ?_
    refine w_sI k173_99 (by decide) mt172 [_, _] rfl rfl rfl (sp_gd (Nat.lt_of_le_of_lt ha (by decide)) (Nat.lt_of_le_of_lt hp9 (by decide))) ?_
    refine w_lstore k173_102 (ls' := [_, _, _, _, _, _, _, _, _, _, _]) rfl ?_
    refine w_lload k173_104 rfl ?_
    have hg0 : 0 < Nat.gcd a (10 ^ popc (wyW V 9 c 0) 9) := Nat.gcd_pos_of_pos_right _ hp0
    have hgl : Nat.gcd a (10 ^ popc (wyW V 9 c 0) 9) ≤ 10 ^ popc (wyW V 9 c 0) 9 := Nat.gcd_le_right _ hp0
    have hg63 : Nat.gcd a (10 ^ popc (wyW V 9 c 0) 9) < 2 ^ 63 := Nat.lt_of_le_of_lt (Nat.le_trans hgl hp9) (by decide)
    refine w_lconst k173_106 ?_
    rw [lc_1]
    refine w_lcmp k173_107 ?_
    refine w_if_ge k173_108 (fun h108 => ?_) (fun h108 => absurd ((lg_cmp_ge _ _).mpr ((pk_lLE (by decide) hg63).mpr hg0)) h108)
    refine w_iload k173_113 rfl ?_
    refine w_if_ne k173_115 (fun h115 => ?_) (fun h115 => ?_)
    ·
      have y3 : ¬ w = 0 := fun hh => h115 (by rw [hh]; rfl)
      refine w_lload k173_123 rfl ?_
      refine w_lload k173_125 rfl ?_
      refine w_ldiv k173_127 (fun hh => absurd ((pk_lEQ (b := 0) hg63 (by decide)).mp hh) (by omega)) ?_
      first
        | rw [pk_lDiv (a := a) (Nat.lt_of_le_of_lt ha (by decide)) hg0 hg63]
        | rw [pk_lDiv (a := 10 ^ popc (wyW V 9 c 0) 9) (Nat.lt_of_le_of_lt hp9 (by decide)) hg0 hg63]
      refine w_l2i k173_128 ?_
      rw [lN_i]
      refine w_iret k173_129 mt173 (.int) rfl (rfl) ?_
      unfold slV
      first
        | (rw [if_pos y3]; exact CQ.same hR)
        | (rw [if_neg y3]; exact CQ.same hR)
    ·
      have y3 : w = 0 := (nI_eq (b := 0) (by omega) (by omega)).mp h115
      refine w_lload k173_118 rfl ?_
      refine w_goto k173_120 ?_
      refine w_lload k173_125 rfl ?_
      refine w_ldiv k173_127 (fun hh => absurd ((pk_lEQ (b := 0) hg63 (by decide)).mp hh) (by omega)) ?_
      first
        | rw [pk_lDiv (a := a) (Nat.lt_of_le_of_lt ha (by decide)) hg0 hg63]
        | rw [pk_lDiv (a := 10 ^ popc (wyW V 9 c 0) 9) (Nat.lt_of_le_of_lt hp9 (by decide)) hg0 hg63]
      refine w_l2i k173_128 ?_
      rw [lN_i]
      refine w_iret k173_129 mt173 (.int) rfl (rfl) ?_
      unfold slV
      first
        | (rw [if_pos y3]; exact CQ.same hR)
        | (rw [if_neg y3]; exact CQ.same hR)
  | succ t ih =>
    intro i e0
    refine w_iload k173_68 rfl ?_
    refine w_aload_n k173_70 rfl rfl ?_
    refine w_getr k173_71 (k := 2) (kc0 hn) (by decide) (r0_2 G) ?_
    refine w_iload_n k173_74 rfl ?_
    refine w_vI k173_75 mt171 (kc17 hn) ⟨rfl, by decide⟩ [_] rfl rfl rfl (sp_chairsSea (va17 hn G) hC hV hc) ?_
    refine w_icmp_ge k173_78 (fun h78 => absurd h78 (nI_ge (by omega) (by omega))) (fun h78 => ?_)
    refine w_lload k173_81 rfl ?_
    refine w_ldc2 k173_83 ?_
    rw [lc_10]
    refine w_lmul k173_86 ?_
    rw [lN_mul, ← Nat.pow_succ]
    refine w_lstore k173_87 (ls' := [_, _, _, _, _, _, _, _, _, _, _]) rfl ?_
    refine w_iinc k173_89 rfl (ls' := [_, _, _, _, _, _, _, _, _, _, _]) rfl ?_
    refine w_goto k173_92 ?_
    rw [nI_1]
    exact ih (i + 1) (by omega)
set_option maxHeartbeats 1000000 in
theorem sp_slips {S : Scr} {d : Nat} {f : FF} {g : GG} {n B : Nat} {tx : Nat → Nat} {tl : Nat} {V : Va} {M : Nat → Nat → Nat} {uN : Nat} {uL : Nat → Nat → Nat → Nat} {kN : Nat} {kL : Nat → Nat → Nat → Nat} {sn : Nat} {se : Nat → Nat → Nat} (hn : 137 ≤ n) (G : GOk g) (hR : CR n f g tx tl V M uN uL kN kL sn se) (hW : StW B tx tl V M uN uL kN kL sn se) {c r x w : Nat} (hc : c < V.1) (hr : RowOk r) (hr0 : isRowI (nI r) = true) (hx : x ≤ 10) (hw : w < 2) : Wp S (d + 13) 173 0 [some (.ref 0), some (.int (nI c)), some (.int (nI r)), some (.int (nI x)), some (.int (nI w)), none, none, none, none, none, none] [] n f g (CQ n f g (nI (slV (TT V x (cmW V V.2.1 9 c r) 9 c r) (10 ^ popc (wyW V 9 c 0) 9) w)) tx tl V M uN uL kN kL sn se) := by
  have h200 := hR.2.1.2.1
  have hC := hR.2.2.1
  have hA := hR.2.2.2.1
  have hK := hR.2.2.2.2.2.1
  have hS := hR.2.2.2.2.2.2
  have hV := hW.2.1
  have hM := hW.2.2.1.1
  have h9 := hV.1
  have hm6 := hM.1
  have hmt := hM.2.1
  have hmi := hM.2.2.1
  refine w_aload_n k173_0 rfl rfl ?_
  refine w_getr k173_1 (k := 2) (kc0 hn) (by decide) (r0_2 G) ?_
  refine w_iload_n k173_4 rfl ?_
  refine w_vI k173_5 mt29 (kc17 hn) ⟨rfl, by decide⟩ [_] rfl rfl rfl (sp_Vhas (va17 hn G) hC h9 _) ?_
  rw [has_dec (by omega) (by omega)]
  refine w_if_eq k173_8 (fun h8 => absurd h8 (bI_n0.mpr (decide_eq_true hc))) (fun h8 => ?_)
  refine w_iload_n k173_11 rfl ?_
  refine w_sI k173_12 (by decide) mt88 [_] rfl rfl rfl (sp_isRow _) ?_
  refine w_if_eq k173_15 (fun h15 => absurd h15 (bI_n0.mpr hr0)) (fun h15 => ?_)
  refine w_iload_n k173_18 rfl ?_
  refine w_iconst k173_19 ?_
  refine w_bipush k173_20 ?_
  refine w_sI k173_22 (by decide) mt22 [_, _, _] rfl rfl rfl (sp_isBetween _ _ _) ?_
  refine w_if_eq k173_25 (fun h25 => absurd h25 (bI_n0.mpr (decide_eq_true ⟨(nI_leI (a := 0) (by omega) (by omega)).mpr (by omega), (nI_leI (b := 10) (by omega) (by omega)).mpr (by omega)⟩))) (fun h25 => ?_)
  refine w_iload k173_28 rfl ?_
  refine w_iconst k173_30 ?_
  refine w_iconst k173_31 ?_
  refine w_sI k173_32 (by decide) mt22 [_, _, _] rfl rfl rfl (sp_isBetween _ _ _) ?_
  refine w_if_ne k173_35 (fun h35 => ?_) (fun h35 => absurd h35 (bI_n0.mpr (decide_eq_true ⟨(nI_leI (a := 0) (by omega) (by omega)).mpr (by omega), (nI_leI (b := 1) (by omega) (by omega)).mpr (by omega)⟩)))
  refine w_aload_n k173_40 rfl rfl ?_
  refine w_getr k173_41 (k := 2) (kc0 hn) (by decide) (r0_2 G) ?_
  refine w_iload_n k173_44 rfl ?_
  refine w_iload_n k173_45 rfl ?_
  refine w_iload_n k173_46 rfl ?_
  refine w_aload_n k173_47 rfl rfl ?_
  refine w_getr k173_48 (k := 2) (kc0 hn) (by decide) (r0_2 G) ?_
  refine w_iload_n k173_51 rfl ?_
  refine w_iload_n k173_52 rfl ?_
  refine w_vI k173_53 mt126 (kc17 hn) ⟨rfl, by decide⟩ [_, _] rfl rfl rfl (sp_rowAtSea (va17 hn G) hC hV hc hr.lt) ?_
  refine w_iconst k173_56 ?_
  refine w_sI k173_57 (by decide) mt170 [_, _, _, _, _, _] rfl rfl rfl (lp_tenths (x := x) (due := cmW V V.2.1 9 c r) hn G hR hW (by omega) (cmW_lt 9 c r hr.lt) 9 (d + 9) c r 0 rfl (by omega) hc hr.lt) ?_
  refine w_lstore k173_60 (ls' := [_, _, _, _, _, _, _, _, _, _, _]) rfl ?_
  refine w_lconst k173_62 ?_
  rw [lc_1]
  refine w_lstore k173_63 (ls' := [_, _, _, _, _, _, _, _, _, _, _]) rfl ?_
  refine w_iconst k173_65 ?_
  refine w_istore k173_66 (ls' := [_, _, _, _, _, _, _, _, _, _, _]) rfl ?_
  exact lp_slips hn G hR hW hc hw (TT_le hx 9 c r) _ 0 rfl
set_option maxHeartbeats 1000000 in
theorem sp_slips0 {S : Scr} {d : Nat} {f : FF} {g : GG} {n B : Nat} {tx : Nat → Nat} {tl : Nat} {V : Va} {M : Nat → Nat → Nat} {uN : Nat} {uL : Nat → Nat → Nat → Nat} {kN : Nat} {kL : Nat → Nat → Nat → Nat} {sn : Nat} {se : Nat → Nat → Nat} (hn : 137 ≤ n) (G : GOk g) (hR : CR n f g tx tl V M uN uL kN kL sn se) (hW : StW B tx tl V M uN uL kN kL sn se) {x y z u : Int32} (hb : ¬ ((0 ≤ x ∧ x < nI V.1) ∧ isRowI y = true ∧ (0 ≤ z ∧ z ≤ 10) ∧ 0 ≤ u ∧ u ≤ 1)) : Wp S (d + 13) 173 0 [some (.ref 0), some (.int x), some (.int y), some (.int z), some (.int u), none, none, none, none, none, none] [] n f g (CQ n f g (-1) tx tl V M uN uL kN kL sn se) := by
  have h200 := hR.2.1.2.1
  have hC := hR.2.2.1
  have hA := hR.2.2.2.1
  have hK := hR.2.2.2.2.2.1
  have hS := hR.2.2.2.2.2.2
  have hV := hW.2.1
  have hM := hW.2.2.1.1
  have h9 := hV.1
  have hm6 := hM.1
  have hmt := hM.2.1
  have hmi := hM.2.2.1
  refine w_aload_n k173_0 rfl rfl ?_
  refine w_getr k173_1 (k := 2) (kc0 hn) (by decide) (r0_2 G) ?_
  refine w_iload_n k173_4 rfl ?_
  refine w_vI k173_5 mt29 (kc17 hn) ⟨rfl, by decide⟩ [_] rfl rfl rfl (sp_Vhas (va17 hn G) hC h9 _) ?_
  refine w_if_eq k173_8 (fun h8 => ?_) (fun h8 => ?_)
  ·
    refine w_iconst k173_38 ?_
    refine w_iret k173_39 mt173 (.int) rfl (rfl) ?_
    exact CQ.same hR
  ·
    have x8 := of_decide_eq_true (bI_n0.mp h8)
    refine w_iload_n k173_11 rfl ?_
    refine w_sI k173_12 (by decide) mt88 [_] rfl rfl rfl (sp_isRow _) ?_
    refine w_if_eq k173_15 (fun h15 => ?_) (fun h15 => ?_)
    ·
      refine w_iconst k173_38 ?_
      refine w_iret k173_39 mt173 (.int) rfl (rfl) ?_
      exact CQ.same hR
    ·
      have x15 := bI_n0.mp h15
      refine w_iload_n k173_18 rfl ?_
      refine w_iconst k173_19 ?_
      refine w_bipush k173_20 ?_
      refine w_sI k173_22 (by decide) mt22 [_, _, _] rfl rfl rfl (sp_isBetween _ _ _) ?_
      refine w_if_eq k173_25 (fun h25 => ?_) (fun h25 => ?_)
      ·
        refine w_iconst k173_38 ?_
        refine w_iret k173_39 mt173 (.int) rfl (rfl) ?_
        exact CQ.same hR
      ·
        have x25 := of_decide_eq_true (bI_n0.mp h25)
        refine w_iload k173_28 rfl ?_
        refine w_iconst k173_30 ?_
        refine w_iconst k173_31 ?_
        refine w_sI k173_32 (by decide) mt22 [_, _, _] rfl rfl rfl (sp_isBetween _ _ _) ?_
        refine w_if_ne k173_35 (fun h35 => absurd (bI_0.mpr (decide_eq_false fun hh => hb ⟨x8, x15, x25, hh⟩)) h35) (fun h35 => ?_)
        refine w_iconst k173_38 ?_
        refine w_iret k173_39 mt173 (.int) rfl (rfl) ?_
        exact CQ.same hR
