/-! SPECS, 31: the model, a minute -/
/-- the model's message m in the row b -/
def GR (f : FF) (b m : Nat) (μ : Nat → Nat) : Prop := ∀ k, k < 6 → f b (3 + 6 * m + k) = msV μ k
theorem GR.k {f : FF} {b m k : Nat} {μ : Nat → Nat} (h : GR f b m μ) (hk : k < 5) : f b (3 + 6 * m + k) = nI (μ k) := (h k (by omega)).trans (if_neg (by omega))
theorem GR.fin {f : FF} {b m : Nat} {ν : Nat → Nat} (h0 : f b (3 + 6 * m + 0) = nI (ν 0)) (h1 : f b (3 + 6 * m + 1) = nI (ν 1)) (h2 : f b (3 + 6 * m + 2) = nI (ν 2)) (h3 : f b (3 + 6 * m + 3) = nI (ν 3)) (h4 : f b (3 + 6 * m + 4) = nI (ν 4)) (h5 : f b (3 + 6 * m + 5) = if ν 1 = 2 then nI (ν 5) else -4) : GR f b m ν := fun k hk => by
  rcases (show k = 0 ∨ k = 1 ∨ k = 2 ∨ k = 3 ∨ k = 4 ∨ k = 5 by omega) with rfl | rfl | rfl | rfl | rfl | rfl
  · exact h0
  · exact h1
  · exact h2
  · exact h3
  · exact h4
  · exact h5
def OffG (f f' : FF) (b m : Nat) : Prop := ∀ x k, (x ≠ b ∨ k < 3 + 6 * m ∨ 3 + 6 * m + 6 ≤ k) → f' x k = f x k
theorem OffG.rf {f : FF} {b m : Nat} : OffG f f b m := fun _ _ _ => rfl
theorem OffG.tr {f f1 f2 : FF} {b m : Nat} (h : OffG f f1 b m) (h2 : OffG f1 f2 b m) : OffG f f2 b m := fun x k hx => (h2 x k hx).trans (h x k hx)
theorem OffG.up {f : FF} {b m k : Nat} {w : Int32} (hk : k < 6) : OffG f (fup f b (3 + 6 * m + k) w) b m := fun x q hx => by
  unfold fup
  rw [if_neg (by omega)]
theorem GR.off {f f' : FF} {b m i : Nat} {μ : Nat → Nat} (h : GR f b i μ) (ho : OffG f f' b m) (hi : i ≠ m) : GR f' b i μ := fun k hk => by
  rw [ho b _ (by omega)]
  exact h k hk
/-- no change of the row's other places -/
theorem MVa.arr {f f' : FF} {V : Va} {b : Nat} (h : MVa f V) (hb : kd KKl 153 b = some (20, 39)) (ho : ∀ x, x ≠ b → f' x = f x) : MVa f' V :=
  h.off (by rw [ho 137 (kd_ne kd137 hb (by intro e; cases e))]) (ho _ (kd_ne kd145 hb (by intro e; cases e))) (ho _ (kd_ne kd146 hb (by intro e; cases e))) (ho _ (kd_ne kd147 hb (by intro e; cases e)))
theorem MVa.up {f : FF} {V : Va} {b k : Nat} {w : Int32} (h : MVa f V) (hb : kd KKl 153 b = some (20, 39)) : MVa (fup f b k w) V := h.arr hb (fun x hx => by funext y; exact fup_no hx)
theorem GR.up {f : FF} {b m k v : Nat} {μ : Nat → Nat} (h : GR f b m μ) (hk : k < 5) (h1 : k ≠ 1) : GR (fup f b (3 + 6 * m + k) (nI v)) b m (mu μ k v) := fun j hj => by
  by_cases hjk : j = k
  · subst hjk
    rw [fup_self]
    unfold msV
    rw [if_neg (by omega), mu_at]
  · rw [fup_ne (by omega), h j hj]
    unfold msV
    by_cases h5 : j = 5
    · rw [if_pos h5, if_pos h5, mu_ne (Ne.symm h1), mu_ne (by omega)]
    · rw [if_neg h5, if_neg h5, mu_ne hjk]
theorem GR.up1 {f : FF} {b m : Nat} {μ : Nat → Nat} (h : GR f b m μ) (h0 : μ 1 = 0) : GR (fup f b (3 + 6 * m + 1) (nI 1)) b m (mu μ 1 1) := fun j hj => by
  by_cases hjk : j = 1
  · subst hjk
    rw [fup_self]
    rfl
  · rw [fup_ne (by omega), h j hj]
    unfold msV
    by_cases h5 : j = 5
    · rw [if_pos h5, if_pos h5, mu_at, if_neg (by omega), if_neg (by decide)]
    · rw [if_neg h5, if_neg h5, mu_ne hjk]
def ms3 (V : Va) (t : Nat) (μ : Nat → Nat) : Nat → Nat := if μ 1 = 1 then msC V t μ else μ
def GoMQ (f : FF) (g : GG) (b m : Nat) (ν : Nat → Nat) : Option Value → Nat → FF → GG → Prop := fun v n' f' g' => v = none ∧ n' = 153 ∧ g' = g ∧ OffG f f' b m ∧ GR f' b m ν
set_option maxHeartbeats 1000000 in
theorem ml_go79 {S : Scr} {d : Nat} {f : FF} {g : GG} (G : GOm g) {b m t I : Nat} {V : Va} {μ : Nat → Nat} (hb : kd KKl 153 b = some (20, 39)) (hm : m < 6) (hVa : MVa f V) (hV : VWf V) (hR : GR f b m μ) (ht : f b 0 = nI t) (hI : f b 1 = nI I) (h1 : μ 1 ≤ 2) (h2 : μ 2 < V.1) (h3 : RowOk (μ 3)) (h4 : μ 4 ≤ 20) : Wp S (d + 2) 109 79 [some (.ref 137), some (.ref b), some (.int (nI m)), some (.int (nI (3 + 6 * m))), some (.int (nI (μ 2)))] [] 153 f g (GoMQ f g b m (ms3 V t μ)) := by
  have h9 := hV.1
  have hpp := hV.2 _ h2
  refine w_aload_n k109_79 rfl rfl ?_
  refine w_iload_n k109_80 rfl ?_
  refine w_iconst k109_81 ?_
  refine w_iadd k109_82 ?_
  refine w_top (nI (3 + 6 * m + 1)) (nI_add _ 1) ?_
  refine w_iald k109_83 hb (nI_pos (by omega)) (nI_clamp (by omega)) (by omega) ?_
  rw [hR.k (k := 1) (by omega)]
  refine w_iconst k109_84 ?_
  refine w_icmp_ne k109_85 (fun h85 => ?_) (fun h85 => ?_)
  ·
    have z1 : ¬ μ 1 = 1 := fun hh => h85 (by rw [hh]; rfl)
    refine w_vret k109_192 mt109 rfl ?_
    first
      | exact absurd zs zt
      | exact absurd zt zs
      | (have e : ms3 V t μ = μ := if_neg z1
         rw [e]
         exact ⟨rfl, rfl, rfl, OffG.rf, hR⟩)
      | (have e : ms3 V t μ = μ := by unfold ms3 msC; rw [if_pos z1, if_pos z4]
         rw [e]
         exact ⟨rfl, rfl, rfl, OffG.rf, hR⟩)
      | (have e : ms3 V t μ = mu μ 4 (μ 4 - 1) := by unfold ms3 msC; rw [if_pos z1, if_neg z4, if_neg z5]
         rw [e]
         exact ⟨rfl, rfl, rfl, OffG.up (by omega), R1⟩)
      | (have e : ms3 V t μ = mu (mu (mu (mu μ 4 0) 3 (kn (V.2.1 (μ 2)) (μ 3))) 1 2) 5 t := by unfold ms3 msC; rw [if_pos z1, if_neg z4, if_pos z5]; exact if_pos zs
         rw [e]
         refine ⟨rfl, rfl, rfl, ((((OffG.up (by omega)).tr (OffG.up (by omega))).tr (OffG.up (by omega))).tr (OffG.up (by omega))).tr (OffG.up (by omega)), GR.fin ?_ ?_ ?_ ?_ ?_ ?_⟩
         · (repeat (first | rw [fup_self] | rw [fup_ne (by omega)])); exact hR.k (k := 0) (by omega)
         · (repeat (first | rw [fup_self] | rw [fup_ne (by omega)])); rfl
         · (repeat (first | rw [fup_self] | rw [fup_ne (by omega)])); exact congrArg nI zs
         · (repeat (first | rw [fup_self] | rw [fup_ne (by omega)])); rfl
         · (repeat (first | rw [fup_self] | rw [fup_ne (by omega)])); exact congrArg nI (show μ 4 - 1 = 0 by omega)
         · (repeat (first | rw [fup_self] | rw [fup_ne (by omega)])); rfl)
      | (have e : ms3 V t μ = mu (mu (mu μ 4 0) 3 (kn (V.2.1 (μ 2)) (μ 3))) 2 (V.2.2.2 (μ 2)) := by unfold ms3 msC; rw [if_pos z1, if_neg z4, if_pos z5]; exact if_neg zs
         rw [e]
         refine ⟨rfl, rfl, rfl, ((((OffG.up (by omega)).tr (OffG.up (by omega))).tr (OffG.up (by omega))).tr (OffG.up (by omega))).tr (OffG.up (by omega)), GR.fin ?_ ?_ ?_ ?_ ?_ ?_⟩
         · (repeat (first | rw [fup_self] | rw [fup_ne (by omega)])); exact hR.k (k := 0) (by omega)
         · (repeat (first | rw [fup_self] | rw [fup_ne (by omega)])); exact congrArg nI z1.symm
         · (repeat (first | rw [fup_self] | rw [fup_ne (by omega)])); rfl
         · (repeat (first | rw [fup_self] | rw [fup_ne (by omega)])); rfl
         · (repeat (first | rw [fup_self] | rw [fup_ne (by omega)])); exact congrArg nI (show μ 4 - 1 = 0 by omega)
         · (repeat (first | rw [fup_self] | rw [fup_ne (by omega)])); exact (if_neg (show ¬ μ 1 = 2 by omega)).symm)
  ·
    have z1 : μ 1 = 1 := (nI_eq (b := 1) (by omega) (by omega)).mp h85
    refine w_aload_n k109_88 rfl rfl ?_
    refine w_iload_n k109_89 rfl ?_
    refine w_iconst k109_90 ?_
    refine w_iadd k109_91 ?_
    refine w_top (nI (3 + 6 * m + 4)) (nI_add _ 4) ?_
    refine w_iald k109_92 hb (nI_pos (by omega)) (nI_clamp (by omega)) (by omega) ?_
    rw [hR.k (k := 4) (by omega)]
    refine w_if_le k109_93 (fun h93 => ?_) (fun h93 => ?_)
    ·
      have z4 : μ 4 = 0 := Nat.le_zero.mp ((nI_leI (b := 0) (by omega) (by omega)).mp h93)
      refine w_vret k109_192 mt109 rfl ?_
      first
        | exact absurd zs zt
        | exact absurd zt zs
        | (have e : ms3 V t μ = μ := if_neg z1
           rw [e]
           exact ⟨rfl, rfl, rfl, OffG.rf, hR⟩)
        | (have e : ms3 V t μ = μ := by unfold ms3 msC; rw [if_pos z1, if_pos z4]
           rw [e]
           exact ⟨rfl, rfl, rfl, OffG.rf, hR⟩)
        | (have e : ms3 V t μ = mu μ 4 (μ 4 - 1) := by unfold ms3 msC; rw [if_pos z1, if_neg z4, if_neg z5]
           rw [e]
           exact ⟨rfl, rfl, rfl, OffG.up (by omega), R1⟩)
        | (have e : ms3 V t μ = mu (mu (mu (mu μ 4 0) 3 (kn (V.2.1 (μ 2)) (μ 3))) 1 2) 5 t := by unfold ms3 msC; rw [if_pos z1, if_neg z4, if_pos z5]; exact if_pos zs
           rw [e]
           refine ⟨rfl, rfl, rfl, ((((OffG.up (by omega)).tr (OffG.up (by omega))).tr (OffG.up (by omega))).tr (OffG.up (by omega))).tr (OffG.up (by omega)), GR.fin ?_ ?_ ?_ ?_ ?_ ?_⟩
           · (repeat (first | rw [fup_self] | rw [fup_ne (by omega)])); exact hR.k (k := 0) (by omega)
           · (repeat (first | rw [fup_self] | rw [fup_ne (by omega)])); rfl
           · (repeat (first | rw [fup_self] | rw [fup_ne (by omega)])); exact congrArg nI zs
           · (repeat (first | rw [fup_self] | rw [fup_ne (by omega)])); rfl
           · (repeat (first | rw [fup_self] | rw [fup_ne (by omega)])); exact congrArg nI (show μ 4 - 1 = 0 by omega)
           · (repeat (first | rw [fup_self] | rw [fup_ne (by omega)])); rfl)
        | (have e : ms3 V t μ = mu (mu (mu μ 4 0) 3 (kn (V.2.1 (μ 2)) (μ 3))) 2 (V.2.2.2 (μ 2)) := by unfold ms3 msC; rw [if_pos z1, if_neg z4, if_pos z5]; exact if_neg zs
           rw [e]
           refine ⟨rfl, rfl, rfl, ((((OffG.up (by omega)).tr (OffG.up (by omega))).tr (OffG.up (by omega))).tr (OffG.up (by omega))).tr (OffG.up (by omega)), GR.fin ?_ ?_ ?_ ?_ ?_ ?_⟩
           · (repeat (first | rw [fup_self] | rw [fup_ne (by omega)])); exact hR.k (k := 0) (by omega)
           · (repeat (first | rw [fup_self] | rw [fup_ne (by omega)])); exact congrArg nI z1.symm
           · (repeat (first | rw [fup_self] | rw [fup_ne (by omega)])); rfl
           · (repeat (first | rw [fup_self] | rw [fup_ne (by omega)])); rfl
           · (repeat (first | rw [fup_self] | rw [fup_ne (by omega)])); exact congrArg nI (show μ 4 - 1 = 0 by omega)
           · (repeat (first | rw [fup_self] | rw [fup_ne (by omega)])); exact (if_neg (show ¬ μ 1 = 2 by omega)).symm)
    ·
      have z4 : ¬ μ 4 = 0 := fun hh => h93 (by rw [hh]; decide)
      refine w_aload_n k109_96 rfl rfl ?_
      refine w_iload_n k109_97 rfl ?_
      refine w_iconst k109_98 ?_
      refine w_iadd k109_99 ?_
      refine w_top (nI (3 + 6 * m + 4)) (nI_add _ 4) ?_
      refine w_dup2 k109_100 rfl rfl ?_
      refine w_iald k109_101 hb (nI_pos (by omega)) (nI_clamp (by omega)) (by omega) ?_
      rw [hR.k (k := 4) (by omega)]
      refine w_iconst k109_102 ?_
      refine w_isub k109_103 ?_
      refine w_top (nI (μ 4 - 1)) (pk_sub (b := 1) (by omega)) ?_
      refine w_iast k109_104 hb (nI_pos (by omega)) (nI_clamp (by omega)) (by omega) ?_
      have R1 := hR.up (k := 4) (v := μ 4 - 1) (by omega) (by omega)
      have V1 := hVa.up (k := 3 + 6 * m + 4) (w := nI (μ 4 - 1)) hb
      refine w_aload_n k109_105 rfl rfl ?_
      refine w_iload_n k109_106 rfl ?_
      refine w_iconst k109_107 ?_
      refine w_iadd k109_108 ?_
      refine w_top (nI (3 + 6 * m + 4)) (nI_add _ 4) ?_
      refine w_iald k109_109 hb (nI_pos (by omega)) (nI_clamp (by omega)) (by omega) ?_
      rw [fup_self]
      refine w_if_ne k109_110 (fun h110 => ?_) (fun h110 => ?_)
      ·
        have z5 : ¬ μ 4 = 1 := fun hh => h110 (by rw [hh]; rfl)
        refine w_vret k109_192 mt109 rfl ?_
        first
          | exact absurd zs zt
          | exact absurd zt zs
          | (have e : ms3 V t μ = μ := if_neg z1
             rw [e]
             exact ⟨rfl, rfl, rfl, OffG.rf, hR⟩)
          | (have e : ms3 V t μ = μ := by unfold ms3 msC; rw [if_pos z1, if_pos z4]
             rw [e]
             exact ⟨rfl, rfl, rfl, OffG.rf, hR⟩)
          | (have e : ms3 V t μ = mu μ 4 (μ 4 - 1) := by unfold ms3 msC; rw [if_pos z1, if_neg z4, if_neg z5]
             rw [e]
             exact ⟨rfl, rfl, rfl, OffG.up (by omega), R1⟩)
          | (have e : ms3 V t μ = mu (mu (mu (mu μ 4 0) 3 (kn (V.2.1 (μ 2)) (μ 3))) 1 2) 5 t := by unfold ms3 msC; rw [if_pos z1, if_neg z4, if_pos z5]; exact if_pos zs
             rw [e]
             refine ⟨rfl, rfl, rfl, ((((OffG.up (by omega)).tr (OffG.up (by omega))).tr (OffG.up (by omega))).tr (OffG.up (by omega))).tr (OffG.up (by omega)), GR.fin ?_ ?_ ?_ ?_ ?_ ?_⟩
             · (repeat (first | rw [fup_self] | rw [fup_ne (by omega)])); exact hR.k (k := 0) (by omega)
             · (repeat (first | rw [fup_self] | rw [fup_ne (by omega)])); rfl
             · (repeat (first | rw [fup_self] | rw [fup_ne (by omega)])); exact congrArg nI zs
             · (repeat (first | rw [fup_self] | rw [fup_ne (by omega)])); rfl
             · (repeat (first | rw [fup_self] | rw [fup_ne (by omega)])); exact congrArg nI (show μ 4 - 1 = 0 by omega)
             · (repeat (first | rw [fup_self] | rw [fup_ne (by omega)])); rfl)
          | (have e : ms3 V t μ = mu (mu (mu μ 4 0) 3 (kn (V.2.1 (μ 2)) (μ 3))) 2 (V.2.2.2 (μ 2)) := by unfold ms3 msC; rw [if_pos z1, if_neg z4, if_pos z5]; exact if_neg zs
             rw [e]
             refine ⟨rfl, rfl, rfl, ((((OffG.up (by omega)).tr (OffG.up (by omega))).tr (OffG.up (by omega))).tr (OffG.up (by omega))).tr (OffG.up (by omega)), GR.fin ?_ ?_ ?_ ?_ ?_ ?_⟩
             · (repeat (first | rw [fup_self] | rw [fup_ne (by omega)])); exact hR.k (k := 0) (by omega)
             · (repeat (first | rw [fup_self] | rw [fup_ne (by omega)])); exact congrArg nI z1.symm
             · (repeat (first | rw [fup_self] | rw [fup_ne (by omega)])); rfl
             · (repeat (first | rw [fup_self] | rw [fup_ne (by omega)])); rfl
             · (repeat (first | rw [fup_self] | rw [fup_ne (by omega)])); exact congrArg nI (show μ 4 - 1 = 0 by omega)
             · (repeat (first | rw [fup_self] | rw [fup_ne (by omega)])); exact (if_neg (show ¬ μ 1 = 2 by omega)).symm)
      ·
        have z5 : μ 4 = 1 := by
          have := (nI_eq (b := 0) (by omega) (by omega)).mp h110
          omega
        refine w_aload_n k109_113 rfl rfl ?_
        refine w_iload_n k109_114 rfl ?_
        refine w_iconst k109_115 ?_
        refine w_iadd k109_116 ?_
        refine w_top (nI (3 + 6 * m + 3)) (nI_add _ 3) ?_
        refine w_aload_n k109_117 rfl rfl ?_
        refine w_getr k109_118 (k := 13) kd137 (by decide) (r137_13 G) ?_
        refine w_iload k109_121 rfl ?_
        refine w_iald k109_123 kd145 (nI_pos (by omega)) (nI_clamp (by omega)) (by omega) ?_
        rw [(V1.2 _ h2).1]
        refine w_aload_n k109_124 rfl rfl ?_
        refine w_iload_n k109_125 rfl ?_
        refine w_iconst k109_126 ?_
        refine w_iadd k109_127 ?_
        refine w_top (nI (3 + 6 * m + 3)) (nI_add _ 3) ?_
        refine w_iald k109_128 hb (nI_pos (by omega)) (nI_clamp (by omega)) (by omega) ?_
        rw [fup_ne (by omega), hR.k (k := 3) (by omega)]
        refine w_sI k109_129 (by decide) mt97 [_, _] rfl rfl rfl (mp_knitBy hpp.1 h3) ?_
        refine w_iast k109_132 hb (nI_pos (by omega)) (nI_clamp (by omega)) (by omega) ?_
        have V2 := V1.up (k := 3 + 6 * m + 3) (w := nI (kn (V.2.1 (μ 2)) (μ 3))) hb
        refine w_aload_n k109_133 rfl rfl ?_
        refine w_iload_n k109_134 rfl ?_
        refine w_iconst k109_135 ?_
        refine w_iadd k109_136 ?_
        refine w_top (nI (3 + 6 * m + 1)) (nI_add _ 1) ?_
        refine w_aload_n k109_137 rfl rfl ?_
        refine w_getr k109_138 (k := 15) kd137 (by decide) (r137_15 G) ?_
        refine w_iload k109_141 rfl ?_
        refine w_iald k109_143 kd147 (nI_pos (by omega)) (nI_clamp (by omega)) (by omega) ?_
        rw [(V2.2 _ h2).2.2]
        refine w_iload k109_144 rfl ?_
        refine w_icmp_ne k109_146 (fun h146 => ?_) (fun h146 => ?_)
        ·
          have zs : ¬ V.2.2.2 (μ 2) = μ 2 := fun hh => h146 (by rw [hh])
          refine w_iconst k109_153 ?_
          refine w_iast k109_154 hb (nI_pos (by omega)) (nI_clamp (by omega)) (by omega) ?_
          refine w_aload_n k109_155 rfl rfl ?_
          refine w_iload_n k109_156 rfl ?_
          refine w_iconst k109_157 ?_
          refine w_iadd k109_158 ?_
          refine w_top (nI (3 + 6 * m + 2)) (nI_add _ 2) ?_
          refine w_aload_n k109_159 rfl rfl ?_
          refine w_getr k109_160 (k := 15) kd137 (by decide) (r137_15 G) ?_
          refine w_iload k109_163 rfl ?_
          refine w_iald k109_165 kd147 (nI_pos (by omega)) (nI_clamp (by omega)) (by omega) ?_
          rw [((V2.up hb).2 _ h2).2.2]
          refine w_iast k109_166 hb (nI_pos (by omega)) (nI_clamp (by omega)) (by omega) ?_
          refine w_aload_n k109_167 rfl rfl ?_
          refine w_iload_n k109_168 rfl ?_
          refine w_iconst k109_169 ?_
          refine w_iadd k109_170 ?_
          refine w_top (nI (3 + 6 * m + 5)) (nI_add _ 5) ?_
          refine w_aload_n k109_171 rfl rfl ?_
          refine w_getr k109_172 (k := 15) kd137 (by decide) (r137_15 G) ?_
          refine w_iload k109_175 rfl ?_
          refine w_iald k109_177 kd147 (nI_pos (by omega)) (nI_clamp (by omega)) (by omega) ?_
          rw [(((V2.up hb).up hb).2 _ h2).2.2]
          refine w_iload k109_178 rfl ?_
          refine w_icmp_ne k109_180 (fun h180 => ?_) (fun h180 => ?_)
          ·
            have zt : ¬ V.2.2.2 (μ 2) = μ 2 := fun hh => h180 (by rw [hh])
            refine w_bipush k109_189 ?_
            refine w_iast k109_191 hb (nI_pos (by omega)) (nI_clamp (by omega)) (by omega) ?_
            refine w_vret k109_192 mt109 rfl ?_
            first
              | exact absurd zs zt
              | exact absurd zt zs
              | (have e : ms3 V t μ = μ := if_neg z1
                 rw [e]
                 exact ⟨rfl, rfl, rfl, OffG.rf, hR⟩)
              | (have e : ms3 V t μ = μ := by unfold ms3 msC; rw [if_pos z1, if_pos z4]
                 rw [e]
                 exact ⟨rfl, rfl, rfl, OffG.rf, hR⟩)
              | (have e : ms3 V t μ = mu μ 4 (μ 4 - 1) := by unfold ms3 msC; rw [if_pos z1, if_neg z4, if_neg z5]
                 rw [e]
                 exact ⟨rfl, rfl, rfl, OffG.up (by omega), R1⟩)
              | (have e : ms3 V t μ = mu (mu (mu (mu μ 4 0) 3 (kn (V.2.1 (μ 2)) (μ 3))) 1 2) 5 t := by unfold ms3 msC; rw [if_pos z1, if_neg z4, if_pos z5]; exact if_pos zs
                 rw [e]
                 refine ⟨rfl, rfl, rfl, ((((OffG.up (by omega)).tr (OffG.up (by omega))).tr (OffG.up (by omega))).tr (OffG.up (by omega))).tr (OffG.up (by omega)), GR.fin ?_ ?_ ?_ ?_ ?_ ?_⟩
                 · (repeat (first | rw [fup_self] | rw [fup_ne (by omega)])); exact hR.k (k := 0) (by omega)
                 · (repeat (first | rw [fup_self] | rw [fup_ne (by omega)])); rfl
                 · (repeat (first | rw [fup_self] | rw [fup_ne (by omega)])); exact congrArg nI zs
                 · (repeat (first | rw [fup_self] | rw [fup_ne (by omega)])); rfl
                 · (repeat (first | rw [fup_self] | rw [fup_ne (by omega)])); exact congrArg nI (show μ 4 - 1 = 0 by omega)
                 · (repeat (first | rw [fup_self] | rw [fup_ne (by omega)])); rfl)
              | (have e : ms3 V t μ = mu (mu (mu μ 4 0) 3 (kn (V.2.1 (μ 2)) (μ 3))) 2 (V.2.2.2 (μ 2)) := by unfold ms3 msC; rw [if_pos z1, if_neg z4, if_pos z5]; exact if_neg zs
                 rw [e]
                 refine ⟨rfl, rfl, rfl, ((((OffG.up (by omega)).tr (OffG.up (by omega))).tr (OffG.up (by omega))).tr (OffG.up (by omega))).tr (OffG.up (by omega)), GR.fin ?_ ?_ ?_ ?_ ?_ ?_⟩
                 · (repeat (first | rw [fup_self] | rw [fup_ne (by omega)])); exact hR.k (k := 0) (by omega)
                 · (repeat (first | rw [fup_self] | rw [fup_ne (by omega)])); exact congrArg nI z1.symm
                 · (repeat (first | rw [fup_self] | rw [fup_ne (by omega)])); rfl
                 · (repeat (first | rw [fup_self] | rw [fup_ne (by omega)])); rfl
                 · (repeat (first | rw [fup_self] | rw [fup_ne (by omega)])); exact congrArg nI (show μ 4 - 1 = 0 by omega)
                 · (repeat (first | rw [fup_self] | rw [fup_ne (by omega)])); exact (if_neg (show ¬ μ 1 = 2 by omega)).symm)
          ·
            have zt : V.2.2.2 (μ 2) = μ 2 := (nI_eq (by omega) (by omega)).mp h180
            refine w_aload_n k109_183 rfl rfl ?_
            refine w_iconst k109_184 ?_
            refine w_iald k109_185 hb (by decide) (show (0 : Int32).toNatClampNeg = 0 from rfl) (by decide) ?_
            rw [fup_ne (by omega), fup_ne (by omega), fup_ne (by omega), fup_ne (by omega), ht]
            refine w_goto k109_186 ?_
            refine w_iast k109_191 hb (nI_pos (by omega)) (nI_clamp (by omega)) (by omega) ?_
            refine w_vret k109_192 mt109 rfl ?_
            first
              | exact absurd zs zt
              | exact absurd zt zs
              | (have e : ms3 V t μ = μ := if_neg z1
                 rw [e]
                 exact ⟨rfl, rfl, rfl, OffG.rf, hR⟩)
              | (have e : ms3 V t μ = μ := by unfold ms3 msC; rw [if_pos z1, if_pos z4]
                 rw [e]
                 exact ⟨rfl, rfl, rfl, OffG.rf, hR⟩)
              | (have e : ms3 V t μ = mu μ 4 (μ 4 - 1) := by unfold ms3 msC; rw [if_pos z1, if_neg z4, if_neg z5]
                 rw [e]
                 exact ⟨rfl, rfl, rfl, OffG.up (by omega), R1⟩)
              | (have e : ms3 V t μ = mu (mu (mu (mu μ 4 0) 3 (kn (V.2.1 (μ 2)) (μ 3))) 1 2) 5 t := by unfold ms3 msC; rw [if_pos z1, if_neg z4, if_pos z5]; exact if_pos zs
                 rw [e]
                 refine ⟨rfl, rfl, rfl, ((((OffG.up (by omega)).tr (OffG.up (by omega))).tr (OffG.up (by omega))).tr (OffG.up (by omega))).tr (OffG.up (by omega)), GR.fin ?_ ?_ ?_ ?_ ?_ ?_⟩
                 · (repeat (first | rw [fup_self] | rw [fup_ne (by omega)])); exact hR.k (k := 0) (by omega)
                 · (repeat (first | rw [fup_self] | rw [fup_ne (by omega)])); rfl
                 · (repeat (first | rw [fup_self] | rw [fup_ne (by omega)])); exact congrArg nI zs
                 · (repeat (first | rw [fup_self] | rw [fup_ne (by omega)])); rfl
                 · (repeat (first | rw [fup_self] | rw [fup_ne (by omega)])); exact congrArg nI (show μ 4 - 1 = 0 by omega)
                 · (repeat (first | rw [fup_self] | rw [fup_ne (by omega)])); rfl)
              | (have e : ms3 V t μ = mu (mu (mu μ 4 0) 3 (kn (V.2.1 (μ 2)) (μ 3))) 2 (V.2.2.2 (μ 2)) := by unfold ms3 msC; rw [if_pos z1, if_neg z4, if_pos z5]; exact if_neg zs
                 rw [e]
                 refine ⟨rfl, rfl, rfl, ((((OffG.up (by omega)).tr (OffG.up (by omega))).tr (OffG.up (by omega))).tr (OffG.up (by omega))).tr (OffG.up (by omega)), GR.fin ?_ ?_ ?_ ?_ ?_ ?_⟩
                 · (repeat (first | rw [fup_self] | rw [fup_ne (by omega)])); exact hR.k (k := 0) (by omega)
                 · (repeat (first | rw [fup_self] | rw [fup_ne (by omega)])); exact congrArg nI z1.symm
                 · (repeat (first | rw [fup_self] | rw [fup_ne (by omega)])); rfl
                 · (repeat (first | rw [fup_self] | rw [fup_ne (by omega)])); rfl
                 · (repeat (first | rw [fup_self] | rw [fup_ne (by omega)])); exact congrArg nI (show μ 4 - 1 = 0 by omega)
                 · (repeat (first | rw [fup_self] | rw [fup_ne (by omega)])); exact (if_neg (show ¬ μ 1 = 2 by omega)).symm)
        ·
          have zs : V.2.2.2 (μ 2) = μ 2 := (nI_eq (by omega) (by omega)).mp h146
          refine w_iconst k109_149 ?_
          refine w_goto k109_150 ?_
          refine w_iast k109_154 hb (nI_pos (by omega)) (nI_clamp (by omega)) (by omega) ?_
          refine w_aload_n k109_155 rfl rfl ?_
          refine w_iload_n k109_156 rfl ?_
          refine w_iconst k109_157 ?_
          refine w_iadd k109_158 ?_
          refine w_top (nI (3 + 6 * m + 2)) (nI_add _ 2) ?_
          refine w_aload_n k109_159 rfl rfl ?_
          refine w_getr k109_160 (k := 15) kd137 (by decide) (r137_15 G) ?_
          refine w_iload k109_163 rfl ?_
          refine w_iald k109_165 kd147 (nI_pos (by omega)) (nI_clamp (by omega)) (by omega) ?_
          rw [((V2.up hb).2 _ h2).2.2]
          refine w_iast k109_166 hb (nI_pos (by omega)) (nI_clamp (by omega)) (by omega) ?_
          refine w_aload_n k109_167 rfl rfl ?_
          refine w_iload_n k109_168 rfl ?_
          refine w_iconst k109_169 ?_
          refine w_iadd k109_170 ?_
          refine w_top (nI (3 + 6 * m + 5)) (nI_add _ 5) ?_
          refine w_aload_n k109_171 rfl rfl ?_
          refine w_getr k109_172 (k := 15) kd137 (by decide) (r137_15 G) ?_
          refine w_iload k109_175 rfl ?_
          refine w_iald k109_177 kd147 (nI_pos (by omega)) (nI_clamp (by omega)) (by omega) ?_
          rw [(((V2.up hb).up hb).2 _ h2).2.2]
          refine w_iload k109_178 rfl ?_
          refine w_icmp_ne k109_180 (fun h180 => ?_) (fun h180 => ?_)
          ·
            have zt : ¬ V.2.2.2 (μ 2) = μ 2 := fun hh => h180 (by rw [hh])
            refine w_bipush k109_189 ?_
            refine w_iast k109_191 hb (nI_pos (by omega)) (nI_clamp (by omega)) (by omega) ?_
            refine w_vret k109_192 mt109 rfl ?_
            first
              | exact absurd zs zt
              | exact absurd zt zs
              | (have e : ms3 V t μ = μ := if_neg z1
                 rw [e]
                 exact ⟨rfl, rfl, rfl, OffG.rf, hR⟩)
              | (have e : ms3 V t μ = μ := by unfold ms3 msC; rw [if_pos z1, if_pos z4]
                 rw [e]
                 exact ⟨rfl, rfl, rfl, OffG.rf, hR⟩)
              | (have e : ms3 V t μ = mu μ 4 (μ 4 - 1) := by unfold ms3 msC; rw [if_pos z1, if_neg z4, if_neg z5]
                 rw [e]
                 exact ⟨rfl, rfl, rfl, OffG.up (by omega), R1⟩)
              | (have e : ms3 V t μ = mu (mu (mu (mu μ 4 0) 3 (kn (V.2.1 (μ 2)) (μ 3))) 1 2) 5 t := by unfold ms3 msC; rw [if_pos z1, if_neg z4, if_pos z5]; exact if_pos zs
                 rw [e]
                 refine ⟨rfl, rfl, rfl, ((((OffG.up (by omega)).tr (OffG.up (by omega))).tr (OffG.up (by omega))).tr (OffG.up (by omega))).tr (OffG.up (by omega)), GR.fin ?_ ?_ ?_ ?_ ?_ ?_⟩
                 · (repeat (first | rw [fup_self] | rw [fup_ne (by omega)])); exact hR.k (k := 0) (by omega)
                 · (repeat (first | rw [fup_self] | rw [fup_ne (by omega)])); rfl
                 · (repeat (first | rw [fup_self] | rw [fup_ne (by omega)])); exact congrArg nI zs
                 · (repeat (first | rw [fup_self] | rw [fup_ne (by omega)])); rfl
                 · (repeat (first | rw [fup_self] | rw [fup_ne (by omega)])); exact congrArg nI (show μ 4 - 1 = 0 by omega)
                 · (repeat (first | rw [fup_self] | rw [fup_ne (by omega)])); rfl)
              | (have e : ms3 V t μ = mu (mu (mu μ 4 0) 3 (kn (V.2.1 (μ 2)) (μ 3))) 2 (V.2.2.2 (μ 2)) := by unfold ms3 msC; rw [if_pos z1, if_neg z4, if_pos z5]; exact if_neg zs
                 rw [e]
                 refine ⟨rfl, rfl, rfl, ((((OffG.up (by omega)).tr (OffG.up (by omega))).tr (OffG.up (by omega))).tr (OffG.up (by omega))).tr (OffG.up (by omega)), GR.fin ?_ ?_ ?_ ?_ ?_ ?_⟩
                 · (repeat (first | rw [fup_self] | rw [fup_ne (by omega)])); exact hR.k (k := 0) (by omega)
                 · (repeat (first | rw [fup_self] | rw [fup_ne (by omega)])); exact congrArg nI z1.symm
                 · (repeat (first | rw [fup_self] | rw [fup_ne (by omega)])); rfl
                 · (repeat (first | rw [fup_self] | rw [fup_ne (by omega)])); rfl
                 · (repeat (first | rw [fup_self] | rw [fup_ne (by omega)])); exact congrArg nI (show μ 4 - 1 = 0 by omega)
                 · (repeat (first | rw [fup_self] | rw [fup_ne (by omega)])); exact (if_neg (show ¬ μ 1 = 2 by omega)).symm)
          ·
            have zt : V.2.2.2 (μ 2) = μ 2 := (nI_eq (by omega) (by omega)).mp h180
            refine w_aload_n k109_183 rfl rfl ?_
            refine w_iconst k109_184 ?_
            refine w_iald k109_185 hb (by decide) (show (0 : Int32).toNatClampNeg = 0 from rfl) (by decide) ?_
            rw [fup_ne (by omega), fup_ne (by omega), fup_ne (by omega), fup_ne (by omega), ht]
            refine w_goto k109_186 ?_
            refine w_iast k109_191 hb (nI_pos (by omega)) (nI_clamp (by omega)) (by omega) ?_
            refine w_vret k109_192 mt109 rfl ?_
            first
              | exact absurd zs zt
              | exact absurd zt zs
              | (have e : ms3 V t μ = μ := if_neg z1
                 rw [e]
                 exact ⟨rfl, rfl, rfl, OffG.rf, hR⟩)
              | (have e : ms3 V t μ = μ := by unfold ms3 msC; rw [if_pos z1, if_pos z4]
                 rw [e]
                 exact ⟨rfl, rfl, rfl, OffG.rf, hR⟩)
              | (have e : ms3 V t μ = mu μ 4 (μ 4 - 1) := by unfold ms3 msC; rw [if_pos z1, if_neg z4, if_neg z5]
                 rw [e]
                 exact ⟨rfl, rfl, rfl, OffG.up (by omega), R1⟩)
              | (have e : ms3 V t μ = mu (mu (mu (mu μ 4 0) 3 (kn (V.2.1 (μ 2)) (μ 3))) 1 2) 5 t := by unfold ms3 msC; rw [if_pos z1, if_neg z4, if_pos z5]; exact if_pos zs
                 rw [e]
                 refine ⟨rfl, rfl, rfl, ((((OffG.up (by omega)).tr (OffG.up (by omega))).tr (OffG.up (by omega))).tr (OffG.up (by omega))).tr (OffG.up (by omega)), GR.fin ?_ ?_ ?_ ?_ ?_ ?_⟩
                 · (repeat (first | rw [fup_self] | rw [fup_ne (by omega)])); exact hR.k (k := 0) (by omega)
                 · (repeat (first | rw [fup_self] | rw [fup_ne (by omega)])); rfl
                 · (repeat (first | rw [fup_self] | rw [fup_ne (by omega)])); exact congrArg nI zs
                 · (repeat (first | rw [fup_self] | rw [fup_ne (by omega)])); rfl
                 · (repeat (first | rw [fup_self] | rw [fup_ne (by omega)])); exact congrArg nI (show μ 4 - 1 = 0 by omega)
                 · (repeat (first | rw [fup_self] | rw [fup_ne (by omega)])); rfl)
              | (have e : ms3 V t μ = mu (mu (mu μ 4 0) 3 (kn (V.2.1 (μ 2)) (μ 3))) 2 (V.2.2.2 (μ 2)) := by unfold ms3 msC; rw [if_pos z1, if_neg z4, if_pos z5]; exact if_neg zs
                 rw [e]
                 refine ⟨rfl, rfl, rfl, ((((OffG.up (by omega)).tr (OffG.up (by omega))).tr (OffG.up (by omega))).tr (OffG.up (by omega))).tr (OffG.up (by omega)), GR.fin ?_ ?_ ?_ ?_ ?_ ?_⟩
                 · (repeat (first | rw [fup_self] | rw [fup_ne (by omega)])); exact hR.k (k := 0) (by omega)
                 · (repeat (first | rw [fup_self] | rw [fup_ne (by omega)])); exact congrArg nI z1.symm
                 · (repeat (first | rw [fup_self] | rw [fup_ne (by omega)])); rfl
                 · (repeat (first | rw [fup_self] | rw [fup_ne (by omega)])); rfl
                 · (repeat (first | rw [fup_self] | rw [fup_ne (by omega)])); exact congrArg nI (show μ 4 - 1 = 0 by omega)
                 · (repeat (first | rw [fup_self] | rw [fup_ne (by omega)])); exact (if_neg (show ¬ μ 1 = 2 by omega)).symm)
set_option maxHeartbeats 1000000 in
theorem ml_go32 {S : Scr} {d : Nat} {f : FF} {g : GG} (G : GOm g) {b m t I : Nat} {V : Va} {μ : Nat → Nat} (hb : kd KKl 153 b = some (20, 39)) (hm : m < 6) (hVa : MVa f V) (hV : VWf V) (hR : GR f b m μ) (ht : f b 0 = nI t) (hI : f b 1 = nI I) (h1 : μ 1 ≤ 2) (h2 : μ 2 < V.1) (h3 : RowOk (μ 3)) (h4 : μ 4 ≤ 20) (hIl : I < 2 ^ 31) : Wp S (d + 2) 109 32 [some (.ref 137), some (.ref b), some (.int (nI m)), some (.int (nI (3 + 6 * m))), none] [] 153 f g (GoMQ f g b m (msB V t I μ)) := by
  have h9 := hV.1
  have hpp := hV.2 _ h2
  refine w_aload_n k109_32 rfl rfl ?_
  refine w_iload_n k109_33 rfl ?_
  refine w_iconst k109_34 ?_
  refine w_iadd k109_35 ?_
  refine w_top (nI (3 + 6 * m + 2)) (nI_add _ 2) ?_
  refine w_iald k109_36 hb (nI_pos (by omega)) (nI_clamp (by omega)) (by omega) ?_
  rw [hR.k (k := 2) (by omega)]
  refine w_istore k109_37 (ls' := [_, _, _, _, _]) rfl ?_
  refine w_aload_n k109_39 rfl rfl ?_
  refine w_iload_n k109_40 rfl ?_
  refine w_iconst k109_41 ?_
  refine w_iadd k109_42 ?_
  refine w_top (nI (3 + 6 * m + 1)) (nI_add _ 1) ?_
  refine w_iald k109_43 hb (nI_pos (by omega)) (nI_clamp (by omega)) (by omega) ?_
  rw [hR.k (k := 1) (by omega)]
  refine w_iconst k109_44 ?_
  refine w_icmp_ne k109_45 (fun h45 => ?_) (fun h45 => ?_)
  ·
    have z1 : ¬ μ 1 = 1 := fun hh => h45 (by rw [hh]; rfl)
    first
      | (have e : msB V t I μ = ms3 V t μ := by unfold msB ms3; rw [if_pos z1, if_neg z1]
         rw [e]
         exact ml_go79 G hb hm hVa hV hR ht hI h1 h2 h3 h4)
      | (have e : msB V t I μ = ms3 V t (mu μ 4 (V.2.2.1 (μ 2))) := by unfold msB ms3; rw [if_neg (fun hh => hh z1), if_pos ⟨z4, z6⟩]; exact (if_pos (show mu μ 4 (V.2.2.1 (μ 2)) 1 = 1 from z1)).symm
         rw [e]
         refine (ml_go79 (μ := mu μ 4 (V.2.2.1 (μ 2))) G hb hm (hVa.up hb) hV (hR.up (by omega) (by omega)) (by rw [fup_ne (by omega)]; exact ht) (by rw [fup_ne (by omega)]; exact hI) h1 h2 h3 hpp.2.2.1).mono ?_
         rintro _ _ f2 _ ⟨rfl, rfl, rfl, hO, hR2⟩
         exact ⟨rfl, rfl, rfl, (OffG.up (by omega)).tr hO, hR2⟩)
      | (have e : msB V t I μ = ms3 V t μ := by
           unfold msB ms3
           rw [if_neg (fun hh => hh z1), if_pos z1, if_neg]
           first
             | exact fun hh => z4 hh.1
             | exact fun hh => absurd (z6.symm.trans hh.2) (by decide)
         rw [e]
         exact ml_go79 G hb hm hVa hV hR ht hI h1 h2 h3 h4)
  ·
    have z1 : μ 1 = 1 := (nI_eq (b := 1) (by omega) (by omega)).mp h45
    refine w_aload_n k109_48 rfl rfl ?_
    refine w_iload_n k109_49 rfl ?_
    refine w_iconst k109_50 ?_
    refine w_iadd k109_51 ?_
    refine w_top (nI (3 + 6 * m + 4)) (nI_add _ 4) ?_
    refine w_iald k109_52 hb (nI_pos (by omega)) (nI_clamp (by omega)) (by omega) ?_
    rw [hR.k (k := 4) (by omega)]
    refine w_if_ne k109_53 (fun h53 => ?_) (fun h53 => ?_)
    ·
      have z4 : ¬ μ 4 = 0 := fun hh => h53 (by rw [hh]; rfl)
      first
        | (have e : msB V t I μ = ms3 V t μ := by unfold msB ms3; rw [if_pos z1, if_neg z1]
           rw [e]
           exact ml_go79 G hb hm hVa hV hR ht hI h1 h2 h3 h4)
        | (have e : msB V t I μ = ms3 V t (mu μ 4 (V.2.2.1 (μ 2))) := by unfold msB ms3; rw [if_neg (fun hh => hh z1), if_pos ⟨z4, z6⟩]; exact (if_pos (show mu μ 4 (V.2.2.1 (μ 2)) 1 = 1 from z1)).symm
           rw [e]
           refine (ml_go79 (μ := mu μ 4 (V.2.2.1 (μ 2))) G hb hm (hVa.up hb) hV (hR.up (by omega) (by omega)) (by rw [fup_ne (by omega)]; exact ht) (by rw [fup_ne (by omega)]; exact hI) h1 h2 h3 hpp.2.2.1).mono ?_
           rintro _ _ f2 _ ⟨rfl, rfl, rfl, hO, hR2⟩
           exact ⟨rfl, rfl, rfl, (OffG.up (by omega)).tr hO, hR2⟩)
        | (have e : msB V t I μ = ms3 V t μ := by
             unfold msB ms3
             rw [if_neg (fun hh => hh z1), if_pos z1, if_neg]
             first
               | exact fun hh => z4 hh.1
               | exact fun hh => absurd (z6.symm.trans hh.2) (by decide)
           rw [e]
           exact ml_go79 G hb hm hVa hV hR ht hI h1 h2 h3 h4)
    ·
      have z4 : μ 4 = 0 := (nI_eq (b := 0) (by omega) (by omega)).mp h53
      refine w_aload_n k109_56 rfl rfl ?_
      refine w_iconst k109_57 ?_
      refine w_iald k109_58 hb (by decide) (show (1 : Int32).toNatClampNeg = 1 from rfl) (by decide) ?_
      rw [hI]
      refine w_iload k109_59 rfl ?_
      refine w_sI k109_61 (by decide) mt108 [_, _] rfl rfl rfl (mp_has hIl (by omega)) ?_
      refine w_if_ne k109_64 (fun h64 => ?_) (fun h64 => ?_)
      ·
        have z6 := bI_n0.mp h64
        first
          | (have e : msB V t I μ = ms3 V t μ := by unfold msB ms3; rw [if_pos z1, if_neg z1]
             rw [e]
             exact ml_go79 G hb hm hVa hV hR ht hI h1 h2 h3 h4)
          | (have e : msB V t I μ = ms3 V t (mu μ 4 (V.2.2.1 (μ 2))) := by unfold msB ms3; rw [if_neg (fun hh => hh z1), if_pos ⟨z4, z6⟩]; exact (if_pos (show mu μ 4 (V.2.2.1 (μ 2)) 1 = 1 from z1)).symm
             rw [e]
             refine (ml_go79 (μ := mu μ 4 (V.2.2.1 (μ 2))) G hb hm (hVa.up hb) hV (hR.up (by omega) (by omega)) (by rw [fup_ne (by omega)]; exact ht) (by rw [fup_ne (by omega)]; exact hI) h1 h2 h3 hpp.2.2.1).mono ?_
             rintro _ _ f2 _ ⟨rfl, rfl, rfl, hO, hR2⟩
             exact ⟨rfl, rfl, rfl, (OffG.up (by omega)).tr hO, hR2⟩)
          | (have e : msB V t I μ = ms3 V t μ := by
               unfold msB ms3
               rw [if_neg (fun hh => hh z1), if_pos z1, if_neg]
               first
                 | exact fun hh => z4 hh.1
                 | exact fun hh => absurd (z6.symm.trans hh.2) (by decide)
             rw [e]
             exact ml_go79 G hb hm hVa hV hR ht hI h1 h2 h3 h4)
      ·
        have z6 := bI_0.mp h64
        refine w_aload_n k109_67 rfl rfl ?_
        refine w_iload_n k109_68 rfl ?_
        refine w_iconst k109_69 ?_
        refine w_iadd k109_70 ?_
        refine w_top (nI (3 + 6 * m + 4)) (nI_add _ 4) ?_
        refine w_aload_n k109_71 rfl rfl ?_
        refine w_getr k109_72 (k := 14) kd137 (by decide) (r137_14 G) ?_
        refine w_iload k109_75 rfl ?_
        refine w_iald k109_77 kd146 (nI_pos (by omega)) (nI_clamp (by omega)) (by omega) ?_
        rw [(hVa.2 _ h2).2.1]
        refine w_iast k109_78 hb (nI_pos (by omega)) (nI_clamp (by omega)) (by omega) ?_
        first
          | (have e : msB V t I μ = ms3 V t μ := by unfold msB ms3; rw [if_pos z1, if_neg z1]
             rw [e]
             exact ml_go79 G hb hm hVa hV hR ht hI h1 h2 h3 h4)
          | (have e : msB V t I μ = ms3 V t (mu μ 4 (V.2.2.1 (μ 2))) := by unfold msB ms3; rw [if_neg (fun hh => hh z1), if_pos ⟨z4, z6⟩]; exact (if_pos (show mu μ 4 (V.2.2.1 (μ 2)) 1 = 1 from z1)).symm
             rw [e]
             refine (ml_go79 (μ := mu μ 4 (V.2.2.1 (μ 2))) G hb hm (hVa.up hb) hV (hR.up (by omega) (by omega)) (by rw [fup_ne (by omega)]; exact ht) (by rw [fup_ne (by omega)]; exact hI) h1 h2 h3 hpp.2.2.1).mono ?_
             rintro _ _ f2 _ ⟨rfl, rfl, rfl, hO, hR2⟩
             exact ⟨rfl, rfl, rfl, (OffG.up (by omega)).tr hO, hR2⟩)
          | (have e : msB V t I μ = ms3 V t μ := by
               unfold msB ms3
               rw [if_neg (fun hh => hh z1), if_pos z1, if_neg]
               first
                 | exact fun hh => z4 hh.1
                 | exact fun hh => absurd (z6.symm.trans hh.2) (by decide)
             rw [e]
             exact ml_go79 G hb hm hVa hV hR ht hI h1 h2 h3 h4)
set_option maxHeartbeats 1000000 in
theorem mp_goesOn {S : Scr} {d : Nat} {f : FF} {g : GG} (G : GOm g) {b m t I : Nat} {V : Va} {μ : Nat → Nat} (hb : kd KKl 153 b = some (20, 39)) (hm : m < 6) (hVa : MVa f V) (hV : VWf V) (hR : GR f b m μ) (ht : f b 0 = nI t) (hI : f b 1 = nI I) (h1 : μ 1 ≤ 2) (h2 : μ 2 < V.1) (h3 : RowOk (μ 3)) (h4 : μ 4 ≤ 20) (hIl : I < 2 ^ 31) (h0 : μ 0 < 2 ^ 31) (htl : t < 2 ^ 31) : Wp S (d + 2) 109 0 [some (.ref 137), some (.ref b), some (.int (nI m)), none, none] [] 153 f g (GoMQ f g b m (msA V t I μ)) := by
  have h9 := hV.1
  have hpp := hV.2 _ h2
  refine w_iconst k109_0 ?_
  refine w_bipush k109_1 ?_
  refine w_iload_n k109_3 rfl ?_
  refine w_imul k109_4 ?_
  refine w_top (nI (6 * m)) (pk_mul 6 m) ?_
  refine w_iadd k109_5 ?_
  refine w_top (nI (3 + 6 * m)) (nI_add 3 _) ?_
  refine w_istore_n k109_6 (ls' := [_, _, _, _, _]) rfl ?_
  refine w_aload_n k109_7 rfl rfl ?_
  refine w_iload_n k109_8 rfl ?_
  refine w_iconst k109_9 ?_
  refine w_iadd k109_10 ?_
  refine w_top (nI (3 + 6 * m + 1)) (nI_add _ 1) ?_
  refine w_iald k109_11 hb (nI_pos (by omega)) (nI_clamp (by omega)) (by omega) ?_
  rw [hR.k (k := 1) (by omega)]
  refine w_if_ne k109_12 (fun h12 => ?_) (fun h12 => ?_)
  ·
    have z1 : ¬ μ 1 = 0 := fun hh => h12 (by rw [hh]; rfl)
    first
      | (have e : msA V t I μ = msB V t I (mu μ 1 1) := by unfold msA; rw [if_pos ⟨z1, z0⟩]
         rw [e]
         refine (ml_go32 (μ := mu μ 1 1) G hb hm (hVa.up hb) hV (hR.up1 z1) (by rw [fup_ne (by omega)]; exact ht) (by rw [fup_ne (by omega)]; exact hI) (by show (1 : Nat) ≤ 2; omega) h2 h3 h4 hIl).mono ?_
         rintro _ _ f2 _ ⟨rfl, rfl, rfl, hO, hR2⟩
         exact ⟨rfl, rfl, rfl, (OffG.up (by omega)).tr hO, hR2⟩)
      | (have e : msA V t I μ = msB V t I μ := by
           unfold msA
           rw [if_neg]
           first
             | exact fun hh => z1 hh.1
             | exact fun hh => z0 hh.2
         rw [e]
         exact ml_go32 G hb hm hVa hV hR ht hI h1 h2 h3 h4 hIl)
  ·
    have z1 : μ 1 = 0 := (nI_eq (b := 0) (by omega) (by omega)).mp h12
    refine w_aload_n k109_15 rfl rfl ?_
    refine w_iload_n k109_16 rfl ?_
    refine w_iconst k109_17 ?_
    refine w_iadd k109_18 ?_
    refine w_top (nI (3 + 6 * m + 0)) (nI_add _ 0) ?_
    refine w_iald k109_19 hb (nI_pos (by omega)) (nI_clamp (by omega)) (by omega) ?_
    rw [hR.k (k := 0) (by omega)]
    refine w_aload_n k109_20 rfl rfl ?_
    refine w_iconst k109_21 ?_
    refine w_iald k109_22 hb (by decide) (show (0 : Int32).toNatClampNeg = 0 from rfl) (by decide) ?_
    rw [ht]
    refine w_icmp_ne k109_23 (fun h23 => ?_) (fun h23 => ?_)
    ·
      have z0 : ¬ μ 0 = t := fun hh => h23 (by rw [hh])
      first
        | (have e : msA V t I μ = msB V t I (mu μ 1 1) := by unfold msA; rw [if_pos ⟨z1, z0⟩]
           rw [e]
           refine (ml_go32 (μ := mu μ 1 1) G hb hm (hVa.up hb) hV (hR.up1 z1) (by rw [fup_ne (by omega)]; exact ht) (by rw [fup_ne (by omega)]; exact hI) (by show (1 : Nat) ≤ 2; omega) h2 h3 h4 hIl).mono ?_
           rintro _ _ f2 _ ⟨rfl, rfl, rfl, hO, hR2⟩
           exact ⟨rfl, rfl, rfl, (OffG.up (by omega)).tr hO, hR2⟩)
        | (have e : msA V t I μ = msB V t I μ := by
             unfold msA
             rw [if_neg]
             first
               | exact fun hh => z1 hh.1
               | exact fun hh => z0 hh.2
           rw [e]
           exact ml_go32 G hb hm hVa hV hR ht hI h1 h2 h3 h4 hIl)
    ·
      have z0 : μ 0 = t := (nI_eq h0 htl).mp h23
      refine w_aload_n k109_26 rfl rfl ?_
      refine w_iload_n k109_27 rfl ?_
      refine w_iconst k109_28 ?_
      refine w_iadd k109_29 ?_
      refine w_top (nI (3 + 6 * m + 1)) (nI_add _ 1) ?_
      refine w_iconst k109_30 ?_
      refine w_iast k109_31 hb (nI_pos (by omega)) (nI_clamp (by omega)) (by omega) ?_
      first
        | (have e : msA V t I μ = msB V t I (mu μ 1 1) := by unfold msA; rw [if_pos ⟨z1, z0⟩]
           rw [e]
           refine (ml_go32 (μ := mu μ 1 1) G hb hm (hVa.up hb) hV (hR.up1 z1) (by rw [fup_ne (by omega)]; exact ht) (by rw [fup_ne (by omega)]; exact hI) (by show (1 : Nat) ≤ 2; omega) h2 h3 h4 hIl).mono ?_
           rintro _ _ f2 _ ⟨rfl, rfl, rfl, hO, hR2⟩
           exact ⟨rfl, rfl, rfl, (OffG.up (by omega)).tr hO, hR2⟩)
        | (have e : msA V t I μ = msB V t I μ := by
             unfold msA
             rw [if_neg]
             first
               | exact fun hh => z1 hh.1
               | exact fun hh => z0 hh.2
           rw [e]
           exact ml_go32 G hb hm hVa hV hR ht hI h1 h2 h3 h4 hIl)
set_option maxHeartbeats 1000000 in
theorem ml_passes {S : Scr} {d : Nat} {f : FF} {g : GG} (G : GOm g) {b : Nat} {V : Va} {M : Nat → Nat → Nat} (hb : kd KKl 153 b = some (20, 39)) (hVa : MVa f V) (hV : VWf V) (hA : MR1 (f b) M) (hW : MoW V M) : ∀ (t j : Nat) (f1 : FF), t + j = M 0 2 → (∀ x, x ≠ b → f1 x = f x) → (∀ k, k < 3 → f1 b k = f b k) → (∀ i, i < j → GR f1 b i (mnA V M (i + 1))) → (∀ i, j ≤ i → i < M 0 2 → GR f1 b i (M (i + 1))) → Wp S (d + 3) 110 2 [some (.ref 137), some (.ref b), some (.int (nI j))] [] 153 f1 g (fun v n' f' g' => v = none ∧ n' = 153 ∧ g' = g ∧ (∀ x, x ≠ b → f' x = f x) ∧ MR1 (f' b) (mnA V M)) := by
  have h6 := hW.1
  have ht := hW.2.1
  have hIl := hW.2.2.1
  intro t
  induction t with
  | zero =>
    intro j f1 e0 e1 e2 e3 e4
    refine w_iload_n k110_2 rfl ?_
    refine w_aload_n k110_3 rfl rfl ?_
    refine w_iconst k110_4 ?_
    refine w_iald k110_5 hb (by decide) (show (2 : Int32).toNatClampNeg = 2 from rfl) (by decide) ?_
    rw [e2 2 (by omega), hA.2.2.1]
    refine w_icmp_ge k110_6 (fun h6 => ?_) (fun h6 => absurd (nI_le (by omega) (by omega)) h6)
    refine w_aload_n k110_21 rfl rfl ?_
    refine w_iconst k110_22 ?_
    refine w_dup2 k110_23 rfl rfl ?_
    refine w_iald k110_24 hb (by decide) (show (0 : Int32).toNatClampNeg = 0 from rfl) (by decide) ?_
    rw [e2 0 (by omega), hA.1]
    refine w_iconst k110_25 ?_
    refine w_iadd k110_26 ?_
    refine w_top (nI (M 0 0 + 1)) (nI_1 _) ?_
    refine w_iast k110_27 hb (by decide) (show (0 : Int32).toNatClampNeg = 0 from rfl) (by decide) ?_
    refine w_vret k110_28 mt110 rfl ?_
    refine ⟨rfl, rfl, rfl, fun x hx => by funext y; rw [fup_no hx, e1 x hx], fup_self, by rw [fup_ne (by omega), e2 1 (by omega)]; exact hA.2.1, by rw [fup_ne (by omega), e2 2 (by omega)]; exact hA.2.2.1, fun m hm k hk => ?_⟩
    rw [fup_ne (by omega)]
    exact e3 m (by have : m < M 0 2 := hm; omega) k hk
  | succ t ih =>
    intro j f1 e0 e1 e2 e3 e4
    have hj := hW.2.2.2 j (by omega)
    refine w_iload_n k110_2 rfl ?_
    refine w_aload_n k110_3 rfl rfl ?_
    refine w_iconst k110_4 ?_
    refine w_iald k110_5 hb (by decide) (show (2 : Int32).toNatClampNeg = 2 from rfl) (by decide) ?_
    rw [e2 2 (by omega), hA.2.2.1]
    refine w_icmp_ge k110_6 (fun h6 => absurd h6 (nI_ge (by omega) (by omega))) (fun h6 => ?_)
    refine w_aload_n k110_9 rfl rfl ?_
    refine w_aload_n k110_10 rfl rfl ?_
    refine w_iload_n k110_11 rfl ?_
    refine w_vA k110_12 mt109 kd137 ⟨rfl, by decide⟩ [_, _] rfl rfl rfl (mp_goesOn (t := M 0 0) (I := M 0 1) G hb (by omega) (hVa.arr hb e1) hV (e4 j (Nat.le_refl j) (by omega)) (by rw [e2 0 (by omega)]; exact hA.1) (by rw [e2 1 (by omega)]; exact hA.2.1) hj.2.1 hj.2.2.1 hj.2.2.2.1 hj.2.2.2.2.1 (by omega) (Nat.lt_trans hj.1 (by omega)) (by omega)) ?_
    rintro _ _ f2 _ ⟨rfl, rfl, rfl, hO, hR⟩
    refine w_iinc k110_15 rfl (ls' := [_, _, _]) rfl ?_
    refine w_goto k110_18 ?_
    rw [nI_1]
    refine ih (j + 1) f2 (by omega) (fun x hx => by funext y; rw [hO x y (Or.inl hx), e1 x hx]) (fun k hk => by rw [hO b k (by omega)]; exact e2 k hk) (fun i hi => ?_) (fun i hi hi2 => (e4 i (by omega) hi2).off hO (by omega))
    by_cases hij : i = j
    · subst hij; exact hR
    · exact (e3 i (by omega)).off hO (by omega)
set_option maxHeartbeats 1000000 in
theorem mp_passes {S : Scr} {d : Nat} {f : FF} {g : GG} (G : GOm g) {b : Nat} {V : Va} {M : Nat → Nat → Nat} (hb : kd KKl 153 b = some (20, 39)) (hVa : MVa f V) (hV : VWf V) (hA : MR1 (f b) M) (hW : MoW V M) : Wp S (d + 3) 110 0 [some (.ref 137), some (.ref b), none] [] 153 f g (fun v n' f' g' => v = none ∧ n' = 153 ∧ g' = g ∧ (∀ x, x ≠ b → f' x = f x) ∧ MR1 (f' b) (mnA V M)) := by
  refine w_iconst k110_0 ?_
  refine w_istore_n k110_1 (ls' := [_, _, _]) rfl ?_
  exact ml_passes G hb hVa hV hA hW (M 0 2) 0 f rfl (fun _ _ => rfl) (fun _ _ => rfl) (fun i hi => absurd hi (Nat.not_lt_zero i)) (fun i _ hi k hk => hA.2.2.2 i hi k hk)
