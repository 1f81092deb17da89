/-! SPECS, 30: the model, base -/
/-- a moment in a row of numbers -/
def MR1 (ρ : Nat → Int32) (M : Nat → Nat → Nat) : Prop := ρ 0 = nI (M 0 0) ∧ ρ 1 = nI (M 0 1) ∧ ρ 2 = nI (M 0 2) ∧ ∀ m, m < M 0 2 → ∀ k, k < 6 → ρ (3 + 6 * m + k) = msV (M (m + 1)) k
theorem MR1.k {ρ : Nat → Int32} {M : Nat → Nat → Nat} (h : MR1 ρ M) {m k : Nat} (hm : m < M 0 2) (hk : k < 5) : ρ (3 + 6 * m + k) = nI (M (m + 1) k) := (h.2.2.2 m hm k (by omega)).trans (if_neg (by omega))
theorem MR1.eq {ρ ρ' : Nat → Int32} {M : Nat → Nat → Nat} (h : MR1 ρ M) (h6 : M 0 2 ≤ 6) (ho : ∀ k, k < 39 → ρ' k = ρ k) : MR1 ρ' M := ⟨by rw [ho 0 (by omega)]; exact h.1, by rw [ho 1 (by omega)]; exact h.2.1, by rw [ho 2 (by omega)]; exact h.2.2.1, fun m hm k hk => by rw [ho _ (by omega)]; exact h.2.2.2 m hm k hk⟩
/-- the model's valley -/
def MVa (f : FF) (V : Va) : Prop := f 137 12 = nI V.1 ∧ ∀ c, c < V.1 → f 145 c = nI (V.2.1 c) ∧ f 146 c = nI (V.2.2.1 c) ∧ f 147 c = nI (V.2.2.2 c)
theorem MVa.off {f f' : FF} {V : Va} (h : MVa f V) (h0 : f' 137 12 = f 137 12) (h1 : f' 145 = f 145) (h2 : f' 146 = f 146) (h3 : f' 147 = f 147) : MVa f' V := ⟨by rw [h0]; exact h.1, fun c hc => by rw [h1, h2, h3]; exact h.2 c hc⟩
/-- the model's text -/
def MLe (f : FF) (tx : Nat → Nat) (tl : Nat) : Prop := f 137 0 = nI tl ∧ tl ≤ 200 ∧ ∀ i, i < tl → f 138 i = nI (tx i)
def MUn (f : FF) (uN : Nat) (uL : Nat → Nat → Nat → Nat) : Prop := ∃ a, a < 8 ∧ f 137 19 = nI ((a + uN) % 8) ∧ f 137 18 = nI uN ∧ uN ≤ 8 ∧ ∀ i, i < uN → MR1 (fun k => f 150 (39 * ((a + i) % 8) + k)) (uL i)
def MKe (f : FF) (kN : Nat) (kL : Nat → Nat → Nat → Nat) : Prop := f 137 23 = nI kN ∧ kN ≤ 2 ∧ ∀ i, i < kN → MR1 (fun k => f 152 (39 * i + k)) (kL i)
def MSe (f : FF) (sn : Nat) (se : Nat → Nat → Nat) : Prop := f 137 21 = nI sn ∧ sn ≤ 6 ∧ ∀ i, i < sn → f 151 (3 * i) = nI (se i 0) ∧ f 151 (3 * i + 1) = nI (se i 1) ∧ f 151 (3 * i + 2) = nI (se i 2)
/-- the model as a whole -/
def MRl (f : FF) (g : GG) (tx : Nat → Nat) (tl : Nat) (V : Va) (M : Nat → Nat → Nat) (uN : Nat) (uL : Nat → Nat → Nat → Nat) (kN : Nat) (kL : Nat → Nat → Nat → Nat) (sn : Nat) (se : Nat → Nat → Nat) : Prop := GOm g ∧ MLe f tx tl ∧ MVa f V ∧ MR1 (f 148) M ∧ MUn f uN uL ∧ MKe f kN kL ∧ MSe f sn se
def MdQ (f : FF) (g : GG) (a : Int32) (tx : Nat → Nat) (tl : Nat) (V : Va) (M : Nat → Nat → Nat) (uN : Nat) (uL : Nat → Nat → Nat → Nat) (kN : Nat) (kL : Nat → Nat → Nat → Nat) (sn : Nat) (se : Nat → Nat → Nat) : Option Value → Nat → FF → GG → Prop := fun v n' f' g' => v = some (.int a) ∧ n' = 153 ∧ g' = g ∧ (∀ x, x < 137 → f' x = f x) ∧ MRl f' g tx tl V M uN uL kN kL sn se
def MdQv (f : FF) (g : GG) (tx : Nat → Nat) (tl : Nat) (V : Va) (M : Nat → Nat → Nat) (uN : Nat) (uL : Nat → Nat → Nat → Nat) (kN : Nat) (kL : Nat → Nat → Nat → Nat) (sn : Nat) (se : Nat → Nat → Nat) : Option Value → Nat → FF → GG → Prop := fun v n' f' g' => v = none ∧ n' = 153 ∧ g' = g ∧ (∀ x, x < 137 → f' x = f x) ∧ MRl f' g tx tl V M uN uL kN kL sn se
theorem MdQ.same {f : FF} {g : GG} {a : Int32} {tx : Nat → Nat} {tl : Nat} {V : Va} {M : Nat → Nat → Nat} {uN : Nat} {uL : Nat → Nat → Nat → Nat} {kN : Nat} {kL : Nat → Nat → Nat → Nat} {sn : Nat} {se : Nat → Nat → Nat} (hR : MRl f g tx tl V M uN uL kN kL sn se)   : MdQ f g a tx tl V M uN uL kN kL sn se (some (.int a)) 153 f g := ⟨rfl, rfl, rfl, fun _ _ => rfl, hR⟩
theorem MRl.frame {f f' : FF} {g g' : GG} {tx : Nat → Nat} {tl : Nat} {V : Va} {M : Nat → Nat → Nat} {uN : Nat} {uL : Nat → Nat → Nat → Nat} {kN : Nat} {kL : Nat → Nat → Nat → Nat} {sn : Nat} {se : Nat → Nat → Nat} (h : MRl f g tx tl V M uN uL kN kL sn se) (ho : ∀ x, 137 ≤ x → f' x = f x) (hg : ∀ x, x ≠ 40 → g' x = g x) : MRl f' g' tx tl V M uN uL kN kL sn se := by
  obtain ⟨h1, h2, h3, h4, ⟨a, h5, h6, h7, h8, h9⟩, h10, h11⟩ := h
  refine ⟨h1.g hg, ⟨?_, h2.2.1, ?_⟩, h3.off ?_ (ho _ (by omega)) (ho _ (by omega)) (ho _ (by omega)), ?_, ⟨a, h5, ?_, ?_, h8, ?_⟩, ⟨?_, h10.2.1, ?_⟩, ⟨?_, h11.2.1, ?_⟩⟩
  · rw [ho 137 (by omega)]; exact h2.1
  · intro i hi; rw [ho 138 (by omega)]; exact h2.2.2 i hi
  · rw [ho 137 (by omega)]
  · rw [ho 148 (by omega)]; exact h4
  · rw [ho 137 (by omega)]; exact h6
  · rw [ho 137 (by omega)]; exact h7
  · intro i hi; rw [ho 150 (by omega)]; exact h9 i hi
  · rw [ho 137 (by omega)]; exact h10.1
  · intro i hi; rw [ho 152 (by omega)]; exact h10.2.2 i hi
  · rw [ho 137 (by omega)]; exact h11.1
  · intro i hi; rw [ho 151 (by omega)]; exact h11.2.2 i hi
set_option maxHeartbeats 1000000 in
theorem mp_is {S : Scr} {d : Nat} {f : FF} {g : GG} {b m w : Nat} (hb : kd KKl 153 b = some (20, 39)) (hm : m < 6) (hw : w < 6) : Wp S d 79 0 [some (.ref b), some (.int (nI m)), some (.int (nI w))] [] 153 f g (Is (some (.int (f b (3 + 6 * m + w)))) 153 f g) := by
  refine w_aload_n k79_0 rfl rfl ?_
  refine w_iconst k79_1 ?_
  refine w_bipush k79_2 ?_
  refine w_iload_n k79_4 rfl ?_
  refine w_imul k79_5 ?_
  refine w_top (nI (6 * m)) (pk_mul 6 m) ?_
  refine w_iadd k79_6 ?_
  refine w_top (nI (3 + 6 * m)) (nI_add 3 _) ?_
  refine w_iload_n k79_7 rfl ?_
  refine w_iadd k79_8 ?_
  refine w_top (nI (3 + 6 * m + w)) (nI_add _ _) ?_
  refine w_iald k79_9 hb (nI_pos (by omega)) (nI_clamp (by omega)) (by omega) ?_
  refine w_iret k79_10 mt79 (.int) rfl (rfl) ?_
  exact ⟨rfl, rfl, rfl, rfl⟩
theorem le_pred {x : Int32} {N : Nat} (h : 1 ≤ N) (hN : N < 2 ^ 31) : decide ((0 : Int32) ≤ x ∧ x ≤ nI (N - 1)) = decide (0 ≤ x ∧ x < nI N) := by
  congr 1
  apply propext
  constructor
  · rintro ⟨a, b⟩
    obtain ⟨c, -, hc, rfl⟩ := bt_nI (a := 0) (b := N - 1) (by omega) (by omega) ⟨a, b⟩
    exact ⟨a, (nI_ltI (by omega) hN).mpr (by omega)⟩
  · rintro ⟨a, b⟩
    obtain ⟨c, hc, rfl⟩ := in_nI hN ⟨a, b⟩
    exact ⟨a, (nI_leI (by omega) (by omega)).mpr (by omega)⟩
theorem le_pred0 {x : Int32} {N : Nat} (hN : N < 2 ^ 31) : decide ((0 : Int32) ≤ x ∧ x ≤ nI N - 1) = decide (0 ≤ x ∧ x < nI N) := by
  by_cases h : 1 ≤ N
  · rw [show nI N - 1 = nI (N - 1) from pk_sub (b := 1) h]
    exact le_pred h hN
  · rw [show N = 0 by omega]
    congr 1
    apply propext
    constructor
    · rintro ⟨a, b⟩
      exact absurd (Int32.le_trans a b) (by decide)
    · rintro ⟨a, b⟩
      exact absurd (Int32.lt_of_le_of_lt a b) (by decide)
set_option maxHeartbeats 1000000 in
theorem mp_isChair {S : Scr} {d : Nat} {f : FF} {g : GG} (G : GOm g) {V : Va} (hV : MVa f V) (h9 : V.1 ≤ 9) (h1 : 1 ≤ V.1) (x : Int32) : Wp S (d + 1) 78 0 [some (.ref 137), some (.int x)] [] 153 f g (Is (some (.int (bI (decide (0 ≤ x ∧ x < nI V.1))))) 153 f g) := by
  refine w_iload_n k78_0 rfl ?_
  refine w_iconst k78_1 ?_
  refine w_aload_n k78_2 rfl rfl ?_
  refine w_geti k78_3 (k := 12) kd137 (by decide) ?_
  rw [hV.1]
  refine w_iconst k78_6 ?_
  refine w_isub k78_7 ?_
  refine w_top (nI (V.1 - 1)) (pk_sub (b := 1) h1) ?_
  refine w_sI k78_8 (by decide) mt59 [_, _, _] rfl rfl rfl (mp_in _ _ _) ?_
  rw [le_pred h1 (by omega)]
  refine w_iret k78_11 mt78 (.boolean) rfl (nar_b _) ?_
  exact ⟨rfl, rfl, rfl, rfl⟩
set_option maxHeartbeats 1000000 in
theorem mp_isMessage {S : Scr} {d : Nat} {f : FF} {g : GG} (G : GOm g) {M : Nat → Nat → Nat} (hA : MR1 (f 148) M) (h6 : M 0 2 ≤ 6) (x : Int32) : Wp S (d + 1) 84 0 [some (.ref 137), some (.int x)] [] 153 f g (Is (some (.int (bI (decide (0 ≤ x ∧ x < nI (M 0 2)))))) 153 f g) := by
  refine w_iload_n k84_0 rfl ?_
  refine w_iconst k84_1 ?_
  refine w_aload_n k84_2 rfl rfl ?_
  refine w_getr k84_3 (k := 16) kd137 (by decide) (r137_16 G) ?_
  refine w_iconst k84_6 ?_
  refine w_iald k84_7 kd148 (by decide) (show (2 : Int32).toNatClampNeg = 2 from rfl) (by decide) ?_
  rw [hA.2.2.1]
  refine w_iconst k84_8 ?_
  refine w_isub k84_9 ?_
  refine w_sI k84_10 (by decide) mt59 [_, _, _] rfl rfl rfl (mp_in _ _ _) ?_
  rw [le_pred0 (by omega)]
  refine w_iret k84_13 mt84 (.boolean) rfl (nar_b _) ?_
  exact ⟨rfl, rfl, rfl, rfl⟩
set_option maxHeartbeats 1000000 in
theorem ml_atChair {S : Scr} {d : Nat} {f : FF} {g : GG} (G : GOm g) {M : Nat → Nat → Nat} (hA : MR1 (f 148) M) (h6 : M 0 2 ≤ 6) (h1 : ∀ m, m < M 0 2 → M (m + 1) 1 < 2 ^ 31 ∧ M (m + 1) 2 < 2 ^ 31) {x : Nat} (hx : x < 2 ^ 31) : ∀ (t : Nat) (j q : Nat), (t + j = M 0 2) → Wp S (d + 1) 80 4 [some (.ref 137), some (.int (nI x)), some (.int (nI q)), some (.int (nI j))] [] 153 f g (Is (some (.int (nI (howAt M x t j q)))) 153 f g) := by
  intro t
  induction t with
  | zero =>
    intro j q e0
    refine w_iload_n k80_4 rfl ?_
    refine w_aload_n k80_5 rfl rfl ?_
    refine w_getr k80_6 (k := 16) kd137 (by decide) (r137_16 G) ?_
    refine w_iconst k80_9 ?_
    refine w_iald k80_10 kd148 (by decide) (show (2 : Int32).toNatClampNeg = 2 from rfl) (by decide) ?_
    rw [hA.2.2.1]
    refine w_icmp_ge k80_11 (fun h11 => ?_) (fun h11 => absurd (nI_le (by omega) (by omega)) h11)
    refine w_iload_n k80_54 rfl ?_
    refine w_iret k80_55 mt80 (.int) rfl (rfl) ?_
    exact ⟨rfl, rfl, rfl, rfl⟩
  | succ t ih =>
    intro j q e0
    refine w_iload_n k80_4 rfl ?_
    refine w_aload_n k80_5 rfl rfl ?_
    refine w_getr k80_6 (k := 16) kd137 (by decide) (r137_16 G) ?_
    refine w_iconst k80_9 ?_
    refine w_iald k80_10 kd148 (by decide) (show (2 : Int32).toNatClampNeg = 2 from rfl) (by decide) ?_
    rw [hA.2.2.1]
    refine w_icmp_ge k80_11 (fun h11 => absurd h11 (nI_ge (by omega) (by omega))) (fun h11 => ?_)
    refine w_iload_n k80_14 rfl ?_
    refine w_aload_n k80_15 rfl rfl ?_
    refine w_getr k80_16 (k := 16) kd137 (by decide) (r137_16 G) ?_
    refine w_iload_n k80_19 rfl ?_
    refine w_iconst k80_20 ?_
    refine w_sI k80_21 (by decide) mt79 [_, _, _] rfl rfl rfl (mp_is (m := j) (w := 1) kd148 (by omega) (by omega)) ?_
    rw [hA.k (m := j) (k := 1) (by omega) (by omega)]
    refine w_iconst k80_24 ?_
    refine w_icmp_ne k80_25 (fun h25 => ?_) (fun h25 => ?_)
    ·
      have z1 : ¬ M (j + 1) 1 = 1 := fun hh => h25 (by rw [hh]; rfl)
      refine w_iconst k80_45 ?_
      refine w_iadd k80_46 ?_
      refine w_istore_n k80_47 (ls' := [_, _, _, _]) rfl ?_
      refine w_iinc k80_48 rfl (ls' := [_, _, _, _]) rfl ?_
      refine w_goto k80_51 ?_
      rw [nI_1 j]
      first
        | (rw [howAt_in ⟨z1, z2⟩, nI_1]; exact ih _ _ (by omega))
        | (rw [howAt_out (fun hh => z2 hh.2), show nI q + 0 = nI q from nI_add q 0]; exact ih _ _ (by omega))
        | (rw [howAt_out (fun hh => z1 hh.1), show nI q + 0 = nI q from nI_add q 0]; exact ih _ _ (by omega))
    ·
      have z1 : M (j + 1) 1 = 1 := (nI_eq (b := 1) (h1 j (by omega)).1 (by omega)).mp h25
      refine w_aload_n k80_28 rfl rfl ?_
      refine w_getr k80_29 (k := 16) kd137 (by decide) (r137_16 G) ?_
      refine w_iload_n k80_32 rfl ?_
      refine w_iconst k80_33 ?_
      refine w_sI k80_34 (by decide) mt79 [_, _, _] rfl rfl rfl (mp_is (m := j) (w := 2) kd148 (by omega) (by omega)) ?_
      rw [hA.k (m := j) (k := 2) (by omega) (by omega)]
      refine w_iload_n k80_37 rfl ?_
      refine w_icmp_ne k80_38 (fun h38 => ?_) (fun h38 => ?_)
      ·
        have z2 : ¬ M (j + 1) 2 = x := fun hh => h38 (by rw [hh])
        refine w_iconst k80_45 ?_
        refine w_iadd k80_46 ?_
        refine w_istore_n k80_47 (ls' := [_, _, _, _]) rfl ?_
        refine w_iinc k80_48 rfl (ls' := [_, _, _, _]) rfl ?_
        refine w_goto k80_51 ?_
        rw [nI_1 j]
        first
          | (rw [howAt_in ⟨z1, z2⟩, nI_1]; exact ih _ _ (by omega))
          | (rw [howAt_out (fun hh => z2 hh.2), show nI q + 0 = nI q from nI_add q 0]; exact ih _ _ (by omega))
          | (rw [howAt_out (fun hh => z1 hh.1), show nI q + 0 = nI q from nI_add q 0]; exact ih _ _ (by omega))
      ·
        have z2 : M (j + 1) 2 = x := (nI_eq (h1 j (by omega)).2 hx).mp h38
        refine w_iconst k80_41 ?_
        refine w_goto k80_42 ?_
        refine w_iadd k80_46 ?_
        refine w_istore_n k80_47 (ls' := [_, _, _, _]) rfl ?_
        refine w_iinc k80_48 rfl (ls' := [_, _, _, _]) rfl ?_
        refine w_goto k80_51 ?_
        rw [nI_1 j]
        first
          | (rw [howAt_in ⟨z1, z2⟩, nI_1]; exact ih _ _ (by omega))
          | (rw [howAt_out (fun hh => z2 hh.2), show nI q + 0 = nI q from nI_add q 0]; exact ih _ _ (by omega))
          | (rw [howAt_out (fun hh => z1 hh.1), show nI q + 0 = nI q from nI_add q 0]; exact ih _ _ (by omega))
set_option maxHeartbeats 1000000 in
theorem mp_atChair {S : Scr} {d : Nat} {f : FF} {g : GG} (G : GOm g) {M : Nat → Nat → Nat} (hA : MR1 (f 148) M) (h6 : M 0 2 ≤ 6) (h1 : ∀ m, m < M 0 2 → M (m + 1) 1 < 2 ^ 31 ∧ M (m + 1) 2 < 2 ^ 31) {x : Nat} (hx : x < 2 ^ 31) : Wp S (d + 1) 80 0 [some (.ref 137), some (.int (nI x)), none, none] [] 153 f g (Is (some (.int (nI (howAt M x (M 0 2) 0 0)))) 153 f g) := by
  refine w_iconst k80_0 ?_
  refine w_istore_n k80_1 (ls' := [_, _, _, _]) rfl ?_
  refine w_iconst k80_2 ?_
  refine w_istore_n k80_3 (ls' := [_, _, _, _]) rfl ?_
  exact ml_atChair G hA h6 h1 hx _ 0 0 rfl
set_option maxHeartbeats 1000000 in
theorem ml_atChairs {S : Scr} {d : Nat} {f : FF} {g : GG} (G : GOm g) {M : Nat → Nat → Nat} (hA : MR1 (f 148) M) (h6 : M 0 2 ≤ 6) (h1 : ∀ m, m < M 0 2 → M (m + 1) 1 < 2 ^ 31 ∧ M (m + 1) 2 < 2 ^ 31) : ∀ (t : Nat) (j q : Nat), (t + j = M 0 2) → Wp S (d + 1) 189 4 [some (.ref 137), some (.int (nI q)), some (.int (nI j))] [] 153 f g (Is (some (.int (nI (howAre M 1 t j q)))) 153 f g) := by
  intro t
  induction t with
  | zero =>
    intro j q e0
    refine w_iload_n k189_4 rfl ?_
    refine w_aload_n k189_5 rfl rfl ?_
    refine w_getr k189_6 (k := 16) kd137 (by decide) (r137_16 G) ?_
    refine w_iconst k189_9 ?_
    refine w_iald k189_10 kd148 (by decide) (show (2 : Int32).toNatClampNeg = 2 from rfl) (by decide) ?_
    rw [hA.2.2.1]
    refine w_icmp_ge k189_11 (fun h11 => ?_) (fun h11 => absurd (nI_le (by omega) (by omega)) h11)
    refine w_iload_n k189_41 rfl ?_
    refine w_iret k189_42 mt189 (.int) rfl (rfl) ?_
    exact ⟨rfl, rfl, rfl, rfl⟩
  | succ t ih =>
    intro j q e0
    refine w_iload_n k189_4 rfl ?_
    refine w_aload_n k189_5 rfl rfl ?_
    refine w_getr k189_6 (k := 16) kd137 (by decide) (r137_16 G) ?_
    refine w_iconst k189_9 ?_
    refine w_iald k189_10 kd148 (by decide) (show (2 : Int32).toNatClampNeg = 2 from rfl) (by decide) ?_
    rw [hA.2.2.1]
    refine w_icmp_ge k189_11 (fun h11 => absurd h11 (nI_ge (by omega) (by omega))) (fun h11 => ?_)
    refine w_iload_n k189_14 rfl ?_
    refine w_aload_n k189_15 rfl rfl ?_
    refine w_getr k189_16 (k := 16) kd137 (by decide) (r137_16 G) ?_
    refine w_iload_n k189_19 rfl ?_
    refine w_iconst k189_20 ?_
    refine w_sI k189_21 (by decide) mt79 [_, _, _] rfl rfl rfl (mp_is (m := j) (w := 1) kd148 (by omega) (by omega)) ?_
    rw [hA.k (m := j) (k := 1) (by omega) (by omega)]
    refine w_iconst k189_24 ?_
    refine w_icmp_ne k189_25 (fun h25 => ?_) (fun h25 => ?_)
    ·
      have z1 : ¬ M (j + 1) 1 = 1 := fun hh => h25 (by rw [hh]; rfl)
      refine w_iconst k189_32 ?_
      refine w_iadd k189_33 ?_
      refine w_istore_n k189_34 (ls' := [_, _, _]) rfl ?_
      refine w_iinc k189_35 rfl (ls' := [_, _, _]) rfl ?_
      refine w_goto k189_38 ?_
      rw [nI_1 j]
      first
        | (rw [howAre_in z1, nI_1]; exact ih _ _ (by omega))
        | (rw [howAre_out z1, show nI q + 0 = nI q from nI_add q 0]; exact ih _ _ (by omega))
    ·
      have z1 : M (j + 1) 1 = 1 := (nI_eq (b := 1) (h1 j (by omega)).1 (by omega)).mp h25
      refine w_iconst k189_28 ?_
      refine w_goto k189_29 ?_
      refine w_iadd k189_33 ?_
      refine w_istore_n k189_34 (ls' := [_, _, _]) rfl ?_
      refine w_iinc k189_35 rfl (ls' := [_, _, _]) rfl ?_
      refine w_goto k189_38 ?_
      rw [nI_1 j]
      first
        | (rw [howAre_in z1, nI_1]; exact ih _ _ (by omega))
        | (rw [howAre_out z1, show nI q + 0 = nI q from nI_add q 0]; exact ih _ _ (by omega))
set_option maxHeartbeats 1000000 in
theorem mp_atChairs {S : Scr} {d : Nat} {f : FF} {g : GG} (G : GOm g) {M : Nat → Nat → Nat} (hA : MR1 (f 148) M) (h6 : M 0 2 ≤ 6) (h1 : ∀ m, m < M 0 2 → M (m + 1) 1 < 2 ^ 31 ∧ M (m + 1) 2 < 2 ^ 31) : Wp S (d + 1) 189 0 [some (.ref 137), none, none] [] 153 f g (Is (some (.int (nI (howAre M 1 (M 0 2) 0 0)))) 153 f g) := by
  refine w_iconst k189_0 ?_
  refine w_istore_n k189_1 (ls' := [_, _, _]) rfl ?_
  refine w_iconst k189_2 ?_
  refine w_istore_n k189_3 (ls' := [_, _, _]) rfl ?_
  exact ml_atChairs G hA h6 h1 _ 0 0 rfl
set_option maxHeartbeats 1000000 in
theorem ml_outOf {S : Scr} {d : Nat} {f : FF} {g : GG} {b : Nat} {M : Nat → Nat → Nat} (hb : kd KKl 153 b = some (20, 39)) (hA : MR1 (f b) M) (h6 : M 0 2 ≤ 6) (h1 : ∀ m, m < M 0 2 → M (m + 1) 1 < 2 ^ 31 ∧ M (m + 1) 2 < 2 ^ 31) : ∀ (t : Nat) (j q : Nat), (t + j = M 0 2) → Wp S (d + 1) 111 4 [some (.ref b), some (.int (nI q)), some (.int (nI j))] [] 153 f g (Is (some (.int (nI (howAre M 2 t j q)))) 153 f g) := by
  intro t
  induction t with
  | zero =>
    intro j q e0
    refine w_iload_n k111_4 rfl ?_
    refine w_aload_n k111_5 rfl rfl ?_
    refine w_iconst k111_6 ?_
    refine w_iald k111_7 hb (by decide) (show (2 : Int32).toNatClampNeg = 2 from rfl) (by decide) ?_
    rw [hA.2.2.1]
    refine w_icmp_ge k111_8 (fun h8 => ?_) (fun h8 => absurd (nI_le (by omega) (by omega)) h8)
    refine w_iload_n k111_35 rfl ?_
    refine w_iret k111_36 mt111 (.int) rfl (rfl) ?_
    exact ⟨rfl, rfl, rfl, rfl⟩
  | succ t ih =>
    intro j q e0
    refine w_iload_n k111_4 rfl ?_
    refine w_aload_n k111_5 rfl rfl ?_
    refine w_iconst k111_6 ?_
    refine w_iald k111_7 hb (by decide) (show (2 : Int32).toNatClampNeg = 2 from rfl) (by decide) ?_
    rw [hA.2.2.1]
    refine w_icmp_ge k111_8 (fun h8 => absurd h8 (nI_ge (by omega) (by omega))) (fun h8 => ?_)
    refine w_iload_n k111_11 rfl ?_
    refine w_aload_n k111_12 rfl rfl ?_
    refine w_iload_n k111_13 rfl ?_
    refine w_iconst k111_14 ?_
    refine w_sI k111_15 (by decide) mt79 [_, _, _] rfl rfl rfl (mp_is (m := j) (w := 1) hb (by omega) (by omega)) ?_
    rw [hA.k (m := j) (k := 1) (by omega) (by omega)]
    refine w_iconst k111_18 ?_
    refine w_icmp_ne k111_19 (fun h19 => ?_) (fun h19 => ?_)
    ·
      have z1 : ¬ M (j + 1) 1 = 2 := fun hh => h19 (by rw [hh]; rfl)
      refine w_iconst k111_26 ?_
      refine w_iadd k111_27 ?_
      refine w_istore_n k111_28 (ls' := [_, _, _]) rfl ?_
      refine w_iinc k111_29 rfl (ls' := [_, _, _]) rfl ?_
      refine w_goto k111_32 ?_
      rw [nI_1 j]
      first
        | (rw [howAre_in z1, nI_1]; exact ih _ _ (by omega))
        | (rw [howAre_out z1, show nI q + 0 = nI q from nI_add q 0]; exact ih _ _ (by omega))
    ·
      have z1 : M (j + 1) 1 = 2 := (nI_eq (b := 2) (h1 j (by omega)).1 (by omega)).mp h19
      refine w_iconst k111_22 ?_
      refine w_goto k111_23 ?_
      refine w_iadd k111_27 ?_
      refine w_istore_n k111_28 (ls' := [_, _, _]) rfl ?_
      refine w_iinc k111_29 rfl (ls' := [_, _, _]) rfl ?_
      refine w_goto k111_32 ?_
      rw [nI_1 j]
      first
        | (rw [howAre_in z1, nI_1]; exact ih _ _ (by omega))
        | (rw [howAre_out z1, show nI q + 0 = nI q from nI_add q 0]; exact ih _ _ (by omega))
set_option maxHeartbeats 1000000 in
theorem mp_outOf {S : Scr} {d : Nat} {f : FF} {g : GG} {b : Nat} {M : Nat → Nat → Nat} (hb : kd KKl 153 b = some (20, 39)) (hA : MR1 (f b) M) (h6 : M 0 2 ≤ 6) (h1 : ∀ m, m < M 0 2 → M (m + 1) 1 < 2 ^ 31 ∧ M (m + 1) 2 < 2 ^ 31) : Wp S (d + 1) 111 0 [some (.ref b), none, none] [] 153 f g (Is (some (.int (nI (howAre M 2 (M 0 2) 0 0)))) 153 f g) := by
  refine w_iconst k111_0 ?_
  refine w_istore_n k111_1 (ls' := [_, _, _]) rfl ?_
  refine w_iconst k111_2 ?_
  refine w_istore_n k111_3 (ls' := [_, _, _]) rfl ?_
  exact ml_outOf hb hA h6 h1 _ 0 0 rfl
theorem popc_step : ∀ s : Fin 512, (popc s.val 9 = 0 → s.val = 0) ∧ (s.val ≠ 0 → popc (s.val &&& (s.val - 1)) 9 + 1 = popc s.val 9) := by decide +kernel
set_option maxHeartbeats 1000000 in
theorem ml_bits {S : Scr} {d : Nat} {f : FF} {g : GG} {q0 : Int32} : ∀ (t : Nat) (s a : Nat), (popc s 9 = t) → (s < 512) → Wp S d 145 4 [some (.int q0), some (.int (nI a)), some (.int (nI s))] [] 153 f g (Is (some (.int (nI (a + t)))) 153 f g) := by
  intro t
  induction t with
  | zero =>
    intro s a e0 e1
    refine w_iload_n k145_4 rfl ?_
    have hs := popc_step ⟨s, e1⟩
    refine w_if_eq k145_5 (fun h5 => ?_) (fun h5 => absurd ((congrArg nI (hs.1 e0) : nI s = nI 0)) h5)
    refine w_iload_n k145_20 rfl ?_
    refine w_iret k145_21 mt145 (.int) rfl (rfl) ?_
    exact ⟨rfl, rfl, rfl, rfl⟩
  | succ t ih =>
    intro s a e0 e1
    refine w_iload_n k145_4 rfl ?_
    have hs := popc_step ⟨s, e1⟩
    have hs0 : s ≠ 0 := fun hh => by rw [hh] at e0; revert e0; show popc 0 9 = t + 1 → False; rw [show popc 0 9 = 0 from rfl]; omega
    have hs2 : popc (s &&& (s - 1)) 9 + 1 = popc s 9 := hs.2 hs0
    refine w_if_eq k145_5 (fun h5 => absurd h5 (nI_ne0 (by omega) (by omega))) (fun h5 => ?_)
    refine w_iinc k145_8 rfl (ls' := [_, _, _]) rfl ?_
    refine w_iload_n k145_11 rfl ?_
    refine w_iload_n k145_12 rfl ?_
    refine w_iconst k145_13 ?_
    refine w_isub k145_14 ?_
    refine w_top (nI (s - 1)) (pk_sub (b := 1) (by omega)) ?_
    refine w_iand k145_15 ?_
    rw [and_nI]
    refine w_istore_n k145_16 (ls' := [_, _, _]) rfl ?_
    refine w_goto k145_17 ?_
    rw [nI_1, show a + (t + 1) = (a + 1) + t by omega]
    exact ih _ _ (by omega) (Nat.lt_of_le_of_lt Nat.and_le_left e1)
set_option maxHeartbeats 1000000 in
theorem mp_bits {S : Scr} {d : Nat} {f : FF} {g : GG} {B : Nat} (hB : B < 512) : Wp S d 145 0 [some (.int (nI B)), none, none] [] 153 f g (Is (some (.int (nI (popc B 9)))) 153 f g) := by
  refine w_iconst k145_0 ?_
  refine w_istore_n k145_1 (ls' := [_, _, _]) rfl ?_
  refine w_iload_n k145_2 rfl ?_
  refine w_istore_n k145_3 (ls' := [_, _, _]) rfl ?_
  have h := ml_bits (S := S) (d := d) (f := f) (g := g) (q0 := nI B) _ B 0 rfl hB
  rw [Nat.zero_add] at h
  exact h
set_option maxHeartbeats 1000000 in
theorem ml_copyNow {S : Scr} {d : Nat} {f : FF} {g : GG} (G : GOm g) : ∀ (t k : Nat) (f1 : FF), t + k = 39 → (∀ x, x ≠ 149 → f1 x = f x) → (∀ q, q < k → f1 149 q = f 148 q) → Wp S d 137 2 [some (.ref 137), some (.int (nI k))] [] 153 f1 g (fun v n' f' g' => v = none ∧ n' = 153 ∧ g' = g ∧ (∀ x, x ≠ 149 → f' x = f x) ∧ ∀ q, q < 39 → f' 149 q = f 148 q) := by
  intro t
  induction t with
  | zero =>
    intro k f1 e0 e1 e2
    refine w_iload_n k137_2 rfl ?_
    refine w_bipush k137_3 ?_
    refine w_icmp_ge k137_5 (fun h5 => ?_) (fun h5 => absurd (nI_le (a := 39) (by omega) (by omega)) h5)
    refine w_vret k137_26 mt137 rfl ?_
    exact ⟨rfl, rfl, rfl, e1, fun q hq => e2 q (by omega)⟩
  | succ t ih =>
    intro k f1 e0 e1 e2
    refine w_iload_n k137_2 rfl ?_
    refine w_bipush k137_3 ?_
    refine w_icmp_ge k137_5 (fun h5 => absurd h5 (nI_ge (b := 39) (by omega) (by omega))) (fun h5 => ?_)
    refine w_aload_n k137_8 rfl rfl ?_
    refine w_getr k137_9 (k := 17) kd137 (by decide) (r137_17 G) ?_
    refine w_iload_n k137_12 rfl ?_
    refine w_aload_n k137_13 rfl rfl ?_
    refine w_getr k137_14 (k := 16) kd137 (by decide) (r137_16 G) ?_
    refine w_iload_n k137_17 rfl ?_
    refine w_iald k137_18 kd148 (nI_pos (by omega)) (nI_clamp (by omega)) (by omega) ?_
    refine w_iast k137_19 kd149 (nI_pos (by omega)) (nI_clamp (by omega)) (by omega) ?_
    refine w_iinc k137_20 rfl (ls' := [_, _]) rfl ?_
    refine w_goto k137_23 ?_
    rw [nI_1]
    refine ih (k + 1) _ (by omega) (fun x hx => by funext y; rw [fup_no hx, e1 x hx]) (fun q hq => ?_)
    by_cases hqk : q = k
    · subst hqk
      rw [fup_self, e1 148 (by omega)]
    · rw [fup_ne hqk]
      exact e2 q (by omega)
set_option maxHeartbeats 1000000 in
theorem mp_copyNow {S : Scr} {d : Nat} {f : FF} {g : GG} (G : GOm g) : Wp S d 137 0 [some (.ref 137), none] [] 153 f g (fun v n' f' g' => v = none ∧ n' = 153 ∧ g' = g ∧ (∀ x, x ≠ 149 → f' x = f x) ∧ ∀ q, q < 39 → f' 149 q = f 148 q) := by
  refine w_iconst k137_0 ?_
  refine w_istore_n k137_1 (ls' := [_, _]) rfl ?_
  exact ml_copyNow G 39 0 f rfl (fun _ _ => rfl) (fun q hq => absurd hq (Nat.not_lt_zero q))
