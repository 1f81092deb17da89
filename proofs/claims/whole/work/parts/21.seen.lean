/-! SPECS, 12: letters, what was seen -/
theorem mo8 {n : Nat} {g : GG} (hn : 137 ≤ n) (G : GOk g) : MoOk n g 8 := ⟨kc8 hn, kc9 hn, kc10 hn, fun j hj => by rcases (show j = 0 ∨ j = 1 ∨ j = 2 ∨ j = 3 ∨ j = 4 ∨ j = 5 by omega) with rfl | rfl | rfl | rfl | rfl | rfl; exact kc11 hn; exact kc12 hn; exact kc13 hn; exact kc14 hn; exact kc15 hn; exact kc16 hn, r8_0 G, r8_1 G, fun j hj => by rcases (show j = 0 ∨ j = 1 ∨ j = 2 ∨ j = 3 ∨ j = 4 ∨ j = 5 by omega) with rfl | rfl | rfl | rfl | rfl | rfl; exact r9_0 G; exact r9_1 G; exact r9_2 G; exact r9_3 G; exact r9_4 G; exact r9_5 G⟩
theorem mo21 {n : Nat} {g : GG} (hn : 137 ≤ n) (G : GOk g) : MoOk n g 21 := ⟨kc21 hn, kc22 hn, kc23 hn, fun j hj => by rcases (show j = 0 ∨ j = 1 ∨ j = 2 ∨ j = 3 ∨ j = 4 ∨ j = 5 by omega) with rfl | rfl | rfl | rfl | rfl | rfl; exact kc24 hn; exact kc25 hn; exact kc26 hn; exact kc27 hn; exact kc28 hn; exact kc29 hn, r21_0 G, r21_1 G, fun j hj => by rcases (show j = 0 ∨ j = 1 ∨ j = 2 ∨ j = 3 ∨ j = 4 ∨ j = 5 by omega) with rfl | rfl | rfl | rfl | rfl | rfl; exact r22_0 G; exact r22_1 G; exact r22_2 G; exact r22_3 G; exact r22_4 G; exact r22_5 G⟩
theorem mo30 {n : Nat} {g : GG} (hn : 137 ≤ n) (G : GOk g) : MoOk n g 30 := ⟨kc30 hn, kc31 hn, kc32 hn, fun j hj => by rcases (show j = 0 ∨ j = 1 ∨ j = 2 ∨ j = 3 ∨ j = 4 ∨ j = 5 by omega) with rfl | rfl | rfl | rfl | rfl | rfl; exact kc33 hn; exact kc34 hn; exact kc35 hn; exact kc36 hn; exact kc37 hn; exact kc38 hn, r30_0 G, r30_1 G, fun j hj => by rcases (show j = 0 ∨ j = 1 ∨ j = 2 ∨ j = 3 ∨ j = 4 ∨ j = 5 by omega) with rfl | rfl | rfl | rfl | rfl | rfl; exact r31_0 G; exact r31_1 G; exact r31_2 G; exact r31_3 G; exact r31_4 G; exact r31_5 G⟩
theorem va4 {n : Nat} {g : GG} (hn : 137 ≤ n) (G : GOk g) : VaOk n g 4 := ⟨kc4 hn, kc5 hn, kc6 hn, kc7 hn, r4_0 G, r4_1 G, r4_2 G⟩
theorem va17 {n : Nat} {g : GG} (hn : 137 ≤ n) (G : GOk g) : VaOk n g 17 := ⟨kc17 hn, kc18 hn, kc19 hn, kc20 hn, r17_0 G, r17_1 G, r17_2 G⟩
/-- the class's text -/
def CLe (f : FF) (tx : Nat → Nat) (tl : Nat) : Prop := f 2 1 = nI tl ∧ tl ≤ 200 ∧ ∀ i, i < tl → f 3 i = nI (tx i)
def ch (tx : Nat → Nat) (tl i : Nat) : Nat := if i < tl then tx i else 0
def txA (tx : Nat → Nat) (tl c : Nat) : Nat → Nat := fun i => if i = tl then c else tx i
/-- what was seen: chair, row, as what -/
def CSe (f : FF) (se : Nat → Nat → Nat) (sn : Nat) : Prop := f 133 3 = nI sn ∧ sn ≤ 6 ∧ ∀ i, i < sn → f 134 i = nI (se i 0) ∧ f 135 i = nI (se i 1) ∧ f 136 i = nI (se i 2)
def seA (se : Nat → Nat → Nat) (sn c r w : Nat) : Nat → Nat → Nat := fun i k => if i = sn then (if k = 0 then c else if k = 1 then r else w) else se i k
def soW (V : Va) (K : Nat → Nat) (se : Nat → Nat → Nat) : Nat → Nat → Bool
  | 0, _ => true
  | t + 1, i => if cmW V K 9 (se i 0) (se i 1) = se i 2 then soW V K se t (i + 1) else false
def Seq (f f' : FF) (S : Nat → Prop) : Prop := ∀ x, ¬ S x → f' x = f x
set_option maxHeartbeats 1000000 in
theorem sp_Llen {S : Scr} {d : Nat} {f : FF} {g : GG} {n tl : Nat} {tx : Nat → Nat} (hn : 137 ≤ n) (hL : CLe f tx tl) : Wp S d 19 0 [some (.ref 2)] [] n f g (Is (some (.int (nI tl))) n f g) := by
  refine w_aload_n k19_0 rfl rfl ?_
  refine w_geti k19_1 (k := 1) (kc2 hn) (by decide) ?_
  rw [hL.1]
  refine w_iret k19_4 mt19 (.int) rfl (rfl) ?_
  exact ⟨rfl, rfl, rfl, rfl⟩
set_option maxHeartbeats 1000000 in
theorem sp_Lclear {S : Scr} {d : Nat} {f : FF} {g : GG} {n : Nat} (hn : 137 ≤ n) : Wp S d 50 0 [some (.ref 2)] [] n f g (Is none n (fup f 2 1 0) g) := by
  refine w_aload_n k50_0 rfl rfl ?_
  refine w_iconst k50_1 ?_
  refine w_puti k50_2 (k := 1) (kc2 hn) (by decide) ?_
  refine w_vret k50_5 mt50 rfl ?_
  exact ⟨rfl, rfl, rfl, rfl⟩
set_option maxHeartbeats 1000000 in
theorem sp_Lget {S : Scr} {d : Nat} {f : FF} {g : GG} {n tl : Nat} {tx : Nat → Nat} (hn : 137 ≤ n) (G : GOk g) (hL : CLe f tx tl) {p : Nat} (hp : p < 2 ^ 31) : Wp S d 20 0 [some (.ref 2), some (.int (nI p))] [] n f g (Is (some (.int (nI (ch tx tl p)))) n f g) := by
  refine w_iload_n k20_0 rfl ?_
  refine w_if_lt k20_1 (fun h1 => absurd h1 (nI_pos (by omega))) (fun h1 => ?_)
  refine w_iload_n k20_4 rfl ?_
  refine w_aload_n k20_5 rfl rfl ?_
  have h200 := hL.2.1
  refine w_geti k20_6 (k := 1) (kc2 hn) (by decide) ?_
  rw [hL.1]
  refine w_icmp_ge k20_9 (fun h9 => ?_) (fun h9 => ?_)
  ·
    have hz : ¬ p < tl := fun hh => nI_ge hh (by omega) h9
    refine w_iconst k20_30 ?_
    refine w_iret k20_31 mt20 (.int) rfl (rfl) ?_
    unfold ch
    first
      | (rw [if_pos hz]; exact ⟨rfl, rfl, rfl, rfl⟩)
      | (rw [if_neg hz]; exact ⟨rfl, rfl, rfl, rfl⟩)
  ·
    have hz : p < tl := Nat.not_le.mp fun hh => h9 (nI_le hh (by omega))
    refine w_iload_n k20_12 rfl ?_
    refine w_aload_n k20_13 rfl rfl ?_
    refine w_getr k20_14 (k := 0) (kc2 hn) (by decide) (r2_0 G) ?_
    refine w_alen k20_17 (kc3 hn) (by decide) (rfl) ?_
    refine w_top (nI 200) (rfl) ?_
    refine w_icmp_ge k20_18 (fun h18 => absurd h18 (nI_ge (by omega) (by omega))) (fun h18 => ?_)
    refine w_aload_n k20_21 rfl rfl ?_
    refine w_getr k20_22 (k := 0) (kc2 hn) (by decide) (r2_0 G) ?_
    refine w_iload_n k20_25 rfl ?_
    refine w_iald k20_26 (kc3 hn) (nI_pos (by omega)) (nI_clamp (by omega)) (by omega) ?_
    rw [hL.2.2 p hz]
    refine w_goto k20_27 ?_
    refine w_iret k20_31 mt20 (.int) rfl (rfl) ?_
    unfold ch
    first
      | (rw [if_pos hz]; exact ⟨rfl, rfl, rfl, rfl⟩)
      | (rw [if_neg hz]; exact ⟨rfl, rfl, rfl, rfl⟩)
set_option maxHeartbeats 1000000 in
theorem sp_Ladd {S : Scr} {d : Nat} {f : FF} {g : GG} {n tl : Nat} {tx : Nat → Nat} (hn : 137 ≤ n) (G : GOk g) (hL : CLe f tx tl) {c : Nat} : Wp S (d + 1) 16 0 [some (.ref 2), some (.int (nI c))] [] n f g (fun v n' f' g' => n' = n ∧ g' = g ∧ (∀ x, x ≠ 2 → x ≠ 3 → f' x = f x) ∧ if tl < 200 then v = some (.int 1) ∧ CLe f' (txA tx tl c) (tl + 1) else v = some (.int 0) ∧ CLe f' tx tl) := by
  refine w_aload_n k16_0 rfl rfl ?_
  have h200 := hL.2.1
  refine w_geti k16_1 (k := 1) (kc2 hn) (by decide) ?_
  rw [hL.1]
  refine w_sipush k16_4 ?_
  refine w_icmp_lt k16_7 (fun h7 => ?_) (fun h7 => ?_)
  ·
    have hz : tl < 200 := (nI_ltI (b := 200) (by omega) (by omega)).mp h7
    refine w_aload_n k16_12 rfl rfl ?_
    refine w_getr k16_13 (k := 0) (kc2 hn) (by decide) (r2_0 G) ?_
    refine w_aload_n k16_16 rfl rfl ?_
    refine w_geti k16_17 (k := 1) (kc2 hn) (by decide) ?_
    rw [hL.1]
    refine w_iload_n k16_20 rfl ?_
    refine w_sV k16_21 (by decide) mt15 [_, _, _] rfl rfl rfl (sp_set (kc3 hn) (by omega) (by omega)) ?_
    refine w_aload_n k16_24 rfl rfl ?_
    refine w_dup k16_25 rfl ?_
    refine w_geti k16_26 (k := 1) (kc2 hn) (by decide) ?_
    refine w_top (nI tl) (by rw [fup_no (by omega)]; exact hL.1) ?_
    refine w_iconst k16_29 ?_
    refine w_iadd k16_30 ?_
    refine w_top (nI (tl + 1)) (nI_1 _) ?_
    refine w_puti k16_31 (k := 1) (kc2 hn) (by decide) ?_
    refine w_iconst k16_34 ?_
    refine w_iret k16_35 mt16 (.boolean) rfl (rfl) ?_
    first
      | (refine ⟨rfl, rfl, fun _ _ _ => rfl, ?_⟩
         rw [if_neg hz]
         exact ⟨rfl, hL⟩)
      | (refine ⟨rfl, rfl, fun x h1 h2 => by funext y; rw [fup_no h1, fup_no h2], ?_⟩
         rw [if_pos hz]
         refine ⟨rfl, fup_self, by omega, fun i hi => ?_⟩
         rw [fup_no (by omega)]
         unfold txA
         by_cases hit : i = tl
         · rw [if_pos hit, hit, fup_self]
         · rw [if_neg hit, fup_ne hit]
           exact hL.2.2 i (by omega))
  ·
    have hz : ¬ tl < 200 := fun hh => h7 (nI_lt (b := 200) hh (by omega))
    refine w_iconst k16_10 ?_
    refine w_iret k16_11 mt16 (.boolean) rfl (rfl) ?_
    first
      | (refine ⟨rfl, rfl, fun _ _ _ => rfl, ?_⟩
         rw [if_neg hz]
         exact ⟨rfl, hL⟩)
      | (refine ⟨rfl, rfl, fun x h1 h2 => by funext y; rw [fup_no h1, fup_no h2], ?_⟩
         rw [if_pos hz]
         refine ⟨rfl, fup_self, by omega, fun i hi => ?_⟩
         rw [fup_no (by omega)]
         unfold txA
         by_cases hit : i = tl
         · rw [if_pos hit, hit, fup_self]
         · rw [if_neg hit, fup_ne hit]
           exact hL.2.2 i (by omega))
set_option maxHeartbeats 1000000 in
theorem sp_Ssize {S : Scr} {d : Nat} {f : FF} {g : GG} {n sn : Nat} {se : Nat → Nat → Nat} (hn : 137 ≤ n) (hS : CSe f se sn) : Wp S d 157 0 [some (.ref 133)] [] n f g (Is (some (.int (nI sn))) n f g) := by
  refine w_aload_n k157_0 rfl rfl ?_
  refine w_geti k157_1 (k := 3) (kc133 hn) (by decide) ?_
  rw [hS.1]
  refine w_iret k157_4 mt157 (.int) rfl (rfl) ?_
  exact ⟨rfl, rfl, rfl, rfl⟩
set_option maxHeartbeats 1000000 in
theorem sp_Sclear {S : Scr} {d : Nat} {f : FF} {g : GG} {n : Nat} (hn : 137 ≤ n) : Wp S d 47 0 [some (.ref 133)] [] n f g (Is none n (fup f 133 3 0) g) := by
  refine w_aload_n k47_0 rfl rfl ?_
  refine w_iconst k47_1 ?_
  refine w_puti k47_2 (k := 3) (kc133 hn) (by decide) ?_
  refine w_vret k47_5 mt47 rfl ?_
  exact ⟨rfl, rfl, rfl, rfl⟩
set_option maxHeartbeats 1000000 in
theorem sp_Sadd {S : Scr} {d : Nat} {f : FF} {g : GG} {n sn : Nat} {se : Nat → Nat → Nat} (hn : 137 ≤ n) (G : GOk g) (hS : CSe f se sn) {c r w : Nat} : Wp S (d + 1) 156 0 [some (.ref 133), some (.int (nI c)), some (.int (nI r)), some (.int (nI w))] [] n f g (fun v n' f' g' => n' = n ∧ g' = g ∧ (∀ x, x < 133 ∨ 136 < x → f' x = f x) ∧ if sn < 6 then v = some (.int 1) ∧ CSe f' (seA se sn c r w) (sn + 1) else v = some (.int 0) ∧ CSe f' se sn) := by
  refine w_aload_n k156_0 rfl rfl ?_
  have h200 := hS.2.1
  refine w_geti k156_1 (k := 3) (kc133 hn) (by decide) ?_
  rw [hS.1]
  refine w_bipush k156_4 ?_
  refine w_icmp_lt k156_6 (fun h6 => ?_) (fun h6 => ?_)
  ·
    have hz : sn < 6 := (nI_ltI (b := 6) (by omega) (by omega)).mp h6
    refine w_aload_n k156_11 rfl rfl ?_
    refine w_getr k156_12 (k := 0) (kc133 hn) (by decide) (r133_0 G) ?_
    refine w_aload_n k156_15 rfl rfl ?_
    refine w_geti k156_16 (k := 3) (kc133 hn) (by decide) ?_
    rw [hS.1]
    refine w_iload_n k156_19 rfl ?_
    refine w_sV k156_20 (by decide) mt15 [_, _, _] rfl rfl rfl (sp_set (kc134 hn) hz (by omega)) ?_
    refine w_aload_n k156_23 rfl rfl ?_
    refine w_getr k156_24 (k := 1) (kc133 hn) (by decide) (r133_1 G) ?_
    refine w_aload_n k156_27 rfl rfl ?_
    refine w_geti k156_28 (k := 3) (kc133 hn) (by decide) ?_
    refine w_top (nI sn) (by rw [fup_no (by omega)]; exact hS.1) ?_
    refine w_iload_n k156_31 rfl ?_
    refine w_sV k156_32 (by decide) mt15 [_, _, _] rfl rfl rfl (sp_set (kc135 hn) hz (by omega)) ?_
    refine w_aload_n k156_35 rfl rfl ?_
    refine w_getr k156_36 (k := 2) (kc133 hn) (by decide) (r133_2 G) ?_
    refine w_aload_n k156_39 rfl rfl ?_
    refine w_geti k156_40 (k := 3) (kc133 hn) (by decide) ?_
    refine w_top (nI sn) (by rw [fup_no (by omega), fup_no (by omega)]; exact hS.1) ?_
    refine w_iload_n k156_43 rfl ?_
    refine w_sV k156_44 (by decide) mt15 [_, _, _] rfl rfl rfl (sp_set (kc136 hn) hz (by omega)) ?_
    refine w_aload_n k156_47 rfl rfl ?_
    refine w_dup k156_48 rfl ?_
    refine w_geti k156_49 (k := 3) (kc133 hn) (by decide) ?_
    refine w_top (nI sn) (by rw [fup_no (by omega), fup_no (by omega), fup_no (by omega)]; exact hS.1) ?_
    refine w_iconst k156_52 ?_
    refine w_iadd k156_53 ?_
    refine w_top (nI (sn + 1)) (nI_1 _) ?_
    refine w_puti k156_54 (k := 3) (kc133 hn) (by decide) ?_
    refine w_iconst k156_57 ?_
    refine w_iret k156_58 mt156 (.boolean) rfl (rfl) ?_
    first
      | (refine ⟨rfl, rfl, fun _ _ => rfl, ?_⟩
         rw [if_neg hz]
         exact ⟨rfl, hS⟩)
      | (refine ⟨rfl, rfl, fun x h1 => by funext y; rw [fup_no (by omega), fup_no (by omega), fup_no (by omega), fup_no (by omega)], ?_⟩
         rw [if_pos hz]
         refine ⟨rfl, fup_self, by omega, fun i hi => ?_⟩
         unfold seA
         by_cases hit : i = sn
         · subst hit
           simp [fup]
         · simp [fup, hit]
           exact hS.2.2 i (by omega))
  ·
    have hz : ¬ sn < 6 := fun hh => h6 (nI_lt (b := 6) hh (by omega))
    refine w_iconst k156_9 ?_
    refine w_iret k156_10 mt156 (.boolean) rfl (rfl) ?_
    first
      | (refine ⟨rfl, rfl, fun _ _ => rfl, ?_⟩
         rw [if_neg hz]
         exact ⟨rfl, hS⟩)
      | (refine ⟨rfl, rfl, fun x h1 => by funext y; rw [fup_no (by omega), fup_no (by omega), fup_no (by omega), fup_no (by omega)], ?_⟩
         rw [if_pos hz]
         refine ⟨rfl, fup_self, by omega, fun i hi => ?_⟩
         unfold seA
         by_cases hit : i = sn
         · subst hit
           simp [fup]
         · simp [fup, hit]
           exact hS.2.2 i (by omega))
theorem cmW_lt {V : Va} {K : Nat → Nat} : ∀ t c r, r < 65536 → cmW V K t c r < 65536 := by
  intro t
  induction t with
  | zero => intro c r h; exact h
  | succ t ih =>
    intro c r h
    simp only [cmW]
    split
    · exact kn_lt h
    · exact ih _ _ (kn_lt h)
set_option maxHeartbeats 1000000 in
theorem lp_isSo {S : Scr} {d : Nat} {f : FF} {g : GG} {n sn v : Nat} {se : Nat → Nat → Nat} {V : Va} (hn : 137 ≤ n) (G : GOk g) (hS : CSe f se sn) (hv : VaOk n g v) (hC : CVa f v V) (hV : VWf V) {x : Int32} {ok : Nat} {K : Nat → Nat} (hK : ∀ c, c < V.1 → K c = (if nI c = x then ok else V.2.1 c) ∧ K c ≤ 4) (hse : ∀ i, i < sn → se i 0 < V.1 ∧ RowOk (se i 1) ∧ RowOk (se i 2)) : ∀ (t : Nat) (i : Nat), (t + i = sn) → Wp S (d + 4) 162 3 [some (.ref 133), some (.ref v), some (.int x), some (.int (nI ok)), some (.int (nI i))] [] n f g (Is (some (.int (bI (soW V K se t i)))) n f g) := by
  intro t
  induction t with
  | zero =>
    intro i e0
    refine w_iload k162_3 rfl ?_
    refine w_aload_n k162_5 rfl rfl ?_
    have h6 := hS.2.1
    refine w_geti k162_6 (k := 3) (kc133 hn) (by decide) ?_
    rw [hS.1]
    refine w_icmp_ge k162_9 (fun h9 => ?_) (fun h9 => absurd (nI_le (by omega) (by omega)) h9)
    refine w_iconst k162_56 ?_
    refine w_iret k162_57 mt162 (.boolean) rfl (rfl) ?_
    exact ⟨rfl, rfl, rfl, rfl⟩
  | succ t ih =>
    intro i e0
    refine w_iload k162_3 rfl ?_
    refine w_aload_n k162_5 rfl rfl ?_
    have h6 := hS.2.1
    have hi := hS.2.2 i (by omega)
    have hi2 := hse i (by omega)
    refine w_geti k162_6 (k := 3) (kc133 hn) (by decide) ?_
    rw [hS.1]
    refine w_icmp_ge k162_9 (fun h9 => absurd h9 (nI_ge (by omega) (by omega))) (fun h9 => ?_)
    refine w_aload_n k162_12 rfl rfl ?_
    refine w_iload_n k162_13 rfl ?_
    refine w_iload_n k162_14 rfl ?_
    refine w_aload_n k162_15 rfl rfl ?_
    refine w_getr k162_16 (k := 0) (kc133 hn) (by decide) (r133_0 G) ?_
    refine w_iload k162_19 rfl ?_
    refine w_sI k162_21 (by decide) mt40 [_, _] rfl rfl rfl (sp_at (kc134 hn) (j := i) (by omega) (by omega)) ?_
    rw [hi.1]
    refine w_aload_n k162_24 rfl rfl ?_
    refine w_getr k162_25 (k := 1) (kc133 hn) (by decide) (r133_1 G) ?_
    refine w_iload k162_28 rfl ?_
    refine w_sI k162_30 (by decide) mt40 [_, _] rfl rfl rfl (sp_at (kc135 hn) (j := i) (by omega) (by omega)) ?_
    rw [hi.2.1]
    refine w_vI k162_33 mt125 hv.1 ⟨rfl, by decide⟩ [_, _, _, _] rfl rfl rfl (sp_seaWere hv hC hV hK hi2.1 hi2.2.1.lt) ?_
    refine w_aload_n k162_36 rfl rfl ?_
    refine w_getr k162_37 (k := 2) (kc133 hn) (by decide) (r133_2 G) ?_
    refine w_iload k162_40 rfl ?_
    refine w_sI k162_42 (by decide) mt40 [_, _] rfl rfl rfl (sp_at (kc136 hn) (j := i) (by omega) (by omega)) ?_
    rw [hi.2.2]
    have hlt := cmW_lt (V := V) (K := K) 9 (se i 0) (se i 1) hi2.2.1.lt
    have hlt2 := hi2.2.2.lt
    refine w_icmp_eq k162_45 (fun h45 => ?_) (fun h45 => ?_)
    ·
      have hz : cmW V K 9 (se i 0) (se i 1) = se i 2 := (nI_eq (by omega) (by omega)).mp h45
      refine w_iinc k162_50 rfl (ls' := [_, _, _, _, _]) rfl ?_
      refine w_goto k162_53 ?_
      rw [nI_1, show soW V K se (t + 1) i = soW V K se t (i + 1) from if_pos hz]
      exact ih (i + 1) (by omega)
    ·
      have hz : ¬ cmW V K 9 (se i 0) (se i 1) = se i 2 := fun hh => h45 (by rw [hh])
      refine w_iconst k162_48 ?_
      refine w_iret k162_49 mt162 (.boolean) rfl (rfl) ?_
      rw [show soW V K se (t + 1) i = false from if_neg hz]
      exact ⟨rfl, rfl, rfl, rfl⟩
set_option maxHeartbeats 1000000 in
theorem sp_isSo {S : Scr} {d : Nat} {f : FF} {g : GG} {n sn v : Nat} {se : Nat → Nat → Nat} {V : Va} (hn : 137 ≤ n) (G : GOk g) (hS : CSe f se sn) (hv : VaOk n g v) (hC : CVa f v V) (hV : VWf V) {x : Int32} {ok : Nat} {K : Nat → Nat} (hK : ∀ c, c < V.1 → K c = (if nI c = x then ok else V.2.1 c) ∧ K c ≤ 4) (hse : ∀ i, i < sn → se i 0 < V.1 ∧ RowOk (se i 1) ∧ RowOk (se i 2)) : Wp S (d + 4) 162 0 [some (.ref 133), some (.ref v), some (.int x), some (.int (nI ok)), none] [] n f g (Is (some (.int (bI (soW V K se sn 0)))) n f g) := by
  refine w_iconst k162_0 ?_
  refine w_istore k162_1 (ls' := [_, _, _, _, _]) rfl ?_
  exact lp_isSo hn G hS hv hC hV hK hse sn 0 rfl
