/-! SPECS, 11: piles of moments -/
def PiR (n : Nat) (f : FF) (g : GG) (p q C : Nat) (b : Nat → Nat) (sz : Nat) (L : Nat → Nat → Nat → Nat) : Prop :=
  (kd KKl n p = some (3, 2) ∧ kd KKl n q = some (22, C) ∧ g p 0 = some q ∧ 1 ≤ C ∧ C ≤ 8) ∧ (∀ i, i < C → g q i = some (b i) ∧ MoOk n g (b i)) ∧ (∀ i j, i < C → j < C → i ≠ j → b i + 9 ≤ b j ∨ b j + 9 ≤ b i) ∧ f p 1 = nI sz ∧ sz ≤ C ∧ ∀ i, i < sz → CMo f (b i) (L i)
def rotB (b : Nat → Nat) (C : Nat) : Nat → Nat := fun i => if i + 1 < C then b (i + 1) else b 0
theorem gup_self {g : GG} {a k : Nat} {v : Option Nat} : gup g a k v a k = v := by simp [gup]
theorem gup_ne {g : GG} {a k j : Nat} {v : Option Nat} (h : j ≠ k) : gup g a k v a j = g a j := by simp [gup, h]
theorem gup_no {g : GG} {a x k j : Nat} {v : Option Nat} (h : x ≠ a) : gup g a k v x j = g x j := by simp [gup, h]
theorem MoOk.g {n a q C : Nat} {g g' : GG} (h : MoOk n g a) (hq : kd KKl n q = some (22, C)) (ho : ∀ x, x ≠ q → g' x = g x) : MoOk n g' a := by
  obtain ⟨h1, h2, h3, h4, h5, h6, h7⟩ := h
  have n1 : a ≠ q := kd_ne h1 hq (by intro e; cases e)
  have n2 : a + 1 ≠ q := kd_ne h2 hq (by intro e; cases e)
  exact ⟨h1, h2, h3, h4, by rw [ho a n1]; exact h5, by rw [ho a n1]; exact h6, fun j hj => by rw [ho _ n2]; exact h7 j hj⟩
theorem VaOk.g {n v q C : Nat} {g g' : GG} (h : VaOk n g v) (hq : kd KKl n q = some (22, C)) (ho : ∀ x, x ≠ q → g' x = g x) : VaOk n g' v := by
  obtain ⟨h1, h2, h3, h4, h5, h6, h7⟩ := h
  have n1 : v ≠ q := kd_ne h1 hq (by intro e; cases e)
  exact ⟨h1, h2, h3, h4, by rw [ho v n1]; exact h5, by rw [ho v n1]; exact h6, by rw [ho v n1]; exact h7⟩
set_option maxHeartbeats 1000000 in
theorem lp_drop {S : Scr} {d : Nat} {f : FF} {g : GG} {n p q C : Nat} {b : Nat → Nat} (hp : kd KKl n p = some (3, 2) ∧ kd KKl n q = some (22, C) ∧ g p 0 = some q ∧ 1 ≤ C ∧ C ≤ 8) (hb : ∀ i, i < C → g q i = some (b i) ∧ MoOk n g (b i)) : ∀ (t i : Nat) (g1 : GG), t + i = C → 1 ≤ i → (∀ x, x ≠ q → g1 x = g x) → (∀ k, k + 1 < i → g1 q k = some (b (k + 1))) → (∀ k, i ≤ k + 1 → k < C → g1 q k = some (b k)) → Wp S d 99 18 [some (.ref p), some (.ref (b 0)), some (.int (nI i))] [] n f g1 (fun v n' f' g' => v = none ∧ n' = n ∧ f' = fup f p 1 (nI (C - 1)) ∧ (∀ x, x ≠ q → g' x = g x) ∧ ∀ i, i < C → g' q i = some (rotB b C i)) := by
  intro t
  induction t with
  | zero =>
    intro i g1 e0 e1 e2 e3 e4
    have hpq : p ≠ q := kd_ne hp.1 hp.2.1 (by intro e; cases e)
    have hC := hp.2.2.2
    refine w_iload_n k99_18 rfl ?_
    refine w_aload_n k99_19 rfl rfl ?_
    refine w_getr k99_20 (k := 0) hp.1 (by decide) (by rw [e2 p hpq]; exact hp.2.2.1) ?_
    refine w_alen k99_23 hp.2.1 (by decide) (rfl) ?_
    refine w_top (nI C) (rfl) ?_
    refine w_icmp_ge k99_24 (fun h24 => ?_) (fun h24 => absurd (nI_le (by omega) (by omega)) h24)
    refine w_aload_n k99_47 rfl rfl ?_
    refine w_getr k99_48 (k := 0) hp.1 (by decide) (by rw [e2 p hpq]; exact hp.2.2.1) ?_
    refine w_aload_n k99_51 rfl rfl ?_
    refine w_getr k99_52 (k := 0) hp.1 (by decide) (by rw [e2 p hpq]; exact hp.2.2.1) ?_
    refine w_alen k99_55 hp.2.1 (by decide) (rfl) ?_
    refine w_top (nI C) (rfl) ?_
    refine w_iconst k99_56 ?_
    refine w_isub k99_57 ?_
    refine w_top (nI (C - 1)) (pk_sub (b := 1) (by omega)) ?_
    refine w_aload_n k99_58 rfl rfl ?_
    refine w_aast k99_59 hp.2.1 (hb 0 (by omega)).2.1 (by decide) (nI_pos (by omega)) (nI_clamp (by omega)) (by omega) ?_
    refine w_aload_n k99_60 rfl rfl ?_
    refine w_aload_n k99_61 rfl rfl ?_
    refine w_getr k99_62 (k := 0) hp.1 (by decide) (by rw [gup_no hpq, e2 p hpq]; exact hp.2.2.1) ?_
    refine w_alen k99_65 hp.2.1 (by decide) (rfl) ?_
    refine w_top (nI C) (rfl) ?_
    refine w_iconst k99_66 ?_
    refine w_isub k99_67 ?_
    refine w_top (nI (C - 1)) (pk_sub (b := 1) (by omega)) ?_
    refine w_puti k99_68 (k := 1) hp.1 (by decide) ?_
    refine w_vret k99_71 mt99 rfl ?_
    refine ⟨rfl, rfl, rfl, fun x hx => by funext y; rw [gup_no hx, e2 x hx], fun k hk => ?_⟩
    by_cases hkC : k = C - 1
    · subst hkC
      rw [gup_self]
      unfold rotB
      rw [if_neg (by omega)]
    · rw [gup_ne hkC, e3 k (by omega)]
      unfold rotB
      rw [if_pos (by omega)]
  | succ t ih =>
    intro i g1 e0 e1 e2 e3 e4
    have hpq : p ≠ q := kd_ne hp.1 hp.2.1 (by intro e; cases e)
    have hC := hp.2.2.2
    refine w_iload_n k99_18 rfl ?_
    refine w_aload_n k99_19 rfl rfl ?_
    refine w_getr k99_20 (k := 0) hp.1 (by decide) (by rw [e2 p hpq]; exact hp.2.2.1) ?_
    refine w_alen k99_23 hp.2.1 (by decide) (rfl) ?_
    refine w_top (nI C) (rfl) ?_
    refine w_icmp_ge k99_24 (fun h24 => absurd h24 (nI_ge (by omega) (by omega))) (fun h24 => ?_)
    refine w_aload_n k99_27 rfl rfl ?_
    refine w_getr k99_28 (k := 0) hp.1 (by decide) (by rw [e2 p hpq]; exact hp.2.2.1) ?_
    refine w_iload_n k99_31 rfl ?_
    refine w_iconst k99_32 ?_
    refine w_isub k99_33 ?_
    refine w_top (nI (i - 1)) (pk_sub (b := 1) (by omega)) ?_
    refine w_aload_n k99_34 rfl rfl ?_
    refine w_getr k99_35 (k := 0) hp.1 (by decide) (by rw [e2 p hpq]; exact hp.2.2.1) ?_
    refine w_iload_n k99_38 rfl ?_
    refine w_aald k99_39 hp.2.1 (by decide) (nI_pos (by omega)) (nI_clamp (by omega)) (by omega) (e4 i (by omega) (by omega)) ?_
    refine w_aast k99_40 hp.2.1 (hb i (by omega)).2.1 (by decide) (nI_pos (by omega)) (nI_clamp (by omega)) (by omega) ?_
    refine w_iinc k99_41 rfl (ls' := [_, _, _]) rfl ?_
    refine w_goto k99_44 ?_
    rw [nI_1]
    refine ih (i + 1) _ (by omega) (by omega) (fun x hx => by funext y; rw [gup_no hx, e2 x hx]) (fun k hk => ?_) (fun k hk hkC => by rw [gup_ne (by omega)]; exact e4 k (by omega) hkC)
    by_cases hki : k = i - 1
    · subst hki
      rw [gup_self, show i - 1 + 1 = i by omega]
    · rw [gup_ne hki]
      exact e3 k (by omega)
set_option maxHeartbeats 1000000 in
theorem sp_drop {S : Scr} {d : Nat} {f : FF} {g : GG} {n p q C : Nat} {b : Nat → Nat} (hp : kd KKl n p = some (3, 2) ∧ kd KKl n q = some (22, C) ∧ g p 0 = some q ∧ 1 ≤ C ∧ C ≤ 8) (hb : ∀ i, i < C → g q i = some (b i) ∧ MoOk n g (b i)) : Wp S d 99 0 [some (.ref p), none, none] [] n f g (fun v n' f' g' => v = none ∧ n' = n ∧ f' = fup f p 1 (nI (C - 1)) ∧ (∀ x, x ≠ q → g' x = g x) ∧ ∀ i, i < C → g' q i = some (rotB b C i)) := by
  refine w_aload_n k99_0 rfl rfl ?_
  refine w_getr k99_1 (k := 0) hp.1 (by decide) hp.2.2.1 ?_
  have hC := hp.2.2.2
  refine w_alen k99_4 hp.2.1 (by decide) (rfl) ?_
  refine w_top (nI C) (rfl) ?_
  refine w_if_ne k99_5 (fun h5 => ?_) (fun h5 => absurd h5 (nI_ne0 (by omega) (by omega)))
  refine w_aload_n k99_9 rfl rfl ?_
  refine w_getr k99_10 (k := 0) hp.1 (by decide) hp.2.2.1 ?_
  refine w_iconst k99_13 ?_
  refine w_aald k99_14 (j := 0) hp.2.1 (by decide) (by decide) (rfl) (by omega) (hb 0 (by omega)).1 ?_
  refine w_astore_n k99_15 rfl (ls' := [_, _, _]) rfl ?_
  refine w_iconst k99_16 ?_
  refine w_istore_n k99_17 (ls' := [_, _, _]) rfl ?_
  exact lp_drop hp hb (C - 1) 1 g (by omega) (Nat.le_refl 1) (fun _ _ => rfl) (fun k hk => absurd hk (by omega)) (fun k _ hk => (hb k hk).1)
/-- a pile's content behind a put -/
def putL (C sz : Nat) (L : Nat → Nat → Nat → Nat) (M : Nat → Nat → Nat) : Nat → Nat → Nat → Nat := if sz < C then (fun i => if i = sz then M else L i) else (fun i => if i + 1 < C then L (i + 1) else M)
/-- apart from the pile's own cells -/
def OffP (f f' : FF) (p C : Nat) (b : Nat → Nat) : Prop := ∀ x, x ≠ p → (∀ i, i < C → x < b i ∨ b i + 9 ≤ x) → f' x = f x
theorem CMo.eq {f f' : FF} {a : Nat} {M : Nat → Nat → Nat} (h : CMo f a M) (h6 : M 0 2 ≤ 6) (ho : ∀ x, a ≤ x → x < a + 9 → f' x = f x) : CMo f' a M :=
  ⟨by rw [ho a (by omega) (by omega)]; exact h.1, by rw [ho a (by omega) (by omega)]; exact h.2.1, by rw [ho a (by omega) (by omega)]; exact h.2.2.1, fun m hm k hk => by rw [ho (a + 3 + m) (by omega) (by omega)]; exact h.2.2.2 m hm k hk⟩
def PuQ (n : Nat) (f : FF) (g : GG) (p q C : Nat) (b : Nat → Nat) (sz : Nat) (L : Nat → Nat → Nat → Nat) : Option Value → Nat → FF → GG → Prop := fun v n' f' g' => v = none ∧ n' = n ∧ (∀ x, x ≠ q → g' x = g x) ∧ OffP f f' p C b ∧ ∃ b', PiR n f' g' p q C b' sz L ∧ ∀ i, i < C → ∃ j, j < C ∧ b' i = b j
set_option maxHeartbeats 1000000 in
theorem lp_put {S : Scr} {d : Nat} {f : FF} {g : GG} {n p q C a sz : Nat} {b : Nat → Nat} {L : Nat → Nat → Nat → Nat} {M : Nat → Nat → Nat} (hP : PiR n f g p q C b sz L) (hsz : sz < C) (h6 : ∀ i, i < sz → L i 0 2 ≤ 6) (ha : MoOk n g a) (hA : CMo f a M) (hM6 : M 0 2 ≤ 6) (hd : ∀ i, i < C → a + 9 ≤ b i ∨ b i + 9 ≤ a) (hpb : ∀ i, i < C → p < b i ∨ b i + 9 ≤ p) : Wp S (d + 2) 100 16 [some (.ref p), some (.ref a), none] [] n f g (fun v n' f' g' => v = none ∧ n' = n ∧ g' = g ∧ OffP f f' p C b ∧ PiR n f' g p q C b (sz + 1) (fun i => if i = sz then M else L i)) := by
  have hp := hP.1
  have hC := hp.2.2.2
  have hb := hP.2.1 sz hsz
  refine w_aload_n k100_16 rfl rfl ?_
  refine w_geti k100_17 (k := 1) hp.1 (by decide) ?_
  rw [hP.2.2.2.1]
  refine w_if_lt k100_20 (fun h20 => absurd h20 (nI_pos (by omega))) (fun h20 => ?_)
  refine w_aload_n k100_23 rfl rfl ?_
  refine w_geti k100_24 (k := 1) hp.1 (by decide) ?_
  rw [hP.2.2.2.1]
  refine w_aload_n k100_27 rfl rfl ?_
  refine w_getr k100_28 (k := 0) hp.1 (by decide) hp.2.2.1 ?_
  refine w_alen k100_31 hp.2.1 (by decide) (rfl) ?_
  refine w_top (nI C) (rfl) ?_
  refine w_icmp_ge k100_32 (fun h32 => absurd h32 (nI_ge (by omega) (by omega))) (fun h32 => ?_)
  refine w_aload_n k100_35 rfl rfl ?_
  refine w_getr k100_36 (k := 0) hp.1 (by decide) hp.2.2.1 ?_
  refine w_aload_n k100_39 rfl rfl ?_
  refine w_geti k100_40 (k := 1) hp.1 (by decide) ?_
  rw [hP.2.2.2.1]
  refine w_aald k100_43 hp.2.1 (by decide) (nI_pos (by omega)) (nI_clamp (by omega)) (hsz) hb.1 ?_
  refine w_goto k100_44 ?_
  refine w_astore_n k100_48 rfl (ls' := [_, _, _]) rfl ?_
  refine w_aload_n k100_49 rfl rfl ?_
  refine w_nnR k100_50 ?_
  refine w_aload_n k100_54 rfl rfl ?_
  refine w_aload_n k100_55 rfl rfl ?_
  refine w_vA k100_56 mt46 hb.2.1 ⟨rfl, by decide⟩ [_] rfl rfl rfl (sp_copy hb.2 ha hA hM6 ((hd sz hsz).symm)) ?_
  rintro _ _ f1 _ ⟨rfl, rfl, rfl, hO, hR⟩
  have hpf : f1 p = f p := hO p (hpb sz hsz)
  refine w_aload_n k100_59 rfl rfl ?_
  refine w_dup k100_60 rfl ?_
  refine w_geti k100_61 (k := 1) hp.1 (by decide) ?_
  rw [hpf, hP.2.2.2.1]
  refine w_iconst k100_64 ?_
  refine w_iadd k100_65 ?_
  refine w_top (nI (sz + 1)) (nI_1 _) ?_
  refine w_puti k100_66 (k := 1) hp.1 (by decide) ?_
  refine w_vret k100_69 mt100 rfl ?_
  refine ⟨rfl, rfl, rfl, fun x hx hxb => by funext y; rw [fup_no hx, hO x (hxb sz hsz)], hp, hP.2.1, hP.2.2.1, fup_self, hsz, fun i hi => ?_⟩
  by_cases his : i = sz
  · subst his
    show CMo _ (b i) (if i = i then M else L i)
    rw [if_pos rfl]
    exact hR.eq hM6 (fun x h1 h2 => by funext y; exact fup_no (by have := hpb i hsz; omega))
  · show CMo _ (b i) (if i = sz then M else L i)
    rw [if_neg his]
    have hi2 : i < sz := by omega
    have hdis := hP.2.2.1 i sz (by omega) hsz his
    exact (hP.2.2.2.2.2 i hi2).eq (h6 i hi2) (fun x h1 h2 => by funext y; rw [fup_no (by have := hpb i (by omega); omega), hO x (by omega)])
set_option maxHeartbeats 1000000 in
theorem sp_put {S : Scr} {d : Nat} {f : FF} {g : GG} {n p q C a sz : Nat} {b : Nat → Nat} {L : Nat → Nat → Nat → Nat} {M : Nat → Nat → Nat} (hP : PiR n f g p q C b sz L) (h6 : ∀ i, i < sz → L i 0 2 ≤ 6) (ha : MoOk n g a) (hA : CMo f a M) (hM6 : M 0 2 ≤ 6) (hd : ∀ i, i < C → a + 9 ≤ b i ∨ b i + 9 ≤ a) (hpb : ∀ i, i < C → p < b i ∨ b i + 9 ≤ p) : Wp S (d + 2) 100 0 [some (.ref p), some (.ref a), none] [] n f g (PuQ n f g p q C b (if sz < C then sz + 1 else C) (putL C sz L M)) := by
  refine w_aload_n k100_0 rfl rfl ?_
  have hp := hP.1
  have hC := hp.2.2.2
  have hs := hP.2.2.2.2.1
  refine w_geti k100_1 (k := 1) hp.1 (by decide) ?_
  rw [hP.2.2.2.1]
  refine w_aload_n k100_4 rfl rfl ?_
  refine w_getr k100_5 (k := 0) hp.1 (by decide) hp.2.2.1 ?_
  refine w_alen k100_8 hp.2.1 (by decide) (rfl) ?_
  refine w_top (nI C) (rfl) ?_
  refine w_icmp_lt k100_9 (fun h9 => ?_) (fun h9 => ?_)
  ·
    have hz : sz < C := (nI_ltI (by omega) (by omega)).mp h9
    first
      | (refine (lp_put hP hz h6 ha hA hM6 hd hpb).mono ?_
         rintro _ _ f1 _ ⟨rfl, rfl, rfl, hO, hR⟩
         refine ⟨rfl, rfl, fun _ _ => rfl, hO, b, ?_, fun i hi => ⟨i, hi, rfl⟩⟩
         rw [if_pos hz, putL, if_pos hz]
         exact hR)
      | (have hpq : p ≠ q := kd_ne hp.1 hp.2.1 (by intro e; cases e)
         have hrot : ∀ i, i < C → ∃ j, j < C ∧ rotB b C i = b j := fun i hi => by
           unfold rotB
           by_cases h : i + 1 < C
           · rw [if_pos h]; exact ⟨i + 1, h, rfl⟩
           · rw [if_neg h]; exact ⟨0, by omega, rfl⟩
         have hP1 : PiR n (fup f p 1 (nI (C - 1))) g1 p q C (rotB b C) (C - 1) (fun i => L (i + 1)) := by
           refine ⟨⟨hp.1, hp.2.1, by rw [hg1 p hpq]; exact hp.2.2.1, hC⟩, fun i hi => ⟨hg2 i hi, ?_⟩, fun i j hi hj hij => ?_, fup_self, by omega, fun i hi => ?_⟩
           · obtain ⟨j, hj, e⟩ := hrot i hi
             rw [e]
             exact (hP.2.1 j hj).2.g hp.2.1 hg1
           · unfold rotB
             split
             · split
               · exact hP.2.2.1 _ _ (by omega) (by omega) (by omega)
               · exact hP.2.2.1 _ _ (by omega) (by omega) (by omega)
             · split
               · exact hP.2.2.1 _ _ (by omega) (by omega) (by omega)
               · omega
           · have e : rotB b C i = b (i + 1) := by unfold rotB; rw [if_pos (by omega)]
             rw [e]
             exact (hP.2.2.2.2.2 (i + 1) (by omega)).eq (h6 (i + 1) (by omega)) (fun x h1 h2 => by funext y; exact fup_no (by have := hpb (i + 1) (by omega); omega))
         have hpa : p ≠ a := kd_ne hp.1 ha.1 (by intro e; cases e)
         have hA1 : CMo (fup f p 1 (nI (C - 1))) a M := by
           have ho : ∀ x, x ≠ p → fup f p 1 (nI (C - 1)) x = f x := fun x hx => by funext y; exact fup_no hx
           have hpm : ∀ j, j < 6 → a + 3 + j ≠ p := fun j hj => kd_ne (ha.2.2.2.1 j hj) hp.1 (by intro e; cases e)
           exact ⟨by rw [ho a (Ne.symm hpa)]; exact hA.1, by rw [ho a (Ne.symm hpa)]; exact hA.2.1, by rw [ho a (Ne.symm hpa)]; exact hA.2.2.1, fun m hm => (hA.2.2.2 m hm).offa ho (hpm m (by omega))⟩
         refine (lp_put hP1 (by omega) (fun i hi => h6 (i + 1) (by omega)) (ha.g hp.2.1 hg1) hA1 hM6 (fun i hi => by obtain ⟨j, hj, e⟩ := hrot i hi; rw [e]; exact hd j hj) (fun i hi => by obtain ⟨j, hj, e⟩ := hrot i hi; rw [e]; exact hpb j hj)).mono ?_
         rintro _ _ f1 _ ⟨rfl, rfl, rfl, hO, hR⟩
         refine ⟨rfl, rfl, hg1, fun x hx hxb => ?_, rotB b C, ?_, hrot⟩
         · rw [hO x hx (fun i hi => by obtain ⟨j, hj, e⟩ := hrot i hi; rw [e]; exact hxb j hj)]
           funext y
           exact fup_no hx
         · rw [if_neg hz, putL, if_neg hz]
           have hC1 : C - 1 + 1 = C := by omega
           refine ⟨hR.1, hR.2.1, hR.2.2.1, by rw [← hC1]; exact hR.2.2.2.1, Nat.le_refl _, fun i hi => ?_⟩
           have hi2 : CMo f1 (rotB b C i) (if i = C - 1 then M else L (i + 1)) := hR.2.2.2.2.2 i (by omega)
           by_cases hic : i = C - 1
           · rw [if_pos hic] at hi2
             show CMo _ _ (if i + 1 < C then L (i + 1) else M)
             rw [if_neg (by omega)]
             exact hi2
           · rw [if_neg hic] at hi2
             show CMo _ _ (if i + 1 < C then L (i + 1) else M)
             rw [if_pos (by omega)]
             exact hi2)
  ·
    have hz : ¬ sz < C := fun hh => h9 (nI_lt hh (by omega))
    have hze : sz = C := by omega
    refine w_aload_n k100_12 rfl rfl ?_
    refine w_vA k100_13 mt99 hp.1 ⟨rfl, by decide⟩ [] rfl rfl rfl (sp_drop hp hP.2.1) ?_
    rintro _ n1 _ g1 ⟨rfl, hn1, rfl, hg1, hg2⟩
    have hn2 := hn1.symm
    subst hn2
    first
      | (refine (lp_put hP hz h6 ha hA hM6 hd hpb).mono ?_
         rintro _ _ f1 _ ⟨rfl, rfl, rfl, hO, hR⟩
         refine ⟨rfl, rfl, fun _ _ => rfl, hO, b, ?_, fun i hi => ⟨i, hi, rfl⟩⟩
         rw [if_pos hz, putL, if_pos hz]
         exact hR)
      | (have hpq : p ≠ q := kd_ne hp.1 hp.2.1 (by intro e; cases e)
         have hrot : ∀ i, i < C → ∃ j, j < C ∧ rotB b C i = b j := fun i hi => by
           unfold rotB
           by_cases h : i + 1 < C
           · rw [if_pos h]; exact ⟨i + 1, h, rfl⟩
           · rw [if_neg h]; exact ⟨0, by omega, rfl⟩
         have hP1 : PiR n (fup f p 1 (nI (C - 1))) g1 p q C (rotB b C) (C - 1) (fun i => L (i + 1)) := by
           refine ⟨⟨hp.1, hp.2.1, by rw [hg1 p hpq]; exact hp.2.2.1, hC⟩, fun i hi => ⟨hg2 i hi, ?_⟩, fun i j hi hj hij => ?_, fup_self, by omega, fun i hi => ?_⟩
           · obtain ⟨j, hj, e⟩ := hrot i hi
             rw [e]
             exact (hP.2.1 j hj).2.g hp.2.1 hg1
           · unfold rotB
             split
             · split
               · exact hP.2.2.1 _ _ (by omega) (by omega) (by omega)
               · exact hP.2.2.1 _ _ (by omega) (by omega) (by omega)
             · split
               · exact hP.2.2.1 _ _ (by omega) (by omega) (by omega)
               · omega
           · have e : rotB b C i = b (i + 1) := by unfold rotB; rw [if_pos (by omega)]
             rw [e]
             exact (hP.2.2.2.2.2 (i + 1) (by omega)).eq (h6 (i + 1) (by omega)) (fun x h1 h2 => by funext y; exact fup_no (by have := hpb (i + 1) (by omega); omega))
         have hpa : p ≠ a := kd_ne hp.1 ha.1 (by intro e; cases e)
         have hA1 : CMo (fup f p 1 (nI (C - 1))) a M := by
           have ho : ∀ x, x ≠ p → fup f p 1 (nI (C - 1)) x = f x := fun x hx => by funext y; exact fup_no hx
           have hpm : ∀ j, j < 6 → a + 3 + j ≠ p := fun j hj => kd_ne (ha.2.2.2.1 j hj) hp.1 (by intro e; cases e)
           exact ⟨by rw [ho a (Ne.symm hpa)]; exact hA.1, by rw [ho a (Ne.symm hpa)]; exact hA.2.1, by rw [ho a (Ne.symm hpa)]; exact hA.2.2.1, fun m hm => (hA.2.2.2 m hm).offa ho (hpm m (by omega))⟩
         refine (lp_put hP1 (by omega) (fun i hi => h6 (i + 1) (by omega)) (ha.g hp.2.1 hg1) hA1 hM6 (fun i hi => by obtain ⟨j, hj, e⟩ := hrot i hi; rw [e]; exact hd j hj) (fun i hi => by obtain ⟨j, hj, e⟩ := hrot i hi; rw [e]; exact hpb j hj)).mono ?_
         rintro _ _ f1 _ ⟨rfl, rfl, rfl, hO, hR⟩
         refine ⟨rfl, rfl, hg1, fun x hx hxb => ?_, rotB b C, ?_, hrot⟩
         · rw [hO x hx (fun i hi => by obtain ⟨j, hj, e⟩ := hrot i hi; rw [e]; exact hxb j hj)]
           funext y
           exact fup_no hx
         · rw [if_neg hz, putL, if_neg hz]
           have hC1 : C - 1 + 1 = C := by omega
           refine ⟨hR.1, hR.2.1, hR.2.2.1, by rw [← hC1]; exact hR.2.2.2.1, Nat.le_refl _, fun i hi => ?_⟩
           have hi2 : CMo f1 (rotB b C i) (if i = C - 1 then M else L (i + 1)) := hR.2.2.2.2.2 i (by omega)
           by_cases hic : i = C - 1
           · rw [if_pos hic] at hi2
             show CMo _ _ (if i + 1 < C then L (i + 1) else M)
             rw [if_neg (by omega)]
             exact hi2
           · rw [if_neg hic] at hi2
             show CMo _ _ (if i + 1 < C then L (i + 1) else M)
             rw [if_pos (by omega)]
             exact hi2)
set_option maxHeartbeats 1000000 in
theorem sp_Psize {S : Scr} {d : Nat} {f : FF} {g : GG} {n p q C sz : Nat} {b : Nat → Nat} {L : Nat → Nat → Nat → Nat} (hP : PiR n f g p q C b sz L) : Wp S d 122 0 [some (.ref p)] [] n f g (Is (some (.int (nI sz))) n f g) := by
  refine w_aload_n k122_0 rfl rfl ?_
  refine w_geti k122_1 (k := 1) hP.1.1 (by decide) ?_
  rw [hP.2.2.2.1]
  refine w_iret k122_4 mt122 (.int) rfl (rfl) ?_
  exact ⟨rfl, rfl, rfl, rfl⟩
set_option maxHeartbeats 1000000 in
theorem sp_Pclear {S : Scr} {d : Nat} {f : FF} {g : GG} {n p : Nat} (hp : kd KKl n p = some (3, 2)) : Wp S d 48 0 [some (.ref p)] [] n f g (Is none n (fup f p 1 0) g) := by
  refine w_aload_n k48_0 rfl rfl ?_
  refine w_iconst k48_1 ?_
  refine w_puti k48_2 (k := 1) hp (by decide) ?_
  refine w_vret k48_5 mt48 rfl ?_
  exact ⟨rfl, rfl, rfl, rfl⟩
set_option maxHeartbeats 1000000 in
theorem sp_take0 {S : Scr} {d : Nat} {f : FF} {g : GG} {n p q C a : Nat} {b : Nat → Nat} {L : Nat → Nat → Nat → Nat} (hP : PiR n f g p q C b 0 L) : Wp S (d + 2) 121 0 [some (.ref p), some (.ref a), none, none] [] n f g (Is (some (.int (0))) n f g) := by
  refine w_aload_n k121_0 rfl rfl ?_
  have hp := hP.1
  refine w_geti k121_1 (k := 1) hp.1 (by decide) ?_
  rw [hP.2.2.2.1]
  refine w_iconst k121_4 ?_
  refine w_isub k121_5 ?_
  refine w_istore_n k121_6 (ls' := [_, _, _, _]) rfl ?_
  refine w_iload_n k121_7 rfl ?_
  refine w_if_lt k121_8 (fun h8 => ?_) (fun h8 => absurd (by decide) h8)
  refine w_null k121_29 ?_
  refine w_astore_n k121_30 rfl (ls' := [_, _, _, _]) rfl ?_
  refine w_aload_n k121_31 rfl rfl ?_
  refine w_nnN k121_32 ?_
  refine w_iconst k121_35 ?_
  refine w_iret k121_36 mt121 (.boolean) rfl (rfl) ?_
  exact ⟨rfl, rfl, rfl, rfl⟩
set_option maxHeartbeats 1000000 in
theorem sp_take {S : Scr} {d : Nat} {f : FF} {g : GG} {n p q C a sz : Nat} {b : Nat → Nat} {L : Nat → Nat → Nat → Nat} (hP : PiR n f g p q C b (sz + 1) L) (h6 : ∀ i, i < sz + 1 → L i 0 2 ≤ 6) (ha : MoOk n g a) (hd : ∀ i, i < C → a + 9 ≤ b i ∨ b i + 9 ≤ a) (hpa : p < a ∨ a + 9 ≤ p) : Wp S (d + 2) 121 0 [some (.ref p), some (.ref a), none, none] [] n f g (fun v n' f' g' => v = some (.int 1) ∧ n' = n ∧ g' = g ∧ f' p 1 = nI sz ∧ CMo f' a (L sz) ∧ ∀ x, x ≠ p → (x < a ∨ a + 9 ≤ x) → f' x = f x) := by
  refine w_aload_n k121_0 rfl rfl ?_
  have hp := hP.1
  have hC := hp.2.2.2
  have hs := hP.2.2.2.2.1
  have hb := hP.2.1 sz (by omega)
  refine w_geti k121_1 (k := 1) hp.1 (by decide) ?_
  rw [hP.2.2.2.1]
  refine w_iconst k121_4 ?_
  refine w_isub k121_5 ?_
  refine w_top (nI sz) (pk_sub (a := sz + 1) (b := 1) (by omega)) ?_
  refine w_istore_n k121_6 (ls' := [_, _, _, _]) rfl ?_
  refine w_iload_n k121_7 rfl ?_
  refine w_if_lt k121_8 (fun h8 => absurd h8 (nI_pos (by omega))) (fun h8 => ?_)
  refine w_iload_n k121_11 rfl ?_
  refine w_aload_n k121_12 rfl rfl ?_
  refine w_getr k121_13 (k := 0) hp.1 (by decide) hp.2.2.1 ?_
  refine w_alen k121_16 hp.2.1 (by decide) (rfl) ?_
  refine w_top (nI C) (rfl) ?_
  refine w_icmp_ge k121_17 (fun h17 => absurd h17 (nI_ge (by omega) (by omega))) (fun h17 => ?_)
  refine w_aload_n k121_20 rfl rfl ?_
  refine w_getr k121_21 (k := 0) hp.1 (by decide) hp.2.2.1 ?_
  refine w_iload_n k121_24 rfl ?_
  refine w_aald k121_25 hp.2.1 (by decide) (nI_pos (by omega)) (nI_clamp (by omega)) (by omega) hb.1 ?_
  refine w_goto k121_26 ?_
  refine w_astore_n k121_30 rfl (ls' := [_, _, _, _]) rfl ?_
  refine w_aload_n k121_31 rfl rfl ?_
  refine w_nnR k121_32 ?_
  refine w_aload_n k121_37 rfl rfl ?_
  refine w_aload_n k121_38 rfl rfl ?_
  refine w_vA k121_39 mt46 ha.1 ⟨rfl, by decide⟩ [_] rfl rfl rfl (sp_copy ha hb.2 (hP.2.2.2.2.2 sz (by omega)) (h6 sz (by omega)) (hd sz (by omega))) ?_
  rintro _ _ f1 _ ⟨rfl, rfl, rfl, hO, hR⟩
  refine w_aload_n k121_42 rfl rfl ?_
  refine w_iload_n k121_43 rfl ?_
  refine w_puti k121_44 (k := 1) hp.1 (by decide) ?_
  refine w_iconst k121_47 ?_
  refine w_iret k121_48 mt121 (.boolean) rfl (rfl) ?_
  exact ⟨rfl, rfl, rfl, fup_self, hR.eq (h6 sz (by omega)) (fun x h1 h2 => by funext y; exact fup_no (by omega)), fun x hx hxa => by funext y; rw [fup_no hx, hO x hxa]⟩
