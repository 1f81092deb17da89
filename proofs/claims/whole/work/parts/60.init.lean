/-! SPECS, 50: the class's constructors -/
theorem kdI {n a : Nat} {q : Nat × Nat} (h : KKl[a]? = some q) (hn : a < n) : kd KKl n a = some q := by
  unfold kd
  rw [if_pos hn]
  exact h
def GHas (g : GG) (l : List (Nat × Nat × Nat)) : Prop := ∀ q ∈ l, g q.1 q.2.1 = some q.2.2
def moL (a : Nat) : List (Nat × Nat × Nat) := [(a, 0, a + 1), (a, 1, a + 2), (a + 1, 0, a + 3), (a + 1, 1, a + 4), (a + 1, 2, a + 5), (a + 1, 3, a + 6), (a + 1, 4, a + 7), (a + 1, 5, a + 8)]
theorem GHas.add {g : GG} {l l2 : List (Nat × Nat × Nat)} (h : GHas g l) (h2 : GHas g l2) : GHas g (l ++ l2) := fun q hq => (List.mem_append.mp hq).elim (h q) (h2 q)
theorem GHas.keep {g g' : GG} {l : List (Nat × Nat × Nat)} {a : Nat} (h : GHas g l) (ho : ∀ x, x < a → g' x = g x) (hl : (l.all fun q => decide (q.1 < a)) = true) : GHas g' l := fun q hq => by
  rw [ho q.1 (of_decide_eq_true (List.all_eq_true.mp hl q hq))]
  exact h q hq
theorem GHas.up {g : GG} {l : List (Nat × Nat × Nat)} {a k v : Nat} (h : GHas g l) (hl : (l.all fun q => decide (¬ (q.1 = a ∧ q.2.1 = k))) = true) : GHas (gup g a k (some v)) ((a, k, v) :: l) := fun q hq => by
  rcases List.mem_cons.mp hq with rfl | hq
  · exact gup_self
  · have h1 := of_decide_eq_true (List.all_eq_true.mp hl q hq)
    show (if q.1 = a ∧ q.2.1 = k then some v else g q.1 q.2.1) = _
    rw [if_neg h1]
    exact h q hq
def MoK (a : Nat) : Prop := KKl[a]? = some (2, 5) ∧ KKl[a + 1]? = some (21, 6) ∧ KKl[a + 2]? = some (1, 6) ∧ ∀ j, j < 6 → KKl[a + 3 + j]? = some (1, 6)
def VaK (v : Nat) : Prop := KKl[v]? = some (6, 4) ∧ KKl[v + 1]? = some (20, 9) ∧ KKl[v + 2]? = some (20, 9) ∧ KKl[v + 3]? = some (20, 9)
set_option maxHeartbeats 1000000 in
theorem sp_X1i {S : Scr} {d : Nat} {f : FF} {g : GG} {n m : Nat} : Wp S (d + 1) 2 0 [some (.ref m)] [] n f g (Is none n f g) := by
  refine w_aload_n k2_0 rfl rfl ?_
  refine w_obj0 k2_1 rfl ?_
  refine w_vret k2_4 mt2 rfl ?_
  exact ⟨rfl, rfl, rfl, rfl⟩
set_option maxHeartbeats 1000000 in
theorem sp_X0i {S : Scr} {d : Nat} {f : FF} {g : GG} (a : Nat) (ha : KKl[a]? = some (0, 2)) (hb : KKl[a + 1]? = some (20, 200)) : Wp S (d + 1) 0 0 [some (.ref a)] [] (a + 1) f g (Is none (a + 2) f (gup g a 0 (some (a + 1)))) := by
  refine w_aload_n k0_0 rfl rfl ?_
  refine w_obj0 k0_1 rfl ?_
  refine w_aload_n k0_4 rfl rfl ?_
  refine w_sipush k0_5 ?_
  refine w_newa k0_8 (⟨by decide, by decide⟩) (rfl) (hb) ?_
  refine w_putr k0_10 (k := 0) (kdI ha (by omega)) (by decide) ?_
  refine w_vret k0_13 mt0 rfl ?_
  exact ⟨rfl, rfl, rfl, rfl⟩
set_option maxHeartbeats 1000000 in
theorem sp_X7i {S : Scr} {d : Nat} {f : FF} {g : GG} (v : Nat) (hv : VaK v) : Wp S (d + 1) 1 0 [some (.ref v)] [] (v + 1) f g (Is none (v + 4) f (gup (gup (gup g v 0 (some (v + 1))) v 1 (some (v + 2))) v 2 (some (v + 3)))) := by
  refine w_aload_n k1_0 rfl rfl ?_
  refine w_obj0 k1_1 rfl ?_
  refine w_aload_n k1_4 rfl rfl ?_
  refine w_bipush k1_5 ?_
  refine w_newa k1_7 (⟨by decide, by decide⟩) (rfl) (hv.2.1) ?_
  refine w_putr k1_9 (k := 0) (kdI hv.1 (by omega)) (by decide) ?_
  refine w_aload_n k1_12 rfl rfl ?_
  refine w_bipush k1_13 ?_
  refine w_newa k1_15 (⟨by decide, by decide⟩) (rfl) (hv.2.2.1) ?_
  refine w_putr k1_17 (k := 1) (kdI hv.1 (by omega)) (by decide) ?_
  refine w_aload_n k1_20 rfl rfl ?_
  refine w_bipush k1_21 ?_
  refine w_newa k1_23 (⟨by decide, by decide⟩) (rfl) (hv.2.2.2) ?_
  refine w_putr k1_25 (k := 2) (kdI hv.1 (by omega)) (by decide) ?_
  refine w_vret k1_28 mt1 rfl ?_
  exact ⟨rfl, rfl, rfl, rfl⟩
set_option maxHeartbeats 1000000 in
theorem sp_X6i {S : Scr} {d : Nat} {f : FF} {g : GG} (v : Nat) (hv : KKl[v]? = some (5, 4) ∧ KKl[v + 1]? = some (20, 6) ∧ KKl[v + 2]? = some (20, 6) ∧ KKl[v + 3]? = some (20, 6)) : Wp S (d + 1) 7 0 [some (.ref v)] [] (v + 1) f g (Is none (v + 4) f (gup (gup (gup g v 0 (some (v + 1))) v 1 (some (v + 2))) v 2 (some (v + 3)))) := by
  refine w_aload_n k7_0 rfl rfl ?_
  refine w_obj0 k7_1 rfl ?_
  refine w_aload_n k7_4 rfl rfl ?_
  refine w_bipush k7_5 ?_
  refine w_newa k7_7 (⟨by decide, by decide⟩) (rfl) (hv.2.1) ?_
  refine w_putr k7_9 (k := 0) (kdI hv.1 (by omega)) (by decide) ?_
  refine w_aload_n k7_12 rfl rfl ?_
  refine w_bipush k7_13 ?_
  refine w_newa k7_15 (⟨by decide, by decide⟩) (rfl) (hv.2.2.1) ?_
  refine w_putr k7_17 (k := 1) (kdI hv.1 (by omega)) (by decide) ?_
  refine w_aload_n k7_20 rfl rfl ?_
  refine w_bipush k7_21 ?_
  refine w_newa k7_23 (⟨by decide, by decide⟩) (rfl) (hv.2.2.2) ?_
  refine w_putr k7_25 (k := 2) (kdI hv.1 (by omega)) (by decide) ?_
  refine w_vret k7_28 mt7 rfl ?_
  exact ⟨rfl, rfl, rfl, rfl⟩
set_option maxHeartbeats 1000000 in
theorem lp_X2i {S : Scr} {d : Nat} {f : FF} {g : GG} (a : Nat) (hm : MoK a) : ∀ (t j : Nat) (g1 : GG), t + j = 6 → (∀ x, x ≠ a → x ≠ a + 1 → g1 x = g x) → g1 a 0 = some (a + 1) → g1 a 1 = some (a + 2) → (∀ i, i < j → g1 (a + 1) i = some (a + 3 + i)) → Wp S (d + 2) 3 26 [some (.ref a), some (.int (nI j))] [] (a + 3 + j) f g1 (fun v n' f' g' => v = none ∧ n' = a + 9 ∧ f' = f ∧ (∀ x, x ≠ a → x ≠ a + 1 → g' x = g x) ∧ g' a 0 = some (a + 1) ∧ g' a 1 = some (a + 2) ∧ ∀ j, j < 6 → g' (a + 1) j = some (a + 3 + j)) := by
  intro t
  induction t with
  | zero =>
    intro j g1 e0 e1 e2 e3 e4
    obtain rfl : j = 6 := by omega
    refine w_iload_n k3_26 rfl ?_
    refine w_aload_n k3_27 rfl rfl ?_
    refine w_getr k3_28 (k := 0) (kdI hm.1 (by omega)) (by decide) e2 ?_
    refine w_alen k3_31 (kdI hm.2.1 (by omega)) (by decide) (rfl) ?_
    refine w_icmp_ge k3_32 (fun h32 => ?_) (fun h32 => absurd (nI_le (a := 6) (by omega) (by omega)) h32)
    refine w_vret k3_54 mt3 rfl ?_
    exact ⟨rfl, rfl, rfl, e1, e2, e3, e4⟩
  | succ t ih =>
    intro j g1 e0 e1 e2 e3 e4
    refine w_iload_n k3_26 rfl ?_
    refine w_aload_n k3_27 rfl rfl ?_
    refine w_getr k3_28 (k := 0) (kdI hm.1 (by omega)) (by decide) e2 ?_
    refine w_alen k3_31 (kdI hm.2.1 (by omega)) (by decide) (rfl) ?_
    refine w_icmp_ge k3_32 (fun h32 => absurd h32 (nI_ge (b := 6) (by omega) (by omega))) (fun h32 => ?_)
    refine w_aload_n k3_35 rfl rfl ?_
    refine w_getr k3_36 (k := 0) (kdI hm.1 (by omega)) (by decide) e2 ?_
    refine w_iload_n k3_39 rfl ?_
    refine w_new k3_40 (hm.2.2.2 j (by omega)) (by decide) ?_
    refine w_dup k3_43 rfl ?_
    refine w_iV k3_44 (by decide) mt2 (kdI (hm.2.2.2 j (by omega)) (by omega)) ⟨rfl, by decide, rfl, rfl⟩ [] rfl rfl rfl sp_X1i ?_
    refine w_aast k3_47 (kdI hm.2.1 (by omega)) (kdI (hm.2.2.2 j (by omega)) (by omega)) (by decide) (nI_pos (by omega)) (nI_clamp (by omega)) (by omega) ?_
    refine w_iinc k3_48 rfl (ls' := [_, _]) rfl ?_
    refine w_goto k3_51 ?_
    rw [nI_1]
    refine ih (j + 1) _ (by omega) (fun x h1 h2 => by funext y; rw [gup_no h2, e1 x h1 h2]) (by rw [gup_no (by omega)]; exact e2) (by rw [gup_no (by omega)]; exact e3) (fun i hi => ?_)
    by_cases hij : i = j
    · rw [hij, gup_self]
    · rw [gup_ne hij]; exact e4 i (by omega)
set_option maxHeartbeats 1000000 in
theorem sp_X2i {S : Scr} {d : Nat} {f : FF} {g : GG} (a : Nat) (hm : MoK a) : Wp S (d + 2) 3 0 [some (.ref a), none] [] (a + 1) f g (fun v n' f' g' => v = none ∧ n' = a + 9 ∧ f' = f ∧ (∀ x, x ≠ a → x ≠ a + 1 → g' x = g x) ∧ g' a 0 = some (a + 1) ∧ g' a 1 = some (a + 2) ∧ ∀ j, j < 6 → g' (a + 1) j = some (a + 3 + j)) := by
  refine w_aload_n k3_0 rfl rfl ?_
  refine w_obj0 k3_1 rfl ?_
  refine w_aload_n k3_4 rfl rfl ?_
  refine w_bipush k3_5 ?_
  refine w_anewa k3_7 (⟨by decide, by decide⟩) (rfl) (hm.2.1) ?_
  refine w_putr k3_10 (k := 0) (kdI hm.1 (by omega)) (by decide) ?_
  refine w_aload_n k3_13 rfl rfl ?_
  refine w_new k3_14 (hm.2.2.1) (by decide) ?_
  refine w_dup k3_17 rfl ?_
  refine w_iV k3_18 (by decide) mt2 (kdI hm.2.2.1 (by omega)) ⟨rfl, by decide, rfl, rfl⟩ [] rfl rfl rfl sp_X1i ?_
  refine w_putr k3_21 (k := 1) (kdI hm.1 (by omega)) (by decide) ?_
  refine w_iconst k3_24 ?_
  refine w_istore_n k3_25 (ls' := [_, _]) rfl ?_
  exact lp_X2i (g := g) a hm 6 0 _ rfl (fun x h1 h2 => by funext y; rw [gup_no h1, gup_no h1]) (by rw [gup_ne (by omega), gup_self]) gup_self (fun i hi => absurd hi (Nat.not_lt_zero i))
theorem moL_has {g : GG} {a : Nat} (h0 : g a 0 = some (a + 1)) (h1 : g a 1 = some (a + 2)) (h2 : ∀ j, j < 6 → g (a + 1) j = some (a + 3 + j)) : GHas g (moL a) := by
  intro q hq
  simp only [moL, List.mem_cons, List.not_mem_nil, or_false] at hq
  rcases hq with rfl | rfl | rfl | rfl | rfl | rfl | rfl | rfl
  · exact h0
  · exact h1
  · exact h2 0 (by omega)
  · exact h2 1 (by omega)
  · exact h2 2 (by omega)
  · exact h2 3 (by omega)
  · exact h2 4 (by omega)
  · exact h2 5 (by omega)
set_option maxHeartbeats 1000000 in
theorem lp_X3i {S : Scr} {d : Nat} {f : FF} {g : GG} {q1 : Int32} (p C : Nat) (hC : C ≤ 8) (hp : KKl[p]? = some (3, 2) ∧ KKl[p + 1]? = some (22, C) ∧ ∀ j, j < C → MoK (p + 2 + 9 * j)) : ∀ (t j : Nat) (g1 : GG), t + j = C → (∀ x, x < p → g1 x = g x) → g1 p 0 = some (p + 1) → (∀ i, i < j → g1 (p + 1) i = some (p + 2 + 9 * i) ∧ GHas g1 (moL (p + 2 + 9 * i))) → Wp S (d + 3) 6 18 [some (.ref p), some (.int q1), some (.int (nI j))] [] (p + 2 + 9 * j) f g1 (fun v n' f' g' => v = none ∧ n' = p + 2 + 9 * C ∧ f' = f ∧ (∀ x, x < p → g' x = g x) ∧ g' p 0 = some (p + 1) ∧ ∀ j, j < C → g' (p + 1) j = some (p + 2 + 9 * j) ∧ GHas g' (moL (p + 2 + 9 * j))) := by
  intro t
  induction t with
  | zero =>
    intro j g1 e0 e1 e2 e3
    obtain rfl : j = C := by omega
    refine w_iload_n k6_18 rfl ?_
    refine w_aload_n k6_19 rfl rfl ?_
    refine w_getr k6_20 (k := 0) (kdI hp.1 (by omega)) (by decide) e2 ?_
    refine w_alen k6_23 (kdI hp.2.1 (by omega)) (by decide) (rfl) ?_
    skip
    refine w_icmp_ge k6_24 (fun h24 => ?_) (fun h24 => absurd (nI_le (Nat.le_refl j) (by omega)) h24)
    refine w_vret k6_46 mt6 rfl ?_
    exact ⟨rfl, rfl, rfl, e1, e2, e3⟩
  | succ t ih =>
    intro j g1 e0 e1 e2 e3
    refine w_iload_n k6_18 rfl ?_
    refine w_aload_n k6_19 rfl rfl ?_
    refine w_getr k6_20 (k := 0) (kdI hp.1 (by omega)) (by decide) e2 ?_
    refine w_alen k6_23 (kdI hp.2.1 (by omega)) (by decide) (rfl) ?_
    refine w_icmp_ge k6_24 (fun h24 => absurd h24 (nI_ge (by omega) (by omega))) (fun h24 => ?_)
    refine w_aload_n k6_27 rfl rfl ?_
    refine w_getr k6_28 (k := 0) (kdI hp.1 (by omega)) (by decide) e2 ?_
    refine w_iload_n k6_31 rfl ?_
    refine w_new k6_32 ((hp.2.2 j (by omega)).1) (by decide) ?_
    refine w_dup k6_35 rfl ?_
    refine w_iA k6_36 (by decide) mt3 (kdI (hp.2.2 j (by omega)).1 (by omega)) ⟨rfl, by decide, rfl, rfl⟩ [] rfl rfl rfl (sp_X2i (p + 2 + 9 * j) (hp.2.2 j (by omega))) ?_
    rintro _ _ _ g2 ⟨rfl, rfl, rfl, hO, m1, m2, m3⟩
    refine w_aast k6_39 (kdI hp.2.1 (by omega)) (kdI (hp.2.2 j (by omega)).1 (by omega)) (by decide) (nI_pos (by omega)) (nI_clamp (by omega)) (by omega) ?_
    refine w_iinc k6_40 rfl (ls' := [_, _, _]) rfl ?_
    refine w_goto k6_43 ?_
    rw [nI_1, show p + 2 + 9 * j + 9 = p + 2 + 9 * (j + 1) by omega]
    refine ih (j + 1) _ (by omega) (fun x h1 => by funext y; rw [gup_no (by omega), hO x (by omega) (by omega), e1 x h1]) (by rw [gup_no (by omega), hO p (by omega) (by omega)]; exact e2) (fun i hi => ?_)
    have hne : ∀ x, x ≠ p + 1 → gup g2 (p + 1) j (some (p + 2 + 9 * j)) x = g2 x := fun x hx => by funext y; exact gup_no hx
    by_cases hij : i = j
    · rw [hij]
      exact ⟨gup_self, moL_has (by rw [hne _ (by omega)]; exact m1) (by rw [hne _ (by omega)]; exact m2) (by rw [hne _ (by omega)]; exact m3)⟩
    · have h3 := e3 i (by omega)
      have hx : ∀ x, p + 2 + 9 * i ≤ x → x < p + 2 + 9 * i + 2 → gup g2 (p + 1) j (some (p + 2 + 9 * j)) x = g1 x := fun x h1 h2 => by rw [hne x (by omega), hO x (by omega) (by omega)]
      refine ⟨?_, fun q hq => ?_⟩
      · rw [gup_ne hij, hO _ (by omega) (by omega)]
        exact h3.1
      · have h4 := h3.2 q hq
        have h5 : p + 2 + 9 * i ≤ q.1 ∧ q.1 < p + 2 + 9 * i + 2 := by
          simp only [moL, List.mem_cons, List.not_mem_nil, or_false] at hq
          rcases hq with rfl | rfl | rfl | rfl | rfl | rfl | rfl | rfl <;> exact ⟨by simp only []; omega, by simp only []; omega⟩
        rw [hx q.1 h5.1 h5.2]
        exact h4
set_option maxHeartbeats 1000000 in
theorem sp_X3i {S : Scr} {d : Nat} {f : FF} {g : GG} (p C : Nat) (hC : C ≤ 8) (hp : KKl[p]? = some (3, 2) ∧ KKl[p + 1]? = some (22, C) ∧ ∀ j, j < C → MoK (p + 2 + 9 * j)) : Wp S (d + 3) 6 0 [some (.ref p), some (.int (nI C)), none] [] (p + 1) f g (fun v n' f' g' => v = none ∧ n' = p + 2 + 9 * C ∧ f' = f ∧ (∀ x, x < p → g' x = g x) ∧ g' p 0 = some (p + 1) ∧ ∀ j, j < C → g' (p + 1) j = some (p + 2 + 9 * j) ∧ GHas g' (moL (p + 2 + 9 * j))) := by
  refine w_aload_n k6_0 rfl rfl ?_
  refine w_obj0 k6_1 rfl ?_
  refine w_aload_n k6_4 rfl rfl ?_
  refine w_iload_n k6_5 rfl ?_
  refine w_iconst k6_6 ?_
  refine w_max k6_7 rfl ?_
  refine w_top (nI C) (if_neg (nI_pos (by omega))) ?_
  refine w_anewa k6_10 (⟨nI_pos (by omega), by rw [nI_clamp (by omega)]; omega⟩) (nI_clamp (by omega)) (hp.2.1) ?_
  refine w_putr k6_13 (k := 0) (kdI hp.1 (by omega)) (by decide) ?_
  refine w_iconst k6_16 ?_
  refine w_istore_n k6_17 (ls' := [_, _, _]) rfl ?_
  exact lp_X3i (g := g) p C hC hp C 0 _ (by omega) (fun x h1 => by funext y; exact gup_no (by omega)) gup_self (fun i hi => absurd hi (Nat.not_lt_zero i))
set_option maxHeartbeats 1000000 in
theorem sp_X4i {S : Scr} {d : Nat} {f : FF} {g : GG} : Wp S (d + 3) 4 0 [some (.ref 1)] [] 2 f g (fun v n' f' g' => v = none ∧ n' = 17 ∧ f' = f ∧ (∀ x, x < 1 → g' x = g x) ∧ GHas g' ([(1, 0, 2), (2, 0, 3), (1, 1, 4), (1, 2, 8), (4, 0, 5), (4, 1, 6), (4, 2, 7)] ++ moL 8)) := by
  refine w_aload_n k4_0 rfl rfl ?_
  refine w_obj0 k4_1 rfl ?_
  refine w_aload_n k4_4 rfl rfl ?_
  refine w_new k4_5 (rfl) (by decide) ?_
  refine w_dup k4_8 rfl ?_
  refine w_iV k4_9 (by decide) mt0 (kdI (a := 2) rfl (by omega)) ⟨rfl, by decide, rfl, rfl⟩ [] rfl rfl rfl (sp_X0i 2 rfl rfl) ?_
  refine w_putr k4_12 (k := 0) (kdI (a := 1) rfl (by omega)) (by decide) ?_
  refine w_aload_n k4_15 rfl rfl ?_
  refine w_new k4_16 (rfl) (by decide) ?_
  refine w_dup k4_19 rfl ?_
  refine w_iV k4_20 (by decide) mt1 (kdI (a := 4) rfl (by omega)) ⟨rfl, by decide, rfl, rfl⟩ [] rfl rfl rfl (sp_X7i 4 ⟨rfl, rfl, rfl, rfl⟩) ?_
  refine w_putr k4_23 (k := 1) (kdI (a := 1) rfl (by omega)) (by decide) ?_
  refine w_aload_n k4_26 rfl rfl ?_
  refine w_new k4_27 (rfl) (by decide) ?_
  refine w_dup k4_30 rfl ?_
  refine w_iA k4_31 (by decide) mt3 (kdI (a := 8) rfl (by omega)) ⟨rfl, by decide, rfl, rfl⟩ [] rfl rfl rfl (sp_X2i 8 ⟨rfl, rfl, rfl, by decide +kernel⟩) ?_
  rintro _ _ _ g2 ⟨rfl, rfl, rfl, hO, m1, m2, m3⟩
  refine w_putr k4_34 (k := 2) (kdI (a := 1) rfl (by omega)) (by decide) ?_
  refine w_vret k4_37 mt4 rfl ?_
  have hm : GHas g2 (moL 8) := moL_has m1 m2 m3
  have h1 : ∀ x, x ≠ 1 → gup g2 1 2 (some 8) x = g2 x := fun x hx => by funext y; exact gup_no hx
  refine ⟨rfl, rfl, rfl, fun x hx => by rw [h1 x (by omega), hO x (by omega) (by omega)]; funext y; rw [gup_no (by omega), gup_no (by omega), gup_no (by omega), gup_no (by omega), gup_no (by omega), gup_no (by omega)], GHas.add (fun q hq => ?_) (fun q hq => ?_)⟩
  · simp only [List.mem_cons, List.not_mem_nil, or_false] at hq
    rcases hq with rfl | rfl | rfl | rfl | rfl | rfl | rfl
    · show gup g2 1 2 (some 8) 1 0 = some 2
      rw [gup_ne (by decide), hO 1 (by omega) (by omega), gup_ne (by decide), gup_no (by decide), gup_no (by decide), gup_no (by decide), gup_self]
    · show gup g2 1 2 (some 8) 2 0 = some 3
      rw [h1 2 (by decide), hO 2 (by omega) (by omega), gup_no (by decide), gup_no (by decide), gup_no (by decide), gup_no (by decide), gup_no (by decide), gup_self]
    · show gup g2 1 2 (some 8) 1 1 = some 4
      rw [gup_ne (by decide), hO 1 (by omega) (by omega), gup_self]
    · exact gup_self
    · show gup g2 1 2 (some 8) 4 0 = some 5
      rw [h1 4 (by decide), hO 4 (by omega) (by omega), gup_no (by decide), gup_ne (by decide), gup_ne (by decide), gup_self]
    · show gup g2 1 2 (some 8) 4 1 = some 6
      rw [h1 4 (by decide), hO 4 (by omega) (by omega), gup_no (by decide), gup_ne (by decide), gup_self]
    · show gup g2 1 2 (some 8) 4 2 = some 7
      rw [h1 4 (by decide), hO 4 (by omega) (by omega), gup_no (by decide), gup_self]
  · have h5 : q.1 ≠ 1 := by
      simp only [moL, List.mem_cons, List.not_mem_nil, or_false] at hq
      rcases hq with rfl | rfl | rfl | rfl | rfl | rfl | rfl | rfl <;> decide
    rw [h1 q.1 h5]
    exact hm q hq
def strN : List Nat := [99, 48, 44, 51, 44, 48, 59, 99, 49, 44, 50, 44, 48, 59, 99, 50, 44, 52, 44, 49, 59, 99, 51, 44, 53, 44, 49, 59, 99, 48, 44, 49, 44, 50, 59, 99, 52, 44, 54, 44, 51, 59, 99, 50, 44, 50, 44, 53, 59, 99, 48, 44, 55, 44, 55, 59, 109, 52, 44, 48, 44, 112, 117, 112, 117, 59, 109, 54, 44, 50, 44, 115, 115, 112, 117, 112, 59, 109, 55, 44, 53, 44, 117, 59, 109, 53, 44, 57, 44, 112, 112, 112, 115, 115, 115, 59, 105, 51, 59]
def strT (i : Nat) : Nat := strN.getD i 0
theorem str_ch : ∀ i : Fin 99, ((strB.getD i.val 0 &&& 255).toUInt32 % 65536).toInt32 = nI (strT i.val) := by decide +kernel
theorem str_ok : ∀ i : Fin 99, 32 ≤ strT i.val ∧ strT i.val ≤ 126 := by decide +kernel
theorem callS1_ok {e : Ent} {n ix : Nat} {mt : Mth} {as rest st : List Value} (he : e.1 = .invokevirtual ix) (hci : mt.2.2.2.2.2.2 = 50) (hst : st = as.reverse ++ .float 1 :: rest) (hm : mOk mt (as.length + 1) false (.float 1 :: as) rest = true) : callA KKl e mt st n = some (.float 1 :: as, rest) := by
  obtain ⟨h1, h2, h3, h4⟩ := mOk_spec hm
  have hst' : st = (Value.float 1 :: as).reverse ++ rest := by rw [hst]; simp
  subst hst'
  have hl : (Value.float 1 :: as).reverse.length = mt.2.2.2.2.1 := by rw [h1]; simp
  have e1 : ((Value.float 1 :: as).reverse ++ rest).take mt.2.2.2.2.1 = (Value.float 1 :: as).reverse := by rw [← hl]; exact List.take_left
  have e2 : ((Value.float 1 :: as).reverse ++ rest).drop mt.2.2.2.2.1 = rest := by rw [← hl]; exact List.drop_left
  have e3 : mt.2.2.2.2.1 ≤ ((Value.float 1 :: as).reverse ++ rest).length := by rw [← hl, List.length_append]; omega
  unfold callA
  rw [e1, e2, List.reverse_reverse, if_pos ⟨e3, h3, h4⟩, he]
  simp [h2, recOk, hci]
theorem w_vSI {S : Scr} {d y pc q n A B n0 ix : Nat} {ls ls0 : LL} {st rest : List Value} {f f0 : FF} {g g0 : GG} {P : Option Value → Nat → FF → GG → Prop} {cv : Int32} {mt : Mth} {w : Value} (hi : icode MCl y pc = some (.invokevirtual ix, q, A, B, cv)) (hm : MTl[A]? = some mt) (hci : mt.2.2.2.2.2.2 = 50) (as : List Value) (hst : st = as.reverse ++ .float 1 :: rest) (ho : mOk mt (as.length + 1) false (.float 1 :: as) rest = true) (hl : entL (.float 1 :: as) mt.2.2.1 = ls0) (h1 : Wp S d A 0 ls0 [] n f g (Is (some w) n0 f0 g0)) (h2 : Wp S (d + 1) y q ls (w :: rest) n0 f0 g0 P) : Wp S (d + 1) y pc ls st n f g P :=
  w_call hi (by simp [knd]) hm (callS1_ok rfl hci hst ho) hl h1 (by rintro v n' f' g' ⟨rfl, rfl, rfl, rfl⟩; exact h2)
theorem str_nar : ∀ i : Fin 99, narrow .char (.int (nI (strT i.val))) = .int (nI (strT i.val)) := fun i => (pk_charN (by have := str_ok i; omega)).1
set_option maxHeartbeats 1000000 in
theorem sp_coder {S : Scr} {d : Nat} {f : FF} {g : GG} {n : Nat} : Wp S d 8 0 [some (.float 1)] [] n f g (Is (some (.int 0)) n f g) := by
  refine w_gs0 k8_0 ?_
  refine w_if_eq k8_3 (fun h3 => absurd h3 (by decide)) (fun h3 => ?_)
  refine w_aload_n k8_6 rfl rfl ?_
  refine w_strc k8_7 ?_
  refine w_goto k8_10 ?_
  refine w_iret k8_14 mt8 (.byte) rfl (rfl) ?_
  exact ⟨rfl, rfl, rfl, rfl⟩
set_option maxHeartbeats 1000000 in
theorem sp_strlen {S : Scr} {d : Nat} {f : FF} {g : GG} {n : Nat} : Wp S (d + 1) 9 0 [some (.float 1)] [] n f g (Is (some (.int (nI 99))) n f g) := by
  refine w_aload_n k9_0 rfl rfl ?_
  refine w_strv k9_1 ?_
  refine w_blen k9_4 ?_
  refine w_aload_n k9_5 rfl rfl ?_
  refine w_vSI k9_6 mt8 rfl [] rfl rfl rfl sp_coder ?_
  refine w_ishr k9_9 ?_
  refine w_top (nI 99) (by decide) ?_
  refine w_iret k9_10 mt9 (.int) rfl (rfl) ?_
  exact ⟨rfl, rfl, rfl, rfl⟩
set_option maxHeartbeats 1000000 in
theorem sp_isLatin {S : Scr} {d : Nat} {f : FF} {g : GG} {n : Nat} : Wp S d 10 0 [some (.float 1)] [] n f g (Is (some (.int 1)) n f g) := by
  refine w_gs0 k10_0 ?_
  refine w_if_eq k10_3 (fun h3 => absurd h3 (by decide)) (fun h3 => ?_)
  refine w_aload_n k10_6 rfl rfl ?_
  refine w_strc k10_7 ?_
  refine w_if_ne k10_10 (fun h10 => absurd (rfl) h10) (fun h10 => ?_)
  refine w_iconst k10_13 ?_
  refine w_goto k10_14 ?_
  refine w_iret k10_18 mt10 (.boolean) rfl (rfl) ?_
  exact ⟨rfl, rfl, rfl, rfl⟩
set_option maxHeartbeats 1000000 in
theorem sp_chkP {S : Scr} {d : Nat} {f : FF} {g : GG} {n i : Nat} (hi : i < 99) : Wp S d 11 0 [some (.int (nI i)), some (.int 99), some (.float 3)] [] n f g (Is (some (.int (nI i))) n f g) := by
  refine w_iload_n k11_0 rfl ?_
  refine w_if_lt k11_1 (fun h1 => absurd h1 (nI_pos (by omega))) (fun h1 => ?_)
  refine w_iload_n k11_4 rfl ?_
  refine w_iload_n k11_5 rfl ?_
  refine w_icmp_lt k11_6 (fun h6 => ?_) (fun h6 => absurd (nI_lt (b := 99) hi (by omega)) h6)
  refine w_iload_n k11_16 rfl ?_
  refine w_iret k11_17 mt11 (.int) rfl (rfl) ?_
  exact ⟨rfl, rfl, rfl, rfl⟩
set_option maxHeartbeats 1000000 in
theorem sp_chkS {S : Scr} {d : Nat} {f : FF} {g : GG} {n i : Nat} (hi : i < 99) : Wp S (d + 1) 12 0 [some (.int (nI i)), some (.int 99)] [] n f g (Is none n f g) := by
  refine w_iload_n k12_0 rfl ?_
  refine w_iload_n k12_1 rfl ?_
  refine w_gs1 k12_2 ?_
  refine w_sI k12_5 (by decide) mt11 [_, _, _] rfl rfl rfl (sp_chkP hi) ?_
  refine w_pop k12_8 rfl ?_
  refine w_vret k12_9 mt12 rfl ?_
  exact ⟨rfl, rfl, rfl, rfl⟩
set_option maxHeartbeats 1000000 in
theorem sp_chL {S : Scr} {d : Nat} {f : FF} {g : GG} {n i : Nat} (hi : i < 99) : Wp S (d + 2) 13 0 [some (.float 2), some (.int (nI i))] [] n f g (Is (some (.int (nI (strT i)))) n f g) := by
  refine w_iload_n k13_0 rfl ?_
  refine w_aload_n k13_1 rfl rfl ?_
  refine w_blen k13_2 ?_
  refine w_sV k13_3 (by decide) mt12 [_, _] rfl rfl rfl (sp_chkS hi) ?_
  refine w_aload_n k13_6 rfl rfl ?_
  refine w_iload_n k13_7 rfl ?_
  refine w_bld k13_8 (nI_pos (by omega)) (nI_clamp (by omega)) (hi) ?_
  refine w_sipush k13_9 ?_
  refine w_iand k13_12 ?_
  refine w_i2c k13_13 ?_
  rw [str_ch ⟨i, hi⟩]
  refine w_iret k13_14 mt13 (.char) rfl (str_nar ⟨i, hi⟩) ?_
  exact ⟨rfl, rfl, rfl, rfl⟩
set_option maxHeartbeats 1000000 in
theorem sp_chAt {S : Scr} {d : Nat} {f : FF} {g : GG} {n i : Nat} (hi : i < 99) : Wp S (d + 3) 14 0 [some (.float 1), some (.int (nI i))] [] n f g (Is (some (.int (nI (strT i)))) n f g) := by
  refine w_aload_n k14_0 rfl rfl ?_
  refine w_vSI k14_1 mt10 rfl [] rfl rfl rfl sp_isLatin ?_
  refine w_if_eq k14_4 (fun h4 => absurd h4 (by decide)) (fun h4 => ?_)
  refine w_aload_n k14_7 rfl rfl ?_
  refine w_strv k14_8 ?_
  refine w_iload_n k14_11 rfl ?_
  refine w_sI k14_12 (by decide) mt13 [_, _] rfl rfl rfl (sp_chL hi) ?_
  refine w_iret k14_15 mt14 (.char) rfl (str_nar ⟨i, hi⟩) ?_
  exact ⟨rfl, rfl, rfl, rfl⟩
