/-! PURE, 2: what minutes bring -/
abbrev ceN (V : Va) (μ : Nat → Nat) : Nat := cmW V V.2.1 9 (μ 2) (μ 3)
def StpP (V : Va) (I t : Nat) (μ ν : Nat → Nat) : Prop := (ahW V μ &&& I = 0 → (mgW V t μ = 1 ∧ ν 1 = 2 ∧ ν 3 = ceN V μ) ∨ (1 < mgW V t μ ∧ ¬ ν 1 = 2 ∧ ahW V ν &&& I = 0 ∧ mgW V (t + 1) ν + 1 = mgW V t μ ∧ ceN V ν = ceN V μ)) ∧ (¬ ahW V μ &&& I = 0 → ¬ ν 1 = 2 ∧ ¬ ahW V ν &&& I = 0)
theorem StpP.same {V : Va} {I t : Nat} {μ μ' ν : Nat → Nat} (h : StpP V I t μ' ν) (h1 : ahW V μ &&& I = ahW V μ' &&& I) (h2 : mgW V t μ = mgW V t μ') (h3 : ceN V μ = ceN V μ') : StpP V I t μ ν := by
  unfold StpP at h ⊢
  rw [h1, h2, h3]
  exact h
theorem mg_eq (V : Va) (t : Nat) (μ : Nat → Nat) : mgW V t μ = (if μ 1 = 0 then μ 0 - t else 0) + miN V (μ 2) - (if 0 < μ 4 then V.2.2.1 (μ 2) - μ 4 else 0) := rfl
theorem stp_C {V : Va} (hV : VWf V) {I t : Nat} {μ : Nat → Nat} (m1 : μ 1 = 1) (h2 : μ 2 < V.1) (h4 : 0 < μ 4) (h4b : μ 4 ≤ V.2.2.1 (μ 2)) : StpP V I t μ (msC V t μ) := by
  have hp := hV.2 _ h2
  have hmi := mi_pos hV h2
  have ha : ahW V μ = if V.2.2.2 (μ 2) = μ 2 then 0 else wyW V 9 (V.2.2.2 (μ 2)) 0 := by
    rw [show ahW V μ = wyW V 9 (μ 2) 0 &&& (511 ^^^ 2 ^ μ 2) from if_pos h4]
    exact way_rest hV h2
  have hm : mgW V t μ = miN V (μ 2) - (V.2.2.1 (μ 2) - μ 4) := by
    rw [mg_eq, if_neg (by omega), if_pos h4, Nat.zero_add]
  have z0 : ¬ μ 4 = 0 := by omega
  unfold msC
  rw [if_neg z0]
  by_cases z1 : μ 4 = 1
  · rw [if_pos z1]
    unfold msK
    have f2 : mu μ 4 0 2 = μ 2 := rfl
    have f3 : mu μ 4 0 3 = μ 3 := rfl
    rw [f2, f3]
    by_cases zs : V.2.2.2 (μ 2) = μ 2
    · rw [if_pos zs]
      rw [if_pos zs] at ha
      refine ⟨fun _ => Or.inl ⟨?_, rfl, ?_⟩, fun hh => absurd (by rw [ha, Nat.zero_and]) hh⟩
      · rw [hm, mi_sea h2 zs]
        omega
      · show kn (V.2.1 (μ 2)) (μ 3) = ceN V μ
        exact (com_sea zs).symm
    · rw [if_neg zs]
      rw [if_neg zs] at ha
      have hon := mi_on hV h2 zs
      have hmo := mi_pos hV (hV.on h2)
      have hpo := hV.2 _ (hV.on h2)
      have hnu : ∀ ν : Nat → Nat, ν 4 = 0 → ν 2 = V.2.2.2 (μ 2) → ahW V ν = ahW V μ := fun ν e4 e2 => by
        rw [ha, show ahW V ν = wyW V 9 (ν 2) 0 from if_neg (by omega), e2]
      have hmn : ∀ ν : Nat → Nat, ν 1 = 1 → ν 4 = 0 → ν 2 = V.2.2.2 (μ 2) → mgW V (t + 1) ν = miN V (V.2.2.2 (μ 2)) := fun ν e1 e4 e2 => by
        rw [mg_eq, if_neg (by omega), if_neg (by omega), e2]
        omega
      refine ⟨fun hh => Or.inr ⟨?_, ?_, ?_, ?_, ?_⟩, fun hh => ⟨?_, ?_⟩⟩
      · rw [hm]; omega
      · show ¬ μ 1 = 2
        omega
      · rw [hnu _ rfl rfl]; exact hh
      · have e := hmn (mu (mu (mu μ 4 0) 3 (kn (V.2.1 (μ 2)) (μ 3))) 2 (V.2.2.2 (μ 2))) m1 rfl rfl
        rw [e, hm]
        omega
      · exact (com_on hV h2 zs).symm
      · show ¬ μ 1 = 2
        omega
      · rw [hnu _ rfl rfl]; exact hh
  · rw [if_neg z1]
    have hnu : ahW V (mu μ 4 (μ 4 - 1)) = ahW V μ := by
      unfold ahW
      rw [mu_at, show mu μ 4 (μ 4 - 1) 2 = μ 2 from rfl, if_pos (by omega), if_pos h4]
    have hmn : mgW V (t + 1) (mu μ 4 (μ 4 - 1)) = miN V (μ 2) - (V.2.2.1 (μ 2) - (μ 4 - 1)) := by
      rw [mg_eq, mu_at, show mu μ 4 (μ 4 - 1) 2 = μ 2 from rfl, show mu μ 4 (μ 4 - 1) 1 = μ 1 from rfl, if_neg (by omega), if_pos (by omega), Nat.zero_add]
    refine ⟨fun hh => Or.inr ⟨?_, ?_, ?_, ?_, rfl⟩, fun hh => ⟨?_, ?_⟩⟩
    · rw [hm]; omega
    · show ¬ μ 1 = 2
      omega
    · rw [hnu]; exact hh
    · rw [hmn, hm]; omega
    · show ¬ μ 1 = 2
      omega
    · rw [hnu]; exact hh
theorem stp_B {V : Va} (hV : VWf V) {I t : Nat} {μ : Nat → Nat} (m1 : μ 1 = 1) (h2 : μ 2 < V.1) (h4b : μ 4 ≤ V.2.2.1 (μ 2)) : StpP V I t μ (msB V t I μ) := by
  have hp := hV.2 _ h2
  have h9 := hV.1
  have hw := wyW_lt hV 9 (μ 2) 0 h2 (by omega)
  unfold msB
  rw [if_neg (fun hh => hh m1)]
  by_cases z4 : μ 4 = 0
  · have ha : ahW V μ = wyW V 9 (μ 2) 0 := if_neg (by omega)
    by_cases zi : I.testBit (μ 2) = false
    · rw [if_pos ⟨z4, zi⟩]
      refine (stp_C (μ := mu μ 4 (V.2.2.1 (μ 2))) hV m1 h2 (by rw [mu_at]; exact hp.2.1) (by rw [mu_at]; exact Nat.le_refl _)).same ?_ ?_ rfl
      · have e : ahW V (mu μ 4 (V.2.2.1 (μ 2))) = wyW V 9 (μ 2) 0 &&& (511 ^^^ 2 ^ μ 2) := by
          unfold ahW
          rw [mu_at, if_pos (show 0 < V.2.2.1 (μ 2) from hp.2.1)]
          rfl
        rw [e, ha]
        apply Nat.eq_of_testBit_eq
        intro i
        rw [Nat.testBit_and, Nat.testBit_and, and_out_lt (by omega) hw]
        by_cases hi : i = μ 2
        · subst hi
          rw [zi, Bool.and_false, Bool.and_false]
        · rw [decide_eq_true hi, Bool.and_true]
      · rw [mg_eq, mg_eq, mu_at, show mu μ 4 (V.2.2.1 (μ 2)) 2 = μ 2 from rfl, show mu μ 4 (V.2.2.1 (μ 2)) 1 = μ 1 from rfl, if_neg (show ¬ μ 1 = 0 by omega), if_neg (show ¬ 0 < μ 4 by omega), if_neg (show ¬ μ 1 = 0 by omega), if_pos (show 0 < V.2.2.1 (μ 2) from hp.2.1)]
        omega
    · rw [if_neg (fun hh => zi hh.2)]
      have e : msC V t μ = μ := if_pos z4
      rw [e]
      have hne : ¬ ahW V μ &&& I = 0 := by
        intro hh
        have h1 : (ahW V μ &&& I).testBit (μ 2) = true := by
          rw [ha, Nat.testBit_and, wyW_me]
          cases hb : I.testBit (μ 2) with
          | true => rfl
          | false => exact absurd hb zi
        rw [hh, Nat.zero_testBit] at h1
        cases h1
      exact ⟨fun hh => absurd hh hne, fun hh => ⟨by omega, hh⟩⟩
  · rw [if_neg (fun hh => z4 hh.1)]
    exact stp_C hV m1 h2 (by omega) h4b
theorem stp_A {V : Va} (hV : VWf V) {I t : Nat} {μ : Nat → Nat} (h : MsW V t μ) (hs : ¬ μ 1 = 2) : StpP V I t μ (msA V t I μ) := by
  obtain ⟨h0, h1, h2, h3, h4, h5, h6, h7, h8⟩ := h
  have hp := hV.2 _ h2
  have hmi := mi_pos hV h2
  unfold msA
  by_cases m0 : μ 1 = 0
  · have h60 := h6 m0
    by_cases mt : μ 0 = t
    · rw [if_pos ⟨m0, mt⟩]
      refine (stp_B (μ := mu μ 1 1) hV rfl h2 h8).same rfl ?_ rfl
      rw [mg_eq, mg_eq, mu_at, if_pos m0, if_neg (show ¬ (1 : Nat) = 0 by decide), show mu μ 1 1 2 = μ 2 from rfl, show mu μ 1 1 4 = μ 4 from rfl, mt]
      omega
    · rw [if_neg (fun hh => mt hh.2)]
      have e : msB V t I μ = μ := if_pos (by omega)
      rw [e]
      have em : mgW V (t + 1) μ + 1 = mgW V t μ := by
        rw [mg_eq, mg_eq, if_pos m0, if_pos m0, if_neg (by omega)]
        omega
      have e1 : 1 < mgW V t μ := by
        rw [mg_eq, if_pos m0, if_neg (by omega)]
        omega
      exact ⟨fun hh => Or.inr ⟨e1, hs, hh, em, rfl⟩, fun hh => ⟨hs, hh⟩⟩
  · rw [if_neg (fun hh => m0 hh.1)]
    exact stp_B hV (by omega) h2 h8
theorem out_A {V : Va} {I t : Nat} {μ : Nat → Nat} (hs : μ 1 = 2) : msA V t I μ = μ := by
  unfold msA
  rw [if_neg (by omega)]
  exact if_pos (by omega)
theorem mg_pos {V : Va} (hV : VWf V) {t : Nat} {μ : Nat → Nat} (h : MsW V t μ) : 1 ≤ mgW V t μ := by
  obtain ⟨h0, h1, h2, h3, h4, h5, h6, h7, h8⟩ := h
  have hp := hV.2 _ h2
  have hmi := mi_pos hV h2
  rw [mg_eq]
  split <;> split <;> omega
theorem mn_msg {V : Va} {M : Nat → Nat → Nat} {m : Nat} : mnA V M (m + 1) = msA V (M 0 0) (M 0 1) (M (m + 1)) := by
  funext k
  exact if_neg (by omega)
theorem out_k {V : Va} (hV : VWf V) {m : Nat} : ∀ k M, MoW V M → M 0 0 + k < 2 ^ 20 → m < M 0 2 → (itM V k M (m + 1) 1 = 2 ↔ M (m + 1) 1 = 2 ∨ (ahW V (M (m + 1)) &&& M 0 1 = 0 ∧ mgW V (M 0 0) (M (m + 1)) ≤ k)) := by
  intro k
  induction k with
  | zero =>
    intro M h ht hm
    have := mg_pos hV (h.2.2.2 m hm)
    exact ⟨fun hh => Or.inl hh, fun hh => hh.elim id (fun hh => by omega)⟩
  | succ k ih =>
    intro M h ht hm
    have e := ih (mnA V M) (h.min hV (by omega)) (by show M 0 0 + 1 + k < 2 ^ 20; omega) hm
    rw [show itM V (k + 1) M = itM V k (mnA V M) from rfl, e, mn_msg, show mnA V M 0 0 = M 0 0 + 1 from rfl, show mnA V M 0 1 = M 0 1 from rfl]
    by_cases hs : M (m + 1) 1 = 2
    · rw [out_A hs]
      exact ⟨fun _ => Or.inl hs, fun _ => Or.inl hs⟩
    · have hst := stp_A (I := M 0 1) hV (h.2.2.2 m hm) hs
      by_cases ha : ahW V (M (m + 1)) &&& M 0 1 = 0
      · rcases hst.1 ha with ⟨a1, a2, a3⟩ | ⟨a1, a2, a3, a4, a5⟩
        · exact ⟨fun _ => Or.inr ⟨ha, by omega⟩, fun _ => Or.inl a2⟩
        · constructor
          · rintro (hh | hh)
            · exact absurd hh a2
            · exact Or.inr ⟨ha, by omega⟩
          · rintro (hh | hh)
            · exact absurd hh hs
            · exact Or.inr ⟨a3, by omega⟩
      · have hb := hst.2 ha
        constructor
        · rintro (hh | hh)
          · exact absurd hh hb.1
          · exact absurd hh.1 hb.2
        · rintro (hh | hh)
          · exact absurd hh hs
          · exact absurd hh.1 ha
theorem howAre_le {M : Nat → Nat → Nat} {s : Nat} : ∀ t j a, howAre M s t j a ≤ a + t := by
  intro t
  induction t with
  | zero => intro j a; exact Nat.le_refl _
  | succ t ih =>
    intro j a
    simp only [howAre]
    refine Nat.le_trans (ih _ _) ?_
    split <;> omega
theorem howAre_all {M : Nat → Nat → Nat} {s : Nat} : ∀ t j a, howAre M s t j a = a + t ↔ ∀ i, j ≤ i → i < j + t → M (i + 1) 1 = s := by
  intro t
  induction t with
  | zero => intro j a; exact ⟨fun _ i h1 h2 => by omega, fun _ => rfl⟩
  | succ t ih =>
    intro j a
    by_cases h : M (j + 1) 1 = s
    · rw [howAre_in h, show a + (t + 1) = a + 1 + t by omega, ih]
      constructor
      · intro hh i h1 h2
        by_cases hij : i = j
        · rw [hij]; exact h
        · exact hh i (by omega) (by omega)
      · intro hh i h1 h2
        exact hh i (by omega) (by omega)
    · rw [howAre_out h]
      constructor
      · intro hh
        have := howAre_le (M := M) (s := s) t (j + 1) a
        omega
      · intro hh
        exact absurd (hh j (Nat.le_refl j) (by omega)) h
/-- whether all are out behind 240 minutes, where I are indoors -/
def okS (V : Va) (M : Nat → Nat → Nat) (I : Nat) : Prop := ∀ m, m < M 0 2 → M (m + 1) 1 = 2 ∨ (ahW V (M (m + 1)) &&& I = 0 ∧ mgW V (M 0 0) (M (m + 1)) ≤ 240)
theorem okS_it {V : Va} (hV : VWf V) {M : Nat → Nat → Nat} {I : Nat} (hM : MoW V M) (hI : I < 512) (ht : M 0 0 + 240 < 2 ^ 20) : howAre (itM V 240 (mset0 M 1 I)) 2 (M 0 2) 0 0 = M 0 2 ↔ okS V M I := by
  have h := howAre_all (M := itM V 240 (mset0 M 1 I)) (s := 2) (M 0 2) 0 0
  rw [Nat.zero_add] at h
  rw [h]
  have e : ∀ m, mset0 M 1 I (m + 1) = M (m + 1) := fun m => by funext k; exact if_neg (by omega)
  constructor
  · intro hh m hm
    have h2 := (out_k hV (m := m) 240 (mset0 M 1 I) (hM.ind hI) ht hm).mp (hh m (Nat.zero_le _) (by omega))
    rw [e] at h2
    exact h2
  · intro hh m _ hm
    have h2 := (out_k hV (m := m) 240 (mset0 M 1 I) (hM.ind hI) ht (show m < M 0 2 by omega)).mpr
    rw [e] at h2
    exact h2 (hh m (by omega))
/-- who holds one -/
def hdA (V : Va) (M : Nat → Nat → Nat) : Nat → Nat → Nat → Nat
  | 0, _, h => h
  | t + 1, m, h => hdA V M t (m + 1) (if M (m + 1) 1 = 2 then h else h ||| (ahW V (M (m + 1)) &&& M 0 1))
def fnP (V : Va) (M : Nat → Nat → Nat) (t m : Nat) : Prop := ∀ i, m ≤ i → i < m + t → M (i + 1) 1 = 2 ∨ mgW V (M 0 0) (M (i + 1)) ≤ 240
theorem brA_y {V : Va} {M : Nat → Nat → Nat} : ∀ t m h, fnP V M t m → brA V M t m h = some (hdA V M t m h) := by
  intro t
  induction t with
  | zero => intro m h _; rfl
  | succ t ih =>
    intro m h hf
    have hf2 : fnP V M t (m + 1) := fun i h1 h2 => hf i (by omega) (by omega)
    simp only [brA, hdA]
    by_cases hs : M (m + 1) 1 = 2
    · rw [if_pos hs, if_pos hs]
      exact ih _ _ hf2
    · rw [if_neg hs, if_neg hs]
      have := (hf m (Nat.le_refl m) (by omega)).resolve_left hs
      rw [if_neg (by omega)]
      exact ih _ _ hf2
theorem brA_n {V : Va} {M : Nat → Nat → Nat} : ∀ t m h, ¬ fnP V M t m → brA V M t m h = none := by
  intro t
  induction t with
  | zero => intro m h hf; exact absurd (fun i h1 h2 => by omega) hf
  | succ t ih =>
    intro m h hf
    simp only [brA]
    by_cases hs : M (m + 1) 1 = 2
    · rw [if_pos hs]
      exact ih _ _ (fun hh => hf (fun i h1 h2 => by
        by_cases him : i = m
        · rw [him]; exact Or.inl hs
        · exact hh i (by omega) (by omega)))
    · rw [if_neg hs]
      by_cases hg : 240 < mgW V (M 0 0) (M (m + 1))
      · rw [if_pos hg]
      · rw [if_neg hg]
        exact ih _ _ (fun hh => hf (fun i h1 h2 => by
          by_cases him : i = m
          · rw [him]; exact Or.inr (by omega)
          · exact hh i (by omega) (by omega)))
theorem or_and0 {a b x : Nat} : (a ||| b) &&& x = 0 ↔ a &&& x = 0 ∧ b &&& x = 0 := by
  constructor
  · intro h
    have key : ∀ i, (a.testBit i = false ∧ b.testBit i = false) ∨ x.testBit i = false := fun i => by
      have := congrArg (fun z => Nat.testBit z i) h
      simp only [Nat.testBit_and, Nat.testBit_or, Nat.zero_testBit, Bool.and_eq_false_iff, Bool.or_eq_false_iff] at this
      exact this
    constructor
    · apply Nat.eq_of_testBit_eq
      intro i
      rw [Nat.testBit_and, Nat.zero_testBit]
      rcases key i with h1 | h1
      · rw [h1.1, Bool.false_and]
      · rw [h1, Bool.and_false]
    · apply Nat.eq_of_testBit_eq
      intro i
      rw [Nat.testBit_and, Nat.zero_testBit]
      rcases key i with h1 | h1
      · rw [h1.2, Bool.false_and]
      · rw [h1, Bool.and_false]
  · rintro ⟨h1, h2⟩
    rw [Nat.and_or_distrib_right, h1, h2]
    rfl
theorem hdA_and {V : Va} {M : Nat → Nat → Nat} {x : Nat} : ∀ t m h, hdA V M t m h &&& x = 0 ↔ h &&& x = 0 ∧ ∀ i, m ≤ i → i < m + t → M (i + 1) 1 = 2 ∨ ahW V (M (i + 1)) &&& (M 0 1 &&& x) = 0 := by
  intro t
  induction t with
  | zero => intro m h; exact ⟨fun hh => ⟨hh, fun i h1 h2 => by omega⟩, fun hh => hh.1⟩
  | succ t ih =>
    intro m h
    simp only [hdA]
    rw [ih]
    by_cases hs : M (m + 1) 1 = 2
    · rw [if_pos hs]
      constructor
      · rintro ⟨h1, h2⟩
        refine ⟨h1, fun i a b => ?_⟩
        by_cases him : i = m
        · rw [him]; exact Or.inl hs
        · exact h2 i (by omega) (by omega)
      · rintro ⟨h1, h2⟩
        exact ⟨h1, fun i a b => h2 i (by omega) (by omega)⟩
    · rw [if_neg hs, or_and0, Nat.and_assoc]
      constructor
      · rintro ⟨⟨h1, h3⟩, h2⟩
        refine ⟨h1, fun i a b => ?_⟩
        by_cases him : i = m
        · rw [him]; exact Or.inr h3
        · exact h2 i (by omega) (by omega)
      · rintro ⟨h1, h2⟩
        exact ⟨⟨h1, (h2 m (Nat.le_refl m) (by omega)).resolve_left hs⟩, fun i a b => h2 i (by omega) (by omega)⟩
abbrev hold (V : Va) (M : Nat → Nat → Nat) : Nat := hdA V M (M 0 2) 0 0
theorem okS_hold {V : Va} {M : Nat → Nat → Nat} {x : Nat} : okS V M (M 0 1 &&& x) ↔ fnP V M (M 0 2) 0 ∧ hold V M &&& x = 0 := by
  rw [show hold V M &&& x = 0 ↔ _ from hdA_and (M 0 2) 0 0]
  constructor
  · intro h
    exact ⟨fun i _ hi => (h i (by omega)).imp id (fun hh => hh.2), Nat.zero_and x, fun i _ hi => (h i (by omega)).imp id (fun hh => hh.1)⟩
  · rintro ⟨h1, -, h2⟩ m hm
    rcases h1 m (Nat.zero_le m) (by omega) with a | a
    · exact Or.inl a
    · rcases h2 m (Nat.zero_le m) (by omega) with b | b
      · exact Or.inl b
      · exact Or.inr ⟨b, a⟩
theorem hdA_in {V : Va} {M : Nat → Nat → Nat} {B : Nat} (hB : M 0 1 &&& (511 ^^^ B) = 0) : ∀ t m h, h &&& (511 ^^^ B) = 0 → hdA V M t m h &&& (511 ^^^ B) = 0 := by
  intro t m h hh
  rw [hdA_and]
  refine ⟨hh, fun i _ _ => Or.inr ?_⟩
  rw [hB, Nat.and_zero]
theorem x511 {a i : Nat} : (511 ^^^ a).testBit i = (decide (i < 9) ^^ a.testBit i) := by
  rw [Nat.testBit_xor, show (511 : Nat) = 2 ^ 9 - 1 from rfl, Nat.testBit_two_pow_sub_one]
theorem self_out {a : Nat} (h : a < 512) : a &&& (511 ^^^ a) = 0 := by
  apply Nat.eq_of_testBit_eq
  intro i
  rw [Nat.testBit_and, x511, Nat.zero_testBit]
  by_cases hi : i < 9
  · rw [decide_eq_true hi]
    cases a.testBit i <;> rfl
  · rw [tb_big (c := 9) h (by omega)]
    rfl
theorem sub_and {a b : Nat} (ha : a < 512) (h : a &&& (511 ^^^ b) = 0) : a &&& b = a := by
  apply Nat.eq_of_testBit_eq
  intro i
  have h1 := congrArg (fun z => Nat.testBit z i) h
  simp only [Nat.testBit_and, Nat.zero_testBit, x511] at h1
  rw [Nat.testBit_and]
  by_cases hi : i < 9
  · rw [decide_eq_true hi] at h1
    revert h1
    cases a.testBit i <;> cases b.testBit i <;> decide
  · rw [tb_big (c := 9) ha (by omega)]
    rfl
theorem sub_le {a b : Nat} (ha : a < 512) (h : a &&& (511 ^^^ b) = 0) : a ≤ b := by
  have := sub_and ha h
  rw [← this]
  exact Nat.and_le_right
theorem sub_popc {a b : Nat} (ha : a < 512) (h : a &&& (511 ^^^ b) = 0) : ∀ k, popc a k ≤ popc b k := by
  intro k
  have e := sub_and ha h
  induction k with
  | zero => exact Nat.le_refl _
  | succ k ih =>
    simp only [popc]
    have h1 := congrArg (fun z => Nat.testBit z k) e
    simp only [Nat.testBit_and] at h1
    revert h1
    cases a.testBit k <;> cases b.testBit k <;> intro h1
    · simp; omega
    · simp; omega
    · cases h1
    · simp; omega
theorem not_n {a b : Nat} (ha : a < 512) : nI a &&& (nI b ^^^ (-1)) = nI (a &&& (511 ^^^ b)) := by
  rw [show (-1 : Int32) = nI (2 ^ 32 - 1) from by decide, nI_xor, and_nI]
  congr 1
  apply Nat.eq_of_testBit_eq
  intro i
  rw [Nat.testBit_and, Nat.testBit_and, x511, Nat.testBit_xor, Nat.testBit_two_pow_sub_one]
  by_cases hi : i < 9
  · rw [decide_eq_true hi, decide_eq_true (show i < 32 by omega)]
    cases a.testBit i <;> cases b.testBit i <;> rfl
  · rw [tb_big (c := 9) ha (by omega)]
    rfl
/-- what out tells, minutes before its end -/
def rsW (V : Va) (w I t' k t : Nat) (μ : Nat → Nat) : Int32 := if ahW V μ &&& I ≠ 0 ∨ t' < mgW V t μ then -4 else if w = 0 then nI (k + mgW V t μ) else nI (ceN V μ)
