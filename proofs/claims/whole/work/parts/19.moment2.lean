/-! SPECS, 10: a moment changed -/
def mset0 (M : Nat → Nat → Nat) (k v : Nat) : Nat → Nat → Nat := fun i j => if i = 0 ∧ j = k then v else M i j
def mAdd (M : Nat → Nat → Nat) (c t r : Nat) : Nat → Nat → Nat := fun i k => if i = 0 then (if k = 2 then M 0 2 + 1 else M 0 k) else if i = M 0 2 + 1 then (if k = 0 then t else if k = 2 then c else if k = 3 then r else 0) else M i k
theorem MsR.offa {f f' : FF} {q a : Nat} {μ : Nat → Nat} (h : MsR f q μ) (ho : ∀ x, x ≠ a → f' x = f x) (hne : q ≠ a) : MsR f' q μ := fun k hk => by rw [ho q hne]; exact h k hk
set_option maxHeartbeats 1000000 in
theorem sp_goIn {S : Scr} {d : Nat} {f : FF} {g : GG} {n a : Nat} {M : Nat → Nat → Nat} (ha : MoOk n g a) (hA : CMo f a M) (h5 : M 0 1 < 512) {c : Nat} (hc : c < 9) : Wp S d 36 0 [some (.ref a), some (.int (nI c))] [] n f g (MoQ none n f g a (mset0 M 1 (M 0 1 ^^^ 2 ^ c))) := by
  refine w_aload_n k36_0 rfl rfl ?_
  refine w_dup k36_1 rfl ?_
  have hp : 2 ^ c < 2 ^ 9 := Nat.pow_lt_pow_right (by omega) (by omega)
  refine w_geti k36_2 (k := 4) ha.1 (by decide) ?_
  rw [hA.2.2.1]
  refine w_iconst k36_5 ?_
  refine w_iload_n k36_6 rfl ?_
  refine w_ishl k36_7 ?_
  refine w_top (nI (2 ^ c)) (by rw [show (1 : Int32) = nI 1 from rfl, shl_n (by omega) (by omega), Nat.one_mul]) ?_
  refine w_ixor k36_8 ?_
  refine w_top (nI (M 0 1 ^^^ 2 ^ c)) (nI_xor _ _) ?_
  refine w_puti k36_9 (k := 4) ha.1 (by decide) ?_
  refine w_vret k36_12 mt36 rfl ?_
  refine ⟨rfl, rfl, rfl, OffM.up, by rw [fup_ne (by omega)]; exact hA.1, by rw [fup_ne (by omega)]; exact hA.2.1, fup_self, fun m hm => ?_⟩
  exact (hA.2.2.2 m hm).offa (fun x hx => by funext y; exact fup_no hx) (by omega)
set_option maxHeartbeats 1000000 in
theorem sp_Mclear {S : Scr} {d : Nat} {f : FF} {g : GG} {n a : Nat} (ha : MoOk n g a) : Wp S d 18 0 [some (.ref a)] [] n f g (MoQ none n f g a (fun _ _ => 0)) := by
  refine w_aload_n k18_0 rfl rfl ?_
  refine w_iconst k18_1 ?_
  refine w_puti k18_2 (k := 2) ha.1 (by decide) ?_
  refine w_aload_n k18_5 rfl rfl ?_
  refine w_iconst k18_6 ?_
  refine w_puti k18_7 (k := 3) ha.1 (by decide) ?_
  refine w_aload_n k18_10 rfl rfl ?_
  refine w_iconst k18_11 ?_
  refine w_puti k18_12 (k := 4) ha.1 (by decide) ?_
  refine w_vret k18_15 mt18 rfl ?_
  exact ⟨rfl, rfl, rfl, (OffM.up.tr OffM.up).tr OffM.up, by rw [fup_ne (by omega), fup_ne (by omega), fup_self]; rfl, by rw [fup_ne (by omega), fup_self]; rfl, by rw [fup_self]; rfl, fun m hm => absurd hm (Nat.not_lt_zero m)⟩
set_option maxHeartbeats 1000000 in
theorem sp_Madd {S : Scr} {d : Nat} {f : FF} {g : GG} {n a : Nat} {M : Nat → Nat → Nat} (ha : MoOk n g a) (hA : CMo f a M) (h6p : M 0 2 ≤ 6) (c t r : Nat) : Wp S (d + 1) 32 0 [some (.ref a), some (.int (nI c)), some (.int (nI t)), some (.int (nI r))] [] n f g (fun v n' f' g' => if M 0 2 < 6 then MoQ (some (.int 1)) n f g a (mAdd M c t r) v n' f' g' else Is (some (.int 0)) n f g v n' f' g') := by
  refine w_aload_n k32_0 rfl rfl ?_
  refine w_geti k32_1 (k := 2) ha.1 (by decide) ?_
  rw [hA.1]
  refine w_bipush k32_4 ?_
  refine w_icmp_lt k32_6 (fun h6 => ?_) (fun h6 => ?_)
  ·
    have hz : M 0 2 < 6 := (nI_ltI (b := 6) (by omega) (by omega)).mp h6
    refine w_aload_n k32_11 rfl rfl ?_
    refine w_aload_n k32_12 rfl rfl ?_
    refine w_geti k32_13 (k := 2) ha.1 (by decide) ?_
    rw [hA.1]
    refine w_vI k32_16 mt30 ha.1 ⟨rfl, by decide⟩ [_] rfl rfl rfl (sp_get (j := M 0 2) ha hz) ?_
    refine w_iload_n k32_19 rfl ?_
    refine w_iload_n k32_20 rfl ?_
    refine w_iload_n k32_21 rfl ?_
    refine w_vA k32_22 mt31 (ha.2.2.2.1 _ hz) ⟨rfl, by decide⟩ [_, _, _] rfl rfl rfl (sp_startAs (ha.2.2.2.1 _ hz)) ?_
    rintro _ _ f1 _ ⟨rfl, rfl, rfl, hO, hR⟩
    refine w_aload_n k32_25 rfl rfl ?_
    refine w_dup k32_26 rfl ?_
    refine w_geti k32_27 (k := 2) ha.1 (by decide) ?_
    refine w_top (nI (M 0 2)) (by rw [hO a (by omega)]; exact hA.1) ?_
    refine w_iconst k32_30 ?_
    refine w_iadd k32_31 ?_
    refine w_top (nI (M 0 2 + 1)) (nI_1 _) ?_
    refine w_puti k32_32 (k := 2) ha.1 (by decide) ?_
    refine w_iconst k32_35 ?_
    refine w_iret k32_36 mt32 (.boolean) rfl (rfl) ?_
    show (if M 0 2 < 6 then _ else _)
    rw [if_pos hz]
    refine ⟨rfl, rfl, rfl, (OffM.ms hO hz).tr OffM.up, fup_self, ?_, ?_, fun m hm => ?_⟩
    · rw [fup_ne (by omega), hO a (by omega)]; exact hA.2.1
    · rw [fup_ne (by omega), hO a (by omega)]; exact hA.2.2.1
    · have hm : m < M 0 2 + 1 := hm
      refine MsR.offa ?_ (fun x hx => by funext y; exact fup_no hx) (a := a) (by omega)
      by_cases hm2 : m = M 0 2
      · subst hm2
        have e : mAdd M c t r (M 0 2 + 1) = fun k => if k = 0 then t else if k = 2 then c else if k = 3 then r else 0 := by funext k; simp [mAdd]
        rw [e]
        exact hR
      · have e : mAdd M c t r (m + 1) = M (m + 1) := by funext k; unfold mAdd; rw [if_neg (by omega), if_neg (by omega)]
        rw [e]
        exact (hA.2.2.2 m (by omega)).off hO (by omega)
  ·
    have hz : ¬ M 0 2 < 6 := fun hh => h6 (nI_lt (b := 6) hh (by omega))
    refine w_iconst k32_9 ?_
    refine w_iret k32_10 mt32 (.boolean) rfl (rfl) ?_
    show (if M 0 2 < 6 then _ else _)
    rw [if_neg hz]
    exact ⟨rfl, rfl, rfl, rfl⟩
set_option maxHeartbeats 1000000 in
theorem lp_Mcopy {S : Scr} {d : Nat} {f : FF} {g : GG} {n a b : Nat} {M : Nat → Nat → Nat} (ha : MoOk n g a) (hb : MoOk n g b) (hB : CMo f b M) (h6 : M 0 2 ≤ 6) (hd : a + 9 ≤ b ∨ b + 9 ≤ a) : ∀ (t j : Nat) (f1 : FF), t + j = M 0 2 → OffM f f1 a → f1 a 2 = nI (M 0 2) → f1 a 3 = nI (M 0 0) → f1 a 4 = nI (M 0 1) → (∀ i, i < j → MsR f1 (a + 3 + i) (M (i + 1))) → Wp S (d + 1) 46 26 [some (.ref a), some (.ref b), some (.int (nI j))] [] n f1 g (MoQ none n f g a M) := by
  intro t
  induction t with
  | zero =>
    intro j f1 e0 e1 e2 e3 e4 e5
    refine w_iload_n k46_26 rfl ?_
    refine w_aload_n k46_27 rfl rfl ?_
    refine w_geti k46_28 (k := 2) ha.1 (by decide) ?_
    rw [e2]
    refine w_icmp_ge k46_31 (fun h31 => ?_) (fun h31 => absurd (nI_le (by omega) (by omega)) h31)
    refine w_vret k46_53 mt46 rfl ?_
    exact ⟨rfl, rfl, rfl, e1, e2, e3, e4, fun m hm => e5 m (by omega)⟩
  | succ t ih =>
    intro j f1 e0 e1 e2 e3 e4 e5
    refine w_iload_n k46_26 rfl ?_
    refine w_aload_n k46_27 rfl rfl ?_
    refine w_geti k46_28 (k := 2) ha.1 (by decide) ?_
    rw [e2]
    refine w_icmp_ge k46_31 (fun h31 => absurd h31 (nI_ge (by omega) (by omega))) (fun h31 => ?_)
    refine w_aload_n k46_34 rfl rfl ?_
    refine w_iload_n k46_35 rfl ?_
    refine w_vI k46_36 mt30 ha.1 ⟨rfl, by decide⟩ [_] rfl rfl rfl (sp_get (j := j) ha (by omega)) ?_
    refine w_aload_n k46_39 rfl rfl ?_
    refine w_iload_n k46_40 rfl ?_
    refine w_vI k46_41 mt30 hb.1 ⟨rfl, by decide⟩ [_] rfl rfl rfl (sp_get (j := j) hb (by omega)) ?_
    have hBj : MsR f1 (b + 3 + j) (M (j + 1)) := fun k hk => by rw [e1 (b + 3 + j) (by omega)]; exact hB.2.2.2 j (by omega) k hk
    refine w_vA k46_44 mt45 (ha.2.2.2.1 j (by omega)) ⟨rfl, by decide⟩ [_] rfl rfl rfl (sp_Mcopy (ha.2.2.2.1 j (by omega)) (hb.2.2.2.1 j (by omega)) (by omega) hBj) ?_
    rintro _ _ f2 _ ⟨rfl, rfl, rfl, hO, hR⟩
    refine w_iinc k46_47 rfl (ls' := [_, _, _]) rfl ?_
    refine w_goto k46_50 ?_
    rw [nI_1]
    refine ih (j + 1) f2 (by omega) (e1.tr (OffM.ms hO (by omega))) (by rw [hO a (by omega)]; exact e2) (by rw [hO a (by omega)]; exact e3) (by rw [hO a (by omega)]; exact e4) (fun i hi => ?_)
    by_cases hij : i = j
    · subst hij; exact hR
    · exact (e5 i (by omega)).off hO (by omega)
set_option maxHeartbeats 1000000 in
theorem sp_copy {S : Scr} {d : Nat} {f : FF} {g : GG} {n a b : Nat} {M : Nat → Nat → Nat} (ha : MoOk n g a) (hb : MoOk n g b) (hB : CMo f b M) (h6 : M 0 2 ≤ 6) (hd : a + 9 ≤ b ∨ b + 9 ≤ a) : Wp S (d + 1) 46 0 [some (.ref a), some (.ref b), none] [] n f g (MoQ none n f g a M) := by
  refine w_aload_n k46_0 rfl rfl ?_
  refine w_aload_n k46_1 rfl rfl ?_
  refine w_geti k46_2 (k := 2) hb.1 (by decide) ?_
  rw [hB.1]
  refine w_puti k46_5 (k := 2) ha.1 (by decide) ?_
  refine w_aload_n k46_8 rfl rfl ?_
  refine w_aload_n k46_9 rfl rfl ?_
  refine w_geti k46_10 (k := 3) hb.1 (by decide) ?_
  refine w_top (nI (M 0 0)) (by rw [fup_no (by omega)]; exact hB.2.1) ?_
  refine w_puti k46_13 (k := 3) ha.1 (by decide) ?_
  refine w_aload_n k46_16 rfl rfl ?_
  refine w_aload_n k46_17 rfl rfl ?_
  refine w_geti k46_18 (k := 4) hb.1 (by decide) ?_
  refine w_top (nI (M 0 1)) (by rw [fup_no (by omega), fup_no (by omega)]; exact hB.2.2.1) ?_
  refine w_puti k46_21 (k := 4) ha.1 (by decide) ?_
  refine w_iconst k46_24 ?_
  refine w_istore_n k46_25 (ls' := [_, _, _]) rfl ?_
  exact lp_Mcopy ha hb hB h6 hd (M 0 2) 0 _ rfl ((OffM.up.tr OffM.up).tr OffM.up) (by rw [fup_ne (by omega), fup_ne (by omega), fup_self]) (by rw [fup_ne (by omega), fup_self]) fup_self (fun i hi => absurd hi (Nat.not_lt_zero i))
set_option maxHeartbeats 1000000 in
theorem lp_Mmin {S : Scr} {d : Nat} {f : FF} {g : GG} {n a v : Nat} {V : Va} {M : Nat → Nat → Nat} (ha : MoOk n g a) (hA : CMo f a M) (hv : VaOk n g v) (hC : CVa f v V) (hV : VWf V) (hW : MoW V M) (hd : v + 4 ≤ a ∨ a + 9 ≤ v) : ∀ (t j : Nat) (f1 : FF), t + j = M 0 2 → OffM f f1 a → f1 a = f a → (∀ i, i < j → MsR f1 (a + 3 + i) (mnA V M (i + 1))) → (∀ i, j ≤ i → i < M 0 2 → MsR f1 (a + 3 + i) (M (i + 1))) → Wp S (d + 5) 104 2 [some (.ref a), some (.ref v), some (.int (nI j))] [] n f1 g (MoQ none n f g a (mnA V M)) := by
  intro t
  induction t with
  | zero =>
    intro j f1 e0 e1 e2 e3 e4
    refine w_iload_n k104_2 rfl ?_
    refine w_aload_n k104_3 rfl rfl ?_
    have h6 := hW.1
    have ht := hW.2.1
    refine w_geti k104_4 (k := 2) ha.1 (by decide) ?_
    rw [e2, hA.1]
    refine w_icmp_ge k104_7 (fun h7 => ?_) (fun h7 => absurd (nI_le (by omega) (by omega)) h7)
    refine w_aload_n k104_33 rfl rfl ?_
    refine w_dup k104_34 rfl ?_
    refine w_geti k104_35 (k := 3) ha.1 (by decide) ?_
    rw [e2, hA.2.1]
    refine w_iconst k104_38 ?_
    refine w_iadd k104_39 ?_
    refine w_top (nI (M 0 0 + 1)) (nI_1 _) ?_
    refine w_puti k104_40 (k := 3) ha.1 (by decide) ?_
    refine w_vret k104_43 mt104 rfl ?_
    exact ⟨rfl, rfl, rfl, e1.tr OffM.up, by rw [fup_ne (by omega), e2]; exact hA.1, fup_self, by rw [fup_ne (by omega), e2]; exact hA.2.2.1, fun m hm => (e3 m (by have : m < M 0 2 := hm; omega)).offa (fun x hx => by funext y; exact fup_no hx) (by omega)⟩
  | succ t ih =>
    intro j f1 e0 e1 e2 e3 e4
    refine w_iload_n k104_2 rfl ?_
    refine w_aload_n k104_3 rfl rfl ?_
    have h6 := hW.1
    have ht := hW.2.1
    have hI := hW.2.2.1
    have hj := hW.2.2.2 j (by omega)
    refine w_geti k104_4 (k := 2) ha.1 (by decide) ?_
    rw [e2, hA.1]
    refine w_icmp_ge k104_7 (fun h7 => absurd h7 (nI_ge (by omega) (by omega))) (fun h7 => ?_)
    refine w_aload_n k104_10 rfl rfl ?_
    refine w_iload_n k104_11 rfl ?_
    refine w_vI k104_12 mt30 ha.1 ⟨rfl, by decide⟩ [_] rfl rfl rfl (sp_get (j := j) ha (by omega)) ?_
    refine w_aload_n k104_15 rfl rfl ?_
    refine w_aload_n k104_16 rfl rfl ?_
    refine w_geti k104_17 (k := 3) ha.1 (by decide) ?_
    rw [e2, hA.2.1]
    refine w_aload_n k104_20 rfl rfl ?_
    refine w_geti k104_21 (k := 4) ha.1 (by decide) ?_
    rw [e2, hA.2.2.1]
    refine w_vA k104_24 mt103 (ha.2.2.2.1 j (by omega)) ⟨rfl, by decide⟩ [_, _, _] rfl rfl rfl (sp_Mminute (ha.2.2.2.1 j (by omega)) hv (hC.mo e1 hd) hV (e4 j (Nat.le_refl j) (by omega)) (Nat.lt_trans hj.1 (by omega)) (by omega) hj.2.1 hj.2.2.1 hj.2.2.2.1.lt hj.2.2.2.2.1 (by omega)) ?_
    rintro _ _ f2 _ ⟨rfl, rfl, rfl, hO, hR⟩
    refine w_iinc k104_27 rfl (ls' := [_, _, _]) rfl ?_
    refine w_goto k104_30 ?_
    rw [nI_1]
    refine ih (j + 1) f2 (by omega) (e1.tr (OffM.ms hO (by omega))) (by rw [hO a (by omega)]; exact e2) (fun i hi => ?_) (fun i hi hi2 => (e4 i (by omega) hi2).off hO (by omega))
    by_cases hij : i = j
    · subst hij; exact hR
    · exact (e3 i (by omega)).off hO (by omega)
set_option maxHeartbeats 1000000 in
theorem sp_minute {S : Scr} {d : Nat} {f : FF} {g : GG} {n a v : Nat} {V : Va} {M : Nat → Nat → Nat} (ha : MoOk n g a) (hA : CMo f a M) (hv : VaOk n g v) (hC : CVa f v V) (hV : VWf V) (hW : MoW V M) (hd : v + 4 ≤ a ∨ a + 9 ≤ v) : Wp S (d + 5) 104 0 [some (.ref a), some (.ref v), none] [] n f g (MoQ none n f g a (mnA V M)) := by
  refine w_iconst k104_0 ?_
  refine w_istore_n k104_1 (ls' := [_, _, _]) rfl ?_
  exact lp_Mmin ha hA hv hC hV hW hd (M 0 2) 0 f rfl OffM.rf rfl (fun i hi => absurd hi (Nat.not_lt_zero i)) (fun i _ hi => hA.2.2.2 i hi)
theorem howAre_in {M : Nat → Nat → Nat} {s t m a : Nat} (h : M (m + 1) 1 = s) : howAre M s (t + 1) m a = howAre M s t (m + 1) (a + 1) := by simp [howAre, h]
theorem howAre_out {M : Nat → Nat → Nat} {s t m a : Nat} (h : ¬ M (m + 1) 1 = s) : howAre M s (t + 1) m a = howAre M s t (m + 1) a := by simp [howAre, h]
set_option maxHeartbeats 1000000 in
theorem lp_howAre {S : Scr} {d : Nat} {f : FF} {g : GG} {n a : Nat} {M : Nat → Nat → Nat} (ha : MoOk n g a) (hA : CMo f a M) (h6 : M 0 2 ≤ 6) (h1 : ∀ m, m < M 0 2 → M (m + 1) 1 < 2 ^ 31) (x : Nat) (hx : x < 2 ^ 31) : ∀ (t : Nat) (j q : Nat), (t + j = M 0 2) → Wp S (d + 1) 105 4 [some (.ref a), some (.int (nI x)), some (.int (nI q)), some (.int (nI j))] [] n f g (Is (some (.int (nI (howAre M x t j q)))) n f g) := by
  intro t
  induction t with
  | zero =>
    intro j q e0
    refine w_iload_n k105_4 rfl ?_
    refine w_aload_n k105_5 rfl rfl ?_
    refine w_geti k105_6 (k := 2) ha.1 (by decide) ?_
    rw [hA.1]
    refine w_icmp_ge k105_9 (fun h9 => ?_) (fun h9 => absurd (nI_le (by omega) (by omega)) h9)
    refine w_iload_n k105_38 rfl ?_
    refine w_iret k105_39 mt105 (.int) rfl (rfl) ?_
    exact ⟨rfl, rfl, rfl, rfl⟩
  | succ t ih =>
    intro j q e0
    refine w_iload_n k105_4 rfl ?_
    refine w_aload_n k105_5 rfl rfl ?_
    refine w_geti k105_6 (k := 2) ha.1 (by decide) ?_
    rw [hA.1]
    refine w_icmp_ge k105_9 (fun h9 => absurd h9 (nI_ge (by omega) (by omega))) (fun h9 => ?_)
    refine w_iload_n k105_12 rfl ?_
    refine w_aload_n k105_13 rfl rfl ?_
    refine w_iload_n k105_14 rfl ?_
    refine w_vI k105_15 mt30 ha.1 ⟨rfl, by decide⟩ [_] rfl rfl rfl (sp_get (j := j) ha (by omega)) ?_
    refine w_geti k105_18 (k := 1) (ha.2.2.2.1 j (by omega)) (by decide) ?_
    rw [hA.2.2.2 j (by omega) 1 (by omega)]
    refine w_iload_n k105_21 rfl ?_
    refine w_icmp_ne k105_22 (fun h22 => ?_) (fun h22 => ?_)
    ·
      have hz : ¬ M (j + 1) 1 = x := fun hh => h22 (by rw [hh])
      refine w_iconst k105_29 ?_
      refine w_iadd k105_30 ?_
      refine w_istore_n k105_31 (ls' := [_, _, _, _]) rfl ?_
      refine w_iinc k105_32 rfl (ls' := [_, _, _, _]) rfl ?_
      refine w_goto k105_35 ?_
      rw [nI_1 j]
      first
        | (rw [howAre_in hz, nI_1]; exact ih _ _ (by omega))
        | (rw [howAre_out hz, show nI q + 0 = nI q from nI_add q 0]; exact ih _ _ (by omega))
    ·
      have hz : M (j + 1) 1 = x := (nI_eq (h1 j (by omega)) hx).mp h22
      refine w_iconst k105_25 ?_
      refine w_goto k105_26 ?_
      refine w_iadd k105_30 ?_
      refine w_istore_n k105_31 (ls' := [_, _, _, _]) rfl ?_
      refine w_iinc k105_32 rfl (ls' := [_, _, _, _]) rfl ?_
      refine w_goto k105_35 ?_
      rw [nI_1 j]
      first
        | (rw [howAre_in hz, nI_1]; exact ih _ _ (by omega))
        | (rw [howAre_out hz, show nI q + 0 = nI q from nI_add q 0]; exact ih _ _ (by omega))
set_option maxHeartbeats 1000000 in
theorem sp_howAre {S : Scr} {d : Nat} {f : FF} {g : GG} {n a : Nat} {M : Nat → Nat → Nat} (ha : MoOk n g a) (hA : CMo f a M) (h6 : M 0 2 ≤ 6) (h1 : ∀ m, m < M 0 2 → M (m + 1) 1 < 2 ^ 31) (x : Nat) (hx : x < 2 ^ 31) : Wp S (d + 1) 105 0 [some (.ref a), some (.int (nI x)), none, none] [] n f g (Is (some (.int (nI (howAre M x (M 0 2) 0 0)))) n f g) := by
  refine w_iconst k105_0 ?_
  refine w_istore_n k105_1 (ls' := [_, _, _, _]) rfl ?_
  refine w_iconst k105_2 ?_
  refine w_istore_n k105_3 (ls' := [_, _, _, _]) rfl ?_
  exact lp_howAre ha hA h6 h1 x hx _ 0 0 rfl
theorem howAt_in {M : Nat → Nat → Nat} {s t m a : Nat} (h : M (m + 1) 1 = 1 ∧ M (m + 1) 2 = s) : howAt M s (t + 1) m a = howAt M s t (m + 1) (a + 1) := by simp [howAt, h]
theorem howAt_out {M : Nat → Nat → Nat} {s t m a : Nat} (h : ¬ (M (m + 1) 1 = 1 ∧ M (m + 1) 2 = s)) : howAt M s (t + 1) m a = howAt M s t (m + 1) a := congrArg (fun x => howAt M s t (m + 1) (a + x)) (if_neg h)
theorem sumOut_in {M : Nat → Nat → Nat} {t m a : Nat} (h : M (m + 1) 1 = 2) : sumOut M (t + 1) m a = sumOut M t (m + 1) (a + M (m + 1) 3) := by simp [sumOut, h]
theorem sumOut_out {M : Nat → Nat → Nat} {t m a : Nat} (h : ¬ M (m + 1) 1 = 2) : sumOut M (t + 1) m a = sumOut M t (m + 1) a := by simp [sumOut, h]
set_option maxHeartbeats 1000000 in
theorem lp_howAt {S : Scr} {d : Nat} {f : FF} {g : GG} {n a : Nat} {M : Nat → Nat → Nat} (ha : MoOk n g a) (hA : CMo f a M) (h6 : M 0 2 ≤ 6) (h1 : ∀ m, m < M 0 2 → M (m + 1) 1 < 2 ^ 31 ∧ M (m + 1) 2 < 2 ^ 31) (x : Nat) (hx : x < 2 ^ 31) : ∀ (t : Nat) (j q : Nat), (t + j = M 0 2) → Wp S (d + 1) 76 4 [some (.ref a), some (.int (nI x)), some (.int (nI q)), some (.int (nI j))] [] n f g (Is (some (.int (nI (howAt M x t j q)))) n f g) := by
  intro t
  induction t with
  | zero =>
    intro j q e0
    refine w_iload_n k76_4 rfl ?_
    refine w_aload_n k76_5 rfl rfl ?_
    refine w_geti k76_6 (k := 2) ha.1 (by decide) ?_
    rw [hA.1]
    refine w_icmp_ge k76_9 (fun h9 => ?_) (fun h9 => absurd (nI_le (by omega) (by omega)) h9)
    refine w_iload_n k76_38 rfl ?_
    refine w_iret k76_39 mt76 (.int) rfl (rfl) ?_
    exact ⟨rfl, rfl, rfl, rfl⟩
  | succ t ih =>
    intro j q e0
    refine w_iload_n k76_4 rfl ?_
    refine w_aload_n k76_5 rfl rfl ?_
    refine w_geti k76_6 (k := 2) ha.1 (by decide) ?_
    rw [hA.1]
    refine w_icmp_ge k76_9 (fun h9 => absurd h9 (nI_ge (by omega) (by omega))) (fun h9 => ?_)
    refine w_iload_n k76_12 rfl ?_
    refine w_aload_n k76_13 rfl rfl ?_
    refine w_iload_n k76_14 rfl ?_
    refine w_vI k76_15 mt30 ha.1 ⟨rfl, by decide⟩ [_] rfl rfl rfl (sp_get (j := j) ha (by omega)) ?_
    refine w_iload_n k76_18 rfl ?_
    refine w_vI k76_19 mt75 (ha.2.2.2.1 j (by omega)) ⟨rfl, by decide⟩ [_] rfl rfl rfl (sp_isAt (ha.2.2.2.1 j (by omega)) (hA.2.2.2 j (by omega)) (h1 j (by omega)).1 (h1 j (by omega)).2 hx) ?_
    refine w_if_eq k76_22 (fun h22 => ?_) (fun h22 => ?_)
    ·
      have hz := of_decide_eq_false (bI_0.mp h22)
      refine w_iconst k76_29 ?_
      refine w_iadd k76_30 ?_
      refine w_istore_n k76_31 (ls' := [_, _, _, _]) rfl ?_
      refine w_iinc k76_32 rfl (ls' := [_, _, _, _]) rfl ?_
      refine w_goto k76_35 ?_
      rw [nI_1 j]
      first
        | (rw [howAt_in hz, nI_1]; exact ih _ _ (by omega))
        | (rw [howAt_out hz, show nI q + 0 = nI q from nI_add q 0]; exact ih _ _ (by omega))
    ·
      have hz := of_decide_eq_true (bI_n0.mp h22)
      refine w_iconst k76_25 ?_
      refine w_goto k76_26 ?_
      refine w_iadd k76_30 ?_
      refine w_istore_n k76_31 (ls' := [_, _, _, _]) rfl ?_
      refine w_iinc k76_32 rfl (ls' := [_, _, _, _]) rfl ?_
      refine w_goto k76_35 ?_
      rw [nI_1 j]
      first
        | (rw [howAt_in hz, nI_1]; exact ih _ _ (by omega))
        | (rw [howAt_out hz, show nI q + 0 = nI q from nI_add q 0]; exact ih _ _ (by omega))
set_option maxHeartbeats 1000000 in
theorem sp_howAt {S : Scr} {d : Nat} {f : FF} {g : GG} {n a : Nat} {M : Nat → Nat → Nat} (ha : MoOk n g a) (hA : CMo f a M) (h6 : M 0 2 ≤ 6) (h1 : ∀ m, m < M 0 2 → M (m + 1) 1 < 2 ^ 31 ∧ M (m + 1) 2 < 2 ^ 31) (x : Nat) (hx : x < 2 ^ 31) : Wp S (d + 1) 76 0 [some (.ref a), some (.int (nI x)), none, none] [] n f g (Is (some (.int (nI (howAt M x (M 0 2) 0 0)))) n f g) := by
  refine w_iconst k76_0 ?_
  refine w_istore_n k76_1 (ls' := [_, _, _, _]) rfl ?_
  refine w_iconst k76_2 ?_
  refine w_istore_n k76_3 (ls' := [_, _, _, _]) rfl ?_
  exact lp_howAt ha hA h6 h1 x hx _ 0 0 rfl
set_option maxHeartbeats 1000000 in
theorem lp_sumOut {S : Scr} {d : Nat} {f : FF} {g : GG} {n a : Nat} {M : Nat → Nat → Nat} (ha : MoOk n g a) (hA : CMo f a M) (h6 : M 0 2 ≤ 6) (h1 : ∀ m, m < M 0 2 → M (m + 1) 1 < 2 ^ 31) : ∀ (t : Nat) (j q : Nat), (t + j = M 0 2) → Wp S (d + 1) 180 4 [some (.ref a), some (.int (nI q)), some (.int (nI j))] [] n f g (Is (some (.int (nI (sumOut M t j q)))) n f g) := by
  intro t
  induction t with
  | zero =>
    intro j q e0
    refine w_iload_n k180_4 rfl ?_
    refine w_aload_n k180_5 rfl rfl ?_
    refine w_geti k180_6 (k := 2) ha.1 (by decide) ?_
    rw [hA.1]
    refine w_icmp_ge k180_9 (fun h9 => ?_) (fun h9 => absurd (nI_le (by omega) (by omega)) h9)
    refine w_iload_n k180_45 rfl ?_
    refine w_iret k180_46 mt180 (.int) rfl (rfl) ?_
    exact ⟨rfl, rfl, rfl, rfl⟩
  | succ t ih =>
    intro j q e0
    refine w_iload_n k180_4 rfl ?_
    refine w_aload_n k180_5 rfl rfl ?_
    refine w_geti k180_6 (k := 2) ha.1 (by decide) ?_
    rw [hA.1]
    refine w_icmp_ge k180_9 (fun h9 => absurd h9 (nI_ge (by omega) (by omega))) (fun h9 => ?_)
    refine w_iload_n k180_12 rfl ?_
    refine w_aload_n k180_13 rfl rfl ?_
    refine w_iload_n k180_14 rfl ?_
    refine w_vI k180_15 mt30 ha.1 ⟨rfl, by decide⟩ [_] rfl rfl rfl (sp_get (j := j) ha (by omega)) ?_
    refine w_geti k180_18 (k := 1) (ha.2.2.2.1 j (by omega)) (by decide) ?_
    rw [hA.2.2.2 j (by omega) 1 (by omega)]
    refine w_iconst k180_21 ?_
    refine w_icmp_ne k180_22 (fun h22 => ?_) (fun h22 => ?_)
    ·
      have hz : ¬ M (j + 1) 1 = 2 := fun hh => h22 (by rw [hh]; rfl)
      refine w_iconst k180_36 ?_
      refine w_iadd k180_37 ?_
      refine w_istore_n k180_38 (ls' := [_, _, _]) rfl ?_
      refine w_iinc k180_39 rfl (ls' := [_, _, _]) rfl ?_
      refine w_goto k180_42 ?_
      rw [nI_1 j]
      first
        | (rw [sumOut_in hz, nI_add]; exact ih _ _ (by omega))
        | (rw [sumOut_out hz, show nI q + 0 = nI q from nI_add q 0]; exact ih _ _ (by omega))
    ·
      have hz : M (j + 1) 1 = 2 := (nI_eq (b := 2) (h1 j (by omega)) (by omega)).mp h22
      refine w_aload_n k180_25 rfl rfl ?_
      refine w_iload_n k180_26 rfl ?_
      refine w_vI k180_27 mt30 ha.1 ⟨rfl, by decide⟩ [_] rfl rfl rfl (sp_get (j := j) ha (by omega)) ?_
      refine w_geti k180_30 (k := 3) (ha.2.2.2.1 j (by omega)) (by decide) ?_
      rw [hA.2.2.2 j (by omega) 3 (by omega)]
      refine w_goto k180_33 ?_
      refine w_iadd k180_37 ?_
      refine w_istore_n k180_38 (ls' := [_, _, _]) rfl ?_
      refine w_iinc k180_39 rfl (ls' := [_, _, _]) rfl ?_
      refine w_goto k180_42 ?_
      rw [nI_1 j]
      first
        | (rw [sumOut_in hz, nI_add]; exact ih _ _ (by omega))
        | (rw [sumOut_out hz, show nI q + 0 = nI q from nI_add q 0]; exact ih _ _ (by omega))
set_option maxHeartbeats 1000000 in
theorem sp_sumOut {S : Scr} {d : Nat} {f : FF} {g : GG} {n a : Nat} {M : Nat → Nat → Nat} (ha : MoOk n g a) (hA : CMo f a M) (h6 : M 0 2 ≤ 6) (h1 : ∀ m, m < M 0 2 → M (m + 1) 1 < 2 ^ 31) : Wp S (d + 1) 180 0 [some (.ref a), none, none] [] n f g (Is (some (.int (nI (sumOut M (M 0 2) 0 0)))) n f g) := by
  refine w_iconst k180_0 ?_
  refine w_istore_n k180_1 (ls' := [_, _, _]) rfl ?_
  refine w_iconst k180_2 ?_
  refine w_istore_n k180_3 (ls' := [_, _, _]) rfl ?_
  exact lp_sumOut ha hA h6 h1 _ 0 0 rfl
