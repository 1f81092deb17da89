/-! SPECS, 9: a moment -/
def MoOk (n : Nat) (g : GG) (a : Nat) : Prop := kd KKl n a = some (2, 5) ∧ kd KKl n (a + 1) = some (21, 6) ∧ kd KKl n (a + 2) = some (1, 6) ∧ (∀ j, j < 6 → kd KKl n (a + 3 + j) = some (1, 6)) ∧ g a 0 = some (a + 1) ∧ g a 1 = some (a + 2) ∧ ∀ j, j < 6 → g (a + 1) j = some (a + 3 + j)
/-- the class's moment at a: M 0 is minute, who is indoors, how many; M (m + 1) message m -/
def CMo (f : FF) (a : Nat) (M : Nat → Nat → Nat) : Prop := f a 2 = nI (M 0 2) ∧ f a 3 = nI (M 0 0) ∧ f a 4 = nI (M 0 1) ∧ ∀ m, m < M 0 2 → MsR f (a + 3 + m) (M (m + 1))
def OffM (f f' : FF) (a : Nat) : Prop := ∀ x, x < a ∨ a + 9 ≤ x → f' x = f x
def MoW (V : Va) (M : Nat → Nat → Nat) : Prop := M 0 2 ≤ 6 ∧ M 0 0 < 2 ^ 20 ∧ M 0 1 < 512 ∧ ∀ m, m < M 0 2 → MsW V (M 0 0) (M (m + 1))
def MoQ (v0 : Option Value) (n : Nat) (f : FF) (g : GG) (a : Nat) (M : Nat → Nat → Nat) : Option Value → Nat → FF → GG → Prop := fun v n' f' g' => v = v0 ∧ n' = n ∧ g' = g ∧ OffM f f' a ∧ CMo f' a M
theorem OffM.rf {f : FF} {a : Nat} : OffM f f a := fun _ _ => rfl
theorem OffM.tr {f f1 f2 : FF} {a : Nat} (h : OffM f f1 a) (h2 : OffM f1 f2 a) : OffM f f2 a := fun x hx => (h2 x hx).trans (h x hx)
theorem OffM.up {f : FF} {a k : Nat} {w : Int32} : OffM f (fup f a k w) a := fun x hx => by funext y; exact fup_no (by omega)
theorem OffM.ms {f f1 : FF} {a j : Nat} (h : Off f f1 (a + 3 + j)) (hj : j < 6) : OffM f f1 a := fun x hx => h x (by omega)
theorem CMo.off {f f' : FF} {a b : Nat} {M : Nat → Nat → Nat} (h : CMo f b M) (ho : OffM f f' a) (hd : a + 9 ≤ b ∨ b + 9 ≤ a) (h6 : M 0 2 ≤ 6) : CMo f' b M :=
  ⟨by rw [ho b (by omega)]; exact h.1, by rw [ho b (by omega)]; exact h.2.1, by rw [ho b (by omega)]; exact h.2.2.1, fun m hm k hk => by rw [ho (b + 3 + m) (by omega)]; exact h.2.2.2 m hm k hk⟩
theorem CVa.mo {f f' : FF} {v a : Nat} {V : Va} (h : CVa f v V) (ho : OffM f f' a) (hd : v + 4 ≤ a ∨ a + 9 ≤ v) : CVa f' v V := h.off (ho _ (by omega)) (ho _ (by omega)) (ho _ (by omega)) (ho _ (by omega))
theorem MsR.off {f f' : FF} {m q : Nat} {μ : Nat → Nat} (h : MsR f q μ) (ho : Off f f' m) (hne : q ≠ m) : MsR f' q μ := fun k hk => by rw [ho q hne]; exact h k hk
/-- a minute of all -/
def mnA (V : Va) (M : Nat → Nat → Nat) : Nat → Nat → Nat := fun i k => if i = 0 then (if k = 0 then M 0 0 + 1 else M 0 k) else msA V (M 0 0) (M 0 1) (M i) k
def howAre (M : Nat → Nat → Nat) (s : Nat) : Nat → Nat → Nat → Nat
  | 0, _, a => a
  | t + 1, m, a => howAre M s t (m + 1) (a + (if M (m + 1) 1 = s then 1 else 0))
def howAt (M : Nat → Nat → Nat) (c : Nat) : Nat → Nat → Nat → Nat
  | 0, _, a => a
  | t + 1, m, a => howAt M c t (m + 1) (a + (if M (m + 1) 1 = 1 ∧ M (m + 1) 2 = c then 1 else 0))
def sumOut (M : Nat → Nat → Nat) : Nat → Nat → Nat → Nat
  | 0, _, a => a
  | t + 1, m, a => sumOut M t (m + 1) (a + (if M (m + 1) 1 = 2 then M (m + 1) 3 else 0))
set_option maxHeartbeats 1000000 in
theorem sp_get {S : Scr} {d : Nat} {f : FF} {g : GG} {n a j : Nat} (ha : MoOk n g a) (hj : j < 6) : Wp S d 30 0 [some (.ref a), some (.int (nI j)), none] [] n f g (Is (some (.ref (a + 3 + j))) n f g) := by
  refine w_iload_n k30_0 rfl ?_
  refine w_if_lt k30_1 (fun h1 => absurd h1 (nI_pos (by omega))) (fun h1 => ?_)
  refine w_iload_n k30_4 rfl ?_
  refine w_aload_n k30_5 rfl rfl ?_
  refine w_getr k30_6 (k := 0) ha.1 (by decide) ha.2.2.2.2.1 ?_
  refine w_alen k30_9 ha.2.1 (by decide) (rfl) ?_
  refine w_top (nI 6) (rfl) ?_
  refine w_icmp_ge k30_10 (fun h10 => absurd h10 (nI_ge (by omega) (by omega))) (fun h10 => ?_)
  refine w_aload_n k30_13 rfl rfl ?_
  refine w_getr k30_14 (k := 0) ha.1 (by decide) ha.2.2.2.2.1 ?_
  refine w_iload_n k30_17 rfl ?_
  refine w_aald k30_18 ha.2.1 (by decide) (nI_pos (by omega)) (nI_clamp (by omega)) (hj) (ha.2.2.2.2.2.2 j hj) ?_
  refine w_goto k30_19 ?_
  refine w_astore_n k30_23 rfl (ls' := [_, _, _]) rfl ?_
  refine w_aload_n k30_24 rfl rfl ?_
  refine w_nnR k30_25 ?_
  refine w_aload_n k30_35 rfl rfl ?_
  refine w_aret k30_36 mt30 rfl ?_
  exact ⟨rfl, rfl, rfl, rfl⟩
set_option maxHeartbeats 1000000 in
theorem sp_Msize {S : Scr} {d : Nat} {f : FF} {g : GG} {n a : Nat} {M : Nat → Nat → Nat} (ha : MoOk n g a) (hA : CMo f a M)  : Wp S d 115 0 [some (.ref a)] [] n f g (Is (some (.int (nI (M 0 2)))) n f g) := by
  refine w_aload_n k115_0 rfl rfl ?_
  refine w_geti k115_1 (k := 2) ha.1 (by decide) ?_
  rw [hA.1]
  refine w_iret k115_4 mt115 (.int) rfl (rfl) ?_
  exact ⟨rfl, rfl, rfl, rfl⟩
set_option maxHeartbeats 1000000 in
theorem sp_Mmin {S : Scr} {d : Nat} {f : FF} {g : GG} {n a : Nat} {M : Nat → Nat → Nat} (ha : MoOk n g a) (hA : CMo f a M)  : Wp S d 116 0 [some (.ref a)] [] n f g (Is (some (.int (nI (M 0 0)))) n f g) := by
  refine w_aload_n k116_0 rfl rfl ?_
  refine w_geti k116_1 (k := 3) ha.1 (by decide) ?_
  rw [hA.2.1]
  refine w_iret k116_4 mt116 (.int) rfl (rfl) ?_
  exact ⟨rfl, rfl, rfl, rfl⟩
set_option maxHeartbeats 1000000 in
theorem sp_Mhas {S : Scr} {d : Nat} {f : FF} {g : GG} {n a : Nat} {M : Nat → Nat → Nat} (ha : MoOk n g a) (hA : CMo f a M) (x : Int32) : Wp S d 82 0 [some (.ref a), some (.int x)] [] n f g (Is (some (.int (bI (decide (0 ≤ x ∧ x < nI (M 0 2)))))) n f g) := by
  refine w_iload_n k82_0 rfl ?_
  refine w_if_lt k82_1 (fun h1 => ?_) (fun h1 => ?_)
  ·
    refine w_iconst k82_16 ?_
    refine w_iret k82_17 mt82 (.boolean) rfl (rfl) ?_
    first
      | (rw [decide_eq_true ⟨Int32.not_lt.mp h1, Int32.not_le.mp h9⟩]; exact ⟨rfl, rfl, rfl, rfl⟩)
      | (rw [decide_eq_false (fun hh => absurd hh.2 (Int32.not_lt.mpr h9))]; exact ⟨rfl, rfl, rfl, rfl⟩)
      | (rw [decide_eq_false (fun hh => absurd hh.1 (Int32.not_le.mpr h1))]; exact ⟨rfl, rfl, rfl, rfl⟩)
  ·
    refine w_iload_n k82_4 rfl ?_
    refine w_aload_n k82_5 rfl rfl ?_
    refine w_geti k82_6 (k := 2) ha.1 (by decide) ?_
    rw [hA.1]
    refine w_icmp_ge k82_9 (fun h9 => ?_) (fun h9 => ?_)
    ·
      refine w_iconst k82_16 ?_
      refine w_iret k82_17 mt82 (.boolean) rfl (rfl) ?_
      first
        | (rw [decide_eq_true ⟨Int32.not_lt.mp h1, Int32.not_le.mp h9⟩]; exact ⟨rfl, rfl, rfl, rfl⟩)
        | (rw [decide_eq_false (fun hh => absurd hh.2 (Int32.not_lt.mpr h9))]; exact ⟨rfl, rfl, rfl, rfl⟩)
        | (rw [decide_eq_false (fun hh => absurd hh.1 (Int32.not_le.mpr h1))]; exact ⟨rfl, rfl, rfl, rfl⟩)
    ·
      refine w_iconst k82_12 ?_
      refine w_goto k82_13 ?_
      refine w_iret k82_17 mt82 (.boolean) rfl (rfl) ?_
      first
        | (rw [decide_eq_true ⟨Int32.not_lt.mp h1, Int32.not_le.mp h9⟩]; exact ⟨rfl, rfl, rfl, rfl⟩)
        | (rw [decide_eq_false (fun hh => absurd hh.2 (Int32.not_lt.mpr h9))]; exact ⟨rfl, rfl, rfl, rfl⟩)
        | (rw [decide_eq_false (fun hh => absurd hh.1 (Int32.not_le.mpr h1))]; exact ⟨rfl, rfl, rfl, rfl⟩)
set_option maxHeartbeats 1000000 in
theorem sp_isIndoors {S : Scr} {d : Nat} {f : FF} {g : GG} {n a : Nat} {M : Nat → Nat → Nat} (ha : MoOk n g a) (hA : CMo f a M) (h5 : M 0 1 < 512) {c : Nat} (hc : c < 32) : Wp S (d + 1) 35 0 [some (.ref a), some (.int (nI c))] [] n f g (Is (some (.int (bI ((M 0 1).testBit c)))) n f g) := by
  refine w_aload_n k35_0 rfl rfl ?_
  refine w_geti k35_1 (k := 4) ha.1 (by decide) ?_
  rw [hA.2.2.1]
  refine w_iload_n k35_4 rfl ?_
  refine w_sI k35_5 (by decide) mt34 [_, _] rfl rfl rfl (sp_isIn (by omega) hc) ?_
  refine w_iret k35_8 mt35 (.boolean) rfl (nar_b _) ?_
  exact ⟨rfl, rfl, rfl, rfl⟩
set_option maxHeartbeats 1000000 in
theorem sp_howIn {S : Scr} {d : Nat} {f : FF} {g : GG} {n a : Nat} {M : Nat → Nat → Nat} (ha : MoOk n g a) (hA : CMo f a M) (h5 : M 0 1 < 512) : Wp S (d + 1) 187 0 [some (.ref a)] [] n f g (Is (some (.int (nI (popc (M 0 1) 9)))) n f g) := by
  refine w_aload_n k187_0 rfl rfl ?_
  refine w_geti k187_1 (k := 4) ha.1 (by decide) ?_
  rw [hA.2.2.1]
  refine w_sI k187_4 (by decide) mt143 [_] rfl rfl rfl (sp_bitCount h5) ?_
  refine w_iret k187_7 mt187 (.int) rfl (rfl) ?_
  exact ⟨rfl, rfl, rfl, rfl⟩
