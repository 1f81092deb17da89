/-! THE LINK, 2: worlds, locals -/
def strText : String := "c0,3,0;c1,2,0;c2,4,1;c3,5,1;c0,1,2;c4,6,3;c2,2,5;c0,7,7;m4,0,pupu;m6,2,sspup;m7,5,u;m5,9,pppsss;i3;"
def fv (z ci k : Nat) (x : Int32) (o : Option Nat) : Value := match refF ci k with
  | true => va_rf (o.map (fun i => z + i))
  | false => .int x
def clA (cI cM cP : ClassId) (k : Nat) : ClassId := if k = 20 then cI else if k = 21 then cM else cP
def cellE (cI cM cP : ClassId) (z : Nat) (f : FF) (g : GG) (i k sz : Nat) : va_E :=
  if k < 20 then .inr (k, (List.range sz).map fun j => fv z k j (f i j) (g i j))
  else if k = 20 then .inl (cI, sz, .inl (f i))
  else .inl (clA cI cM cP k, sz, .inr (.inr (.inr (.inr fun j => (g i j).map (fun x => z + x)))))
def Wd (D : va_G) (cI cM cP : ClassId) (z n : Nat) (f : FF) (g : GG) (H : Heap) : Prop :=
  H.size = z + n ∧ (∀ i k sz, i < n → KKl[i]? = some (k, sz) → va_at D vwCl (z + i, cellE cI cM cP z f g i k sz) H) ∧ ∀ i j, n ≤ i → f i j = 0 ∧ g i j = none
theorem kd_spec {n a : Nat} {q : Nat × Nat} (h : kd KKl n a = some q) : a < n ∧ KKl[a]? = some q := by
  unfold kd at h
  split at h
  · exact ⟨‹_›, h⟩
  · cases h
section WORLD
variable {D : va_G} {cI cM cP : ClassId} {z n a k sz : Nat} {f f' : FF} {g g' : GG} {H H' : Heap}
theorem Wd.at (h : Wd D cI cM cP z n f g H) (hk : kd KKl n a = some (k, sz)) : va_at D vwCl (z + a, cellE cI cM cP z f g a k sz) H := h.2.1 a k sz (kd_spec hk).1 (kd_spec hk).2
theorem Wd.put (h : Wd D cI cM cP z n f g H) (hk : kd KKl n a = some (k, sz)) (hz : H'.size = H.size) (ho : ∀ q : Nat, q ≠ z + a → H'[q]? = H[q]?) (hf : ∀ i, i ≠ a → f' i = f i) (hg : ∀ i, i ≠ a → g' i = g i) (hc : va_at D vwCl (z + a, cellE cI cM cP z f' g' a k sz) H') : Wd D cI cM cP z n f' g' H' := by
  obtain ⟨ha, hka⟩ := kd_spec hk
  refine ⟨hz.trans h.1, fun i k2 s2 hi hki => ?_, fun i j hi => ?_⟩
  · by_cases hia : i = a
    · subst hia
      rw [hka] at hki
      cases hki
      exact hc
    · have e : cellE cI cM cP z f' g' i k2 s2 = cellE cI cM cP z f g i k2 s2 := by unfold cellE; rw [hf i hia, hg i hia]
      rw [e]
      exact (h.2.1 i k2 s2 hi hki).kept (ho _ (by show z + i ≠ z + a; omega))
  · rw [hf i (by omega), hg i (by omega)]
    exact h.2.2 i j hi
theorem Wd.new (h : Wd D cI cM cP z n f g H) (hk : KKl[n]? = some (k, sz)) (hz : H'.size = H.size + 1) (ho : ∀ q : Nat, q < H.size → H'[q]? = H[q]?) (hc : va_at D vwCl (z + n, cellE cI cM cP z f g n k sz) H') : Wd D cI cM cP z (n + 1) f g H' := by
  refine ⟨by rw [hz, h.1]; omega, fun i k2 s2 hi hki => ?_, fun i j hi => h.2.2 i j (by omega)⟩
  by_cases hin : i = n
  · subst hin
    rw [hk] at hki
    cases hki
    exact hc
  · have hlt : i < n := by omega
    exact (h.2.1 i k2 s2 hlt hki).kept (ho _ (by show z + i < H.size; rw [h.1]; omega))
end WORLD
theorem fup_off {f : FF} {a k : Nat} {v : Int32} {i : Nat} (h : i ≠ a) : fup f a k v i = f i := by funext y; simp [fup, h]
theorem gup_off {g : GG} {a k : Nat} {v : Option Nat} {i : Nat} (h : i ≠ a) : gup g a k v i = g i := by funext y; simp [gup, h]
theorem fup_in {f : FF} {a k : Nat} {v : Int32} : fup f a k v a = upd (f a) k v := by funext y; simp [fup, upd]
theorem gup_in {g : GG} {a k : Nat} {v : Option Nat} (j : Nat) : gup g a k v a j = if j = k then v else g a j := by simp [gup]
/-! locals -/
def al (z : Nat) (T : UInt32 → Value) (ls : LL) : List (Nat × Value) := (List.range ls.length).filterMap fun i => (lget ls i).map fun v => (i, tr z T v)
theorem lget_lt {ls : LL} {i : Nat} {v : Value} (h : lget ls i = some v) : i < ls.length := by
  unfold lget at h
  by_cases hl : i < ls.length
  · exact hl
  · rw [List.getElem?_eq_none (by omega)] at h
    simp at h
theorem al_mem {z : Nat} {T : UInt32 → Value} {ls : LL} {q : Nat × Value} : q ∈ al z T ls ↔ ∃ v, lget ls q.1 = some v ∧ q.2 = tr z T v := by
  unfold al
  rw [List.mem_filterMap]
  constructor
  · rintro ⟨i, -, h⟩
    rw [Option.map_eq_some_iff] at h
    obtain ⟨v, hv, rfl⟩ := h
    exact ⟨v, hv, rfl⟩
  · rintro ⟨v, hv, hq⟩
    refine ⟨q.1, List.mem_range.mpr (lget_lt hv), ?_⟩
    rw [hv]
    simp [← hq]
theorem lget_set {ls : LL} {i j : Nat} {o : Option Value} : lget (ls.set i o) j = if j = i then (if i < ls.length then o else none) else lget ls j := by
  unfold lget
  rw [List.getElem?_set]
  by_cases h : i = j
  · subst h
    by_cases hl : i < ls.length
    · simp [hl]
    · simp [hl]
  · rw [if_neg h, if_neg (fun e => h e.symm)]
theorem st1_len {ls : LL} {i : Nat} {v : Value} : (st1 ls i v).length = ls.length := by
  unfold st1
  split
  · simp
  · split <;> simp
theorem lget_st1 {ls : LL} {i j : Nat} {v w : Value} (h : lget (st1 ls i v) j = some w) : (j = i ∧ w = v) ∨ (j ≠ i ∧ lget ls j = some w ∧ ¬ (j + 1 = i ∧ w.category = 2)) := by
  unfold st1 at h
  cases i with
  | zero =>
    simp only at h
    rw [lget_set] at h
    by_cases hj : j = 0
    · rw [if_pos hj] at h
      split at h
      · cases h; exact Or.inl ⟨hj, rfl⟩
      · cases h
    · rw [if_neg hj] at h
      exact Or.inr ⟨hj, h, by omega⟩
  | succ k =>
    simp only at h
    cases hk : isL (lget ls k) with
    | true =>
      rw [hk] at h
      simp only at h
      rw [lget_set, lget_set] at h
      by_cases hj : j = k + 1
      · rw [if_pos hj] at h
        split at h
        · cases h; exact Or.inl ⟨hj, rfl⟩
        · cases h
      · rw [if_neg hj] at h
        by_cases hj2 : j = k
        · rw [if_pos hj2] at h
          split at h <;> cases h
        · rw [if_neg hj2] at h
          exact Or.inr ⟨hj, h, by omega⟩
    | false =>
      rw [hk] at h
      simp only at h
      rw [lget_set] at h
      by_cases hj : j = k + 1
      · rw [if_pos hj] at h
        split at h
        · cases h; exact Or.inl ⟨hj, rfl⟩
        · cases h
      · rw [if_neg hj] at h
        refine Or.inr ⟨hj, h, ?_⟩
        rintro ⟨e, hc⟩
        have : j = k := by omega
        subst this
        rw [h] at hk
        simp [isL, hc] at hk
def LR (z : Nat) (T : UInt32 → Value) (nL : Nat) (ls : LL) (la : Array Slot) : Prop := lv_has la nL (al z T ls) ∧ ls.length = nL
section LOCALS
variable {z nL : Nat} {T : UInt32 → Value} {ls : LL} {la la' : Array Slot}
theorem LR.get {i : Nat} {v : Value} (h : LR z T nL ls la) (hl : lget ls i = some v) : la[i]? = some (.val (tr z T v)) := h.1.2.2 (i, tr z T v) (al_mem.mpr ⟨v, hl, rfl⟩)
def TOk (T : UInt32 → Value) : Prop := ∀ k, T k = .null ∨ ∃ a, T k = .ref a
theorem tr_cat {v : Value} (hT : TOk T) : (tr z T v).category = v.category := by
  cases v with
  | float k => rcases hT k with h | ⟨a, h⟩ <;> simp [tr, h, Value.category]
  | _ => rfl
theorem tr_A {v : Value} (hT : TOk T) (h : isA v = true) : tr z T v = .null ∨ ∃ a, tr z T v = .ref a := by
  cases v with
  | float k => exact hT k
  | ref i => exact Or.inr ⟨_, rfl⟩
  | null => exact Or.inl rfl
  | _ => cases h
theorem LR_st1 {i : Nat} {v : Value} (hT : TOk T) (h : LR z T nL ls la) (hc : v.category = 1) (h' : lv_has la' nL ((i, tr z T v) :: (al z T ls).filter (fun q => !(q.1 == i) && !(q.1 + 1 == i && q.2.category == 2)))) : LR z T nL (st1 ls i v) la' := by
  refine ⟨⟨h'.1, h'.2.1, fun q hq => ?_⟩, st1_len.trans h.2⟩
  obtain ⟨w, hw, e⟩ := al_mem.mp hq
  rcases lget_st1 hw with ⟨h1, rfl⟩ | ⟨h1, h2, h3⟩
  · have hq2 : q = (i, tr z T w) := by rw [← h1, ← e]
    rw [hq2]
    exact h'.2.2 (i, tr z T w) List.mem_cons_self
  · refine h'.2.2 q (List.mem_cons_of_mem _ (List.mem_filter.mpr ⟨al_mem.mpr ⟨w, h2, e⟩, ?_⟩))
    have hcat : q.2.category = w.category := by rw [e]; exact tr_cat hT
    rw [hcat]
    simp only [Bool.and_eq_true, Bool.not_eq_true', beq_eq_false_iff_ne, ne_eq, Bool.and_eq_false_iff]
    refine ⟨h1, ?_⟩
    by_cases hz : q.1 + 1 = i
    · exact Or.inr (fun hh => h3 ⟨hz, hh⟩)
    · exact Or.inl hz
theorem LR_st2 {i : Nat} {v : Value} (hT : TOk T) (h : LR z T nL ls la) (h' : lv_has la' nL ((i, tr z T v) :: (al z T ls).filter (fun q => !(q.1 == i) && (!(q.1 == i + 1) && !(q.1 + 1 == i && q.2.category == 2))))) : LR z T nL (st2 ls i v) la' := by
  refine ⟨⟨h'.1, h'.2.1, fun q hq => ?_⟩, by unfold st2; rw [List.length_set]; exact st1_len.trans h.2⟩
  obtain ⟨w, hw, e⟩ := al_mem.mp hq
  unfold st2 at hw
  rw [lget_set] at hw
  by_cases hq1 : q.1 = i + 1
  · rw [if_pos hq1] at hw
    split at hw <;> cases hw
  · rw [if_neg hq1] at hw
    rcases lget_st1 hw with ⟨h1, rfl⟩ | ⟨h1, h2, h3⟩
    · have hq2 : q = (i, tr z T w) := by rw [← h1, ← e]
      rw [hq2]
      exact h'.2.2 (i, tr z T w) List.mem_cons_self
    · refine h'.2.2 q (List.mem_cons_of_mem _ (List.mem_filter.mpr ⟨al_mem.mpr ⟨w, h2, e⟩, ?_⟩))
      have hcat : q.2.category = w.category := by rw [e]; exact tr_cat hT
      rw [hcat]
      simp only [Bool.and_eq_true, Bool.not_eq_true', beq_eq_false_iff_ne, ne_eq, Bool.and_eq_false_iff]
      refine ⟨h1, hq1, ?_⟩
      by_cases hz : q.1 + 1 = i
      · exact Or.inr (fun hh => h3 ⟨hz, hh⟩)
      · exact Or.inl hz
end LOCALS
/-! what is given of a state: the tables, what stands below the worlds -/
def Env (D : va_G) (cI cM cP : ClassId) (z b L : Nat) (xs : Nat → Int32) (sA vA : Nat) (vF : Value) (U : State) : Prop :=
  va_K D vwCl [(cI, .int), (cM, .object "NeedleTelegraph$Message"), (cP, .object "NeedleTelegraph$Moment")] U ∧
  (∀ q ∈ nestT, va_Nw (.methodLinkNest q.1 q.2.1 q.2.2 "NeedleTelegraph") U) ∧
  va_AO "NeedleTelegraph$Message" U ∧ va_AO "NeedleTelegraph$Moment" U ∧
  vk_R "NeedleTelegraph" 57 strText sA U ∧
  vk_S 1 [99] [strB] (fun _ => sA) (fun _ => vA) (fun q => z ≤ q) U U.heap ∧
  va_Z "java/lang/String" "COMPACT_STRINGS" "Z" (.int 1) (fun q => z ≤ q) U U.heap ∧
  va_Z "jdk/internal/util/Preconditions" "SIOOBE_FORMATTER" "Ljava/util/function/BiFunction;" vF (fun q => z ≤ q) U U.heap ∧
  va_X b L xs U U.heap ∧ b < z ∧ z ≤ U.heap.size ∧ (vF = .null ∨ ∃ a, vF = .ref a)
section ENV
variable {D : va_G} {cI cM cP : ClassId} {z b L sA vA : Nat} {xs : Nat → Int32} {vF : Value}
theorem Env.move {s U : State} (h : Env D cI cM cP z b L xs sA vA vF s) (hW : s.WarmedH U.vm) (hU : ∀ q : Nat, q < z → U.heap[q]? = s.heap[q]?) (hz : z ≤ U.heap.size) : Env D cI cM cP z b L xs sA vA vF U := by
  obtain ⟨h1, h2, h3, h4, h5, h6, h7, h8, h9, h10, h11, h12⟩ := h
  have hk : ∀ a : Nat, a < s.heap.size → ¬ (fun q => z ≤ q) a → U.heap[a]? = s.heap[a]? := fun a _ ha => hU a (Nat.not_le.mp ha)
  exact ⟨va_K.moved hW.alike h1, fun q hq => va_Nw.warmM hW (h2 q hq), h3.moved hW.alike, h4.moved hW.alike, h5.warm hW, (vk_S.moved hW.alike h6).kept hk, (va_Z.moved hW.alike h7).kept hk, (va_Z.moved hW.alike h8).kept hk, (va_X.moved hW.alike h9).kept (hU b h10), h10, hz, h12⟩
theorem Env.T {s : State} (h : Env D cI cM cP z b L xs sA vA vF s) : TOk (tk b sA vA vF) := by
  intro k
  unfold tk
  split
  · exact Or.inr ⟨_, rfl⟩
  · split
    · exact Or.inr ⟨_, rfl⟩
    · split
      · exact Or.inr ⟨_, rfl⟩
      · exact h.2.2.2.2.2.2.2.2.2.2.2
end ENV
/-- what holds in a method's body -/
def Cx (D : va_G) (cI cM cP : ClassId) (z b L : Nat) (xs : Nat → Int32) (sA vA : Nat) (vF : Value) (mt : Mth) (p : Program) (s : State) (m : MethodId) (args : Array Value) (meth : Method) (c : Code) : Prop :=
  p.tables.exec = Jvm.exec ∧ c.code = mt.2.1 ∧ c.maxLocals = mt.2.2.1 ∧ meth.sig.returnType = mt.2.2.2.1 ∧ s.vm.findClass mt.1.cls = some m.cls ∧ (∀ w ∈ Big, w.before args s = true) ∧ (mt.1.name = "<init>" → meth.name = mt.1.name) ∧ meth.locks = false ∧ Env D cI cM cP z b L xs sA vA vF s
def ssz (n : Nat) : Nat := ((KKl.take n).map (·.2)).sum
theorem ssz_succ {n k sz : Nat} (h : KKl[n]? = some (k, sz)) : ssz (n + 1) = ssz n + sz := by
  unfold ssz
  rw [List.take_add_one, h]
  simp
theorem ssz_le {n n' : Nat} (h : n ≤ n') : ssz n ≤ ssz n' := by
  unfold ssz
  obtain ⟨k, rfl⟩ := Nat.exists_eq_add_of_le h
  rw [List.take_add, List.map_append, List.sum_append]
  omega
