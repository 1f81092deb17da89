/-! THE LINK, 4: one instruction -/
theorem tr_rf {z : Nat} {T : UInt32 → Value} {o : Option Nat} : tr z T (va_rf o) = va_rf (o.map (fun i => z + i)) := by cases o <;> rfl
theorem isA_cat {v : Value} (h : isA v = true) : v.category = 1 := by cases v <;> first | rfl | cases h
theorem va_P1 {D : va_G} {cl : List vw_C} {q : Nat × va_E} {H : Heap} (h : va_at D cl q H) : va_P D cl [q] H := by
  intro k x hx
  cases k with
  | zero => cases hx; exact h
  | succ k => simp at hx
theorem cat_map {z : Nat} {T : UInt32 → Value} (hT : TOk T) (r : List Value) : ((r.map (tr z T)).map fun v => v.category) = r.map Value.category := by
  rw [List.map_map]
  exact List.map_congr_left fun v _ => tr_cat hT
theorem fv_get {z ci sz k : Nat} {f : FF} {g : GG} {a : Nat} (hk : k < sz) : ((List.range sz).map fun j => fv z ci j (f a j) (g a j))[k]? = some (fv z ci k (f a k) (g a k)) := by
  rw [List.getElem?_map, List.getElem?_range hk]
  rfl
theorem cellE_o {cI cM cP : ClassId} {z i k sz : Nat} {f : FF} {g : GG} (h : k < 20) : cellE cI cM cP z f g i k sz = .inr (k, (List.range sz).map fun j => fv z k j (f i j) (g i j)) := if_pos h
theorem cellE_i {cI cM cP : ClassId} {z i sz : Nat} {f : FF} {g : GG} : cellE cI cM cP z f g i 20 sz = .inl (cI, sz, .inl (f i)) := rfl
theorem cellE_q {cI cM cP : ClassId} {z i k sz : Nat} {f : FF} {g : GG} (h : 20 < k) : cellE cI cM cP z f g i k sz = .inl (clA cI cM cP k, sz, .inr (.inr (.inr (.inr fun j => (g i j).map (fun x => z + x))))) := by
  unfold cellE
  rw [if_neg (by omega), if_neg (by omega)]
theorem KK_ok : (KKl.all fun q => decide (q.1 < 20 → (vwCl[q.1]?).map (·.2.2) = some q.2) && decide (q.1 ≤ 22) && decide (q.2 ≤ 1000)) = true := by decide +kernel
theorem KK_cls {n k sz : Nat} (h : KKl[n]? = some (k, sz)) (hk : k < 20) : ∃ q, vwCl[k]? = some q ∧ q.2.2 = sz := by
  have := List.all_eq_true.mp KK_ok (k, sz) (List.mem_of_getElem? h)
  simp only [Bool.and_eq_true, decide_eq_true_eq] at this
  have h1 := this.1.1 hk
  rw [Option.map_eq_some_iff] at h1
  exact h1
theorem KK_22 {n k sz : Nat} (h : KKl[n]? = some (k, sz)) : k ≤ 22 ∧ sz ≤ 1000 := by
  have := List.all_eq_true.mp KK_ok (k, sz) (List.mem_of_getElem? h)
  simp only [Bool.and_eq_true, decide_eq_true_eq] at this
  exact ⟨this.1.2, this.2⟩
section ONE
variable {D : va_G} {cI cM cP : ClassId} {z b L sA vA : Nat} {xs : Nat → Int32} {vF : Value}
variable {p : Program} {l : Launch} {e : Jvm.Env} {R : Room} {s : State} {m : MethodId} {args : Array Value} {below : List Frame} {meth : Method} {c : Code} {H : Heap} {locs : List Loc} {cells slots : Nat} {Q : State → Prop}
variable {mt : Mth} {pc n pc1 n1 : Nat} {ls ls1 : LL} {st sta : List Value} {f f1 : FF} {g g1 : GG} {la : Array Slot}
set_option maxHeartbeats 1000000 in
theorem si_iload {k : Nat} {q A1 B1 : Nat} {cv : Int32} (C : Cx D cI cM cP z b L xs sA vA vF mt p s m args meth c) (hok : okE mt pc (.iload k, q, A1, B1, cv) = true) (hst : stp KKl (xs, L) (.iload k, q, A1, B1, cv) pc ls st n f g = some (pc1, ls1, sta, n1, f1, g1)) (hL : LR z (tk b sA vA vF) mt.2.2.1 ls la) (hW : Wd D cI cM cP z n f g H) (hS : va_S (fun q => z ≤ q) s.heap H locs) (hR : 1 ≤ R.frames ∧ 64 ≤ R.locals ∧ cells + (n1 - n) ≤ R.cells ∧ slots + (ssz n1 - ssz n) ≤ R.slots) (kk : ∀ (la1 : Array Slot) (H1 : Heap) (locs1 : List Loc), LR z (tk b sA vA vF) mt.2.2.1 ls1 la1 → Wd D cI cM cP z n1 f1 g1 H1 → va_S (fun q => z ≤ q) s.heap H1 locs1 → W p l e R s m args below meth c H1 locs1 (cells + (n1 - n)) (slots + (ssz n1 - ssz n)) Q (F0 m pc1 la1 (sta.map (tr z (tk b sA vA vF))))) : W p l e R s m args below meth c H locs cells slots Q (F0 m pc la (st.map (tr z (tk b sA vA vF)))) := by
  obtain ⟨hx, hb, hml, hr, hown, hts, hnm, hlk, hE⟩ := C
  have hT := hE.T
  simp only [okE, okW, Bool.and_eq_true, decide_eq_true_eq] at hok
  obtain ⟨hd, hw⟩ := hok
  simp only [stp] at hst
  subst hw
  rw [Nat.add_sub_cancel_left] at hd
  obtain ⟨v, hv, rfl, rfl, rfl, rfl, rfl, rfl⟩ := pu_inv hst
  obtain ⟨x, hl, rfl⟩ := ldI_inv hv
  simp only [Nat.sub_self, Nat.add_zero] at kk
  exact lv_iload hx hb hd (hL.get hl) (kk la H locs hL hW hS)
set_option maxHeartbeats 1000000 in
theorem si_iload_n {k : Fin 4} {q A1 B1 : Nat} {cv : Int32} (C : Cx D cI cM cP z b L xs sA vA vF mt p s m args meth c) (hok : okE mt pc (.iload_n k, q, A1, B1, cv) = true) (hst : stp KKl (xs, L) (.iload_n k, q, A1, B1, cv) pc ls st n f g = some (pc1, ls1, sta, n1, f1, g1)) (hL : LR z (tk b sA vA vF) mt.2.2.1 ls la) (hW : Wd D cI cM cP z n f g H) (hS : va_S (fun q => z ≤ q) s.heap H locs) (hR : 1 ≤ R.frames ∧ 64 ≤ R.locals ∧ cells + (n1 - n) ≤ R.cells ∧ slots + (ssz n1 - ssz n) ≤ R.slots) (kk : ∀ (la1 : Array Slot) (H1 : Heap) (locs1 : List Loc), LR z (tk b sA vA vF) mt.2.2.1 ls1 la1 → Wd D cI cM cP z n1 f1 g1 H1 → va_S (fun q => z ≤ q) s.heap H1 locs1 → W p l e R s m args below meth c H1 locs1 (cells + (n1 - n)) (slots + (ssz n1 - ssz n)) Q (F0 m pc1 la1 (sta.map (tr z (tk b sA vA vF))))) : W p l e R s m args below meth c H locs cells slots Q (F0 m pc la (st.map (tr z (tk b sA vA vF)))) := by
  obtain ⟨hx, hb, hml, hr, hown, hts, hnm, hlk, hE⟩ := C
  have hT := hE.T
  simp only [okE, okW, Bool.and_eq_true, decide_eq_true_eq] at hok
  obtain ⟨hd, hw⟩ := hok
  simp only [stp] at hst
  subst hw
  rw [Nat.add_sub_cancel_left] at hd
  obtain ⟨v, hv, rfl, rfl, rfl, rfl, rfl, rfl⟩ := pu_inv hst
  obtain ⟨x, hl, rfl⟩ := ldI_inv hv
  simp only [Nat.sub_self, Nat.add_zero] at kk
  exact lv_iload_n hx hb hd rfl (hL.get hl) (kk la H locs hL hW hS)
set_option maxHeartbeats 1000000 in
theorem si_lload {k : Nat} {q A1 B1 : Nat} {cv : Int32} (C : Cx D cI cM cP z b L xs sA vA vF mt p s m args meth c) (hok : okE mt pc (.lload k, q, A1, B1, cv) = true) (hst : stp KKl (xs, L) (.lload k, q, A1, B1, cv) pc ls st n f g = some (pc1, ls1, sta, n1, f1, g1)) (hL : LR z (tk b sA vA vF) mt.2.2.1 ls la) (hW : Wd D cI cM cP z n f g H) (hS : va_S (fun q => z ≤ q) s.heap H locs) (hR : 1 ≤ R.frames ∧ 64 ≤ R.locals ∧ cells + (n1 - n) ≤ R.cells ∧ slots + (ssz n1 - ssz n) ≤ R.slots) (kk : ∀ (la1 : Array Slot) (H1 : Heap) (locs1 : List Loc), LR z (tk b sA vA vF) mt.2.2.1 ls1 la1 → Wd D cI cM cP z n1 f1 g1 H1 → va_S (fun q => z ≤ q) s.heap H1 locs1 → W p l e R s m args below meth c H1 locs1 (cells + (n1 - n)) (slots + (ssz n1 - ssz n)) Q (F0 m pc1 la1 (sta.map (tr z (tk b sA vA vF))))) : W p l e R s m args below meth c H locs cells slots Q (F0 m pc la (st.map (tr z (tk b sA vA vF)))) := by
  obtain ⟨hx, hb, hml, hr, hown, hts, hnm, hlk, hE⟩ := C
  have hT := hE.T
  simp only [okE, okW, Bool.and_eq_true, decide_eq_true_eq] at hok
  obtain ⟨hd, hw⟩ := hok
  simp only [stp] at hst
  subst hw
  rw [Nat.add_sub_cancel_left] at hd
  obtain ⟨v, hv, rfl, rfl, rfl, rfl, rfl, rfl⟩ := pu_inv hst
  obtain ⟨x, hl, rfl⟩ := ldL_inv hv
  simp only [Nat.sub_self, Nat.add_zero] at kk
  exact lv_lload hx hb hd (hL.get hl) (kk la H locs hL hW hS)
set_option maxHeartbeats 1000000 in
theorem si_lload_n {k : Fin 4} {q A1 B1 : Nat} {cv : Int32} (C : Cx D cI cM cP z b L xs sA vA vF mt p s m args meth c) (hok : okE mt pc (.lload_n k, q, A1, B1, cv) = true) (hst : stp KKl (xs, L) (.lload_n k, q, A1, B1, cv) pc ls st n f g = some (pc1, ls1, sta, n1, f1, g1)) (hL : LR z (tk b sA vA vF) mt.2.2.1 ls la) (hW : Wd D cI cM cP z n f g H) (hS : va_S (fun q => z ≤ q) s.heap H locs) (hR : 1 ≤ R.frames ∧ 64 ≤ R.locals ∧ cells + (n1 - n) ≤ R.cells ∧ slots + (ssz n1 - ssz n) ≤ R.slots) (kk : ∀ (la1 : Array Slot) (H1 : Heap) (locs1 : List Loc), LR z (tk b sA vA vF) mt.2.2.1 ls1 la1 → Wd D cI cM cP z n1 f1 g1 H1 → va_S (fun q => z ≤ q) s.heap H1 locs1 → W p l e R s m args below meth c H1 locs1 (cells + (n1 - n)) (slots + (ssz n1 - ssz n)) Q (F0 m pc1 la1 (sta.map (tr z (tk b sA vA vF))))) : W p l e R s m args below meth c H locs cells slots Q (F0 m pc la (st.map (tr z (tk b sA vA vF)))) := by
  obtain ⟨hx, hb, hml, hr, hown, hts, hnm, hlk, hE⟩ := C
  have hT := hE.T
  simp only [okE, okW, Bool.and_eq_true, decide_eq_true_eq] at hok
  obtain ⟨hd, hw⟩ := hok
  simp only [stp] at hst
  subst hw
  rw [Nat.add_sub_cancel_left] at hd
  obtain ⟨v, hv, rfl, rfl, rfl, rfl, rfl, rfl⟩ := pu_inv hst
  obtain ⟨x, hl, rfl⟩ := ldL_inv hv
  simp only [Nat.sub_self, Nat.add_zero] at kk
  exact lv_lload_n hx hb hd rfl (hL.get hl) (kk la H locs hL hW hS)
set_option maxHeartbeats 1000000 in
theorem si_aload {k : Nat} {q A1 B1 : Nat} {cv : Int32} (C : Cx D cI cM cP z b L xs sA vA vF mt p s m args meth c) (hok : okE mt pc (.aload k, q, A1, B1, cv) = true) (hst : stp KKl (xs, L) (.aload k, q, A1, B1, cv) pc ls st n f g = some (pc1, ls1, sta, n1, f1, g1)) (hL : LR z (tk b sA vA vF) mt.2.2.1 ls la) (hW : Wd D cI cM cP z n f g H) (hS : va_S (fun q => z ≤ q) s.heap H locs) (hR : 1 ≤ R.frames ∧ 64 ≤ R.locals ∧ cells + (n1 - n) ≤ R.cells ∧ slots + (ssz n1 - ssz n) ≤ R.slots) (kk : ∀ (la1 : Array Slot) (H1 : Heap) (locs1 : List Loc), LR z (tk b sA vA vF) mt.2.2.1 ls1 la1 → Wd D cI cM cP z n1 f1 g1 H1 → va_S (fun q => z ≤ q) s.heap H1 locs1 → W p l e R s m args below meth c H1 locs1 (cells + (n1 - n)) (slots + (ssz n1 - ssz n)) Q (F0 m pc1 la1 (sta.map (tr z (tk b sA vA vF))))) : W p l e R s m args below meth c H locs cells slots Q (F0 m pc la (st.map (tr z (tk b sA vA vF)))) := by
  obtain ⟨hx, hb, hml, hr, hown, hts, hnm, hlk, hE⟩ := C
  have hT := hE.T
  simp only [okE, okW, Bool.and_eq_true, decide_eq_true_eq] at hok
  obtain ⟨hd, hw⟩ := hok
  simp only [stp] at hst
  subst hw
  rw [Nat.add_sub_cancel_left] at hd
  obtain ⟨v, hv, rfl, rfl, rfl, rfl, rfl, rfl⟩ := pu_inv hst
  obtain ⟨hl, hA⟩ := ldA_inv hv
  simp only [Nat.sub_self, Nat.add_zero] at kk
  have hg := hL.get hl
  have k2 := kk la H locs hL hW hS
  rw [List.map_cons] at k2
  rcases tr_A (z := z) hT hA with h | ⟨a, h⟩
  · rw [h] at hg k2
    exact lv_aloadN hx hb hd hg k2
  · rw [h] at hg k2
    exact lv_aload hx hb hd hg k2
set_option maxHeartbeats 1000000 in
theorem si_aload_n {k : Fin 4} {q A1 B1 : Nat} {cv : Int32} (C : Cx D cI cM cP z b L xs sA vA vF mt p s m args meth c) (hok : okE mt pc (.aload_n k, q, A1, B1, cv) = true) (hst : stp KKl (xs, L) (.aload_n k, q, A1, B1, cv) pc ls st n f g = some (pc1, ls1, sta, n1, f1, g1)) (hL : LR z (tk b sA vA vF) mt.2.2.1 ls la) (hW : Wd D cI cM cP z n f g H) (hS : va_S (fun q => z ≤ q) s.heap H locs) (hR : 1 ≤ R.frames ∧ 64 ≤ R.locals ∧ cells + (n1 - n) ≤ R.cells ∧ slots + (ssz n1 - ssz n) ≤ R.slots) (kk : ∀ (la1 : Array Slot) (H1 : Heap) (locs1 : List Loc), LR z (tk b sA vA vF) mt.2.2.1 ls1 la1 → Wd D cI cM cP z n1 f1 g1 H1 → va_S (fun q => z ≤ q) s.heap H1 locs1 → W p l e R s m args below meth c H1 locs1 (cells + (n1 - n)) (slots + (ssz n1 - ssz n)) Q (F0 m pc1 la1 (sta.map (tr z (tk b sA vA vF))))) : W p l e R s m args below meth c H locs cells slots Q (F0 m pc la (st.map (tr z (tk b sA vA vF)))) := by
  obtain ⟨hx, hb, hml, hr, hown, hts, hnm, hlk, hE⟩ := C
  have hT := hE.T
  simp only [okE, okW, Bool.and_eq_true, decide_eq_true_eq] at hok
  obtain ⟨hd, hw⟩ := hok
  simp only [stp] at hst
  subst hw
  rw [Nat.add_sub_cancel_left] at hd
  obtain ⟨v, hv, rfl, rfl, rfl, rfl, rfl, rfl⟩ := pu_inv hst
  obtain ⟨hl, hA⟩ := ldA_inv hv
  simp only [Nat.sub_self, Nat.add_zero] at kk
  have hg := hL.get hl
  have k2 := kk la H locs hL hW hS
  rw [List.map_cons] at k2
  rcases tr_A (z := z) hT hA with h | ⟨a, h⟩
  · rw [h] at hg k2
    exact lv_aload_nN hx hb hd rfl hg k2
  · rw [h] at hg k2
    exact lv_aload_n hx hb hd rfl hg k2
set_option maxHeartbeats 1000000 in
theorem si_istore {k : Nat} {q A1 B1 : Nat} {cv : Int32} (C : Cx D cI cM cP z b L xs sA vA vF mt p s m args meth c) (hok : okE mt pc (.istore k, q, A1, B1, cv) = true) (hst : stp KKl (xs, L) (.istore k, q, A1, B1, cv) pc ls st n f g = some (pc1, ls1, sta, n1, f1, g1)) (hL : LR z (tk b sA vA vF) mt.2.2.1 ls la) (hW : Wd D cI cM cP z n f g H) (hS : va_S (fun q => z ≤ q) s.heap H locs) (hR : 1 ≤ R.frames ∧ 64 ≤ R.locals ∧ cells + (n1 - n) ≤ R.cells ∧ slots + (ssz n1 - ssz n) ≤ R.slots) (kk : ∀ (la1 : Array Slot) (H1 : Heap) (locs1 : List Loc), LR z (tk b sA vA vF) mt.2.2.1 ls1 la1 → Wd D cI cM cP z n1 f1 g1 H1 → va_S (fun q => z ≤ q) s.heap H1 locs1 → W p l e R s m args below meth c H1 locs1 (cells + (n1 - n)) (slots + (ssz n1 - ssz n)) Q (F0 m pc1 la1 (sta.map (tr z (tk b sA vA vF))))) : W p l e R s m args below meth c H locs cells slots Q (F0 m pc la (st.map (tr z (tk b sA vA vF)))) := by
  obtain ⟨hx, hb, hml, hr, hown, hts, hnm, hlk, hE⟩ := C
  have hT := hE.T
  simp only [okE, okW, Bool.and_eq_true, decide_eq_true_eq] at hok
  obtain ⟨hd, hw⟩ := hok
  simp only [stp] at hst
  obtain ⟨hw, hkl⟩ := hw
  subst hw
  rw [Nat.add_sub_cancel_left] at hd
  split at hst
  · cases hst
    simp only [Nat.sub_self, Nat.add_zero] at kk
    exact lv_istore hx hb hd hL.1 hkl rfl (fun la1 h1 => kk la1 H locs (LR_st1 hT hL rfl h1) hW hS)
  · cases hst
set_option maxHeartbeats 1000000 in
theorem si_istore_n {k : Fin 4} {q A1 B1 : Nat} {cv : Int32} (C : Cx D cI cM cP z b L xs sA vA vF mt p s m args meth c) (hok : okE mt pc (.istore_n k, q, A1, B1, cv) = true) (hst : stp KKl (xs, L) (.istore_n k, q, A1, B1, cv) pc ls st n f g = some (pc1, ls1, sta, n1, f1, g1)) (hL : LR z (tk b sA vA vF) mt.2.2.1 ls la) (hW : Wd D cI cM cP z n f g H) (hS : va_S (fun q => z ≤ q) s.heap H locs) (hR : 1 ≤ R.frames ∧ 64 ≤ R.locals ∧ cells + (n1 - n) ≤ R.cells ∧ slots + (ssz n1 - ssz n) ≤ R.slots) (kk : ∀ (la1 : Array Slot) (H1 : Heap) (locs1 : List Loc), LR z (tk b sA vA vF) mt.2.2.1 ls1 la1 → Wd D cI cM cP z n1 f1 g1 H1 → va_S (fun q => z ≤ q) s.heap H1 locs1 → W p l e R s m args below meth c H1 locs1 (cells + (n1 - n)) (slots + (ssz n1 - ssz n)) Q (F0 m pc1 la1 (sta.map (tr z (tk b sA vA vF))))) : W p l e R s m args below meth c H locs cells slots Q (F0 m pc la (st.map (tr z (tk b sA vA vF)))) := by
  obtain ⟨hx, hb, hml, hr, hown, hts, hnm, hlk, hE⟩ := C
  have hT := hE.T
  simp only [okE, okW, Bool.and_eq_true, decide_eq_true_eq] at hok
  obtain ⟨hd, hw⟩ := hok
  simp only [stp] at hst
  obtain ⟨hw, hkl⟩ := hw
  subst hw
  rw [Nat.add_sub_cancel_left] at hd
  split at hst
  · cases hst
    simp only [Nat.sub_self, Nat.add_zero] at kk
    exact lv_istore_n hx hb hd rfl hL.1 hkl rfl (fun la1 h1 => kk la1 H locs (LR_st1 hT hL rfl h1) hW hS)
  · cases hst
set_option maxHeartbeats 1000000 in
theorem si_lstore {k : Nat} {q A1 B1 : Nat} {cv : Int32} (C : Cx D cI cM cP z b L xs sA vA vF mt p s m args meth c) (hok : okE mt pc (.lstore k, q, A1, B1, cv) = true) (hst : stp KKl (xs, L) (.lstore k, q, A1, B1, cv) pc ls st n f g = some (pc1, ls1, sta, n1, f1, g1)) (hL : LR z (tk b sA vA vF) mt.2.2.1 ls la) (hW : Wd D cI cM cP z n f g H) (hS : va_S (fun q => z ≤ q) s.heap H locs) (hR : 1 ≤ R.frames ∧ 64 ≤ R.locals ∧ cells + (n1 - n) ≤ R.cells ∧ slots + (ssz n1 - ssz n) ≤ R.slots) (kk : ∀ (la1 : Array Slot) (H1 : Heap) (locs1 : List Loc), LR z (tk b sA vA vF) mt.2.2.1 ls1 la1 → Wd D cI cM cP z n1 f1 g1 H1 → va_S (fun q => z ≤ q) s.heap H1 locs1 → W p l e R s m args below meth c H1 locs1 (cells + (n1 - n)) (slots + (ssz n1 - ssz n)) Q (F0 m pc1 la1 (sta.map (tr z (tk b sA vA vF))))) : W p l e R s m args below meth c H locs cells slots Q (F0 m pc la (st.map (tr z (tk b sA vA vF)))) := by
  obtain ⟨hx, hb, hml, hr, hown, hts, hnm, hlk, hE⟩ := C
  have hT := hE.T
  simp only [okE, okW, Bool.and_eq_true, decide_eq_true_eq] at hok
  obtain ⟨hd, hw⟩ := hok
  simp only [stp] at hst
  obtain ⟨hw, hkl⟩ := hw
  subst hw
  rw [Nat.add_sub_cancel_left] at hd
  split at hst
  · cases hst
    simp only [Nat.sub_self, Nat.add_zero] at kk
    exact lv_lstore hx hb hd hL.1 hkl rfl (fun la1 h1 => kk la1 H locs (LR_st2 hT hL h1) hW hS)
  · cases hst
set_option maxHeartbeats 1000000 in
theorem si_lstore_n {k : Fin 4} {q A1 B1 : Nat} {cv : Int32} (C : Cx D cI cM cP z b L xs sA vA vF mt p s m args meth c) (hok : okE mt pc (.lstore_n k, q, A1, B1, cv) = true) (hst : stp KKl (xs, L) (.lstore_n k, q, A1, B1, cv) pc ls st n f g = some (pc1, ls1, sta, n1, f1, g1)) (hL : LR z (tk b sA vA vF) mt.2.2.1 ls la) (hW : Wd D cI cM cP z n f g H) (hS : va_S (fun q => z ≤ q) s.heap H locs) (hR : 1 ≤ R.frames ∧ 64 ≤ R.locals ∧ cells + (n1 - n) ≤ R.cells ∧ slots + (ssz n1 - ssz n) ≤ R.slots) (kk : ∀ (la1 : Array Slot) (H1 : Heap) (locs1 : List Loc), LR z (tk b sA vA vF) mt.2.2.1 ls1 la1 → Wd D cI cM cP z n1 f1 g1 H1 → va_S (fun q => z ≤ q) s.heap H1 locs1 → W p l e R s m args below meth c H1 locs1 (cells + (n1 - n)) (slots + (ssz n1 - ssz n)) Q (F0 m pc1 la1 (sta.map (tr z (tk b sA vA vF))))) : W p l e R s m args below meth c H locs cells slots Q (F0 m pc la (st.map (tr z (tk b sA vA vF)))) := by
  obtain ⟨hx, hb, hml, hr, hown, hts, hnm, hlk, hE⟩ := C
  have hT := hE.T
  simp only [okE, okW, Bool.and_eq_true, decide_eq_true_eq] at hok
  obtain ⟨hd, hw⟩ := hok
  simp only [stp] at hst
  obtain ⟨hw, hkl⟩ := hw
  subst hw
  rw [Nat.add_sub_cancel_left] at hd
  split at hst
  · cases hst
    simp only [Nat.sub_self, Nat.add_zero] at kk
    exact lv_lstore_n hx hb hd rfl hL.1 hkl rfl (fun la1 h1 => kk la1 H locs (LR_st2 hT hL h1) hW hS)
  · cases hst
set_option maxHeartbeats 1000000 in
theorem si_astore {k : Nat} {q A1 B1 : Nat} {cv : Int32} (C : Cx D cI cM cP z b L xs sA vA vF mt p s m args meth c) (hok : okE mt pc (.astore k, q, A1, B1, cv) = true) (hst : stp KKl (xs, L) (.astore k, q, A1, B1, cv) pc ls st n f g = some (pc1, ls1, sta, n1, f1, g1)) (hL : LR z (tk b sA vA vF) mt.2.2.1 ls la) (hW : Wd D cI cM cP z n f g H) (hS : va_S (fun q => z ≤ q) s.heap H locs) (hR : 1 ≤ R.frames ∧ 64 ≤ R.locals ∧ cells + (n1 - n) ≤ R.cells ∧ slots + (ssz n1 - ssz n) ≤ R.slots) (kk : ∀ (la1 : Array Slot) (H1 : Heap) (locs1 : List Loc), LR z (tk b sA vA vF) mt.2.2.1 ls1 la1 → Wd D cI cM cP z n1 f1 g1 H1 → va_S (fun q => z ≤ q) s.heap H1 locs1 → W p l e R s m args below meth c H1 locs1 (cells + (n1 - n)) (slots + (ssz n1 - ssz n)) Q (F0 m pc1 la1 (sta.map (tr z (tk b sA vA vF))))) : W p l e R s m args below meth c H locs cells slots Q (F0 m pc la (st.map (tr z (tk b sA vA vF)))) := by
  obtain ⟨hx, hb, hml, hr, hown, hts, hnm, hlk, hE⟩ := C
  have hT := hE.T
  simp only [okE, okW, Bool.and_eq_true, decide_eq_true_eq] at hok
  obtain ⟨hd, hw⟩ := hok
  simp only [stp] at hst
  obtain ⟨hw, hkl⟩ := hw
  subst hw
  rw [Nat.add_sub_cancel_left] at hd
  split at hst
  · split at hst
    · rename_i hA
      cases hst
      simp only [Nat.sub_self, Nat.add_zero] at kk
      rw [List.map_cons]
      rcases tr_A (z := z) hT hA with h | ⟨a, h⟩
      · rw [h]
        exact lv_astoreN hx hb hd hL.1 hkl rfl (fun la1 h1 => kk la1 H locs (LR_st1 hT hL (isA_cat hA) (by rw [h]; exact h1)) hW hS)
      · rw [h]
        exact lv_astore hx hb hd hL.1 hkl rfl (fun la1 h1 => kk la1 H locs (LR_st1 hT hL (isA_cat hA) (by rw [h]; exact h1)) hW hS)
    · cases hst
  · cases hst
set_option maxHeartbeats 1000000 in
theorem si_astore_n {k : Fin 4} {q A1 B1 : Nat} {cv : Int32} (C : Cx D cI cM cP z b L xs sA vA vF mt p s m args meth c) (hok : okE mt pc (.astore_n k, q, A1, B1, cv) = true) (hst : stp KKl (xs, L) (.astore_n k, q, A1, B1, cv) pc ls st n f g = some (pc1, ls1, sta, n1, f1, g1)) (hL : LR z (tk b sA vA vF) mt.2.2.1 ls la) (hW : Wd D cI cM cP z n f g H) (hS : va_S (fun q => z ≤ q) s.heap H locs) (hR : 1 ≤ R.frames ∧ 64 ≤ R.locals ∧ cells + (n1 - n) ≤ R.cells ∧ slots + (ssz n1 - ssz n) ≤ R.slots) (kk : ∀ (la1 : Array Slot) (H1 : Heap) (locs1 : List Loc), LR z (tk b sA vA vF) mt.2.2.1 ls1 la1 → Wd D cI cM cP z n1 f1 g1 H1 → va_S (fun q => z ≤ q) s.heap H1 locs1 → W p l e R s m args below meth c H1 locs1 (cells + (n1 - n)) (slots + (ssz n1 - ssz n)) Q (F0 m pc1 la1 (sta.map (tr z (tk b sA vA vF))))) : W p l e R s m args below meth c H locs cells slots Q (F0 m pc la (st.map (tr z (tk b sA vA vF)))) := by
  obtain ⟨hx, hb, hml, hr, hown, hts, hnm, hlk, hE⟩ := C
  have hT := hE.T
  simp only [okE, okW, Bool.and_eq_true, decide_eq_true_eq] at hok
  obtain ⟨hd, hw⟩ := hok
  simp only [stp] at hst
  obtain ⟨hw, hkl⟩ := hw
  subst hw
  rw [Nat.add_sub_cancel_left] at hd
  split at hst
  · split at hst
    · rename_i hA
      cases hst
      simp only [Nat.sub_self, Nat.add_zero] at kk
      rw [List.map_cons]
      rcases tr_A (z := z) hT hA with h | ⟨a, h⟩
      · rw [h]
        exact lv_astore_nN hx hb hd rfl hL.1 hkl rfl (fun la1 h1 => kk la1 H locs (LR_st1 hT hL (isA_cat hA) (by rw [h]; exact h1)) hW hS)
      · rw [h]
        exact lv_astore_n hx hb hd rfl hL.1 hkl rfl (fun la1 h1 => kk la1 H locs (LR_st1 hT hL (isA_cat hA) (by rw [h]; exact h1)) hW hS)
    · cases hst
  · cases hst
set_option maxHeartbeats 1000000 in
theorem si_iinc {k : Nat} {w : Int} {q A1 B1 : Nat} {cv : Int32} (C : Cx D cI cM cP z b L xs sA vA vF mt p s m args meth c) (hok : okE mt pc (.iinc k w, q, A1, B1, cv) = true) (hst : stp KKl (xs, L) (.iinc k w, q, A1, B1, cv) pc ls st n f g = some (pc1, ls1, sta, n1, f1, g1)) (hL : LR z (tk b sA vA vF) mt.2.2.1 ls la) (hW : Wd D cI cM cP z n f g H) (hS : va_S (fun q => z ≤ q) s.heap H locs) (hR : 1 ≤ R.frames ∧ 64 ≤ R.locals ∧ cells + (n1 - n) ≤ R.cells ∧ slots + (ssz n1 - ssz n) ≤ R.slots) (kk : ∀ (la1 : Array Slot) (H1 : Heap) (locs1 : List Loc), LR z (tk b sA vA vF) mt.2.2.1 ls1 la1 → Wd D cI cM cP z n1 f1 g1 H1 → va_S (fun q => z ≤ q) s.heap H1 locs1 → W p l e R s m args below meth c H1 locs1 (cells + (n1 - n)) (slots + (ssz n1 - ssz n)) Q (F0 m pc1 la1 (sta.map (tr z (tk b sA vA vF))))) : W p l e R s m args below meth c H locs cells slots Q (F0 m pc la (st.map (tr z (tk b sA vA vF)))) := by
  obtain ⟨hx, hb, hml, hr, hown, hts, hnm, hlk, hE⟩ := C
  have hT := hE.T
  simp only [okE, okW, Bool.and_eq_true, decide_eq_true_eq] at hok
  obtain ⟨hd, hw⟩ := hok
  simp only [stp] at hst
  obtain ⟨hw, hkl, hv⟩ := hw
  subst hw
  rw [Nat.add_sub_cancel_left] at hd
  split at hst
  · rename_i x hl
    cases hst
    simp only [Nat.sub_self, Nat.add_zero] at kk
    obtain ⟨i, hi⟩ := List.getElem?_of_mem (al_mem (z := z) (T := (tk b sA vA vF)) (ls := ls) (q := (k, .int x)) |>.mpr ⟨.int x, hl, rfl⟩)
    exact lv_iinc hx hb hd hL.1 hi (v := x + cv) (by rw [hv]) hkl rfl (fun la1 h1 => kk la1 H locs (LR_st1 (v := .int (x + cv)) hT hL rfl h1) hW hS)
  · cases hst
set_option maxHeartbeats 1000000 in
theorem si_iconst {w : Int} {q A1 B1 : Nat} {cv : Int32} (C : Cx D cI cM cP z b L xs sA vA vF mt p s m args meth c) (hok : okE mt pc (.iconst w, q, A1, B1, cv) = true) (hst : stp KKl (xs, L) (.iconst w, q, A1, B1, cv) pc ls st n f g = some (pc1, ls1, sta, n1, f1, g1)) (hL : LR z (tk b sA vA vF) mt.2.2.1 ls la) (hW : Wd D cI cM cP z n f g H) (hS : va_S (fun q => z ≤ q) s.heap H locs) (hR : 1 ≤ R.frames ∧ 64 ≤ R.locals ∧ cells + (n1 - n) ≤ R.cells ∧ slots + (ssz n1 - ssz n) ≤ R.slots) (kk : ∀ (la1 : Array Slot) (H1 : Heap) (locs1 : List Loc), LR z (tk b sA vA vF) mt.2.2.1 ls1 la1 → Wd D cI cM cP z n1 f1 g1 H1 → va_S (fun q => z ≤ q) s.heap H1 locs1 → W p l e R s m args below meth c H1 locs1 (cells + (n1 - n)) (slots + (ssz n1 - ssz n)) Q (F0 m pc1 la1 (sta.map (tr z (tk b sA vA vF))))) : W p l e R s m args below meth c H locs cells slots Q (F0 m pc la (st.map (tr z (tk b sA vA vF)))) := by
  obtain ⟨hx, hb, hml, hr, hown, hts, hnm, hlk, hE⟩ := C
  have hT := hE.T
  simp only [okE, okW, Bool.and_eq_true, decide_eq_true_eq] at hok
  obtain ⟨hd, hw⟩ := hok
  simp only [stp] at hst
  obtain ⟨hw, hv⟩ := hw
  subst hw
  rw [Nat.add_sub_cancel_left] at hd
  cases hst
  simp only [Nat.sub_self, Nat.add_zero] at kk
  exact lv_iconst hx hb hd hv (kk la H locs hL hW hS)
set_option maxHeartbeats 1000000 in
theorem si_bipush {w : Int} {q A1 B1 : Nat} {cv : Int32} (C : Cx D cI cM cP z b L xs sA vA vF mt p s m args meth c) (hok : okE mt pc (.bipush w, q, A1, B1, cv) = true) (hst : stp KKl (xs, L) (.bipush w, q, A1, B1, cv) pc ls st n f g = some (pc1, ls1, sta, n1, f1, g1)) (hL : LR z (tk b sA vA vF) mt.2.2.1 ls la) (hW : Wd D cI cM cP z n f g H) (hS : va_S (fun q => z ≤ q) s.heap H locs) (hR : 1 ≤ R.frames ∧ 64 ≤ R.locals ∧ cells + (n1 - n) ≤ R.cells ∧ slots + (ssz n1 - ssz n) ≤ R.slots) (kk : ∀ (la1 : Array Slot) (H1 : Heap) (locs1 : List Loc), LR z (tk b sA vA vF) mt.2.2.1 ls1 la1 → Wd D cI cM cP z n1 f1 g1 H1 → va_S (fun q => z ≤ q) s.heap H1 locs1 → W p l e R s m args below meth c H1 locs1 (cells + (n1 - n)) (slots + (ssz n1 - ssz n)) Q (F0 m pc1 la1 (sta.map (tr z (tk b sA vA vF))))) : W p l e R s m args below meth c H locs cells slots Q (F0 m pc la (st.map (tr z (tk b sA vA vF)))) := by
  obtain ⟨hx, hb, hml, hr, hown, hts, hnm, hlk, hE⟩ := C
  have hT := hE.T
  simp only [okE, okW, Bool.and_eq_true, decide_eq_true_eq] at hok
  obtain ⟨hd, hw⟩ := hok
  simp only [stp] at hst
  obtain ⟨hw, hv⟩ := hw
  subst hw
  rw [Nat.add_sub_cancel_left] at hd
  cases hst
  simp only [Nat.sub_self, Nat.add_zero] at kk
  exact lv_bipush hx hb hd hv (kk la H locs hL hW hS)
set_option maxHeartbeats 1000000 in
theorem si_sipush {w : Int} {q A1 B1 : Nat} {cv : Int32} (C : Cx D cI cM cP z b L xs sA vA vF mt p s m args meth c) (hok : okE mt pc (.sipush w, q, A1, B1, cv) = true) (hst : stp KKl (xs, L) (.sipush w, q, A1, B1, cv) pc ls st n f g = some (pc1, ls1, sta, n1, f1, g1)) (hL : LR z (tk b sA vA vF) mt.2.2.1 ls la) (hW : Wd D cI cM cP z n f g H) (hS : va_S (fun q => z ≤ q) s.heap H locs) (hR : 1 ≤ R.frames ∧ 64 ≤ R.locals ∧ cells + (n1 - n) ≤ R.cells ∧ slots + (ssz n1 - ssz n) ≤ R.slots) (kk : ∀ (la1 : Array Slot) (H1 : Heap) (locs1 : List Loc), LR z (tk b sA vA vF) mt.2.2.1 ls1 la1 → Wd D cI cM cP z n1 f1 g1 H1 → va_S (fun q => z ≤ q) s.heap H1 locs1 → W p l e R s m args below meth c H1 locs1 (cells + (n1 - n)) (slots + (ssz n1 - ssz n)) Q (F0 m pc1 la1 (sta.map (tr z (tk b sA vA vF))))) : W p l e R s m args below meth c H locs cells slots Q (F0 m pc la (st.map (tr z (tk b sA vA vF)))) := by
  obtain ⟨hx, hb, hml, hr, hown, hts, hnm, hlk, hE⟩ := C
  have hT := hE.T
  simp only [okE, okW, Bool.and_eq_true, decide_eq_true_eq] at hok
  obtain ⟨hd, hw⟩ := hok
  simp only [stp] at hst
  obtain ⟨hw, hv⟩ := hw
  subst hw
  rw [Nat.add_sub_cancel_left] at hd
  cases hst
  simp only [Nat.sub_self, Nat.add_zero] at kk
  exact lv_sipush hx hb hd hv (kk la H locs hL hW hS)
set_option maxHeartbeats 1000000 in
theorem si_lconst {w : Fin 2} {q A1 B1 : Nat} {cv : Int32} (C : Cx D cI cM cP z b L xs sA vA vF mt p s m args meth c) (hok : okE mt pc (.lconst w, q, A1, B1, cv) = true) (hst : stp KKl (xs, L) (.lconst w, q, A1, B1, cv) pc ls st n f g = some (pc1, ls1, sta, n1, f1, g1)) (hL : LR z (tk b sA vA vF) mt.2.2.1 ls la) (hW : Wd D cI cM cP z n f g H) (hS : va_S (fun q => z ≤ q) s.heap H locs) (hR : 1 ≤ R.frames ∧ 64 ≤ R.locals ∧ cells + (n1 - n) ≤ R.cells ∧ slots + (ssz n1 - ssz n) ≤ R.slots) (kk : ∀ (la1 : Array Slot) (H1 : Heap) (locs1 : List Loc), LR z (tk b sA vA vF) mt.2.2.1 ls1 la1 → Wd D cI cM cP z n1 f1 g1 H1 → va_S (fun q => z ≤ q) s.heap H1 locs1 → W p l e R s m args below meth c H1 locs1 (cells + (n1 - n)) (slots + (ssz n1 - ssz n)) Q (F0 m pc1 la1 (sta.map (tr z (tk b sA vA vF))))) : W p l e R s m args below meth c H locs cells slots Q (F0 m pc la (st.map (tr z (tk b sA vA vF)))) := by
  obtain ⟨hx, hb, hml, hr, hown, hts, hnm, hlk, hE⟩ := C
  have hT := hE.T
  simp only [okE, okW, Bool.and_eq_true, decide_eq_true_eq] at hok
  obtain ⟨hd, hw⟩ := hok
  simp only [stp] at hst
  obtain ⟨hw, hv⟩ := hw
  subst hw
  rw [Nat.add_sub_cancel_left] at hd
  cases hst
  simp only [Nat.sub_self, Nat.add_zero] at kk
  exact lv_lconst hx hb hd hv (kk la H locs hL hW hS)
set_option maxHeartbeats 1000000 in
theorem si_ldc {w : Nat} {q A1 B1 : Nat} {cv : Int32} (C : Cx D cI cM cP z b L xs sA vA vF mt p s m args meth c) (hok : okE mt pc (.ldc w, q, A1, B1, cv) = true) (hst : stp KKl (xs, L) (.ldc w, q, A1, B1, cv) pc ls st n f g = some (pc1, ls1, sta, n1, f1, g1)) (hL : LR z (tk b sA vA vF) mt.2.2.1 ls la) (hW : Wd D cI cM cP z n f g H) (hS : va_S (fun q => z ≤ q) s.heap H locs) (hR : 1 ≤ R.frames ∧ 64 ≤ R.locals ∧ cells + (n1 - n) ≤ R.cells ∧ slots + (ssz n1 - ssz n) ≤ R.slots) (kk : ∀ (la1 : Array Slot) (H1 : Heap) (locs1 : List Loc), LR z (tk b sA vA vF) mt.2.2.1 ls1 la1 → Wd D cI cM cP z n1 f1 g1 H1 → va_S (fun q => z ≤ q) s.heap H1 locs1 → W p l e R s m args below meth c H1 locs1 (cells + (n1 - n)) (slots + (ssz n1 - ssz n)) Q (F0 m pc1 la1 (sta.map (tr z (tk b sA vA vF))))) : W p l e R s m args below meth c H locs cells slots Q (F0 m pc la (st.map (tr z (tk b sA vA vF)))) := by
  obtain ⟨hx, hb, hml, hr, hown, hts, hnm, hlk, hE⟩ := C
  have hT := hE.T
  simp only [okE, okW, Bool.and_eq_true, decide_eq_true_eq] at hok
  obtain ⟨hd, hw⟩ := hok
  simp only [stp] at hst
  obtain ⟨hw, hv⟩ := hw
  subst hw
  rw [Nat.add_sub_cancel_left] at hd
  split at hst
  · rename_i hA
    rw [if_pos hA] at hv
    simp only [Bool.and_eq_true, decide_eq_true_eq] at hv
    obtain ⟨hc, rfl⟩ := hv
    cases hst
    simp only [Nat.sub_self, Nat.add_zero] at kk
    rw [hc] at hown
    exact va_ldcS hx hb hown hE.2.2.2.2.1 hd (kk la H locs hL hW hS)
  · rename_i hA
    rw [if_neg hA] at hv
    cases hst
    simp only [Nat.sub_self, Nat.add_zero] at kk
    exact lv_ldc hx hb hown (hts _ (big_in hv rfl)) hd (kk la H locs hL hW hS)
set_option maxHeartbeats 1000000 in
theorem si_ldc_w {w : Nat} {q A1 B1 : Nat} {cv : Int32} (C : Cx D cI cM cP z b L xs sA vA vF mt p s m args meth c) (hok : okE mt pc (.ldc_w w, q, A1, B1, cv) = true) (hst : stp KKl (xs, L) (.ldc_w w, q, A1, B1, cv) pc ls st n f g = some (pc1, ls1, sta, n1, f1, g1)) (hL : LR z (tk b sA vA vF) mt.2.2.1 ls la) (hW : Wd D cI cM cP z n f g H) (hS : va_S (fun q => z ≤ q) s.heap H locs) (hR : 1 ≤ R.frames ∧ 64 ≤ R.locals ∧ cells + (n1 - n) ≤ R.cells ∧ slots + (ssz n1 - ssz n) ≤ R.slots) (kk : ∀ (la1 : Array Slot) (H1 : Heap) (locs1 : List Loc), LR z (tk b sA vA vF) mt.2.2.1 ls1 la1 → Wd D cI cM cP z n1 f1 g1 H1 → va_S (fun q => z ≤ q) s.heap H1 locs1 → W p l e R s m args below meth c H1 locs1 (cells + (n1 - n)) (slots + (ssz n1 - ssz n)) Q (F0 m pc1 la1 (sta.map (tr z (tk b sA vA vF))))) : W p l e R s m args below meth c H locs cells slots Q (F0 m pc la (st.map (tr z (tk b sA vA vF)))) := by
  obtain ⟨hx, hb, hml, hr, hown, hts, hnm, hlk, hE⟩ := C
  have hT := hE.T
  simp only [okE, okW, Bool.and_eq_true, decide_eq_true_eq] at hok
  obtain ⟨hd, hw⟩ := hok
  simp only [stp] at hst
  obtain ⟨hw, hv⟩ := hw
  subst hw
  rw [Nat.add_sub_cancel_left] at hd
  cases hst
  simp only [Nat.sub_self, Nat.add_zero] at kk
  exact lv_ldcw hx hb hown (hts _ (big_in hv rfl)) hd (kk la H locs hL hW hS)
set_option maxHeartbeats 1000000 in
theorem si_ldc2_w {w : Nat} {q A1 B1 : Nat} {cv : Int32} (C : Cx D cI cM cP z b L xs sA vA vF mt p s m args meth c) (hok : okE mt pc (.ldc2_w w, q, A1, B1, cv) = true) (hst : stp KKl (xs, L) (.ldc2_w w, q, A1, B1, cv) pc ls st n f g = some (pc1, ls1, sta, n1, f1, g1)) (hL : LR z (tk b sA vA vF) mt.2.2.1 ls la) (hW : Wd D cI cM cP z n f g H) (hS : va_S (fun q => z ≤ q) s.heap H locs) (hR : 1 ≤ R.frames ∧ 64 ≤ R.locals ∧ cells + (n1 - n) ≤ R.cells ∧ slots + (ssz n1 - ssz n) ≤ R.slots) (kk : ∀ (la1 : Array Slot) (H1 : Heap) (locs1 : List Loc), LR z (tk b sA vA vF) mt.2.2.1 ls1 la1 → Wd D cI cM cP z n1 f1 g1 H1 → va_S (fun q => z ≤ q) s.heap H1 locs1 → W p l e R s m args below meth c H1 locs1 (cells + (n1 - n)) (slots + (ssz n1 - ssz n)) Q (F0 m pc1 la1 (sta.map (tr z (tk b sA vA vF))))) : W p l e R s m args below meth c H locs cells slots Q (F0 m pc la (st.map (tr z (tk b sA vA vF)))) := by
  obtain ⟨hx, hb, hml, hr, hown, hts, hnm, hlk, hE⟩ := C
  have hT := hE.T
  simp only [okE, okW, Bool.and_eq_true, decide_eq_true_eq] at hok
  obtain ⟨hd, hw⟩ := hok
  simp only [stp] at hst
  obtain ⟨hw, hv⟩ := hw
  subst hw
  rw [Nat.add_sub_cancel_left] at hd
  cases hst
  simp only [Nat.sub_self, Nat.add_zero] at kk
  exact lv_ldc2 hx hb hown (hts _ (big_in hv rfl)) hd (kk la H locs hL hW hS)
set_option maxHeartbeats 1000000 in
theorem si_aconst_null {q A1 B1 : Nat} {cv : Int32} (C : Cx D cI cM cP z b L xs sA vA vF mt p s m args meth c) (hok : okE mt pc (.aconst_null, q, A1, B1, cv) = true) (hst : stp KKl (xs, L) (.aconst_null, q, A1, B1, cv) pc ls st n f g = some (pc1, ls1, sta, n1, f1, g1)) (hL : LR z (tk b sA vA vF) mt.2.2.1 ls la) (hW : Wd D cI cM cP z n f g H) (hS : va_S (fun q => z ≤ q) s.heap H locs) (hR : 1 ≤ R.frames ∧ 64 ≤ R.locals ∧ cells + (n1 - n) ≤ R.cells ∧ slots + (ssz n1 - ssz n) ≤ R.slots) (kk : ∀ (la1 : Array Slot) (H1 : Heap) (locs1 : List Loc), LR z (tk b sA vA vF) mt.2.2.1 ls1 la1 → Wd D cI cM cP z n1 f1 g1 H1 → va_S (fun q => z ≤ q) s.heap H1 locs1 → W p l e R s m args below meth c H1 locs1 (cells + (n1 - n)) (slots + (ssz n1 - ssz n)) Q (F0 m pc1 la1 (sta.map (tr z (tk b sA vA vF))))) : W p l e R s m args below meth c H locs cells slots Q (F0 m pc la (st.map (tr z (tk b sA vA vF)))) := by
  obtain ⟨hx, hb, hml, hr, hown, hts, hnm, hlk, hE⟩ := C
  have hT := hE.T
  simp only [okE, okW, Bool.and_eq_true, decide_eq_true_eq] at hok
  obtain ⟨hd, hw⟩ := hok
  simp only [stp] at hst
  subst hw
  rw [Nat.add_sub_cancel_left] at hd
  cases hst
  simp only [Nat.sub_self, Nat.add_zero] at kk
  exact lv_null hx hb hd (kk la H locs hL hW hS)
set_option maxHeartbeats 1000000 in
theorem si_dup {q A1 B1 : Nat} {cv : Int32} (C : Cx D cI cM cP z b L xs sA vA vF mt p s m args meth c) (hok : okE mt pc (.dup, q, A1, B1, cv) = true) (hst : stp KKl (xs, L) (.dup, q, A1, B1, cv) pc ls st n f g = some (pc1, ls1, sta, n1, f1, g1)) (hL : LR z (tk b sA vA vF) mt.2.2.1 ls la) (hW : Wd D cI cM cP z n f g H) (hS : va_S (fun q => z ≤ q) s.heap H locs) (hR : 1 ≤ R.frames ∧ 64 ≤ R.locals ∧ cells + (n1 - n) ≤ R.cells ∧ slots + (ssz n1 - ssz n) ≤ R.slots) (kk : ∀ (la1 : Array Slot) (H1 : Heap) (locs1 : List Loc), LR z (tk b sA vA vF) mt.2.2.1 ls1 la1 → Wd D cI cM cP z n1 f1 g1 H1 → va_S (fun q => z ≤ q) s.heap H1 locs1 → W p l e R s m args below meth c H1 locs1 (cells + (n1 - n)) (slots + (ssz n1 - ssz n)) Q (F0 m pc1 la1 (sta.map (tr z (tk b sA vA vF))))) : W p l e R s m args below meth c H locs cells slots Q (F0 m pc la (st.map (tr z (tk b sA vA vF)))) := by
  obtain ⟨hx, hb, hml, hr, hown, hts, hnm, hlk, hE⟩ := C
  have hT := hE.T
  simp only [okE, okW, Bool.and_eq_true, decide_eq_true_eq] at hok
  obtain ⟨hd, hw⟩ := hok
  simp only [stp] at hst
  subst hw
  rw [Nat.add_sub_cancel_left] at hd
  split at hst
  · split at hst
    · rename_i hc
      cases hst
      simp only [Nat.sub_self, Nat.add_zero] at kk
      exact lv_dup hx hb hd ((tr_cat hT).trans hc) (kk la H locs hL hW hS)
    · cases hst
  · cases hst
set_option maxHeartbeats 1000000 in
theorem si_pop {q A1 B1 : Nat} {cv : Int32} (C : Cx D cI cM cP z b L xs sA vA vF mt p s m args meth c) (hok : okE mt pc (.pop, q, A1, B1, cv) = true) (hst : stp KKl (xs, L) (.pop, q, A1, B1, cv) pc ls st n f g = some (pc1, ls1, sta, n1, f1, g1)) (hL : LR z (tk b sA vA vF) mt.2.2.1 ls la) (hW : Wd D cI cM cP z n f g H) (hS : va_S (fun q => z ≤ q) s.heap H locs) (hR : 1 ≤ R.frames ∧ 64 ≤ R.locals ∧ cells + (n1 - n) ≤ R.cells ∧ slots + (ssz n1 - ssz n) ≤ R.slots) (kk : ∀ (la1 : Array Slot) (H1 : Heap) (locs1 : List Loc), LR z (tk b sA vA vF) mt.2.2.1 ls1 la1 → Wd D cI cM cP z n1 f1 g1 H1 → va_S (fun q => z ≤ q) s.heap H1 locs1 → W p l e R s m args below meth c H1 locs1 (cells + (n1 - n)) (slots + (ssz n1 - ssz n)) Q (F0 m pc1 la1 (sta.map (tr z (tk b sA vA vF))))) : W p l e R s m args below meth c H locs cells slots Q (F0 m pc la (st.map (tr z (tk b sA vA vF)))) := by
  obtain ⟨hx, hb, hml, hr, hown, hts, hnm, hlk, hE⟩ := C
  have hT := hE.T
  simp only [okE, okW, Bool.and_eq_true, decide_eq_true_eq] at hok
  obtain ⟨hd, hw⟩ := hok
  simp only [stp] at hst
  subst hw
  rw [Nat.add_sub_cancel_left] at hd
  split at hst
  · split at hst
    · rename_i hc
      cases hst
      simp only [Nat.sub_self, Nat.add_zero] at kk
      exact lv_pop hx hb hd ((tr_cat hT).trans hc) (kk la H locs hL hW hS)
    · cases hst
  · cases hst
set_option maxHeartbeats 1000000 in
theorem si_dup2 {q A1 B1 : Nat} {cv : Int32} (C : Cx D cI cM cP z b L xs sA vA vF mt p s m args meth c) (hok : okE mt pc (.dup2, q, A1, B1, cv) = true) (hst : stp KKl (xs, L) (.dup2, q, A1, B1, cv) pc ls st n f g = some (pc1, ls1, sta, n1, f1, g1)) (hL : LR z (tk b sA vA vF) mt.2.2.1 ls la) (hW : Wd D cI cM cP z n f g H) (hS : va_S (fun q => z ≤ q) s.heap H locs) (hR : 1 ≤ R.frames ∧ 64 ≤ R.locals ∧ cells + (n1 - n) ≤ R.cells ∧ slots + (ssz n1 - ssz n) ≤ R.slots) (kk : ∀ (la1 : Array Slot) (H1 : Heap) (locs1 : List Loc), LR z (tk b sA vA vF) mt.2.2.1 ls1 la1 → Wd D cI cM cP z n1 f1 g1 H1 → va_S (fun q => z ≤ q) s.heap H1 locs1 → W p l e R s m args below meth c H1 locs1 (cells + (n1 - n)) (slots + (ssz n1 - ssz n)) Q (F0 m pc1 la1 (sta.map (tr z (tk b sA vA vF))))) : W p l e R s m args below meth c H locs cells slots Q (F0 m pc la (st.map (tr z (tk b sA vA vF)))) := by
  obtain ⟨hx, hb, hml, hr, hown, hts, hnm, hlk, hE⟩ := C
  have hT := hE.T
  simp only [okE, okW, Bool.and_eq_true, decide_eq_true_eq] at hok
  obtain ⟨hd, hw⟩ := hok
  simp only [stp] at hst
  subst hw
  rw [Nat.add_sub_cancel_left] at hd
  split at hst
  · split at hst
    · rename_i hc
      cases hst
      simp only [Nat.sub_self, Nat.add_zero] at kk
      exact lv_dup2_11 hx hb hd ((tr_cat hT).trans hc.1) ((tr_cat hT).trans hc.2) (kk la H locs hL hW hS)
    · cases hst
  · cases hst
set_option maxHeartbeats 1000000 in
theorem si_iadd {q A1 B1 : Nat} {cv : Int32} (C : Cx D cI cM cP z b L xs sA vA vF mt p s m args meth c) (hok : okE mt pc (.iadd, q, A1, B1, cv) = true) (hst : stp KKl (xs, L) (.iadd, q, A1, B1, cv) pc ls st n f g = some (pc1, ls1, sta, n1, f1, g1)) (hL : LR z (tk b sA vA vF) mt.2.2.1 ls la) (hW : Wd D cI cM cP z n f g H) (hS : va_S (fun q => z ≤ q) s.heap H locs) (hR : 1 ≤ R.frames ∧ 64 ≤ R.locals ∧ cells + (n1 - n) ≤ R.cells ∧ slots + (ssz n1 - ssz n) ≤ R.slots) (kk : ∀ (la1 : Array Slot) (H1 : Heap) (locs1 : List Loc), LR z (tk b sA vA vF) mt.2.2.1 ls1 la1 → Wd D cI cM cP z n1 f1 g1 H1 → va_S (fun q => z ≤ q) s.heap H1 locs1 → W p l e R s m args below meth c H1 locs1 (cells + (n1 - n)) (slots + (ssz n1 - ssz n)) Q (F0 m pc1 la1 (sta.map (tr z (tk b sA vA vF))))) : W p l e R s m args below meth c H locs cells slots Q (F0 m pc la (st.map (tr z (tk b sA vA vF)))) := by
  obtain ⟨hx, hb, hml, hr, hown, hts, hnm, hlk, hE⟩ := C
  have hT := hE.T
  simp only [okE, okW, Bool.and_eq_true, decide_eq_true_eq] at hok
  obtain ⟨hd, hw⟩ := hok
  simp only [stp] at hst
  subst hw
  rw [Nat.add_sub_cancel_left] at hd
  obtain ⟨x, y, r, v, rfl, hF, rfl, rfl, rfl, rfl, rfl, rfl⟩ := bin_inv hst
  cases hF
  simp only [Nat.sub_self, Nat.add_zero] at kk
  exact lv_iadd hx hb hd (kk la H locs hL hW hS)
set_option maxHeartbeats 1000000 in
theorem si_isub {q A1 B1 : Nat} {cv : Int32} (C : Cx D cI cM cP z b L xs sA vA vF mt p s m args meth c) (hok : okE mt pc (.isub, q, A1, B1, cv) = true) (hst : stp KKl (xs, L) (.isub, q, A1, B1, cv) pc ls st n f g = some (pc1, ls1, sta, n1, f1, g1)) (hL : LR z (tk b sA vA vF) mt.2.2.1 ls la) (hW : Wd D cI cM cP z n f g H) (hS : va_S (fun q => z ≤ q) s.heap H locs) (hR : 1 ≤ R.frames ∧ 64 ≤ R.locals ∧ cells + (n1 - n) ≤ R.cells ∧ slots + (ssz n1 - ssz n) ≤ R.slots) (kk : ∀ (la1 : Array Slot) (H1 : Heap) (locs1 : List Loc), LR z (tk b sA vA vF) mt.2.2.1 ls1 la1 → Wd D cI cM cP z n1 f1 g1 H1 → va_S (fun q => z ≤ q) s.heap H1 locs1 → W p l e R s m args below meth c H1 locs1 (cells + (n1 - n)) (slots + (ssz n1 - ssz n)) Q (F0 m pc1 la1 (sta.map (tr z (tk b sA vA vF))))) : W p l e R s m args below meth c H locs cells slots Q (F0 m pc la (st.map (tr z (tk b sA vA vF)))) := by
  obtain ⟨hx, hb, hml, hr, hown, hts, hnm, hlk, hE⟩ := C
  have hT := hE.T
  simp only [okE, okW, Bool.and_eq_true, decide_eq_true_eq] at hok
  obtain ⟨hd, hw⟩ := hok
  simp only [stp] at hst
  subst hw
  rw [Nat.add_sub_cancel_left] at hd
  obtain ⟨x, y, r, v, rfl, hF, rfl, rfl, rfl, rfl, rfl, rfl⟩ := bin_inv hst
  cases hF
  simp only [Nat.sub_self, Nat.add_zero] at kk
  exact lv_isub hx hb hd (kk la H locs hL hW hS)
set_option maxHeartbeats 1000000 in
theorem si_imul {q A1 B1 : Nat} {cv : Int32} (C : Cx D cI cM cP z b L xs sA vA vF mt p s m args meth c) (hok : okE mt pc (.imul, q, A1, B1, cv) = true) (hst : stp KKl (xs, L) (.imul, q, A1, B1, cv) pc ls st n f g = some (pc1, ls1, sta, n1, f1, g1)) (hL : LR z (tk b sA vA vF) mt.2.2.1 ls la) (hW : Wd D cI cM cP z n f g H) (hS : va_S (fun q => z ≤ q) s.heap H locs) (hR : 1 ≤ R.frames ∧ 64 ≤ R.locals ∧ cells + (n1 - n) ≤ R.cells ∧ slots + (ssz n1 - ssz n) ≤ R.slots) (kk : ∀ (la1 : Array Slot) (H1 : Heap) (locs1 : List Loc), LR z (tk b sA vA vF) mt.2.2.1 ls1 la1 → Wd D cI cM cP z n1 f1 g1 H1 → va_S (fun q => z ≤ q) s.heap H1 locs1 → W p l e R s m args below meth c H1 locs1 (cells + (n1 - n)) (slots + (ssz n1 - ssz n)) Q (F0 m pc1 la1 (sta.map (tr z (tk b sA vA vF))))) : W p l e R s m args below meth c H locs cells slots Q (F0 m pc la (st.map (tr z (tk b sA vA vF)))) := by
  obtain ⟨hx, hb, hml, hr, hown, hts, hnm, hlk, hE⟩ := C
  have hT := hE.T
  simp only [okE, okW, Bool.and_eq_true, decide_eq_true_eq] at hok
  obtain ⟨hd, hw⟩ := hok
  simp only [stp] at hst
  subst hw
  rw [Nat.add_sub_cancel_left] at hd
  obtain ⟨x, y, r, v, rfl, hF, rfl, rfl, rfl, rfl, rfl, rfl⟩ := bin_inv hst
  cases hF
  simp only [Nat.sub_self, Nat.add_zero] at kk
  exact lv_imul hx hb hd (kk la H locs hL hW hS)
set_option maxHeartbeats 1000000 in
theorem si_iand {q A1 B1 : Nat} {cv : Int32} (C : Cx D cI cM cP z b L xs sA vA vF mt p s m args meth c) (hok : okE mt pc (.iand, q, A1, B1, cv) = true) (hst : stp KKl (xs, L) (.iand, q, A1, B1, cv) pc ls st n f g = some (pc1, ls1, sta, n1, f1, g1)) (hL : LR z (tk b sA vA vF) mt.2.2.1 ls la) (hW : Wd D cI cM cP z n f g H) (hS : va_S (fun q => z ≤ q) s.heap H locs) (hR : 1 ≤ R.frames ∧ 64 ≤ R.locals ∧ cells + (n1 - n) ≤ R.cells ∧ slots + (ssz n1 - ssz n) ≤ R.slots) (kk : ∀ (la1 : Array Slot) (H1 : Heap) (locs1 : List Loc), LR z (tk b sA vA vF) mt.2.2.1 ls1 la1 → Wd D cI cM cP z n1 f1 g1 H1 → va_S (fun q => z ≤ q) s.heap H1 locs1 → W p l e R s m args below meth c H1 locs1 (cells + (n1 - n)) (slots + (ssz n1 - ssz n)) Q (F0 m pc1 la1 (sta.map (tr z (tk b sA vA vF))))) : W p l e R s m args below meth c H locs cells slots Q (F0 m pc la (st.map (tr z (tk b sA vA vF)))) := by
  obtain ⟨hx, hb, hml, hr, hown, hts, hnm, hlk, hE⟩ := C
  have hT := hE.T
  simp only [okE, okW, Bool.and_eq_true, decide_eq_true_eq] at hok
  obtain ⟨hd, hw⟩ := hok
  simp only [stp] at hst
  subst hw
  rw [Nat.add_sub_cancel_left] at hd
  obtain ⟨x, y, r, v, rfl, hF, rfl, rfl, rfl, rfl, rfl, rfl⟩ := bin_inv hst
  cases hF
  simp only [Nat.sub_self, Nat.add_zero] at kk
  exact lv_iand hx hb hd (kk la H locs hL hW hS)
set_option maxHeartbeats 1000000 in
theorem si_ior {q A1 B1 : Nat} {cv : Int32} (C : Cx D cI cM cP z b L xs sA vA vF mt p s m args meth c) (hok : okE mt pc (.ior, q, A1, B1, cv) = true) (hst : stp KKl (xs, L) (.ior, q, A1, B1, cv) pc ls st n f g = some (pc1, ls1, sta, n1, f1, g1)) (hL : LR z (tk b sA vA vF) mt.2.2.1 ls la) (hW : Wd D cI cM cP z n f g H) (hS : va_S (fun q => z ≤ q) s.heap H locs) (hR : 1 ≤ R.frames ∧ 64 ≤ R.locals ∧ cells + (n1 - n) ≤ R.cells ∧ slots + (ssz n1 - ssz n) ≤ R.slots) (kk : ∀ (la1 : Array Slot) (H1 : Heap) (locs1 : List Loc), LR z (tk b sA vA vF) mt.2.2.1 ls1 la1 → Wd D cI cM cP z n1 f1 g1 H1 → va_S (fun q => z ≤ q) s.heap H1 locs1 → W p l e R s m args below meth c H1 locs1 (cells + (n1 - n)) (slots + (ssz n1 - ssz n)) Q (F0 m pc1 la1 (sta.map (tr z (tk b sA vA vF))))) : W p l e R s m args below meth c H locs cells slots Q (F0 m pc la (st.map (tr z (tk b sA vA vF)))) := by
  obtain ⟨hx, hb, hml, hr, hown, hts, hnm, hlk, hE⟩ := C
  have hT := hE.T
  simp only [okE, okW, Bool.and_eq_true, decide_eq_true_eq] at hok
  obtain ⟨hd, hw⟩ := hok
  simp only [stp] at hst
  subst hw
  rw [Nat.add_sub_cancel_left] at hd
  obtain ⟨x, y, r, v, rfl, hF, rfl, rfl, rfl, rfl, rfl, rfl⟩ := bin_inv hst
  cases hF
  simp only [Nat.sub_self, Nat.add_zero] at kk
  exact lv_ior hx hb hd (kk la H locs hL hW hS)
set_option maxHeartbeats 1000000 in
theorem si_ixor {q A1 B1 : Nat} {cv : Int32} (C : Cx D cI cM cP z b L xs sA vA vF mt p s m args meth c) (hok : okE mt pc (.ixor, q, A1, B1, cv) = true) (hst : stp KKl (xs, L) (.ixor, q, A1, B1, cv) pc ls st n f g = some (pc1, ls1, sta, n1, f1, g1)) (hL : LR z (tk b sA vA vF) mt.2.2.1 ls la) (hW : Wd D cI cM cP z n f g H) (hS : va_S (fun q => z ≤ q) s.heap H locs) (hR : 1 ≤ R.frames ∧ 64 ≤ R.locals ∧ cells + (n1 - n) ≤ R.cells ∧ slots + (ssz n1 - ssz n) ≤ R.slots) (kk : ∀ (la1 : Array Slot) (H1 : Heap) (locs1 : List Loc), LR z (tk b sA vA vF) mt.2.2.1 ls1 la1 → Wd D cI cM cP z n1 f1 g1 H1 → va_S (fun q => z ≤ q) s.heap H1 locs1 → W p l e R s m args below meth c H1 locs1 (cells + (n1 - n)) (slots + (ssz n1 - ssz n)) Q (F0 m pc1 la1 (sta.map (tr z (tk b sA vA vF))))) : W p l e R s m args below meth c H locs cells slots Q (F0 m pc la (st.map (tr z (tk b sA vA vF)))) := by
  obtain ⟨hx, hb, hml, hr, hown, hts, hnm, hlk, hE⟩ := C
  have hT := hE.T
  simp only [okE, okW, Bool.and_eq_true, decide_eq_true_eq] at hok
  obtain ⟨hd, hw⟩ := hok
  simp only [stp] at hst
  subst hw
  rw [Nat.add_sub_cancel_left] at hd
  obtain ⟨x, y, r, v, rfl, hF, rfl, rfl, rfl, rfl, rfl, rfl⟩ := bin_inv hst
  cases hF
  simp only [Nat.sub_self, Nat.add_zero] at kk
  exact lv_ixor hx hb hd (kk la H locs hL hW hS)
set_option maxHeartbeats 1000000 in
theorem si_ishl {q A1 B1 : Nat} {cv : Int32} (C : Cx D cI cM cP z b L xs sA vA vF mt p s m args meth c) (hok : okE mt pc (.ishl, q, A1, B1, cv) = true) (hst : stp KKl (xs, L) (.ishl, q, A1, B1, cv) pc ls st n f g = some (pc1, ls1, sta, n1, f1, g1)) (hL : LR z (tk b sA vA vF) mt.2.2.1 ls la) (hW : Wd D cI cM cP z n f g H) (hS : va_S (fun q => z ≤ q) s.heap H locs) (hR : 1 ≤ R.frames ∧ 64 ≤ R.locals ∧ cells + (n1 - n) ≤ R.cells ∧ slots + (ssz n1 - ssz n) ≤ R.slots) (kk : ∀ (la1 : Array Slot) (H1 : Heap) (locs1 : List Loc), LR z (tk b sA vA vF) mt.2.2.1 ls1 la1 → Wd D cI cM cP z n1 f1 g1 H1 → va_S (fun q => z ≤ q) s.heap H1 locs1 → W p l e R s m args below meth c H1 locs1 (cells + (n1 - n)) (slots + (ssz n1 - ssz n)) Q (F0 m pc1 la1 (sta.map (tr z (tk b sA vA vF))))) : W p l e R s m args below meth c H locs cells slots Q (F0 m pc la (st.map (tr z (tk b sA vA vF)))) := by
  obtain ⟨hx, hb, hml, hr, hown, hts, hnm, hlk, hE⟩ := C
  have hT := hE.T
  simp only [okE, okW, Bool.and_eq_true, decide_eq_true_eq] at hok
  obtain ⟨hd, hw⟩ := hok
  simp only [stp] at hst
  subst hw
  rw [Nat.add_sub_cancel_left] at hd
  obtain ⟨x, y, r, v, rfl, hF, rfl, rfl, rfl, rfl, rfl, rfl⟩ := bin_inv hst
  cases hF
  simp only [Nat.sub_self, Nat.add_zero] at kk
  exact lv_ishl hx hb hd (kk la H locs hL hW hS)
set_option maxHeartbeats 1000000 in
theorem si_ishr {q A1 B1 : Nat} {cv : Int32} (C : Cx D cI cM cP z b L xs sA vA vF mt p s m args meth c) (hok : okE mt pc (.ishr, q, A1, B1, cv) = true) (hst : stp KKl (xs, L) (.ishr, q, A1, B1, cv) pc ls st n f g = some (pc1, ls1, sta, n1, f1, g1)) (hL : LR z (tk b sA vA vF) mt.2.2.1 ls la) (hW : Wd D cI cM cP z n f g H) (hS : va_S (fun q => z ≤ q) s.heap H locs) (hR : 1 ≤ R.frames ∧ 64 ≤ R.locals ∧ cells + (n1 - n) ≤ R.cells ∧ slots + (ssz n1 - ssz n) ≤ R.slots) (kk : ∀ (la1 : Array Slot) (H1 : Heap) (locs1 : List Loc), LR z (tk b sA vA vF) mt.2.2.1 ls1 la1 → Wd D cI cM cP z n1 f1 g1 H1 → va_S (fun q => z ≤ q) s.heap H1 locs1 → W p l e R s m args below meth c H1 locs1 (cells + (n1 - n)) (slots + (ssz n1 - ssz n)) Q (F0 m pc1 la1 (sta.map (tr z (tk b sA vA vF))))) : W p l e R s m args below meth c H locs cells slots Q (F0 m pc la (st.map (tr z (tk b sA vA vF)))) := by
  obtain ⟨hx, hb, hml, hr, hown, hts, hnm, hlk, hE⟩ := C
  have hT := hE.T
  simp only [okE, okW, Bool.and_eq_true, decide_eq_true_eq] at hok
  obtain ⟨hd, hw⟩ := hok
  simp only [stp] at hst
  subst hw
  rw [Nat.add_sub_cancel_left] at hd
  obtain ⟨x, y, r, v, rfl, hF, rfl, rfl, rfl, rfl, rfl, rfl⟩ := bin_inv hst
  cases hF
  simp only [Nat.sub_self, Nat.add_zero] at kk
  exact lv_ishr hx hb hd (kk la H locs hL hW hS)
set_option maxHeartbeats 1000000 in
theorem si_iushr {q A1 B1 : Nat} {cv : Int32} (C : Cx D cI cM cP z b L xs sA vA vF mt p s m args meth c) (hok : okE mt pc (.iushr, q, A1, B1, cv) = true) (hst : stp KKl (xs, L) (.iushr, q, A1, B1, cv) pc ls st n f g = some (pc1, ls1, sta, n1, f1, g1)) (hL : LR z (tk b sA vA vF) mt.2.2.1 ls la) (hW : Wd D cI cM cP z n f g H) (hS : va_S (fun q => z ≤ q) s.heap H locs) (hR : 1 ≤ R.frames ∧ 64 ≤ R.locals ∧ cells + (n1 - n) ≤ R.cells ∧ slots + (ssz n1 - ssz n) ≤ R.slots) (kk : ∀ (la1 : Array Slot) (H1 : Heap) (locs1 : List Loc), LR z (tk b sA vA vF) mt.2.2.1 ls1 la1 → Wd D cI cM cP z n1 f1 g1 H1 → va_S (fun q => z ≤ q) s.heap H1 locs1 → W p l e R s m args below meth c H1 locs1 (cells + (n1 - n)) (slots + (ssz n1 - ssz n)) Q (F0 m pc1 la1 (sta.map (tr z (tk b sA vA vF))))) : W p l e R s m args below meth c H locs cells slots Q (F0 m pc la (st.map (tr z (tk b sA vA vF)))) := by
  obtain ⟨hx, hb, hml, hr, hown, hts, hnm, hlk, hE⟩ := C
  have hT := hE.T
  simp only [okE, okW, Bool.and_eq_true, decide_eq_true_eq] at hok
  obtain ⟨hd, hw⟩ := hok
  simp only [stp] at hst
  subst hw
  rw [Nat.add_sub_cancel_left] at hd
  obtain ⟨x, y, r, v, rfl, hF, rfl, rfl, rfl, rfl, rfl, rfl⟩ := bin_inv hst
  cases hF
  simp only [Nat.sub_self, Nat.add_zero] at kk
  exact lv_iushr hx hb hd rfl (kk la H locs hL hW hS)
set_option maxHeartbeats 1000000 in
theorem si_idiv {q A1 B1 : Nat} {cv : Int32} (C : Cx D cI cM cP z b L xs sA vA vF mt p s m args meth c) (hok : okE mt pc (.idiv, q, A1, B1, cv) = true) (hst : stp KKl (xs, L) (.idiv, q, A1, B1, cv) pc ls st n f g = some (pc1, ls1, sta, n1, f1, g1)) (hL : LR z (tk b sA vA vF) mt.2.2.1 ls la) (hW : Wd D cI cM cP z n f g H) (hS : va_S (fun q => z ≤ q) s.heap H locs) (hR : 1 ≤ R.frames ∧ 64 ≤ R.locals ∧ cells + (n1 - n) ≤ R.cells ∧ slots + (ssz n1 - ssz n) ≤ R.slots) (kk : ∀ (la1 : Array Slot) (H1 : Heap) (locs1 : List Loc), LR z (tk b sA vA vF) mt.2.2.1 ls1 la1 → Wd D cI cM cP z n1 f1 g1 H1 → va_S (fun q => z ≤ q) s.heap H1 locs1 → W p l e R s m args below meth c H1 locs1 (cells + (n1 - n)) (slots + (ssz n1 - ssz n)) Q (F0 m pc1 la1 (sta.map (tr z (tk b sA vA vF))))) : W p l e R s m args below meth c H locs cells slots Q (F0 m pc la (st.map (tr z (tk b sA vA vF)))) := by
  obtain ⟨hx, hb, hml, hr, hown, hts, hnm, hlk, hE⟩ := C
  have hT := hE.T
  simp only [okE, okW, Bool.and_eq_true, decide_eq_true_eq] at hok
  obtain ⟨hd, hw⟩ := hok
  simp only [stp] at hst
  subst hw
  rw [Nat.add_sub_cancel_left] at hd
  obtain ⟨x, y, r, v, rfl, hF, rfl, rfl, rfl, rfl, rfl, rfl⟩ := bin_inv hst
  split at hF
  · cases hF
  · rename_i hy
    cases hF
    simp only [Nat.sub_self, Nat.add_zero] at kk
    exact lv_idiv hx hb hd hy (kk la H locs hL hW hS)
set_option maxHeartbeats 1000000 in
theorem si_irem {q A1 B1 : Nat} {cv : Int32} (C : Cx D cI cM cP z b L xs sA vA vF mt p s m args meth c) (hok : okE mt pc (.irem, q, A1, B1, cv) = true) (hst : stp KKl (xs, L) (.irem, q, A1, B1, cv) pc ls st n f g = some (pc1, ls1, sta, n1, f1, g1)) (hL : LR z (tk b sA vA vF) mt.2.2.1 ls la) (hW : Wd D cI cM cP z n f g H) (hS : va_S (fun q => z ≤ q) s.heap H locs) (hR : 1 ≤ R.frames ∧ 64 ≤ R.locals ∧ cells + (n1 - n) ≤ R.cells ∧ slots + (ssz n1 - ssz n) ≤ R.slots) (kk : ∀ (la1 : Array Slot) (H1 : Heap) (locs1 : List Loc), LR z (tk b sA vA vF) mt.2.2.1 ls1 la1 → Wd D cI cM cP z n1 f1 g1 H1 → va_S (fun q => z ≤ q) s.heap H1 locs1 → W p l e R s m args below meth c H1 locs1 (cells + (n1 - n)) (slots + (ssz n1 - ssz n)) Q (F0 m pc1 la1 (sta.map (tr z (tk b sA vA vF))))) : W p l e R s m args below meth c H locs cells slots Q (F0 m pc la (st.map (tr z (tk b sA vA vF)))) := by
  obtain ⟨hx, hb, hml, hr, hown, hts, hnm, hlk, hE⟩ := C
  have hT := hE.T
  simp only [okE, okW, Bool.and_eq_true, decide_eq_true_eq] at hok
  obtain ⟨hd, hw⟩ := hok
  simp only [stp] at hst
  subst hw
  rw [Nat.add_sub_cancel_left] at hd
  obtain ⟨x, y, r, v, rfl, hF, rfl, rfl, rfl, rfl, rfl, rfl⟩ := bin_inv hst
  split at hF
  · cases hF
  · rename_i hy
    cases hF
    simp only [Nat.sub_self, Nat.add_zero] at kk
    exact lv_irem hx hb hd hy (kk la H locs hL hW hS)
set_option maxHeartbeats 1000000 in
theorem si_ladd {q A1 B1 : Nat} {cv : Int32} (C : Cx D cI cM cP z b L xs sA vA vF mt p s m args meth c) (hok : okE mt pc (.ladd, q, A1, B1, cv) = true) (hst : stp KKl (xs, L) (.ladd, q, A1, B1, cv) pc ls st n f g = some (pc1, ls1, sta, n1, f1, g1)) (hL : LR z (tk b sA vA vF) mt.2.2.1 ls la) (hW : Wd D cI cM cP z n f g H) (hS : va_S (fun q => z ≤ q) s.heap H locs) (hR : 1 ≤ R.frames ∧ 64 ≤ R.locals ∧ cells + (n1 - n) ≤ R.cells ∧ slots + (ssz n1 - ssz n) ≤ R.slots) (kk : ∀ (la1 : Array Slot) (H1 : Heap) (locs1 : List Loc), LR z (tk b sA vA vF) mt.2.2.1 ls1 la1 → Wd D cI cM cP z n1 f1 g1 H1 → va_S (fun q => z ≤ q) s.heap H1 locs1 → W p l e R s m args below meth c H1 locs1 (cells + (n1 - n)) (slots + (ssz n1 - ssz n)) Q (F0 m pc1 la1 (sta.map (tr z (tk b sA vA vF))))) : W p l e R s m args below meth c H locs cells slots Q (F0 m pc la (st.map (tr z (tk b sA vA vF)))) := by
  obtain ⟨hx, hb, hml, hr, hown, hts, hnm, hlk, hE⟩ := C
  have hT := hE.T
  simp only [okE, okW, Bool.and_eq_true, decide_eq_true_eq] at hok
  obtain ⟨hd, hw⟩ := hok
  simp only [stp] at hst
  subst hw
  rw [Nat.add_sub_cancel_left] at hd
  obtain ⟨x, y, r, v, rfl, hF, rfl, rfl, rfl, rfl, rfl, rfl⟩ := binl_inv hst
  cases hF
  simp only [Nat.sub_self, Nat.add_zero] at kk
  exact lv_ladd hx hb hd (kk la H locs hL hW hS)
set_option maxHeartbeats 1000000 in
theorem si_lmul {q A1 B1 : Nat} {cv : Int32} (C : Cx D cI cM cP z b L xs sA vA vF mt p s m args meth c) (hok : okE mt pc (.lmul, q, A1, B1, cv) = true) (hst : stp KKl (xs, L) (.lmul, q, A1, B1, cv) pc ls st n f g = some (pc1, ls1, sta, n1, f1, g1)) (hL : LR z (tk b sA vA vF) mt.2.2.1 ls la) (hW : Wd D cI cM cP z n f g H) (hS : va_S (fun q => z ≤ q) s.heap H locs) (hR : 1 ≤ R.frames ∧ 64 ≤ R.locals ∧ cells + (n1 - n) ≤ R.cells ∧ slots + (ssz n1 - ssz n) ≤ R.slots) (kk : ∀ (la1 : Array Slot) (H1 : Heap) (locs1 : List Loc), LR z (tk b sA vA vF) mt.2.2.1 ls1 la1 → Wd D cI cM cP z n1 f1 g1 H1 → va_S (fun q => z ≤ q) s.heap H1 locs1 → W p l e R s m args below meth c H1 locs1 (cells + (n1 - n)) (slots + (ssz n1 - ssz n)) Q (F0 m pc1 la1 (sta.map (tr z (tk b sA vA vF))))) : W p l e R s m args below meth c H locs cells slots Q (F0 m pc la (st.map (tr z (tk b sA vA vF)))) := by
  obtain ⟨hx, hb, hml, hr, hown, hts, hnm, hlk, hE⟩ := C
  have hT := hE.T
  simp only [okE, okW, Bool.and_eq_true, decide_eq_true_eq] at hok
  obtain ⟨hd, hw⟩ := hok
  simp only [stp] at hst
  subst hw
  rw [Nat.add_sub_cancel_left] at hd
  obtain ⟨x, y, r, v, rfl, hF, rfl, rfl, rfl, rfl, rfl, rfl⟩ := binl_inv hst
  cases hF
  simp only [Nat.sub_self, Nat.add_zero] at kk
  exact lv_lmul hx hb hd (kk la H locs hL hW hS)
set_option maxHeartbeats 1000000 in
theorem si_lcmp {q A1 B1 : Nat} {cv : Int32} (C : Cx D cI cM cP z b L xs sA vA vF mt p s m args meth c) (hok : okE mt pc (.lcmp, q, A1, B1, cv) = true) (hst : stp KKl (xs, L) (.lcmp, q, A1, B1, cv) pc ls st n f g = some (pc1, ls1, sta, n1, f1, g1)) (hL : LR z (tk b sA vA vF) mt.2.2.1 ls la) (hW : Wd D cI cM cP z n f g H) (hS : va_S (fun q => z ≤ q) s.heap H locs) (hR : 1 ≤ R.frames ∧ 64 ≤ R.locals ∧ cells + (n1 - n) ≤ R.cells ∧ slots + (ssz n1 - ssz n) ≤ R.slots) (kk : ∀ (la1 : Array Slot) (H1 : Heap) (locs1 : List Loc), LR z (tk b sA vA vF) mt.2.2.1 ls1 la1 → Wd D cI cM cP z n1 f1 g1 H1 → va_S (fun q => z ≤ q) s.heap H1 locs1 → W p l e R s m args below meth c H1 locs1 (cells + (n1 - n)) (slots + (ssz n1 - ssz n)) Q (F0 m pc1 la1 (sta.map (tr z (tk b sA vA vF))))) : W p l e R s m args below meth c H locs cells slots Q (F0 m pc la (st.map (tr z (tk b sA vA vF)))) := by
  obtain ⟨hx, hb, hml, hr, hown, hts, hnm, hlk, hE⟩ := C
  have hT := hE.T
  simp only [okE, okW, Bool.and_eq_true, decide_eq_true_eq] at hok
  obtain ⟨hd, hw⟩ := hok
  simp only [stp] at hst
  subst hw
  rw [Nat.add_sub_cancel_left] at hd
  obtain ⟨x, y, r, v, rfl, hF, rfl, rfl, rfl, rfl, rfl, rfl⟩ := binl_inv hst
  cases hF
  simp only [Nat.sub_self, Nat.add_zero] at kk
  exact W.lcmp hx hb hd (kk la H locs hL hW hS)
set_option maxHeartbeats 1000000 in
theorem si_ldiv {q A1 B1 : Nat} {cv : Int32} (C : Cx D cI cM cP z b L xs sA vA vF mt p s m args meth c) (hok : okE mt pc (.ldiv, q, A1, B1, cv) = true) (hst : stp KKl (xs, L) (.ldiv, q, A1, B1, cv) pc ls st n f g = some (pc1, ls1, sta, n1, f1, g1)) (hL : LR z (tk b sA vA vF) mt.2.2.1 ls la) (hW : Wd D cI cM cP z n f g H) (hS : va_S (fun q => z ≤ q) s.heap H locs) (hR : 1 ≤ R.frames ∧ 64 ≤ R.locals ∧ cells + (n1 - n) ≤ R.cells ∧ slots + (ssz n1 - ssz n) ≤ R.slots) (kk : ∀ (la1 : Array Slot) (H1 : Heap) (locs1 : List Loc), LR z (tk b sA vA vF) mt.2.2.1 ls1 la1 → Wd D cI cM cP z n1 f1 g1 H1 → va_S (fun q => z ≤ q) s.heap H1 locs1 → W p l e R s m args below meth c H1 locs1 (cells + (n1 - n)) (slots + (ssz n1 - ssz n)) Q (F0 m pc1 la1 (sta.map (tr z (tk b sA vA vF))))) : W p l e R s m args below meth c H locs cells slots Q (F0 m pc la (st.map (tr z (tk b sA vA vF)))) := by
  obtain ⟨hx, hb, hml, hr, hown, hts, hnm, hlk, hE⟩ := C
  have hT := hE.T
  simp only [okE, okW, Bool.and_eq_true, decide_eq_true_eq] at hok
  obtain ⟨hd, hw⟩ := hok
  simp only [stp] at hst
  subst hw
  rw [Nat.add_sub_cancel_left] at hd
  obtain ⟨x, y, r, v, rfl, hF, rfl, rfl, rfl, rfl, rfl, rfl⟩ := binl_inv hst
  split at hF
  · cases hF
  · rename_i hy
    cases hF
    simp only [Nat.sub_self, Nat.add_zero] at kk
    exact lv_ldiv hx hb hd hy (kk la H locs hL hW hS)
set_option maxHeartbeats 1000000 in
theorem si_lrem {q A1 B1 : Nat} {cv : Int32} (C : Cx D cI cM cP z b L xs sA vA vF mt p s m args meth c) (hok : okE mt pc (.lrem, q, A1, B1, cv) = true) (hst : stp KKl (xs, L) (.lrem, q, A1, B1, cv) pc ls st n f g = some (pc1, ls1, sta, n1, f1, g1)) (hL : LR z (tk b sA vA vF) mt.2.2.1 ls la) (hW : Wd D cI cM cP z n f g H) (hS : va_S (fun q => z ≤ q) s.heap H locs) (hR : 1 ≤ R.frames ∧ 64 ≤ R.locals ∧ cells + (n1 - n) ≤ R.cells ∧ slots + (ssz n1 - ssz n) ≤ R.slots) (kk : ∀ (la1 : Array Slot) (H1 : Heap) (locs1 : List Loc), LR z (tk b sA vA vF) mt.2.2.1 ls1 la1 → Wd D cI cM cP z n1 f1 g1 H1 → va_S (fun q => z ≤ q) s.heap H1 locs1 → W p l e R s m args below meth c H1 locs1 (cells + (n1 - n)) (slots + (ssz n1 - ssz n)) Q (F0 m pc1 la1 (sta.map (tr z (tk b sA vA vF))))) : W p l e R s m args below meth c H locs cells slots Q (F0 m pc la (st.map (tr z (tk b sA vA vF)))) := by
  obtain ⟨hx, hb, hml, hr, hown, hts, hnm, hlk, hE⟩ := C
  have hT := hE.T
  simp only [okE, okW, Bool.and_eq_true, decide_eq_true_eq] at hok
  obtain ⟨hd, hw⟩ := hok
  simp only [stp] at hst
  subst hw
  rw [Nat.add_sub_cancel_left] at hd
  obtain ⟨x, y, r, v, rfl, hF, rfl, rfl, rfl, rfl, rfl, rfl⟩ := binl_inv hst
  split at hF
  · cases hF
  · rename_i hy
    cases hF
    simp only [Nat.sub_self, Nat.add_zero] at kk
    exact lv_lrem hx hb hd hy (kk la H locs hL hW hS)
set_option maxHeartbeats 1000000 in
theorem si_i2l {q A1 B1 : Nat} {cv : Int32} (C : Cx D cI cM cP z b L xs sA vA vF mt p s m args meth c) (hok : okE mt pc (.i2l, q, A1, B1, cv) = true) (hst : stp KKl (xs, L) (.i2l, q, A1, B1, cv) pc ls st n f g = some (pc1, ls1, sta, n1, f1, g1)) (hL : LR z (tk b sA vA vF) mt.2.2.1 ls la) (hW : Wd D cI cM cP z n f g H) (hS : va_S (fun q => z ≤ q) s.heap H locs) (hR : 1 ≤ R.frames ∧ 64 ≤ R.locals ∧ cells + (n1 - n) ≤ R.cells ∧ slots + (ssz n1 - ssz n) ≤ R.slots) (kk : ∀ (la1 : Array Slot) (H1 : Heap) (locs1 : List Loc), LR z (tk b sA vA vF) mt.2.2.1 ls1 la1 → Wd D cI cM cP z n1 f1 g1 H1 → va_S (fun q => z ≤ q) s.heap H1 locs1 → W p l e R s m args below meth c H1 locs1 (cells + (n1 - n)) (slots + (ssz n1 - ssz n)) Q (F0 m pc1 la1 (sta.map (tr z (tk b sA vA vF))))) : W p l e R s m args below meth c H locs cells slots Q (F0 m pc la (st.map (tr z (tk b sA vA vF)))) := by
  obtain ⟨hx, hb, hml, hr, hown, hts, hnm, hlk, hE⟩ := C
  have hT := hE.T
  simp only [okE, okW, Bool.and_eq_true, decide_eq_true_eq] at hok
  obtain ⟨hd, hw⟩ := hok
  simp only [stp] at hst
  subst hw
  rw [Nat.add_sub_cancel_left] at hd
  split at hst
  · cases hst
    simp only [Nat.sub_self, Nat.add_zero] at kk
    exact lv_i2l hx hb hd rfl (kk la H locs hL hW hS)
  · cases hst
set_option maxHeartbeats 1000000 in
theorem si_l2i {q A1 B1 : Nat} {cv : Int32} (C : Cx D cI cM cP z b L xs sA vA vF mt p s m args meth c) (hok : okE mt pc (.l2i, q, A1, B1, cv) = true) (hst : stp KKl (xs, L) (.l2i, q, A1, B1, cv) pc ls st n f g = some (pc1, ls1, sta, n1, f1, g1)) (hL : LR z (tk b sA vA vF) mt.2.2.1 ls la) (hW : Wd D cI cM cP z n f g H) (hS : va_S (fun q => z ≤ q) s.heap H locs) (hR : 1 ≤ R.frames ∧ 64 ≤ R.locals ∧ cells + (n1 - n) ≤ R.cells ∧ slots + (ssz n1 - ssz n) ≤ R.slots) (kk : ∀ (la1 : Array Slot) (H1 : Heap) (locs1 : List Loc), LR z (tk b sA vA vF) mt.2.2.1 ls1 la1 → Wd D cI cM cP z n1 f1 g1 H1 → va_S (fun q => z ≤ q) s.heap H1 locs1 → W p l e R s m args below meth c H1 locs1 (cells + (n1 - n)) (slots + (ssz n1 - ssz n)) Q (F0 m pc1 la1 (sta.map (tr z (tk b sA vA vF))))) : W p l e R s m args below meth c H locs cells slots Q (F0 m pc la (st.map (tr z (tk b sA vA vF)))) := by
  obtain ⟨hx, hb, hml, hr, hown, hts, hnm, hlk, hE⟩ := C
  have hT := hE.T
  simp only [okE, okW, Bool.and_eq_true, decide_eq_true_eq] at hok
  obtain ⟨hd, hw⟩ := hok
  simp only [stp] at hst
  subst hw
  rw [Nat.add_sub_cancel_left] at hd
  split at hst
  · cases hst
    simp only [Nat.sub_self, Nat.add_zero] at kk
    exact lv_l2i hx hb hd rfl (kk la H locs hL hW hS)
  · cases hst
set_option maxHeartbeats 1000000 in
theorem si_i2c {q A1 B1 : Nat} {cv : Int32} (C : Cx D cI cM cP z b L xs sA vA vF mt p s m args meth c) (hok : okE mt pc (.i2c, q, A1, B1, cv) = true) (hst : stp KKl (xs, L) (.i2c, q, A1, B1, cv) pc ls st n f g = some (pc1, ls1, sta, n1, f1, g1)) (hL : LR z (tk b sA vA vF) mt.2.2.1 ls la) (hW : Wd D cI cM cP z n f g H) (hS : va_S (fun q => z ≤ q) s.heap H locs) (hR : 1 ≤ R.frames ∧ 64 ≤ R.locals ∧ cells + (n1 - n) ≤ R.cells ∧ slots + (ssz n1 - ssz n) ≤ R.slots) (kk : ∀ (la1 : Array Slot) (H1 : Heap) (locs1 : List Loc), LR z (tk b sA vA vF) mt.2.2.1 ls1 la1 → Wd D cI cM cP z n1 f1 g1 H1 → va_S (fun q => z ≤ q) s.heap H1 locs1 → W p l e R s m args below meth c H1 locs1 (cells + (n1 - n)) (slots + (ssz n1 - ssz n)) Q (F0 m pc1 la1 (sta.map (tr z (tk b sA vA vF))))) : W p l e R s m args below meth c H locs cells slots Q (F0 m pc la (st.map (tr z (tk b sA vA vF)))) := by
  obtain ⟨hx, hb, hml, hr, hown, hts, hnm, hlk, hE⟩ := C
  have hT := hE.T
  simp only [okE, okW, Bool.and_eq_true, decide_eq_true_eq] at hok
  obtain ⟨hd, hw⟩ := hok
  simp only [stp] at hst
  subst hw
  rw [Nat.add_sub_cancel_left] at hd
  split at hst
  · cases hst
    simp only [Nat.sub_self, Nat.add_zero] at kk
    exact lv_i2c hx hb hd rfl (kk la H locs hL hW hS)
  · cases hst
set_option maxHeartbeats 1000000 in
theorem si_goto {o : Int} {q A1 B1 : Nat} {cv : Int32} (C : Cx D cI cM cP z b L xs sA vA vF mt p s m args meth c) (hok : okE mt pc (.goto o, q, A1, B1, cv) = true) (hst : stp KKl (xs, L) (.goto o, q, A1, B1, cv) pc ls st n f g = some (pc1, ls1, sta, n1, f1, g1)) (hL : LR z (tk b sA vA vF) mt.2.2.1 ls la) (hW : Wd D cI cM cP z n f g H) (hS : va_S (fun q => z ≤ q) s.heap H locs) (hR : 1 ≤ R.frames ∧ 64 ≤ R.locals ∧ cells + (n1 - n) ≤ R.cells ∧ slots + (ssz n1 - ssz n) ≤ R.slots) (kk : ∀ (la1 : Array Slot) (H1 : Heap) (locs1 : List Loc), LR z (tk b sA vA vF) mt.2.2.1 ls1 la1 → Wd D cI cM cP z n1 f1 g1 H1 → va_S (fun q => z ≤ q) s.heap H1 locs1 → W p l e R s m args below meth c H1 locs1 (cells + (n1 - n)) (slots + (ssz n1 - ssz n)) Q (F0 m pc1 la1 (sta.map (tr z (tk b sA vA vF))))) : W p l e R s m args below meth c H locs cells slots Q (F0 m pc la (st.map (tr z (tk b sA vA vF)))) := by
  obtain ⟨hx, hb, hml, hr, hown, hts, hnm, hlk, hE⟩ := C
  have hT := hE.T
  simp only [okE, okW, Bool.and_eq_true, decide_eq_true_eq] at hok
  obtain ⟨hd, hw⟩ := hok
  simp only [stp] at hst
  obtain ⟨hw, ht⟩ := hw
  subst hw
  rw [Nat.add_sub_cancel_left] at hd
  cases hst
  simp only [Nat.sub_self, Nat.add_zero] at kk
  exact lv_goto hx hb hd ht (kk la H locs hL hW hS)
set_option maxHeartbeats 1000000 in
theorem si_ifnonnull {o : Int} {q A1 B1 : Nat} {cv : Int32} (C : Cx D cI cM cP z b L xs sA vA vF mt p s m args meth c) (hok : okE mt pc (.ifnonnull o, q, A1, B1, cv) = true) (hst : stp KKl (xs, L) (.ifnonnull o, q, A1, B1, cv) pc ls st n f g = some (pc1, ls1, sta, n1, f1, g1)) (hL : LR z (tk b sA vA vF) mt.2.2.1 ls la) (hW : Wd D cI cM cP z n f g H) (hS : va_S (fun q => z ≤ q) s.heap H locs) (hR : 1 ≤ R.frames ∧ 64 ≤ R.locals ∧ cells + (n1 - n) ≤ R.cells ∧ slots + (ssz n1 - ssz n) ≤ R.slots) (kk : ∀ (la1 : Array Slot) (H1 : Heap) (locs1 : List Loc), LR z (tk b sA vA vF) mt.2.2.1 ls1 la1 → Wd D cI cM cP z n1 f1 g1 H1 → va_S (fun q => z ≤ q) s.heap H1 locs1 → W p l e R s m args below meth c H1 locs1 (cells + (n1 - n)) (slots + (ssz n1 - ssz n)) Q (F0 m pc1 la1 (sta.map (tr z (tk b sA vA vF))))) : W p l e R s m args below meth c H locs cells slots Q (F0 m pc la (st.map (tr z (tk b sA vA vF)))) := by
  obtain ⟨hx, hb, hml, hr, hown, hts, hnm, hlk, hE⟩ := C
  have hT := hE.T
  simp only [okE, okW, Bool.and_eq_true, decide_eq_true_eq] at hok
  obtain ⟨hd, hw⟩ := hok
  simp only [stp] at hst
  obtain ⟨hw, ht⟩ := hw
  subst hw
  rw [Nat.add_sub_cancel_left] at hd
  split at hst
  · cases hst
    simp only [Nat.sub_self, Nat.add_zero] at kk
    exact lv_ifnonnull hx hb hd ht (kk la H locs hL hW hS)
  · cases hst
    simp only [Nat.sub_self, Nat.add_zero] at kk
    exact lv_ifnonnullN hx hb hd (kk la H locs hL hW hS)
  · cases hst
set_option maxHeartbeats 1000000 in
theorem si_if_icmp {cc : Jvm.ClassFile.Cond} {o : Int} {q A1 B1 : Nat} {cv : Int32} (C : Cx D cI cM cP z b L xs sA vA vF mt p s m args meth c) (hok : okE mt pc (.if_icmp cc o, q, A1, B1, cv) = true) (hst : stp KKl (xs, L) (.if_icmp cc o, q, A1, B1, cv) pc ls st n f g = some (pc1, ls1, sta, n1, f1, g1)) (hL : LR z (tk b sA vA vF) mt.2.2.1 ls la) (hW : Wd D cI cM cP z n f g H) (hS : va_S (fun q => z ≤ q) s.heap H locs) (hR : 1 ≤ R.frames ∧ 64 ≤ R.locals ∧ cells + (n1 - n) ≤ R.cells ∧ slots + (ssz n1 - ssz n) ≤ R.slots) (kk : ∀ (la1 : Array Slot) (H1 : Heap) (locs1 : List Loc), LR z (tk b sA vA vF) mt.2.2.1 ls1 la1 → Wd D cI cM cP z n1 f1 g1 H1 → va_S (fun q => z ≤ q) s.heap H1 locs1 → W p l e R s m args below meth c H1 locs1 (cells + (n1 - n)) (slots + (ssz n1 - ssz n)) Q (F0 m pc1 la1 (sta.map (tr z (tk b sA vA vF))))) : W p l e R s m args below meth c H locs cells slots Q (F0 m pc la (st.map (tr z (tk b sA vA vF)))) := by
  obtain ⟨hx, hb, hml, hr, hown, hts, hnm, hlk, hE⟩ := C
  have hT := hE.T
  simp only [okE, okW, Bool.and_eq_true, decide_eq_true_eq] at hok
  obtain ⟨hd, hw⟩ := hok
  simp only [stp] at hst
  obtain ⟨hw, ht⟩ := hw
  subst hw
  rw [Nat.add_sub_cancel_left] at hd
  split at hst
  · simp only [cnd] at hst
    cases cc
    · simp only at hst hd
      refine lv_icmp_eq hx hb hd ht (fun h => ?_) (fun h => ?_)
      · simp only [h, decide_true, not_false_eq_true] at hst
        cases hst
        simp only [Nat.sub_self, Nat.add_zero] at kk
        exact kk la H locs hL hW hS
      · simp only [h, decide_false, not_true_eq_false] at hst
        cases hst
        simp only [Nat.sub_self, Nat.add_zero] at kk
        exact kk la H locs hL hW hS
    · simp only at hst hd
      refine lv_icmp_ne hx hb hd ht (fun h => ?_) (fun h => ?_)
      · simp only [h, decide_true, not_false_eq_true] at hst
        cases hst
        simp only [Nat.sub_self, Nat.add_zero] at kk
        exact kk la H locs hL hW hS
      · simp only [h, decide_false, not_true_eq_false] at hst
        cases hst
        simp only [Nat.sub_self, Nat.add_zero] at kk
        exact kk la H locs hL hW hS
    · simp only at hst hd
      refine lv_icmp_lt hx hb hd ht (fun h => ?_) (fun h => ?_)
      · simp only [h, decide_true, not_false_eq_true] at hst
        cases hst
        simp only [Nat.sub_self, Nat.add_zero] at kk
        exact kk la H locs hL hW hS
      · simp only [h, decide_false, not_true_eq_false] at hst
        cases hst
        simp only [Nat.sub_self, Nat.add_zero] at kk
        exact kk la H locs hL hW hS
    · simp only at hst hd
      refine lv_icmp_ge hx hb hd ht (fun h => ?_) (fun h => ?_)
      · simp only [h, decide_true, not_false_eq_true] at hst
        cases hst
        simp only [Nat.sub_self, Nat.add_zero] at kk
        exact kk la H locs hL hW hS
      · simp only [h, decide_false, not_true_eq_false] at hst
        cases hst
        simp only [Nat.sub_self, Nat.add_zero] at kk
        exact kk la H locs hL hW hS
    · simp only at hst hd
      refine lv_icmp_gt hx hb hd ht (fun h => ?_) (fun h => ?_)
      · simp only [h, decide_true, not_false_eq_true] at hst
        cases hst
        simp only [Nat.sub_self, Nat.add_zero] at kk
        exact kk la H locs hL hW hS
      · simp only [h, decide_false, not_true_eq_false] at hst
        cases hst
        simp only [Nat.sub_self, Nat.add_zero] at kk
        exact kk la H locs hL hW hS
    · simp only at hst hd
      refine lv_icmp_le hx hb hd ht (fun h => ?_) (fun h => ?_)
      · simp only [h, decide_true, not_false_eq_true] at hst
        cases hst
        simp only [Nat.sub_self, Nat.add_zero] at kk
        exact kk la H locs hL hW hS
      · simp only [h, decide_false, not_true_eq_false] at hst
        cases hst
        simp only [Nat.sub_self, Nat.add_zero] at kk
        exact kk la H locs hL hW hS
  · cases hst
set_option maxHeartbeats 1000000 in
theorem si_ifCond {cc : Jvm.ClassFile.Cond} {o : Int} {q A1 B1 : Nat} {cv : Int32} (C : Cx D cI cM cP z b L xs sA vA vF mt p s m args meth c) (hok : okE mt pc (.ifCond cc o, q, A1, B1, cv) = true) (hst : stp KKl (xs, L) (.ifCond cc o, q, A1, B1, cv) pc ls st n f g = some (pc1, ls1, sta, n1, f1, g1)) (hL : LR z (tk b sA vA vF) mt.2.2.1 ls la) (hW : Wd D cI cM cP z n f g H) (hS : va_S (fun q => z ≤ q) s.heap H locs) (hR : 1 ≤ R.frames ∧ 64 ≤ R.locals ∧ cells + (n1 - n) ≤ R.cells ∧ slots + (ssz n1 - ssz n) ≤ R.slots) (kk : ∀ (la1 : Array Slot) (H1 : Heap) (locs1 : List Loc), LR z (tk b sA vA vF) mt.2.2.1 ls1 la1 → Wd D cI cM cP z n1 f1 g1 H1 → va_S (fun q => z ≤ q) s.heap H1 locs1 → W p l e R s m args below meth c H1 locs1 (cells + (n1 - n)) (slots + (ssz n1 - ssz n)) Q (F0 m pc1 la1 (sta.map (tr z (tk b sA vA vF))))) : W p l e R s m args below meth c H locs cells slots Q (F0 m pc la (st.map (tr z (tk b sA vA vF)))) := by
  obtain ⟨hx, hb, hml, hr, hown, hts, hnm, hlk, hE⟩ := C
  have hT := hE.T
  simp only [okE, okW, Bool.and_eq_true, decide_eq_true_eq] at hok
  obtain ⟨hd, hw⟩ := hok
  simp only [stp] at hst
  obtain ⟨hw, ht⟩ := hw
  subst hw
  rw [Nat.add_sub_cancel_left] at hd
  split at hst
  · simp only [cnd] at hst
    cases cc
    · simp only at hst hd
      refine lv_if_eq hx hb hd ht (fun h => ?_) (fun h => ?_)
      · simp only [h, decide_true, not_false_eq_true] at hst
        cases hst
        simp only [Nat.sub_self, Nat.add_zero] at kk
        exact kk la H locs hL hW hS
      · simp only [h, decide_false, not_true_eq_false] at hst
        cases hst
        simp only [Nat.sub_self, Nat.add_zero] at kk
        exact kk la H locs hL hW hS
    · simp only at hst hd
      refine lv_if_ne hx hb hd ht (fun h => ?_) (fun h => ?_)
      · simp only [h, decide_true, not_false_eq_true] at hst
        cases hst
        simp only [Nat.sub_self, Nat.add_zero] at kk
        exact kk la H locs hL hW hS
      · simp only [h, decide_false, not_true_eq_false] at hst
        cases hst
        simp only [Nat.sub_self, Nat.add_zero] at kk
        exact kk la H locs hL hW hS
    · simp only at hst hd
      refine lv_if_lt hx hb hd ht (fun h => ?_) (fun h => ?_)
      · simp only [h, decide_true, not_false_eq_true] at hst
        cases hst
        simp only [Nat.sub_self, Nat.add_zero] at kk
        exact kk la H locs hL hW hS
      · simp only [h, decide_false, not_true_eq_false] at hst
        cases hst
        simp only [Nat.sub_self, Nat.add_zero] at kk
        exact kk la H locs hL hW hS
    · simp only at hst hd
      refine lv_if_ge hx hb hd ht (fun h => ?_) (fun h => ?_)
      · simp only [h, decide_true, not_false_eq_true] at hst
        cases hst
        simp only [Nat.sub_self, Nat.add_zero] at kk
        exact kk la H locs hL hW hS
      · simp only [h, decide_false, not_true_eq_false] at hst
        cases hst
        simp only [Nat.sub_self, Nat.add_zero] at kk
        exact kk la H locs hL hW hS
    · simp only at hst hd
      refine lv_if_gt hx hb hd ht (fun h => ?_) (fun h => ?_)
      · simp only [h, decide_true, not_false_eq_true] at hst
        cases hst
        simp only [Nat.sub_self, Nat.add_zero] at kk
        exact kk la H locs hL hW hS
      · simp only [h, decide_false, not_true_eq_false] at hst
        cases hst
        simp only [Nat.sub_self, Nat.add_zero] at kk
        exact kk la H locs hL hW hS
    · simp only at hst hd
      refine lv_if_le hx hb hd ht (fun h => ?_) (fun h => ?_)
      · simp only [h, decide_true, not_false_eq_true] at hst
        cases hst
        simp only [Nat.sub_self, Nat.add_zero] at kk
        exact kk la H locs hL hW hS
      · simp only [h, decide_false, not_true_eq_false] at hst
        cases hst
        simp only [Nat.sub_self, Nat.add_zero] at kk
        exact kk la H locs hL hW hS
  · cases hst
set_option maxHeartbeats 1000000 in
theorem si_tableswitch {df lo hi : Int} {offs : Array Int} {q A1 B1 : Nat} {cv : Int32} (C : Cx D cI cM cP z b L xs sA vA vF mt p s m args meth c) (hok : okE mt pc (.tableswitch df lo hi offs, q, A1, B1, cv) = true) (hst : stp KKl (xs, L) (.tableswitch df lo hi offs, q, A1, B1, cv) pc ls st n f g = some (pc1, ls1, sta, n1, f1, g1)) (hL : LR z (tk b sA vA vF) mt.2.2.1 ls la) (hW : Wd D cI cM cP z n f g H) (hS : va_S (fun q => z ≤ q) s.heap H locs) (hR : 1 ≤ R.frames ∧ 64 ≤ R.locals ∧ cells + (n1 - n) ≤ R.cells ∧ slots + (ssz n1 - ssz n) ≤ R.slots) (kk : ∀ (la1 : Array Slot) (H1 : Heap) (locs1 : List Loc), LR z (tk b sA vA vF) mt.2.2.1 ls1 la1 → Wd D cI cM cP z n1 f1 g1 H1 → va_S (fun q => z ≤ q) s.heap H1 locs1 → W p l e R s m args below meth c H1 locs1 (cells + (n1 - n)) (slots + (ssz n1 - ssz n)) Q (F0 m pc1 la1 (sta.map (tr z (tk b sA vA vF))))) : W p l e R s m args below meth c H locs cells slots Q (F0 m pc la (st.map (tr z (tk b sA vA vF)))) := by
  obtain ⟨hx, hb, hml, hr, hown, hts, hnm, hlk, hE⟩ := C
  have hT := hE.T
  simp only [okE, okW, Bool.and_eq_true, decide_eq_true_eq] at hok
  obtain ⟨hd, hw⟩ := hok
  simp only [stp] at hst
  obtain ⟨h0, hall⟩ := hw
  split at hst
  · split at hst
    · rename_i x r t ht
      cases hst
      simp only [Nat.sub_self, Nat.add_zero] at kk
      unfold tsw at ht
      split at ht
      · rename_i hc
        cases ht
        exact lv_tableOut hx hb hd hc (Int.toNat_of_nonneg h0).symm (kk la H locs hL hW hS)
      · rename_i hc
        split at ht
        · rename_i o ho
          cases ht
          have hm : o ∈ offs.toList := by
            rw [← Array.getElem?_toList] at ho
            exact List.mem_of_getElem? ho
          have h2 := List.all_eq_true.mp hall o hm
          simp only [decide_eq_true_eq] at h2
          exact lv_tableIn hx hb hd (fun h => hc (Or.inl h)) (fun h => hc (Or.inr h)) ho (Int.toNat_of_nonneg h2).symm (kk la H locs hL hW hS)
        · cases ht
    · cases hst
  · cases hst
set_option maxHeartbeats 1000000 in
theorem si_getstatic {w : Nat} {q A1 B1 : Nat} {cv : Int32} (C : Cx D cI cM cP z b L xs sA vA vF mt p s m args meth c) (hok : okE mt pc (.getstatic w, q, A1, B1, cv) = true) (hst : stp KKl (xs, L) (.getstatic w, q, A1, B1, cv) pc ls st n f g = some (pc1, ls1, sta, n1, f1, g1)) (hL : LR z (tk b sA vA vF) mt.2.2.1 ls la) (hW : Wd D cI cM cP z n f g H) (hS : va_S (fun q => z ≤ q) s.heap H locs) (hR : 1 ≤ R.frames ∧ 64 ≤ R.locals ∧ cells + (n1 - n) ≤ R.cells ∧ slots + (ssz n1 - ssz n) ≤ R.slots) (kk : ∀ (la1 : Array Slot) (H1 : Heap) (locs1 : List Loc), LR z (tk b sA vA vF) mt.2.2.1 ls1 la1 → Wd D cI cM cP z n1 f1 g1 H1 → va_S (fun q => z ≤ q) s.heap H1 locs1 → W p l e R s m args below meth c H1 locs1 (cells + (n1 - n)) (slots + (ssz n1 - ssz n)) Q (F0 m pc1 la1 (sta.map (tr z (tk b sA vA vF))))) : W p l e R s m args below meth c H locs cells slots Q (F0 m pc la (st.map (tr z (tk b sA vA vF)))) := by
  obtain ⟨hx, hb, hml, hr, hown, hts, hnm, hlk, hE⟩ := C
  have hT := hE.T
  simp only [okE, okW, Bool.and_eq_true, decide_eq_true_eq] at hok
  obtain ⟨hd, hw⟩ := hok
  simp only [stp] at hst
  obtain ⟨hw, hv⟩ := hw
  subst hw
  rw [Nat.add_sub_cancel_left] at hd
  split at hst
  · rename_i hA
    rw [if_pos hA] at hv
    cases hst
    simp only [Nat.sub_self, Nat.add_zero] at kk
    exact va_gets hx hb hE.2.2.2.2.2.2.1 hS hown (hts _ (big_in hv rfl)) (fun _ h => h) hd (kk la H locs hL hW hS)
  · rename_i hA
    rw [if_neg hA] at hv
    cases hst
    simp only [Nat.sub_self, Nat.add_zero] at kk
    exact va_gets hx hb hE.2.2.2.2.2.2.2.1 hS hown (hts _ (big_in hv rfl)) (fun _ h => h) hd (kk la H locs hL hW hS)
set_option maxHeartbeats 1000000 in
theorem si_getfield {w : Nat} {q A1 B1 : Nat} {cv : Int32} (C : Cx D cI cM cP z b L xs sA vA vF mt p s m args meth c) (hok : okE mt pc (.getfield w, q, A1, B1, cv) = true) (hst : stp KKl (xs, L) (.getfield w, q, A1, B1, cv) pc ls st n f g = some (pc1, ls1, sta, n1, f1, g1)) (hL : LR z (tk b sA vA vF) mt.2.2.1 ls la) (hW : Wd D cI cM cP z n f g H) (hS : va_S (fun q => z ≤ q) s.heap H locs) (hR : 1 ≤ R.frames ∧ 64 ≤ R.locals ∧ cells + (n1 - n) ≤ R.cells ∧ slots + (ssz n1 - ssz n) ≤ R.slots) (kk : ∀ (la1 : Array Slot) (H1 : Heap) (locs1 : List Loc), LR z (tk b sA vA vF) mt.2.2.1 ls1 la1 → Wd D cI cM cP z n1 f1 g1 H1 → va_S (fun q => z ≤ q) s.heap H1 locs1 → W p l e R s m args below meth c H1 locs1 (cells + (n1 - n)) (slots + (ssz n1 - ssz n)) Q (F0 m pc1 la1 (sta.map (tr z (tk b sA vA vF))))) : W p l e R s m args below meth c H locs cells slots Q (F0 m pc la (st.map (tr z (tk b sA vA vF)))) := by
  obtain ⟨hx, hb, hml, hr, hown, hts, hnm, hlk, hE⟩ := C
  have hT := hE.T
  simp only [okE, okW, Bool.and_eq_true, decide_eq_true_eq] at hok
  obtain ⟨hd, hw⟩ := hok
  simp only [stp] at hst
  obtain ⟨hw, hv⟩ := hw
  subst hw
  rw [Nat.add_sub_cancel_left] at hd
  unfold sGet at hst
  split at hst
  · rename_i a r
    split at hst
    · rename_i ci sz hk
      split at hst
      · rename_i hc
        obtain ⟨h20, hci, hlt⟩ := hc
        simp only at hci hlt hst
        rw [if_neg (by omega), if_neg (by omega)] at hv
        unfold fOk at hv
        split at hv
        · rename_i cl hcl
          simp only [Bool.and_eq_true, decide_eq_true_eq] at hv
          obtain ⟨hN, hlink, href, -⟩ := hv
          rw [← hci] at hcl
          have hat := hW.at hk
          rw [cellE_o h20] at hat
          have key := fun kk2 => va_get (p := p) (l := l) (e := e) (R := R) (below := below) (meth := meth) (Q := Q) (locs := locs) (cells := cells) (slots := slots) (ls := la) (rest := r.map (tr z (tk b sA vA vF))) hx hb hts (cls_ok hcl).1 hown hE.1 (va_P1 hat) 0 rfl hcl (A1 % 100) hN (hts _ (big_in hlink rfl)) (fun _ h => h) (fv_get hlt) hd kk2
          split at hst
          · rename_i h1
            rw [← hci, h1] at href
            have href : refF ci (A1 % 100) = true := href.trans (by decide)
            cases hst
            simp only [Nat.sub_self, Nat.add_zero] at kk
            refine key ?_
            have k2 := kk la H locs hL hW hS
            rw [List.map_cons, tr_rf] at k2
            unfold fv
            rw [href]
            exact k2
          · rename_i h1
            rw [← hci, decide_eq_false h1] at href
            cases hst
            simp only [Nat.sub_self, Nat.add_zero] at kk
            refine key ?_
            have k2 := kk la H locs hL hW hS
            unfold fv
            rw [href]
            exact k2
        · cases hv
      · cases hst
    · cases hst
  · split at hst
    · rename_i hA
      obtain ⟨rfl, hA⟩ := hA
      simp only at hA
      rw [if_pos hA] at hv
      cases hst
      simp only [Nat.sub_self, Nat.add_zero] at kk
      exact vk_getf hx hb (hE.2.2.2.2.2.1.1 0 (by omega)).2.2.1 hS hown (hts _ (big_in hv rfl)) (fun _ h => h) hd (kk la H locs hL hW hS)
    · rename_i hA0
      split at hst
      · rename_i hA
        obtain ⟨rfl, hA⟩ := hA
        simp only at hA
        rw [if_neg (by omega), if_pos hA] at hv
        cases hst
        simp only [Nat.sub_self, Nat.add_zero] at kk
        exact vk_getf hx hb (hE.2.2.2.2.2.1.1 0 (by omega)).2.1 hS hown (hts _ (big_in hv rfl)) (fun _ h => h) hd (kk la H locs hL hW hS)
      · cases hst
  · cases hst
end ONE
