/-! THE LINK, 5: cells written and made; any instruction -/
section TWO
variable {D : va_G} {cI cM cP : ClassId} {z b L sA vA : Nat} {xs : Nat → Int32} {vF : Value}
variable {p : Program} {l : Launch} {e : Jvm.Env} {R : Room} {s : State} {m : MethodId} {args : Array Value} {below : List Frame} {meth : Method} {c : Code} {H : Heap} {locs : List Loc} {cells slots : Nat} {Q : State → Prop}
variable {mt : Mth} {pc n pc1 n1 : Nat} {ls ls1 : LL} {st sta : List Value} {f f1 : FF} {g g1 : GG} {la : Array Slot}
theorem max_w : Jvm.Cond.static Lib.Math.max.name ∈ Big ∧ Jvm.Cond.initialized "java/lang/Math" ∈ Big ∧ Jvm.Cond.code Lib.Math.max.name Lib.Math.max.code 2 (some .int) ∈ Big := ⟨big_in (B := 186) (by decide +kernel) rfl, big_in (B := 46) (by decide +kernel) rfl, big_in (B := 187) (by decide +kernel) rfl⟩
theorem arr_w : Jvm.Cond.arrayClass .int ∈ Big := big_in (B := 82) (by decide +kernel) rfl
theorem set_map {sz k : Nat} {F F' : Nat → Value} {v : Value} (hk : F' k = v) (ho : ∀ j, j ≠ k → F' j = F j) : ((List.range sz).map F).set k v = (List.range sz).map F' := by
  apply List.ext_getElem?
  intro j
  rw [List.getElem?_set, List.length_map, List.length_range, List.getElem?_map, List.getElem?_map]
  by_cases hj : k = j
  · subst hj
    rw [if_pos rfl]
    by_cases hl : k < sz
    · rw [if_pos hl, List.getElem?_range hl]
      simp [hk]
    · rw [if_neg hl, List.getElem?_eq_none (by simp; omega)]
      rfl
  · rw [if_neg hj]
    by_cases hl : j < sz
    · rw [List.getElem?_range hl]
      simp [ho j (fun e => hj e.symm)]
    · rw [List.getElem?_eq_none (by simp; omega)]
      rfl
set_option maxHeartbeats 1000000 in
/-- a field is written: the real store, and the new world -/
theorem put_core {ix a ci sz k : Nat} {cl : vw_C} {v : Value} {rest : List Value} (hx : p.tables.exec = Jvm.exec) (hb : c.code = mt.2.1) (hown : s.vm.findClass mt.1.cls = some m.cls) (hts : ∀ w ∈ Big, w.before args s = true) (hnm : mt.1.name = "<init>" → meth.name = mt.1.name) (hE : Env D cI cM cP z b L xs sA vA vF s) (hW : Wd D cI cM cP z n f g H) (hS : va_S (fun q => z ≤ q) s.heap H locs)
    (hk : kd KKl n a = some (ci, sz)) (h20 : ci < 20) (hcl : vwCl[ci]? = some cl) (hN : k < cl.2.2) (hlt : k < sz) (hlink : (Jvm.Cond.fieldLink mt.1.cls ix (cl.2.1 k).1 (cl.2.1 k).2.1 (cl.2.1 k).2.2.1).before args s = true) (hfin : (cl.2.1 k).2.2.2 = true → mt.1.name = "<init>" ∧ (cl.2.1 k).1 = mt.1.cls)
    {ty : FieldType} (hty1 : parseFieldDescriptor (cl.2.1 k).2.2.1 = some ty) (hn : narrow ty v = v) (hfit : fits ty v = true)
    (hf : ∀ i, i ≠ a → f1 i = f i) (hg : ∀ i, i ≠ a → g1 i = g i) (hv : fv z ci k (f1 a k) (g1 a k) = v) (ho : ∀ j, j ≠ k → fv z ci j (f1 a j) (g1 a j) = fv z ci j (f a j) (g a j)) (hd : decode mt.2.1 pc = .ok (.putfield ix, 3))
    (kk : ∀ (H1 : Heap) (locs1 : List Loc), Wd D cI cM cP z n f1 g1 H1 → va_S (fun q => z ≤ q) s.heap H1 locs1 → W p l e R s m args below meth c H1 locs1 cells slots Q (F0 m (pc + 3) la rest)) : W p l e R s m args below meth c H locs cells slots Q (F0 m pc la (v :: .ref (z + a) :: rest)) := by
  obtain ⟨hin, hnames, -, -, tys, htys, -⟩ := cls_ok hcl
  have hK := hE.1
  have hat := hW.at hk
  rw [cellE_o h20] at hat
  obtain ⟨r, h1, cell, q1, q2, q3, q4⟩ := hat
  have hr : r = cl := Option.some.inj (h1.symm.trans hcl)
  subst hr
  have hap := va_apart (own := mt.1.cls) hts hin tys htys hnames hK hcl
  obtain ⟨hSl, hfc, kC, hkC, hkind⟩ := hK.1 ci _ hcl
  obtain ⟨cf, kf, fi, fd, hi, hsl⟩ := hSl k hN
  have hlay := hts _ (hin _ (u_in_lay hN))
  have hst := (u_facts hfc hkC (u_lays hts hin hN) hi).1
  have done : ∀ (H' : Heap) (e1 : H'[z + a]? = some (cell.setSlot fd.slot v)) (e2 : H'.size = H.size) (e3 : ∀ q : Nat, q ≠ z + a → H'[q]? = H[q]?), Wd D cI cM cP z n f1 g1 H' ∧ va_S (fun q => z ≤ q) s.heap H' (locs ++ [⟨z + a, fd.slot⟩]) := by
    intro H' e1 e2 e3
    rw [hsl] at e1
    refine ⟨hW.put hk e2 e3 hf hg ?_, hS.put e2 e3 (Nat.le_add_right z a)⟩
    rw [cellE_o h20]
    refine ⟨_, hcl, t_OB.to (V := updV (vp_V ((List.range sz).map fun j => fv z ci j (f a j) (g a j))) k v) ⟨_, e1, q2, q3, t_set q4 hap hN v⟩ (fun j _ => ?_)⟩
    rw [vp_updV_set (by simpa using hlt) v j, set_map (F' := fun j => fv z ci j (f1 a j) (g1 a j)) hv ho]
  cases hff : (r.2.1 k).2.2.2 with
  | false =>
    unfold u_lay at hlay
    rw [if_neg (by rw [hff]; decide)] at hlay
    have h6 := u_store hfc hkC hkind hlay hi hty1 hn hfit
    refine W.putK hx hb (f := fd) ⟨hown, hlink, ⟨_, _, _, hi⟩, hst⟩ (by rw [q2]; exact h6) q1 q3 (by rw [hsl]; exact k2_hasslot (q4 k hN)) rfl rfl hd fun H' e1 e2 e3 => ?_
    obtain ⟨w1, w2⟩ := done H' e1 e2 e3
    exact kk H' _ w1 w2
  | true =>
    unfold u_lay at hlay
    rw [if_pos hff] at hlay
    obtain ⟨hin2, hdecl⟩ := hfin hff
    have hcf : m.cls = cf := by
      obtain ⟨_, _, c', _, _, _, -, -, hf', -, -, -, hown2, -⟩ := Cond.laysFinal_spec hlay
      have e1 : c' = cf := by have := hi.symm.trans hf'; simp at this; exact this.1.symm
      rw [hdecl] at hown2
      rw [← e1]; exact Option.some.inj (hown.symm.trans hown2)
    have h6 := u_fits hfc hkC hkind (Or.inr hlay) hi hty1 hn hfit
    refine W.putFinK hx hb hown hlink hi hst hcf ((hnm hin2).trans hin2) (by rw [q2]; exact h6) q1 q3 (by rw [hsl]; exact k2_hasslot (q4 k hN)) rfl rfl hd fun H' e1 e2 e3 => ?_
    obtain ⟨w1, w2⟩ := done H' e1 e2 e3
    exact kk H' _ w1 w2
set_option maxHeartbeats 1000000 in
theorem si_putfield {w : Nat} {q A1 B1 : Nat} {cv : Int32} (C : Cx D cI cM cP z b L xs sA vA vF mt p s m args meth c) (hok : okE mt pc (.putfield w, q, A1, B1, cv) = true) (hst : stp KKl (xs, L) (.putfield w, q, A1, B1, cv) pc ls st n f g = some (pc1, ls1, sta, n1, f1, g1)) (hL : LR z (tk b sA vA vF) mt.2.2.1 ls la) (hW : Wd D cI cM cP z n f g H) (hS : va_S (fun q => z ≤ q) s.heap H locs) (hR : 1 ≤ R.frames ∧ 64 ≤ R.locals ∧ cells + (n1 - n) ≤ R.cells ∧ slots + (ssz n1 - ssz n) ≤ R.slots) (kk : ∀ (la1 : Array Slot) (H1 : Heap) (locs1 : List Loc), LR z (tk b sA vA vF) mt.2.2.1 ls1 la1 → Wd D cI cM cP z n1 f1 g1 H1 → va_S (fun q => z ≤ q) s.heap H1 locs1 → W p l e R s m args below meth c H1 locs1 (cells + (n1 - n)) (slots + (ssz n1 - ssz n)) Q (F0 m pc1 la1 (sta.map (tr z (tk b sA vA vF))))) : W p l e R s m args below meth c H locs cells slots Q (F0 m pc la (st.map (tr z (tk b sA vA vF)))) := by
  obtain ⟨hx, hb, hml, hr, hown, hts, hnm, hlk, hE⟩ := C
  have hT := hE.T
  simp only [okE, okW, Bool.and_eq_true, decide_eq_true_eq] at hok
  obtain ⟨hd, hw⟩ := hok
  simp only [stp] at hst
  obtain ⟨hw, hv, hfi⟩ := hw
  subst hw
  rw [Nat.add_sub_cancel_left] at hd
  unfold sPut at hst
  split at hst
  · rename_i v a r
    split at hst
    · rename_i ci sz hk
      split at hst
      · rename_i hc
        obtain ⟨h20, hci, hlt, hcv⟩ := hc
        simp only at hci hlt hcv hst
        unfold fOk at hv
        unfold finOk at hfi
        rw [← hci] at hv hfi
        split at hv
        · rename_i cl hcl
          rw [hcl] at hfi
          simp only at hfi
          simp only [Bool.and_eq_true, decide_eq_true_eq] at hv
          obtain ⟨hN, hlink, href, -⟩ := hv
          cases hst
          simp only [Nat.sub_self, Nat.add_zero] at kk
          obtain ⟨-, -, -, -, tys, htys, htk⟩ := cls_ok hcl
          have hfin : (cl.2.1 (A1 % 100)).2.2.2 = true → mt.1.name = "<init>" ∧ (cl.2.1 (A1 % 100)).1 = mt.1.cls := by
            intro hf1
            rw [hf1] at hfi
            simp only [Bool.and_eq_true, decide_eq_true_eq] at hfi
            exact hfi
          rw [hcv] at href
          have href2 : refF ci (A1 % 100) = false := href.trans (by decide)
          rcases htk _ hN with ⟨-, ht⟩ | ⟨h1, -⟩
          · refine put_core (v := .int v) hx hb hown hts hnm hE hW hS hk h20 hcl hN hlt (hts _ (big_in hlink rfl)) hfin (htys _ hN) (by rw [ht]; rfl) (by rw [ht]; rfl) (fun i h => fup_off h) (fun i h => rfl) (by unfold fv; rw [href2]; simp [fup]) (fun j h => by simp [fup, h]) hd (fun H1 locs1 w1 w2 => kk la H1 locs1 hL w1 w2)
          · rw [h1] at href2; cases href2
        · cases hv
      · cases hst
    · cases hst
  · rename_i v a r
    split at hst
    · rename_i ci sz hk
      split at hst
      · rename_i hc
        obtain ⟨h20, hci, hlt, hcv⟩ := hc
        simp only at hci hlt hcv hst
        unfold fOk at hv
        unfold finOk at hfi
        rw [← hci] at hv hfi
        split at hv
        · rename_i cl hcl
          rw [hcl] at hfi
          simp only at hfi
          simp only [Bool.and_eq_true, decide_eq_true_eq] at hv
          obtain ⟨hN, hlink, href, -⟩ := hv
          cases hst
          simp only [Nat.sub_self, Nat.add_zero] at kk
          obtain ⟨-, -, -, -, tys, htys, htk⟩ := cls_ok hcl
          have hfin : (cl.2.1 (A1 % 100)).2.2.2 = true → mt.1.name = "<init>" ∧ (cl.2.1 (A1 % 100)).1 = mt.1.cls := by
            intro hf1
            rw [hf1] at hfi
            simp only [Bool.and_eq_true, decide_eq_true_eq] at hfi
            exact hfi
          rw [hcv] at href
          have href2 : refF ci (A1 % 100) = true := href.trans (by decide)
          rcases htk _ hN with ⟨h1, -⟩ | ⟨-, ht⟩
          · rw [h1] at href2; cases href2
          · refine put_core (v := .ref (z + v)) hx hb hown hts hnm hE hW hS hk h20 hcl hN hlt (hts _ (big_in hlink rfl)) hfin (htys _ hN) (by rcases ht with ⟨x, ht⟩ | ⟨x, ht⟩ <;> rw [ht] <;> rfl) (by rcases ht with ⟨x, ht⟩ | ⟨x, ht⟩ <;> rw [ht] <;> rfl) (fun i h => rfl) (fun i h => gup_off h) (by unfold fv; rw [href2]; simp [gup, va_rf]) (fun j h => by simp [gup, h]) hd (fun H1 locs1 w1 w2 => kk la H1 locs1 hL w1 w2)
        · cases hv
      · cases hst
    · cases hst
  · cases hst
set_option maxHeartbeats 1000000 in
theorem si_arraylength {q A1 B1 : Nat} {cv : Int32} (C : Cx D cI cM cP z b L xs sA vA vF mt p s m args meth c) (hok : okE mt pc (.arraylength, q, A1, B1, cv) = true) (hst : stp KKl (xs, L) (.arraylength, q, A1, B1, cv) pc ls st n f g = some (pc1, ls1, sta, n1, f1, g1)) (hL : LR z (tk b sA vA vF) mt.2.2.1 ls la) (hW : Wd D cI cM cP z n f g H) (hS : va_S (fun q => z ≤ q) s.heap H locs) (hR : 1 ≤ R.frames ∧ 64 ≤ R.locals ∧ cells + (n1 - n) ≤ R.cells ∧ slots + (ssz n1 - ssz n) ≤ R.slots) (kk : ∀ (la1 : Array Slot) (H1 : Heap) (locs1 : List Loc), LR z (tk b sA vA vF) mt.2.2.1 ls1 la1 → Wd D cI cM cP z n1 f1 g1 H1 → va_S (fun q => z ≤ q) s.heap H1 locs1 → W p l e R s m args below meth c H1 locs1 (cells + (n1 - n)) (slots + (ssz n1 - ssz n)) Q (F0 m pc1 la1 (sta.map (tr z (tk b sA vA vF))))) : W p l e R s m args below meth c H locs cells slots Q (F0 m pc la (st.map (tr z (tk b sA vA vF)))) := by
  obtain ⟨hx, hb, hml, hr, hown, hts, hnm, hlk, hE⟩ := C
  have hT := hE.T
  simp only [okE, okW, Bool.and_eq_true, decide_eq_true_eq] at hok
  obtain ⟨hd, hw⟩ := hok
  simp only [stp] at hst
  subst hw
  rw [Nat.add_sub_cancel_left] at hd
  unfold sALen at hst
  split at hst
  · rename_i a r
    split at hst
    · rename_i k sz hk
      split at hst
      · rename_i h20
        cases hst
        simp only [Nat.sub_self, Nat.add_zero] at kk
        have hat := hW.at hk
        have k22 := (KK_22 (kd_spec hk).2).1
        rcases (show k = 20 ∨ k = 21 ∨ k = 22 by omega) with rfl | rfl | rfl
        · exact va_alen hx hb hE.1 (va_P1 hat) 0 0 rfl rfl rfl hd (kk la H locs hL hW hS)
        · exact va_alen hx hb hE.1 (va_P1 hat) 0 1 rfl rfl rfl hd (kk la H locs hL hW hS)
        · exact va_alen hx hb hE.1 (va_P1 hat) 0 2 rfl rfl rfl hd (kk la H locs hL hW hS)
      · cases hst
    · cases hst
  · split at hst
    · rename_i ht
      subst ht
      cases hst
      simp only [Nat.sub_self, Nat.add_zero] at kk
      have hz := hE.2.2.2.2.2.2.2.2.2.2.1
      have hbz := hE.2.2.2.2.2.2.2.2.2.1
      exact va_slen hx hb hE.2.2.2.2.2.2.2.2.1 (Nat.lt_of_lt_of_le hbz hz) (Nat.not_le.mpr hbz) hS hd (kk la H locs hL hW hS)
    · split at hst
      · rename_i h0 ht
        subst ht
        cases hst
        simp only [Nat.sub_self, Nat.add_zero] at kk
        exact va_tlen hx hb (hE.2.2.2.2.2.1.1 0 (by omega)).2.2.2 hS rfl hd (kk la H locs hL hW hS)
      · cases hst
  · cases hst
set_option maxHeartbeats 1000000 in
theorem si_iaload {q A1 B1 : Nat} {cv : Int32} (C : Cx D cI cM cP z b L xs sA vA vF mt p s m args meth c) (hok : okE mt pc (.iaload, q, A1, B1, cv) = true) (hst : stp KKl (xs, L) (.iaload, q, A1, B1, cv) pc ls st n f g = some (pc1, ls1, sta, n1, f1, g1)) (hL : LR z (tk b sA vA vF) mt.2.2.1 ls la) (hW : Wd D cI cM cP z n f g H) (hS : va_S (fun q => z ≤ q) s.heap H locs) (hR : 1 ≤ R.frames ∧ 64 ≤ R.locals ∧ cells + (n1 - n) ≤ R.cells ∧ slots + (ssz n1 - ssz n) ≤ R.slots) (kk : ∀ (la1 : Array Slot) (H1 : Heap) (locs1 : List Loc), LR z (tk b sA vA vF) mt.2.2.1 ls1 la1 → Wd D cI cM cP z n1 f1 g1 H1 → va_S (fun q => z ≤ q) s.heap H1 locs1 → W p l e R s m args below meth c H1 locs1 (cells + (n1 - n)) (slots + (ssz n1 - ssz n)) Q (F0 m pc1 la1 (sta.map (tr z (tk b sA vA vF))))) : W p l e R s m args below meth c H locs cells slots Q (F0 m pc la (st.map (tr z (tk b sA vA vF)))) := by
  obtain ⟨hx, hb, hml, hr, hown, hts, hnm, hlk, hE⟩ := C
  have hT := hE.T
  simp only [okE, okW, Bool.and_eq_true, decide_eq_true_eq] at hok
  obtain ⟨hd, hw⟩ := hok
  simp only [stp] at hst
  subst hw
  rw [Nat.add_sub_cancel_left] at hd
  unfold sIald at hst
  split at hst
  · rename_i i a r
    split at hst
    · rename_i k sz hk
      split at hst
      · rename_i hc
        obtain ⟨rfl, hin⟩ := hc
        cases hst
        simp only [Nat.sub_self, Nat.add_zero] at kk
        exact va_iald hx hb hE.1 (va_P1 (hW.at hk)) 0 0 rfl rfl hin hd (kk la H locs hL hW hS)
      · cases hst
    · cases hst
  · split at hst
    · rename_i hc
      obtain ⟨rfl, hin⟩ := hc
      cases hst
      simp only [Nat.sub_self, Nat.add_zero] at kk
      have hz := hE.2.2.2.2.2.2.2.2.2.2.1
      have hbz := hE.2.2.2.2.2.2.2.2.2.1
      exact va_sld hx hb hE.2.2.2.2.2.2.2.2.1 (Nat.lt_of_lt_of_le hbz hz) (Nat.not_le.mpr hbz) hS hin hd (kk la H locs hL hW hS)
    · cases hst
  · cases hst
set_option maxHeartbeats 1000000 in
theorem si_baload {q A1 B1 : Nat} {cv : Int32} (C : Cx D cI cM cP z b L xs sA vA vF mt p s m args meth c) (hok : okE mt pc (.baload, q, A1, B1, cv) = true) (hst : stp KKl (xs, L) (.baload, q, A1, B1, cv) pc ls st n f g = some (pc1, ls1, sta, n1, f1, g1)) (hL : LR z (tk b sA vA vF) mt.2.2.1 ls la) (hW : Wd D cI cM cP z n f g H) (hS : va_S (fun q => z ≤ q) s.heap H locs) (hR : 1 ≤ R.frames ∧ 64 ≤ R.locals ∧ cells + (n1 - n) ≤ R.cells ∧ slots + (ssz n1 - ssz n) ≤ R.slots) (kk : ∀ (la1 : Array Slot) (H1 : Heap) (locs1 : List Loc), LR z (tk b sA vA vF) mt.2.2.1 ls1 la1 → Wd D cI cM cP z n1 f1 g1 H1 → va_S (fun q => z ≤ q) s.heap H1 locs1 → W p l e R s m args below meth c H1 locs1 (cells + (n1 - n)) (slots + (ssz n1 - ssz n)) Q (F0 m pc1 la1 (sta.map (tr z (tk b sA vA vF))))) : W p l e R s m args below meth c H locs cells slots Q (F0 m pc la (st.map (tr z (tk b sA vA vF)))) := by
  obtain ⟨hx, hb, hml, hr, hown, hts, hnm, hlk, hE⟩ := C
  have hT := hE.T
  simp only [okE, okW, Bool.and_eq_true, decide_eq_true_eq] at hok
  obtain ⟨hd, hw⟩ := hok
  simp only [stp] at hst
  subst hw
  rw [Nat.add_sub_cancel_left] at hd
  unfold sBald at hst
  split at hst
  · split at hst
    · rename_i hc
      obtain ⟨rfl, hin⟩ := hc
      cases hst
      simp only [Nat.sub_self, Nat.add_zero] at kk
      exact va_tb hx hb (hE.2.2.2.2.2.1.1 0 (by omega)).2.2.2 hS hin rfl hd (kk la H locs hL hW hS)
    · cases hst
  · cases hst
set_option maxHeartbeats 1000000 in
theorem si_aaload {q A1 B1 : Nat} {cv : Int32} (C : Cx D cI cM cP z b L xs sA vA vF mt p s m args meth c) (hok : okE mt pc (.aaload, q, A1, B1, cv) = true) (hst : stp KKl (xs, L) (.aaload, q, A1, B1, cv) pc ls st n f g = some (pc1, ls1, sta, n1, f1, g1)) (hL : LR z (tk b sA vA vF) mt.2.2.1 ls la) (hW : Wd D cI cM cP z n f g H) (hS : va_S (fun q => z ≤ q) s.heap H locs) (hR : 1 ≤ R.frames ∧ 64 ≤ R.locals ∧ cells + (n1 - n) ≤ R.cells ∧ slots + (ssz n1 - ssz n) ≤ R.slots) (kk : ∀ (la1 : Array Slot) (H1 : Heap) (locs1 : List Loc), LR z (tk b sA vA vF) mt.2.2.1 ls1 la1 → Wd D cI cM cP z n1 f1 g1 H1 → va_S (fun q => z ≤ q) s.heap H1 locs1 → W p l e R s m args below meth c H1 locs1 (cells + (n1 - n)) (slots + (ssz n1 - ssz n)) Q (F0 m pc1 la1 (sta.map (tr z (tk b sA vA vF))))) : W p l e R s m args below meth c H locs cells slots Q (F0 m pc la (st.map (tr z (tk b sA vA vF)))) := by
  obtain ⟨hx, hb, hml, hr, hown, hts, hnm, hlk, hE⟩ := C
  have hT := hE.T
  simp only [okE, okW, Bool.and_eq_true, decide_eq_true_eq] at hok
  obtain ⟨hd, hw⟩ := hok
  simp only [stp] at hst
  subst hw
  rw [Nat.add_sub_cancel_left] at hd
  unfold sAald at hst
  split at hst
  · rename_i i a r
    split at hst
    · rename_i k sz hk
      split at hst
      · rename_i hc
        obtain ⟨h20, hin⟩ := hc
        cases hst
        simp only [Nat.sub_self, Nat.add_zero] at kk
        have hat := hW.at hk
        rw [cellE_q h20] at hat
        have k22 := (KK_22 (kd_spec hk).2).1
        have k2 := kk la H locs hL hW hS
        rw [List.map_cons, tr_rf] at k2
        rcases (show k = 21 ∨ k = 22 by omega) with rfl | rfl
        · exact va_aldq hx hb hE.1 (va_P1 hat) 0 1 rfl rfl hin hd k2
        · exact va_aldq hx hb hE.1 (va_P1 hat) 0 2 rfl rfl hin hd k2
      · cases hst
    · cases hst
  · cases hst
set_option maxHeartbeats 1000000 in
theorem si_iastore {q A1 B1 : Nat} {cv : Int32} (C : Cx D cI cM cP z b L xs sA vA vF mt p s m args meth c) (hok : okE mt pc (.iastore, q, A1, B1, cv) = true) (hst : stp KKl (xs, L) (.iastore, q, A1, B1, cv) pc ls st n f g = some (pc1, ls1, sta, n1, f1, g1)) (hL : LR z (tk b sA vA vF) mt.2.2.1 ls la) (hW : Wd D cI cM cP z n f g H) (hS : va_S (fun q => z ≤ q) s.heap H locs) (hR : 1 ≤ R.frames ∧ 64 ≤ R.locals ∧ cells + (n1 - n) ≤ R.cells ∧ slots + (ssz n1 - ssz n) ≤ R.slots) (kk : ∀ (la1 : Array Slot) (H1 : Heap) (locs1 : List Loc), LR z (tk b sA vA vF) mt.2.2.1 ls1 la1 → Wd D cI cM cP z n1 f1 g1 H1 → va_S (fun q => z ≤ q) s.heap H1 locs1 → W p l e R s m args below meth c H1 locs1 (cells + (n1 - n)) (slots + (ssz n1 - ssz n)) Q (F0 m pc1 la1 (sta.map (tr z (tk b sA vA vF))))) : W p l e R s m args below meth c H locs cells slots Q (F0 m pc la (st.map (tr z (tk b sA vA vF)))) := by
  obtain ⟨hx, hb, hml, hr, hown, hts, hnm, hlk, hE⟩ := C
  have hT := hE.T
  simp only [okE, okW, Bool.and_eq_true, decide_eq_true_eq] at hok
  obtain ⟨hd, hw⟩ := hok
  simp only [stp] at hst
  subst hw
  rw [Nat.add_sub_cancel_left] at hd
  unfold sIast at hst
  split at hst
  · rename_i x i a r
    split at hst
    · rename_i k sz hk
      split at hst
      · rename_i hc
        obtain ⟨rfl, hin⟩ := hc
        cases hst
        simp only [Nat.sub_self, Nat.add_zero] at kk
        have hat := hW.at hk
        refine W.iast hx hb hat ((hE.1.2 0 _ rfl).1 sz (fun j => .int (f a j))) (fun q => by cases q) (by show ¬ (i < 0 ∨ (arrV _ _ _).slots.size ≤ _); rw [arrV_size]; exact hin) rfl rfl hd fun H1 e1 e2 e3 => ?_
        refine kk la H1 _ hL (hW.put hk e2 e3 (fun i h => fup_off h) (fun i h => rfl) ?_) (hS.put e2 e3 (Nat.le_add_right z a))
        show H1[z + a]? = some (vp_cell _ _)
        rw [e1, fup_in]
        show some ((arrV cI sz (fun j => Value.int (f a j))).setSlot i.toNatClampNeg (.int x)) = some (arrV cI sz (fun j => Value.int (upd (f a) i.toNatClampNeg x j)))
        rw [arrV_store]
        congr 2
        funext q
        by_cases hq : q = i.toNatClampNeg
        · simp [updV, upd, hq]
        · simp [updV, upd, hq]
      · cases hst
    · cases hst
  · cases hst
set_option maxHeartbeats 1000000 in
theorem si_aastore {q A1 B1 : Nat} {cv : Int32} (C : Cx D cI cM cP z b L xs sA vA vF mt p s m args meth c) (hok : okE mt pc (.aastore, q, A1, B1, cv) = true) (hst : stp KKl (xs, L) (.aastore, q, A1, B1, cv) pc ls st n f g = some (pc1, ls1, sta, n1, f1, g1)) (hL : LR z (tk b sA vA vF) mt.2.2.1 ls la) (hW : Wd D cI cM cP z n f g H) (hS : va_S (fun q => z ≤ q) s.heap H locs) (hR : 1 ≤ R.frames ∧ 64 ≤ R.locals ∧ cells + (n1 - n) ≤ R.cells ∧ slots + (ssz n1 - ssz n) ≤ R.slots) (kk : ∀ (la1 : Array Slot) (H1 : Heap) (locs1 : List Loc), LR z (tk b sA vA vF) mt.2.2.1 ls1 la1 → Wd D cI cM cP z n1 f1 g1 H1 → va_S (fun q => z ≤ q) s.heap H1 locs1 → W p l e R s m args below meth c H1 locs1 (cells + (n1 - n)) (slots + (ssz n1 - ssz n)) Q (F0 m pc1 la1 (sta.map (tr z (tk b sA vA vF))))) : W p l e R s m args below meth c H locs cells slots Q (F0 m pc la (st.map (tr z (tk b sA vA vF)))) := by
  obtain ⟨hx, hb, hml, hr, hown, hts, hnm, hlk, hE⟩ := C
  have hT := hE.T
  simp only [okE, okW, Bool.and_eq_true, decide_eq_true_eq] at hok
  obtain ⟨hd, hw⟩ := hok
  simp only [stp] at hst
  subst hw
  rw [Nat.add_sub_cancel_left] at hd
  unfold sAast at hst
  split at hst
  · rename_i v i a r
    split at hst
    · rename_i k sz hk
      split at hst
      · rename_i cv2 sv hkv
        split at hst
        · rename_i hc
          obtain ⟨h2, hcv, hin⟩ := hc
          cases hst
          simp only [Nat.sub_self, Nat.add_zero] at kk
          rcases h2 with rfl | rfl
          · have hcv1 : cv2 = 1 := hcv
            subst hcv1
            have hat := hW.at hk
            have hav := hW.at hkv
            rw [cellE_o (by decide)] at hav
            obtain ⟨r', hr', cellV, g1', g2, g3, -⟩ := hav
            obtain ⟨qc, hqc, hqz⟩ := KK_cls (kd_spec hkv).2 (by decide)
            have hcls := (hE.1.1 _ qc hqc).2
            obtain ⟨kA, comp, k1, k2, k3, -⟩ := (hE.1.2 1 _ rfl).2
            have hqn : qc.1 = "NeedleTelegraph$Message" := by cases hqc; rfl
            rw [hqn] at hcls
            have hcomp := Option.some.inj (k3.symm.trans hcls.1)
            subst hcomp
            obtain ⟨kC, hkC, -⟩ := hcls.2
            refine W.aast hx hb hat (fun q h => by cases h) (fun h => by cases h) k1 k2 rfl hkC ⟨fun h => hin (Or.inl h), by show _ < (arrV _ _ _).slots.size; rw [arrV_size]; exact Nat.not_le.mp fun q => hin (Or.inr q)⟩ g1' (fun q h => by rw [g3] at h; cases h) (by rw [g2]; exact hkC) (by rw [g2]; exact va_assign hcls) rfl rfl hd fun H1 e1 e2 e3 => ?_
            refine kk la H1 _ hL (hW.put hk e2 e3 (fun i h => rfl) (fun i h => gup_off h) ?_) (hS.put e2 e3 (Nat.le_add_right z a))
            rw [cellE_q (by decide)]
            show H1[z + a]? = some (vp_cell _ _)
            rw [e1]
            show some ((arrV cM sz (fun j => va_rf ((g a j).map (fun x => z + x)))).setSlot i.toNatClampNeg (.ref (z + v))) = some (arrV cM sz (fun j => va_rf ((gup g a i.toNatClampNeg (some v) a j).map (fun x => z + x))))
            rw [arrV_store]
            congr 2
            funext q
            by_cases hq : q = i.toNatClampNeg
            · simp [updV, gup, hq, va_rf]
            · simp [updV, gup, hq]

          · have hcv1 : cv2 = 2 := hcv
            subst hcv1
            have hat := hW.at hk
            have hav := hW.at hkv
            rw [cellE_o (by decide)] at hav
            obtain ⟨r', hr', cellV, g1', g2, g3, -⟩ := hav
            obtain ⟨qc, hqc, hqz⟩ := KK_cls (kd_spec hkv).2 (by decide)
            have hcls := (hE.1.1 _ qc hqc).2
            obtain ⟨kA, comp, k1, k2, k3, -⟩ := (hE.1.2 2 _ rfl).2
            have hqn : qc.1 = "NeedleTelegraph$Moment" := by cases hqc; rfl
            rw [hqn] at hcls
            have hcomp := Option.some.inj (k3.symm.trans hcls.1)
            subst hcomp
            obtain ⟨kC, hkC, -⟩ := hcls.2
            refine W.aast hx hb hat (fun q h => by cases h) (fun h => by cases h) k1 k2 rfl hkC ⟨fun h => hin (Or.inl h), by show _ < (arrV _ _ _).slots.size; rw [arrV_size]; exact Nat.not_le.mp fun q => hin (Or.inr q)⟩ g1' (fun q h => by rw [g3] at h; cases h) (by rw [g2]; exact hkC) (by rw [g2]; exact va_assign hcls) rfl rfl hd fun H1 e1 e2 e3 => ?_
            refine kk la H1 _ hL (hW.put hk e2 e3 (fun i h => rfl) (fun i h => gup_off h) ?_) (hS.put e2 e3 (Nat.le_add_right z a))
            rw [cellE_q (by decide)]
            show H1[z + a]? = some (vp_cell _ _)
            rw [e1]
            show some ((arrV cP sz (fun j => va_rf ((g a j).map (fun x => z + x)))).setSlot i.toNatClampNeg (.ref (z + v))) = some (arrV cP sz (fun j => va_rf ((gup g a i.toNatClampNeg (some v) a j).map (fun x => z + x))))
            rw [arrV_store]
            congr 2
            funext q
            by_cases hq : q = i.toNatClampNeg
            · simp [updV, gup, hq, va_rf]
            · simp [updV, gup, hq]

        · cases hst
      · cases hst
    · cases hst
  · cases hst
set_option maxHeartbeats 1000000 in
theorem si_max {w : Nat} {q A1 B1 : Nat} {cv : Int32} (C : Cx D cI cM cP z b L xs sA vA vF mt p s m args meth c) (hok : okE mt pc (.invokestatic w, q, A1, B1, cv) = true) (hst : stp KKl (xs, L) (.invokestatic w, q, A1, B1, cv) pc ls st n f g = some (pc1, ls1, sta, n1, f1, g1)) (hL : LR z (tk b sA vA vF) mt.2.2.1 ls la) (hW : Wd D cI cM cP z n f g H) (hS : va_S (fun q => z ≤ q) s.heap H locs) (hR : 1 ≤ R.frames ∧ 64 ≤ R.locals ∧ cells + (n1 - n) ≤ R.cells ∧ slots + (ssz n1 - ssz n) ≤ R.slots) (kk : ∀ (la1 : Array Slot) (H1 : Heap) (locs1 : List Loc), LR z (tk b sA vA vF) mt.2.2.1 ls1 la1 → Wd D cI cM cP z n1 f1 g1 H1 → va_S (fun q => z ≤ q) s.heap H1 locs1 → W p l e R s m args below meth c H1 locs1 (cells + (n1 - n)) (slots + (ssz n1 - ssz n)) Q (F0 m pc1 la1 (sta.map (tr z (tk b sA vA vF))))) : W p l e R s m args below meth c H locs cells slots Q (F0 m pc la (st.map (tr z (tk b sA vA vF)))) := by
  obtain ⟨hx, hb, hml, hr, hown, hts, hnm, hlk, hE⟩ := C
  have hT := hE.T
  simp only [okE, okW, Bool.and_eq_true, decide_eq_true_eq] at hok
  obtain ⟨hd, hw⟩ := hok
  simp only [stp] at hst
  unfold sMax at hst
  split at hst
  · rename_i hA
    subst hA
    obtain ⟨hw, hlink⟩ := hw
    subst hw
    rw [Nat.add_sub_cancel_left] at hd
    rw [if_pos rfl] at hlink
    split at hst
    · rename_i y x r
      split at hst
      · rename_i hs
        cases hst
        simp only [Nat.sub_self, Nat.add_zero] at kk hR
        have hml2 : c.maxLocals = la.size := hml.trans hL.1.1.symm
        have hr2 := Nat.le_of_ble_eq_true hs
        refine va_mmax hx hb hml2 hown (hts _ (big_in hlink rfl)) (hts _ max_w.1) (hts _ max_w.2.1) (hts _ max_w.2.2) hR.1 ?_ hR.2.2.1 hR.2.2.2 hd (kk la H locs hL hW hS)
        rw [cat_map hT]
        omega
      · cases hst
    · cases hst
  · cases hst
set_option maxHeartbeats 1000000 in
theorem si_new {w : Nat} {q A1 B1 : Nat} {cv : Int32} (C : Cx D cI cM cP z b L xs sA vA vF mt p s m args meth c) (hok : okE mt pc (.new w, q, A1, B1, cv) = true) (hst : stp KKl (xs, L) (.new w, q, A1, B1, cv) pc ls st n f g = some (pc1, ls1, sta, n1, f1, g1)) (hL : LR z (tk b sA vA vF) mt.2.2.1 ls la) (hW : Wd D cI cM cP z n f g H) (hS : va_S (fun q => z ≤ q) s.heap H locs) (hR : 1 ≤ R.frames ∧ 64 ≤ R.locals ∧ cells + (n1 - n) ≤ R.cells ∧ slots + (ssz n1 - ssz n) ≤ R.slots) (kk : ∀ (la1 : Array Slot) (H1 : Heap) (locs1 : List Loc), LR z (tk b sA vA vF) mt.2.2.1 ls1 la1 → Wd D cI cM cP z n1 f1 g1 H1 → va_S (fun q => z ≤ q) s.heap H1 locs1 → W p l e R s m args below meth c H1 locs1 (cells + (n1 - n)) (slots + (ssz n1 - ssz n)) Q (F0 m pc1 la1 (sta.map (tr z (tk b sA vA vF))))) : W p l e R s m args below meth c H locs cells slots Q (F0 m pc la (st.map (tr z (tk b sA vA vF)))) := by
  obtain ⟨hx, hb, hml, hr, hown, hts, hnm, hlk, hE⟩ := C
  have hT := hE.T
  simp only [okE, okW, Bool.and_eq_true, decide_eq_true_eq] at hok
  obtain ⟨hd, hw⟩ := hok
  simp only [stp] at hst
  obtain ⟨hw, hv⟩ := hw
  subst hw
  rw [Nat.add_sub_cancel_left] at hd
  unfold sNewO at hst
  split at hst
  · rename_i k sz hk
    split at hst
    · rename_i hc
      obtain ⟨hA, h20⟩ := hc
      subst hA
      cases hst
      obtain ⟨qc, hqc, hqz⟩ := KK_cls hk h20
      rw [hqc] at hv
      simp only at hv
      obtain ⟨hin, hnames, hins, hini, tys, htys, htk⟩ := cls_ok hqc
      have hKn := hE.1.1 _ _ hqc
      have e1 : n + 1 - n = 1 := by omega
      have e2 : ssz (n + 1) - ssz n = sz := by rw [ssz_succ hk]; omega
      rw [e1, e2] at kk hR
      subst hqz
      refine W.newcK hx hb hown (hts _ (big_in hv rfl)) (hts _ hins) (hts _ hini) rfl hd hR.2.2.1 hR.2.2.2 hKn.2.1 rfl fun H1 kC hkC q1 z1 o1 => ?_
      have kz := hW.1
      have hcell : va_at D vwCl (z + n, cellE cI cM cP z f g n k qc.2.2) H1 := by
        rw [cellE_o h20, ← kz]
        refine ⟨_, hqc, (u_born tys hts hin hKn hkC q1 htys).to (fun j hj => ?_)⟩
        have h0 := hW.2.2 n j (Nat.le_refl n)
        unfold vp_V
        rw [List.getD_eq_getElem?_getD, fv_get hj, h0.1, h0.2]
        unfold fv
        rcases htk j hj with ⟨r1, r2⟩ | ⟨r1, ⟨nm2, r2⟩ | ⟨t2, r2⟩⟩ <;> rw [r1, r2] <;> rfl
      have k2 := kk la H1 locs hL (hW.new hk z1 o1 hcell) ⟨Nat.le_trans hS.1 (by omega), fun x h1 h2 => (o1 x (Nat.lt_of_lt_of_le h1 hS.1)).trans (hS.2.1 x h1 h2), hS.2.2⟩
      rw [kz]
      exact k2
    · cases hst
  · cases hst
set_option maxHeartbeats 1000000 in
theorem si_newarray {w : ArrayType} {q A1 B1 : Nat} {cv : Int32} (C : Cx D cI cM cP z b L xs sA vA vF mt p s m args meth c) (hok : okE mt pc (.newarray w, q, A1, B1, cv) = true) (hst : stp KKl (xs, L) (.newarray w, q, A1, B1, cv) pc ls st n f g = some (pc1, ls1, sta, n1, f1, g1)) (hL : LR z (tk b sA vA vF) mt.2.2.1 ls la) (hW : Wd D cI cM cP z n f g H) (hS : va_S (fun q => z ≤ q) s.heap H locs) (hR : 1 ≤ R.frames ∧ 64 ≤ R.locals ∧ cells + (n1 - n) ≤ R.cells ∧ slots + (ssz n1 - ssz n) ≤ R.slots) (kk : ∀ (la1 : Array Slot) (H1 : Heap) (locs1 : List Loc), LR z (tk b sA vA vF) mt.2.2.1 ls1 la1 → Wd D cI cM cP z n1 f1 g1 H1 → va_S (fun q => z ≤ q) s.heap H1 locs1 → W p l e R s m args below meth c H1 locs1 (cells + (n1 - n)) (slots + (ssz n1 - ssz n)) Q (F0 m pc1 la1 (sta.map (tr z (tk b sA vA vF))))) : W p l e R s m args below meth c H locs cells slots Q (F0 m pc la (st.map (tr z (tk b sA vA vF)))) := by
  obtain ⟨hx, hb, hml, hr, hown, hts, hnm, hlk, hE⟩ := C
  have hT := hE.T
  simp only [okE, okW, Bool.and_eq_true, decide_eq_true_eq] at hok
  obtain ⟨hd, hw⟩ := hok
  simp only [stp] at hst
  obtain ⟨hw, hv⟩ := hw
  subst hw
  rw [Nat.add_sub_cancel_left] at hd
  subst hv
  unfold sNewA at hst
  split at hst
  · rename_i x r
    split at hst
    · rename_i hx0
      unfold sNew at hst
      split at hst
      · rename_i hk
        cases hst
        have e1 : n + 1 - n = 1 := by omega
        have e2 : ssz (n + 1) - ssz n = x.toNatClampNeg := by rw [ssz_succ hk]; omega
        rw [e1, e2] at kk hR
        refine va_newaK (atype := .int) hx hb (hts _ arr_w) rfl hd rfl hx0.1 rfl (by show x.toNatClampNeg * 4 ≤ 536870912; have := hx0.2; omega) hR.2.2.1 hR.2.2.2 rfl fun H1 cA q1 z1 o1 hAr hNm => ?_
        have kz := hW.1
        have hcA : cA = cI := by
          have h2 : s.vm.findClass ("[" ++ FieldType.int.toString) = some cI := (hE.1.2 0 _ rfl).2
          exact Option.some.inj (hNm.symm.trans h2)
        have hcell : va_at D vwCl (z + n, cellE cI cM cP z f g n 20 x.toNatClampNeg) H1 := by
          rw [cellE_i, ← kz]
          show H1[H.size]? = some (arrV cI x.toNatClampNeg (fun j => Value.int (f n j)))
          rw [q1, hcA]
          congr 2
          funext j
          rw [(hW.2.2 n j (Nat.le_refl n)).1]
          rfl
        have k2 := kk la H1 locs hL (hW.new hk z1 o1 hcell) ⟨Nat.le_trans hS.1 (by omega), fun x h1 h2 => (o1 x (Nat.lt_of_lt_of_le h1 hS.1)).trans (hS.2.1 x h1 h2), hS.2.2⟩
        rw [kz]
        exact k2
      · cases hst
    · cases hst
  · cases hst
set_option maxHeartbeats 1000000 in
theorem si_anewarray {w : Nat} {q A1 B1 : Nat} {cv : Int32} (C : Cx D cI cM cP z b L xs sA vA vF mt p s m args meth c) (hok : okE mt pc (.anewarray w, q, A1, B1, cv) = true) (hst : stp KKl (xs, L) (.anewarray w, q, A1, B1, cv) pc ls st n f g = some (pc1, ls1, sta, n1, f1, g1)) (hL : LR z (tk b sA vA vF) mt.2.2.1 ls la) (hW : Wd D cI cM cP z n f g H) (hS : va_S (fun q => z ≤ q) s.heap H locs) (hR : 1 ≤ R.frames ∧ 64 ≤ R.locals ∧ cells + (n1 - n) ≤ R.cells ∧ slots + (ssz n1 - ssz n) ≤ R.slots) (kk : ∀ (la1 : Array Slot) (H1 : Heap) (locs1 : List Loc), LR z (tk b sA vA vF) mt.2.2.1 ls1 la1 → Wd D cI cM cP z n1 f1 g1 H1 → va_S (fun q => z ≤ q) s.heap H1 locs1 → W p l e R s m args below meth c H1 locs1 (cells + (n1 - n)) (slots + (ssz n1 - ssz n)) Q (F0 m pc1 la1 (sta.map (tr z (tk b sA vA vF))))) : W p l e R s m args below meth c H locs cells slots Q (F0 m pc la (st.map (tr z (tk b sA vA vF)))) := by
  obtain ⟨hx, hb, hml, hr, hown, hts, hnm, hlk, hE⟩ := C
  have hT := hE.T
  simp only [okE, okW, Bool.and_eq_true, decide_eq_true_eq] at hok
  obtain ⟨hd, hw⟩ := hok
  simp only [stp] at hst
  obtain ⟨hw, hv⟩ := hw
  subst hw
  rw [Nat.add_sub_cancel_left] at hd
  unfold sNewA at hst
  split at hst
  · rename_i x r
    split at hst
    · rename_i hx0
      unfold sNew at hst
      split at hst
      · rename_i hk
        cases hst
        have e1 : n + 1 - n = 1 := by omega
        have e2 : ssz (n + 1) - ssz n = x.toNatClampNeg := by rw [ssz_succ hk]; omega
        rw [e1, e2] at kk hR
        split at hv
        · rename_i hA
          subst hA
          refine W.anew hx hb hown (hts _ (big_in hv rfl)) (va_AO.use hE.2.2.1) rfl hd rfl hx0.1 (by have := hx0.2; omega) hR.2.2.1 hR.2.2.2 fun cA kA comp f1' f2' f3' f4' => ?_
          have kz := hW.1
          have hcA : cA = cM := by
            obtain ⟨kB, cmp2, -, -, -, h2⟩ := (hE.1.2 1 _ rfl).2
            exact Option.some.inj (f1'.symm.trans h2)
          generalize hH1 : H.push ({ cls := cA, slots := Array.replicate x.toNatClampNeg .null, vm := .none } : Cell) = H1
          have z1 : H1.size = H.size + 1 := by rw [← hH1, Array.size_push]
          have q1 : H1[H.size]? = some (arrV cA x.toNatClampNeg (fun _ => .null)) := by rw [← hH1, Array.getElem?_push_size, ← arrV_new]
          have o1 : ∀ q : Nat, q < H.size → H1[q]? = H[q]? := fun q hq => by rw [← hH1, Array.getElem?_push, if_neg (Nat.ne_of_lt hq)]
          have hcell : va_at D vwCl (z + n, cellE cI cM cP z f g n 21 x.toNatClampNeg) H1 := by
            rw [cellE_q (by decide), ← kz]
            show H1[H.size]? = some (arrV cM x.toNatClampNeg (fun j => va_rf ((g n j).map (fun y => z + y))))
            rw [q1, hcA]
            congr 2
            funext j
            rw [(hW.2.2 n j (Nat.le_refl n)).2]
            rfl
          have k2 := kk la H1 locs hL (hW.new hk z1 o1 hcell) ⟨Nat.le_trans hS.1 (by omega), fun x h1 h2 => (o1 x (Nat.lt_of_lt_of_le h1 hS.1)).trans (hS.2.1 x h1 h2), hS.2.2⟩
          rw [kz]
          exact k2

        · rename_i hA
          simp only [Bool.and_eq_true, decide_eq_true_eq] at hv
          obtain ⟨hA2, hv⟩ := hv
          subst hA2
          refine W.anew hx hb hown (hts _ (big_in hv rfl)) (va_AO.use hE.2.2.2.1) rfl hd rfl hx0.1 (by have := hx0.2; omega) hR.2.2.1 hR.2.2.2 fun cA kA comp f1' f2' f3' f4' => ?_
          have kz := hW.1
          have hcA : cA = cP := by
            obtain ⟨kB, cmp2, -, -, -, h2⟩ := (hE.1.2 2 _ rfl).2
            exact Option.some.inj (f1'.symm.trans h2)
          generalize hH1 : H.push ({ cls := cA, slots := Array.replicate x.toNatClampNeg .null, vm := .none } : Cell) = H1
          have z1 : H1.size = H.size + 1 := by rw [← hH1, Array.size_push]
          have q1 : H1[H.size]? = some (arrV cA x.toNatClampNeg (fun _ => .null)) := by rw [← hH1, Array.getElem?_push_size, ← arrV_new]
          have o1 : ∀ q : Nat, q < H.size → H1[q]? = H[q]? := fun q hq => by rw [← hH1, Array.getElem?_push, if_neg (Nat.ne_of_lt hq)]
          have hcell : va_at D vwCl (z + n, cellE cI cM cP z f g n 22 x.toNatClampNeg) H1 := by
            rw [cellE_q (by decide), ← kz]
            show H1[H.size]? = some (arrV cP x.toNatClampNeg (fun j => va_rf ((g n j).map (fun y => z + y))))
            rw [q1, hcA]
            congr 2
            funext j
            rw [(hW.2.2 n j (Nat.le_refl n)).2]
            rfl
          have k2 := kk la H1 locs hL (hW.new hk z1 o1 hcell) ⟨Nat.le_trans hS.1 (by omega), fun x h1 h2 => (o1 x (Nat.lt_of_lt_of_le h1 hS.1)).trans (hS.2.1 x h1 h2), hS.2.2⟩
          rw [kz]
          exact k2

      · cases hst
    · cases hst
  · cases hst
set_option maxHeartbeats 4000000 in
/-- any instruction that neither calls nor returns -/
theorem sim_stp {e0 : Ent} (C : Cx D cI cM cP z b L xs sA vA vF mt p s m args meth c) (hok : okE mt pc e0 = true) (hst : stp KKl (xs, L) e0 pc ls st n f g = some (pc1, ls1, sta, n1, f1, g1)) (hL : LR z (tk b sA vA vF) mt.2.2.1 ls la) (hW : Wd D cI cM cP z n f g H) (hS : va_S (fun q => z ≤ q) s.heap H locs) (hR : 1 ≤ R.frames ∧ 64 ≤ R.locals ∧ cells + (n1 - n) ≤ R.cells ∧ slots + (ssz n1 - ssz n) ≤ R.slots) (kk : ∀ (la1 : Array Slot) (H1 : Heap) (locs1 : List Loc), LR z (tk b sA vA vF) mt.2.2.1 ls1 la1 → Wd D cI cM cP z n1 f1 g1 H1 → va_S (fun q => z ≤ q) s.heap H1 locs1 → W p l e R s m args below meth c H1 locs1 (cells + (n1 - n)) (slots + (ssz n1 - ssz n)) Q (F0 m pc1 la1 (sta.map (tr z (tk b sA vA vF))))) : W p l e R s m args below meth c H locs cells slots Q (F0 m pc la (st.map (tr z (tk b sA vA vF)))) := by
  obtain ⟨i, q, A1, B1, cv⟩ := e0
  cases i
  case aaload => exact si_aaload C hok hst hL hW hS hR kk
  case aastore => exact si_aastore C hok hst hL hW hS hR kk
  case aconst_null => exact si_aconst_null C hok hst hL hW hS hR kk
  case aload => exact si_aload C hok hst hL hW hS hR kk
  case aload_n => exact si_aload_n C hok hst hL hW hS hR kk
  case anewarray => exact si_anewarray C hok hst hL hW hS hR kk
  case arraylength => exact si_arraylength C hok hst hL hW hS hR kk
  case astore => exact si_astore C hok hst hL hW hS hR kk
  case astore_n => exact si_astore_n C hok hst hL hW hS hR kk
  case baload => exact si_baload C hok hst hL hW hS hR kk
  case bipush => exact si_bipush C hok hst hL hW hS hR kk
  case dup => exact si_dup C hok hst hL hW hS hR kk
  case dup2 => exact si_dup2 C hok hst hL hW hS hR kk
  case getfield => exact si_getfield C hok hst hL hW hS hR kk
  case getstatic => exact si_getstatic C hok hst hL hW hS hR kk
  case goto => exact si_goto C hok hst hL hW hS hR kk
  case i2c => exact si_i2c C hok hst hL hW hS hR kk
  case i2l => exact si_i2l C hok hst hL hW hS hR kk
  case iadd => exact si_iadd C hok hst hL hW hS hR kk
  case iaload => exact si_iaload C hok hst hL hW hS hR kk
  case iand => exact si_iand C hok hst hL hW hS hR kk
  case iastore => exact si_iastore C hok hst hL hW hS hR kk
  case iconst => exact si_iconst C hok hst hL hW hS hR kk
  case idiv => exact si_idiv C hok hst hL hW hS hR kk
  case if_icmp => exact si_if_icmp C hok hst hL hW hS hR kk
  case ifCond => exact si_ifCond C hok hst hL hW hS hR kk
  case ifnonnull => exact si_ifnonnull C hok hst hL hW hS hR kk
  case iinc => exact si_iinc C hok hst hL hW hS hR kk
  case iload => exact si_iload C hok hst hL hW hS hR kk
  case iload_n => exact si_iload_n C hok hst hL hW hS hR kk
  case imul => exact si_imul C hok hst hL hW hS hR kk
  case invokestatic => exact si_max C hok hst hL hW hS hR kk
  case ior => exact si_ior C hok hst hL hW hS hR kk
  case irem => exact si_irem C hok hst hL hW hS hR kk
  case ishl => exact si_ishl C hok hst hL hW hS hR kk
  case ishr => exact si_ishr C hok hst hL hW hS hR kk
  case istore => exact si_istore C hok hst hL hW hS hR kk
  case istore_n => exact si_istore_n C hok hst hL hW hS hR kk
  case isub => exact si_isub C hok hst hL hW hS hR kk
  case iushr => exact si_iushr C hok hst hL hW hS hR kk
  case ixor => exact si_ixor C hok hst hL hW hS hR kk
  case l2i => exact si_l2i C hok hst hL hW hS hR kk
  case ladd => exact si_ladd C hok hst hL hW hS hR kk
  case lcmp => exact si_lcmp C hok hst hL hW hS hR kk
  case lconst => exact si_lconst C hok hst hL hW hS hR kk
  case ldc => exact si_ldc C hok hst hL hW hS hR kk
  case ldc_w => exact si_ldc_w C hok hst hL hW hS hR kk
  case ldc2_w => exact si_ldc2_w C hok hst hL hW hS hR kk
  case ldiv => exact si_ldiv C hok hst hL hW hS hR kk
  case lload => exact si_lload C hok hst hL hW hS hR kk
  case lload_n => exact si_lload_n C hok hst hL hW hS hR kk
  case lmul => exact si_lmul C hok hst hL hW hS hR kk
  case lrem => exact si_lrem C hok hst hL hW hS hR kk
  case lstore => exact si_lstore C hok hst hL hW hS hR kk
  case lstore_n => exact si_lstore_n C hok hst hL hW hS hR kk
  case new => exact si_new C hok hst hL hW hS hR kk
  case newarray => exact si_newarray C hok hst hL hW hS hR kk
  case pop => exact si_pop C hok hst hL hW hS hR kk
  case putfield => exact si_putfield C hok hst hL hW hS hR kk
  case sipush => exact si_sipush C hok hst hL hW hS hR kk
  case tableswitch => exact si_tableswitch C hok hst hL hW hS hR kk
  all_goals (simp only [stp] at hst; cases hst)
end TWO
