/-! THE LINK, 7: every run -/
theorem obj_w : Jvm.Cond.instanceMethod objectInit ∈ Big ∧ Jvm.Cond.code objectInit ⟨#[0xb1]⟩ 1 none ∈ Big := ⟨big_in (B := 61) (by decide +kernel) rfl, big_in (B := 62) (by decide +kernel) rfl⟩
section ALL
variable {D : va_G} {cI cM cP : ClassId} {z b L sA vA : Nat} {xs : Nat → Int32} {vF : Value}
theorem map_stack {z : Nat} {T : UInt32 → Value} (v : Option Value) (rest : List Value) : (v.toList ++ rest).map (tr z T) = (v.map (tr z T)).toList ++ rest.map (tr z T) := by cases v <;> simp
theorem okM_w {mt : Mth} {w : Nat × Nat × Nat × Nat} (h : okM mt w = true) : Jvm.Cond.code mt.1 mt.2.1 mt.2.2.1 mt.2.2.2.1 ∈ Big ∧ Jvm.Cond.initialized mt.1.cls ∈ Big ∧ (mt.2.2.2.2.2.1 = true → Jvm.Cond.static mt.1 ∈ Big) ∧ (mt.2.2.2.2.2.1 = false → Jvm.Cond.instanceMethod mt.1 ∈ Big ∧ (mt.1.name = "<init>" ∨ Jvm.Cond.selects mt.1.cls mt.1 mt.1 ∈ Big)) ∧
    ((parseMethodDescriptor mt.1.desc).map (fun d => d.parameters.length) = some (if mt.2.2.2.2.2.1 = true then mt.2.2.2.2.1 else mt.2.2.2.2.1 - 1)) ∧ mt.1.cls ≠ "java/lang/invoke/MethodHandle" ∧ mt.1.cls ≠ "java/lang/invoke/VarHandle" ∧ plainName mt.1.cls = true ∧ mt.2.2.1 ≤ 40 ∧
    (mt.2.2.2.2.2.1 = false → 1 ≤ mt.2.2.2.2.1 ∧ ((∃ c, vwCl[mt.2.2.2.2.2.2]? = some c ∧ c.1 = mt.1.cls) ∨ (mt.2.2.2.2.2.2 = 50 ∧ mt.1.cls = "java/lang/String"))) := by
  unfold okM at h
  simp only [Bool.and_eq_true, Bool.or_eq_true, decide_eq_true_eq] at h
  obtain ⟨h1, h2, h3, h4, h5, h6, h7, h8, h9⟩ := h
  refine ⟨big_in h1 rfl, big_in h2 rfl, fun hs => ?_, fun hs => ?_, h4, h5, h6, h7, h8, fun hs => ?_⟩
  · rw [if_pos hs] at h3
    exact big_in h3 rfl
  · rw [if_neg (by rw [hs]; decide)] at h3
    simp only [Bool.and_eq_true, Bool.or_eq_true, decide_eq_true_eq] at h3
    exact ⟨big_in h3.1 rfl, h3.2.imp id (fun q => big_in q rfl)⟩
  · rcases h9 with h9 | ⟨h9, h10⟩
    · rw [hs] at h9; cases h9
    · refine ⟨h9, ?_⟩
      split at h10
      · rename_i c hc
        exact Or.inl ⟨c, hc, of_decide_eq_true h10⟩
      · simp only [Bool.and_eq_true, decide_eq_true_eq] at h10
        exact Or.inr h10
/-- which call it is -/
theorem call_kind {e : Ent} {mt mt' : Mth} {pc : Nat} {st as rest : List Value} {n : Nat} (hk : knd e = 2) (hok : okE mt pc e = true) (hm : MTl[e.2.2.1]? = some mt') (hc : callA KKl e mt' st n = some (as, rest)) :
    e.2.1 = pc + 3 ∧ e.2.2.1 < 191 ∧ e.2.2.1 ≠ 5 ∧ ∃ ix : Nat,
      ((decode mt.2.1 pc = .ok (.invokestatic ix, 3) ∧ mt'.2.2.2.2.2.1 = true ∧ (Jvm.Cond.methodLink mt.1.cls ix mt'.1 ∈ Big ∨ (mt.1.cls, ix, mt'.1) ∈ nestT)) ∨
       (decode mt.2.1 pc = .ok (.invokevirtual ix, 3) ∧ mt'.2.2.2.2.2.1 = false ∧ mt'.1.name ≠ "<init>" ∧ recOk KKl mt'.2.2.2.2.2.2 n as.head? = true ∧ Jvm.Cond.methodLink mt.1.cls ix mt'.1 ∈ Big) ∨
       (decode mt.2.1 pc = .ok (.invokespecial ix, 3) ∧ mt'.2.2.2.2.2.1 = false ∧ mt'.1.name = "<init>" ∧ mt'.2.2.2.1 = none ∧ recOk KKl mt'.2.2.2.2.2.2 n as.head? = true ∧ (Jvm.Cond.methodLink mt.1.cls ix mt'.1 ∈ Big ∨ (mt.1.cls, ix, mt'.1) ∈ nestT))) := by
  obtain ⟨i, q, A1, B1, cv⟩ := e
  simp only [okE, Bool.and_eq_true, decide_eq_true_eq] at hok
  obtain ⟨hd, hw⟩ := hok
  simp only at hm
  have key : ∀ ix v, callOk mt.1.cls ix A1 B1 cv v = true → A1 < 191 ∧ A1 ≠ 5 ∧ (v = true → mt'.1.name ≠ "<init>") ∧ (Jvm.Cond.methodLink mt.1.cls ix mt'.1 ∈ Big ∨ (v = false ∧ (mt.1.cls, ix, mt'.1) ∈ nestT)) := by
    intro ix v hco
    unfold callOk at hco
    rw [hm] at hco
    simp only [Bool.and_eq_true, decide_eq_true_eq] at hco
    refine ⟨hco.1.1, hco.1.2.1, hco.1.2.2, ?_⟩
    have h2 := hco.2
    split at h2
    · simp only [Bool.and_eq_true, Bool.not_eq_true', decide_eq_true_eq] at h2
      exact Or.inr h2
    · exact Or.inl (big_in h2 rfl)
  unfold callA at hc
  split at hc
  · cases i <;> (try (simp [knd] at hk; done))
    case invokestatic ix =>
      simp only [okW, Bool.and_eq_true, decide_eq_true_eq] at hw
      obtain ⟨rfl, hw⟩ := hw
      rw [Nat.add_sub_cancel_left] at hd
      simp only [knd] at hk
      split at hk
      · cases hk
      · rename_i h97
        rw [if_neg h97] at hw
        obtain ⟨k1, k2, k4, k3⟩ := key ix false hw
        simp only at hc
        split at hc
        · rename_i hs
          exact ⟨rfl, k1, k2, ix, Or.inl ⟨hd, hs, k3.imp id And.right⟩⟩
        · cases hc
    case invokevirtual ix =>
      simp only [okW, Bool.and_eq_true, decide_eq_true_eq] at hw
      obtain ⟨rfl, hw⟩ := hw
      rw [Nat.add_sub_cancel_left] at hd
      obtain ⟨k1, k2, k4, k3⟩ := key ix true hw
      simp only at hc
      split at hc
      · rename_i hs
        cases hc
        exact ⟨rfl, k1, k2, ix, Or.inr (Or.inl ⟨hd, hs.1, k4 rfl, hs.2, k3.resolve_right (fun h => by cases h.1)⟩)⟩
      · cases hc
    case invokespecial ix =>
      simp only [okW, Bool.and_eq_true, decide_eq_true_eq] at hw
      obtain ⟨rfl, hw⟩ := hw
      rw [Nat.add_sub_cancel_left] at hd
      simp only [knd] at hk
      split at hk
      · cases hk
      · rename_i h99
        rw [if_neg h99] at hw
        obtain ⟨k1, k2, k4, k3⟩ := key ix false hw
        simp only at hc
        split at hc
        · rename_i hs
          cases hc
          exact ⟨rfl, k1, k2, ix, Or.inr (Or.inr ⟨hd, hs.1, hs.2.1, hs.2.2.1, hs.2.2.2, k3.imp id And.right⟩)⟩
        · cases hc
  · cases hc
/-- the object of a call -/
theorem recv_ok {p : Program} {s : State} {m : MethodId} {args : Array Value} {meth : Method} {c : Code} {mt mt' : Mth} {n : Nat} {f : FF} {g : GG} {H : Heap} {locs : List Loc} {v0 : Value} {w : Nat × Nat × Nat × Nat} (C : Cx D cI cM cP z b L xs sA vA vF mt p s m args meth c) (hW : Wd D cI cM cP z n f g H) (hS : va_S (fun q => z ≤ q) s.heap H locs) (hw : okM mt' w = true) (hs : mt'.2.2.2.2.2.1 = false) (h : recOk KKl mt'.2.2.2.2.2.2 n (some v0) = true) :
    ∃ a : Nat, tr z (tk b sA vA vF) v0 = .ref a ∧ ∃ cell : Cell, H[a]? = some cell ∧ cell.vm.isStatics = false ∧ s.vm.findClass mt'.1.cls = some cell.cls := by
  have hE := C.2.2.2.2.2.2.2.2
  have hM := (okM_w hw).2.2.2.2.2.2.2.2.2 hs
  unfold recOk at h
  split at h
  · rename_i a heq
    cases heq
    split at h
    · rename_i ci sz hk
      simp only [decide_eq_true_eq] at h
      obtain ⟨h1, h20⟩ := h
      rcases hM.2 with ⟨cl, hcl, hn⟩ | ⟨h50, -⟩
      · refine ⟨z + a, rfl, ?_⟩
        have hat := hW.at hk
        rw [cellE_o h20] at hat
        rw [← h1] at hcl
        rw [← hn]
        exact va_recv hE.1 (va_P1 hat) hcl (q0 := 0) rfl
      · omega
    · cases h
  · rename_i t heq
    cases heq
    simp only [decide_eq_true_eq] at h
    obtain ⟨rfl, h50⟩ := h
    rcases hM.2 with ⟨cl, hcl, hn⟩ | ⟨-, hn⟩
    · rw [h50] at hcl; cases hcl
    · refine ⟨sA, rfl, ?_⟩
      rw [hn]
      exact vk_recv hE.2.2.2.2.2.1 (i := 0) (by omega) hS
  · cases h
set_option maxHeartbeats 4000000 in
theorem sim_all (l : Launch) : ∀ k, SimAt D cI cM cP z b L xs sA vA vF l k := by
  intro k
  induction k with
  | zero => intro d y pc ls st n f g v n1 f1 g1 h; simp [run] at h
  | succ k ih =>
    intro d y pc ls st n f g v n1 f1 g1 h mt hm p e R s m args below meth c C hRf hRl la H locs cells slots hL hW hS hc hs Q hQ
    obtain ⟨e0, hi, ⟨hk, mt2, hm2, hr⟩ | ⟨hk, d', mt', as, rest, w, n', f', g', rfl, hm', hcA, h1, h2⟩ | ⟨hk, d', a, rest, rfl, rfl, hb8, h2⟩ | ⟨k1, k2, k3, pc', n', ls', st', f', g', hst, h4⟩⟩ := run_inv h
    · rw [hm] at hm2
      cases hm2
      obtain ⟨hret, rfl, rfl, rfl, rfl⟩ := rets_inv hk (ok_at hm hi) hr
      have := hQ pc la H locs hret hW hS
      simpa only [Nat.sub_self, Nat.add_zero] using this
    · obtain ⟨hq, hA, h5, ix, hcase⟩ := call_kind hk (ok_at hm hi) hm' hcA
      obtain ⟨hst, hasl, hcat, hent⟩ := callA_inv hcA
      obtain ⟨ww, hww⟩ := okM_at hm' hA h5
      obtain ⟨m1, m2, m3, m4, m5, m6, m7, m8, m9, m10⟩ := okM_w hww
      have hn1 := run_n h1
      have hn2 := run_n h2
      have hz1 := ssz_le hn1
      have hz2 := ssz_le hn2
      have hmet := met_of ih h1 hm' m8 hent
      obtain ⟨hx, hbd, hml, hrt, hown, hts, hnm, hlk, hE⟩ := C
      have hT := hE.T
      have hz := hE.2.2.2.2.2.2.2.2.2.2.1
      have hpre : ∀ U : State, U.heap = H → s.WarmedH U.vm → PcM D cI cM cP z b L xs sA vA vF as n f g (as.map (tr z (tk b sA vA vF))).toArray U := fun U hU hWm => ⟨rfl, by rw [hU]; exact hW, Env.move hE hWm (fun q hq => by rw [hU]; exact hS.2.1 q (Nat.lt_of_lt_of_le hq hz) (Nat.not_le.mpr hq)) (by rw [hU, hW.1]; omega)⟩
      have hroom : (rmD d' (n' - n) (ssz n' - ssz n)).frames + 1 ≤ R.frames ∧ 8 + (mt'.2.2.1 + 11) + (rmD d' (n' - n) (ssz n' - ssz n)).locals ≤ R.locals := by
        constructor
        · show d' + 1 + 1 ≤ R.frames; exact hRf
        · show 8 + (mt'.2.2.1 + 11) + 64 * (d' + 1) ≤ R.locals; omega
      have hcat2 : 2 * (F0 m pc la (st.map (tr z (tk b sA vA vF)))).monitorRoom + ((rest.map (tr z (tk b sA vA vF))).map fun v => v.category).sum ≤ 8 := by
        rw [cat_map hT]
        have := Nat.le_of_ble_eq_true hcat
        show 2 * 0 + _ ≤ 8
        omega
      have hfit : cells + (n' - n) ≤ R.cells ∧ slots + (ssz n' - ssz n) ≤ R.slots := ⟨by omega, by omega⟩
      have hH : H.size ≤ z + n' := by rw [hW.1]; omega
      have fin : ∀ (H1 : Heap) (locs1 : List Loc), Wd D cI cM cP z n' f' g' H1 → va_S (fun q => z ≤ q) s.heap H1 locs1 → W p l e R s m args below meth c H1 locs1 (cells + (n' - n)) (slots + (ssz n' - ssz n)) Q (F0 m (pc + 3) la ((w.map (tr z (tk b sA vA vF))).toList ++ rest.map (tr z (tk b sA vA vF)))) := by
        intro H1 locs1 hW1 hS1
        rw [← map_stack, ← hq]
        refine ih (d' + 1) y e0.2.1 ls (w.toList ++ rest) n' f' g' v n1 f1 g1 h2 mt hm p e R s m args below meth c ⟨hx, hbd, hml, hrt, hown, hts, hnm, hlk, hE⟩ hRf hRl la H1 locs1 _ _ hL hW1 hS1 (by omega) (by omega) Q ?_
        intro pc2 la2 H2 locs2 hret hW2 hS2
        have := hQ pc2 la2 H2 locs2 hret hW2 hS2
        rw [show cells + (n' - n) + (n1 - n') = cells + (n1 - n) by omega, show slots + (ssz n' - ssz n) + (ssz n1 - ssz n') = slots + (ssz n1 - ssz n) by omega]
        exact this
      have hstk : st.map (tr z (tk b sA vA vF)) = (as.map (tr z (tk b sA vA vF))).reverse ++ rest.map (tr z (tk b sA vA vF)) := by rw [hst, List.map_append, List.map_reverse]
      have hsize : (F0 m pc la (st.map (tr z (tk b sA vA vF)))).locals.size = mt.2.2.1 := hL.1.1
      have hCF : CallFix p m c mt.2.1 mt.2.2.1 s args Big mt.1.cls := ⟨hx, hbd, hml, hown, hts⟩
      rcases hcase with ⟨hd, hsx, hlink⟩ | ⟨hd, hsx, hnotI, hrec, hlink⟩ | ⟨hd, hsx, hnmI, hretN, hrec, hlink⟩
      · have hlenA : (as.map (tr z (tk b sA vA vF))).length = mt'.2.2.2.2.1 := by rw [List.length_map]; exact hasl
        have hpar : (parseMethodDescriptor mt'.1.desc).map (fun d => d.parameters.length) = some mt'.2.2.2.2.1 := by rw [m5, if_pos hsx]
        rcases hlink with hlink | hlink
        · exact call_go (va_runS hCF hmet ⟨callB_of mt'.2.2.2.2.1 hts (big_code m1) rfl rfl rfl (hts _ m2) (hts _ hlink) ⟨m6, m7, hpar⟩ hroom, hts _ (m3 hsx)⟩ ⟨PcM_blind, hpre⟩ rfl hlenA hsize hstk hcat2 hd hfit) hS hz hH fin
        · exact call_go (va_runSN hCF hmet ⟨va_cnB mt'.2.2.2.2.1 hts (big_code m1) rfl rfl rfl (hE.2.1 _ hlink) (hts _ m2) ⟨m6, m7, hpar⟩ hroom, hts _ (m3 hsx), trivial⟩ ⟨PcM_blind, hpre⟩ rfl hlenA hsize hstk hcat2 hd hfit) hS hz hH fin
      · cases as with
        | nil => cases hrec
        | cons v0 as' =>
          obtain ⟨a0, ha0, hcell⟩ := recv_ok ⟨hx, hbd, hml, hrt, hown, hts, hnm, hlk, hE⟩ hW hS hww hsx hrec
          have hpar : (parseMethodDescriptor mt'.1.desc).map (fun d => d.parameters.length) = some (mt'.2.2.2.2.1 - 1) := by rw [m5, if_neg (by rw [hsx]; decide)]
          have hlenA : (as'.map (tr z (tk b sA vA vF))).length = mt'.2.2.2.2.1 - 1 := by rw [List.length_map, ← hasl]; simp
          have hpre2 : ∀ U : State, U.heap = H → s.WarmedH U.vm → PcM D cI cM cP z b L xs sA vA vF (v0 :: as') n f g (Value.ref a0 :: as'.map (tr z (tk b sA vA vF))).toArray U := by
            intro U hU hWm
            have := hpre U hU hWm
            rwa [List.map_cons, ha0] at this
          have hstk2 : st.map (tr z (tk b sA vA vF)) = (as'.map (tr z (tk b sA vA vF))).reverse ++ .ref a0 :: rest.map (tr z (tk b sA vA vF)) := by rw [hstk, List.map_cons, ha0]; simp
          have hsel2 : Jvm.Cond.selects mt'.1.cls mt'.1 mt'.1 ∈ Big := (m4 hsx).2.resolve_left hnotI
          exact call_go (va_runV hCF hmet ⟨callB_of (mt'.2.2.2.2.1 - 1) hts (big_code m1) rfl rfl rfl (hts _ m2) (hts _ hlink) ⟨m6, m7, hpar⟩ hroom, hts _ (m4 hsx).1, hts _ hsel2⟩ ⟨PcM_blind, hcell, hpre2⟩ rfl hlenA hsize hstk2 hcat2 hd hfit) hS hz hH fin
      · cases as with
        | nil => cases hrec
        | cons v0 as' =>
          obtain ⟨a0, ha0, hcell⟩ := recv_ok ⟨hx, hbd, hml, hrt, hown, hts, hnm, hlk, hE⟩ hW hS hww hsx hrec
          have hpar : (parseMethodDescriptor mt'.1.desc).map (fun d => d.parameters.length) = some (mt'.2.2.2.2.1 - 1) := by rw [m5, if_neg (by rw [hsx]; decide)]
          have hlenA : (as'.map (tr z (tk b sA vA vF))).length = mt'.2.2.2.2.1 - 1 := by rw [List.length_map, ← hasl]; simp
          have hpre2 : ∀ U : State, U.heap = H → s.WarmedH U.vm → PcM D cI cM cP z b L xs sA vA vF (v0 :: as') n f g (Value.ref a0 :: as'.map (tr z (tk b sA vA vF))).toArray U := by
            intro U hU hWm
            have := hpre U hU hWm
            rwa [List.map_cons, ha0] at this
          have hstk2 : st.map (tr z (tk b sA vA vF)) = (as'.map (tr z (tk b sA vA vF))).reverse ++ .ref a0 :: rest.map (tr z (tk b sA vA vF)) := by rw [hstk, List.map_cons, ha0]; simp
          rw [hretN] at hmet m1
          have hbc : GoodIn Big (Jvm.Cond.code mt'.1 mt'.2.1 mt'.2.2.1 none :: Big) := by
            intro q hq
            rcases List.mem_cons.mp hq with rfl | hq
            · exact ⟨m1, good_of_word (big_good _ m1)⟩
            · exact ⟨hq, good_of_word (big_good _ hq)⟩
          rcases hlink with hlink | hlink
          · exact call_go (va_runI hCF hmet ⟨callB_of (mt'.2.2.2.2.1 - 1) hts hbc rfl rfl rfl (hts _ m2) (hts _ hlink) ⟨m6, m7, hpar⟩ hroom, hnmI, hts _ (m4 hsx).1⟩ ⟨PcM_blind, hpre2⟩ rfl hlenA hsize hstk2 hcat2 hd hfit) hS hz hH fin
          · exact call_go (va_runIN hCF hmet ⟨va_cnB (mt'.2.2.2.2.1 - 1) hts hbc rfl rfl rfl (hE.2.1 _ hlink) (hts _ m2) ⟨m6, m7, hpar⟩ hroom, hnmI, hts _ (m4 hsx).1⟩ ⟨PcM_blind, hpre2⟩ rfl hlenA hsize hstk2 hcat2 hd hfit) hS hz hH fin
    · obtain ⟨hx, hbd, hml, hrt, hown, hts, hnm, hlk, hE⟩ := C
      have hT := hE.T
      have hok := ok_at hm hi
      obtain ⟨i, q, A1, B1, cv⟩ := e0
      simp only [okE, Bool.and_eq_true, decide_eq_true_eq] at hok
      obtain ⟨hd, hw⟩ := hok
      cases i <;> (try (simp [knd] at hk; done))
      case invokestatic => simp only [knd] at hk; split at hk <;> cases hk
      case invokespecial ix =>
        simp only [knd] at hk
        split at hk
        · rename_i h99
          simp only [okW, Bool.and_eq_true, decide_eq_true_eq] at hw
          obtain ⟨rfl, hw⟩ := hw
          rw [if_pos h99] at hw
          rw [Nat.add_sub_cancel_left] at hd
          have hb2 := Nat.le_of_ble_eq_true hb8
          refine W.objInit hx hbd hown (hts _ (big_in hw rfl)) (hts _ obj_w.1) (hts _ obj_w.2) rfl (hL.1.1.trans hml.symm) rfl hd (by omega) (by
            rw [cat_map hT]
            show 2 * 0 + _ + 12 ≤ R.locals
            omega) ?_
          exact ih (d' + 1) y (pc + 3) ls rest n f g v n1 f1 g1 h2 mt hm p e R s m args below meth c ⟨hx, hbd, hml, hrt, hown, hts, hnm, hlk, hE⟩ hRf hRl la H locs cells slots hL hW hS hc hs Q hQ
        · cases hk
    · have hn1 := stp_n hst
      have hn2 := run_n h4
      have hz1 := ssz_le hn1
      have hz2 := ssz_le hn2
      refine sim_stp C (ok_at hm hi) hst hL hW hS ⟨by omega, by omega, by omega, by omega⟩ ?_
      intro la1 H1 locs1 hL1 hW1 hS1
      refine ih d y pc' ls' st' n' f' g' v n1 f1 g1 h4 mt hm p e R s m args below meth c C hRf hRl la1 H1 locs1 _ _ hL1 hW1 hS1 (by omega) (by omega) Q ?_
      intro pc2 la2 H2 locs2 hret hW2 hS2
      have := hQ pc2 la2 H2 locs2 hret hW2 hS2
      rw [show cells + (n' - n) + (n1 - n') = cells + (n1 - n) by omega, show slots + (ssz n' - ssz n) + (ssz n1 - ssz n') = slots + (ssz n1 - ssz n) by omega]
      exact this
end ALL
