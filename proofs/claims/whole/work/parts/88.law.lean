/-! THE CLAIM OUT OF ONE WALK OF THE LAW'S BODY. Your part is whole_start (and what it stands on); all else here is the same for every law, but numbers. -/
def R_law : String := "NeedleTelegraphLaw"
def lw_P (b : Addr) (xs : List Int32) (args : Array Value) (s : State) : Prop := args = #[.ref b] ∧ s.IntsAt b xs ∧ xs.length ≤ 320 ∧ (Jvm.Cond.and given_1 narrow_1).before args s = true
def lw_Q (_ : Array Value) (s : State) (o : Outcome) (t : State) : Prop := o = .returned (some (.int 1)) ∧ Framed s o t [] 600000 7302250
def lw_Z (below : List Frame) (a : Array Value) (s : State) : State → Prop := fun t => ∃ o, t.status = .running ∧ Ended t below o ∧ lw_Q a s o t
/-- the law's own end, with 1 on the stack, nothing written that was there before, its room as the claim has it -/
theorem lw_ret {p : Program} {l : Launch} {e : Jvm.Env} {s : State} {m : MethodId} {below : List Frame} {meth : Method} {c : Code} {b : Nat} (hx : p.tables.exec = Jvm.exec) (hb : c.code = code) (hr : meth.sig.returnType = ret) (hlocks : meth.locks = false) {pc : Nat} {H : Heap} {ls : Array Slot} (hdg : decode code pc = .ok (.ireturn, 1)) : W p l e room_1 s m #[Value.ref b] below meth c H [] 600000 7302250 (lw_Z below #[Value.ref b] s) (F0 m pc ls [.int 1]) := by
  intro T hT X
  obtain ⟨fs, hret, hrun, hended, hW, hframe⟩ := X.leave (v := some (.int 1)) (hlocks := hlocks) (fun h => by rw [hr] at h; cases h)
  have hmeth' : T.vm.method? m = some meth := X.method'
  refine ⟨T.setFrames fs, ?_, .returned (some (.int 1)), hrun, hended, rfl, ⟨_, rfl⟩, hW, hframe⟩
  jvm_step X.here [X.here.top, hx, hb, hdg, hmeth', hr, ret, narrow_b1]
  (try refine ⟨rfl, ?_⟩); (try refine ⟨rfl, ?_⟩)
  first | (intro acts; rw [hret _ acts rfl rfl rfl]) | rw [hret _ _ rfl rfl rfl]
  exact Steps.refl _
/-- what holds at the law's entry: the machine, the code, the tables' words (any of lw_tbl by 'hts w (by decide +kernel)'), the script of L ints xs at the cell b, what the Statement gives of the start (any of its parts by flat_of_before) -/
def lw_At (p : Program) (s : State) (m : MethodId) (meth : Method) (c : Code) (b L : Nat) (xs : Nat → Int32) : Prop :=
  p.tables.exec = Jvm.exec ∧ c.code = code ∧ meth.sig.returnType = ret ∧ c.maxLocals = 4 ∧ s.vm.findClass R_law = some m.cls ∧ (∀ w ∈ lw_tbl, w.before #[Value.ref b] s = true) ∧ va_X b L xs s s.heap ∧ b < s.heap.size ∧ meth.locks = false ∧ (Jvm.Cond.and given_1 narrow_1).before #[Value.ref b] s = true
/-! THE LINK, 8: the law -/
theorem nest_w : (nestT.all fun q => decide (Jvm.Cond.methodLinkNest q.1 q.2.1 q.2.2 "NeedleTelegraph" ∈ lw_tbl)) = true := by decide +kernel
theorem tabs_w : (decide (Jvm.Cond.arrayOver (.object "NeedleTelegraph$Message") ∈ lw_tbl) && decide (Jvm.Cond.arrayOver (.object "NeedleTelegraph$Moment") ∈ lw_tbl) && decide (Jvm.Cond.stringRef "NeedleTelegraph" 57 strText ∈ lw_tbl) && decide (Jvm.Cond.laysStatic "java/lang/String" "COMPACT_STRINGS" "Z" ∈ lw_tbl) && decide (Jvm.Cond.initialized "java/lang/String" ∈ lw_tbl) && decide (Jvm.Cond.laysStatic "jdk/internal/util/Preconditions" "SIOOBE_FORMATTER" "Ljava/util/function/BiFunction;" ∈ lw_tbl) && decide (Jvm.Cond.initialized "jdk/internal/util/Preconditions" ∈ lw_tbl) && decide (Jvm.Cond.arrayClass .int ∈ lw_tbl)) = true := by decide +kernel
abbrev lwG : Jvm.Cond := Jvm.Cond.and given_1 narrow_1
abbrev strTm : Term := Term.string "NeedleTelegraph" 57
abbrev strVm : Term := Term.field strTm "java/lang/String" "value" "[B"
theorem giv_w : (decide (Jvm.Cond.eq (Term.static "java/lang/String" "COMPACT_STRINGS" "Z") (.int 1) ∈ flatC lwG) && decide (Jvm.Cond.isRef (Term.static "jdk/internal/util/Preconditions" "SIOOBE_FORMATTER" "Ljava/util/function/BiFunction;") ∈ flatC lwG) && decide (Jvm.Cond.exactly strTm "java/lang/String" ∈ flatC lwG) && decide (Jvm.Cond.eq (.field strTm "java/lang/String" "coder" "B") (.int 0) ∈ flatC lwG) && decide (Jvm.Cond.arrayOf strVm .byte ∈ flatC lwG) && decide (Jvm.Cond.eq (.length strVm) (.int 99) ∈ flatC lwG)) = true := by decide +kernel
theorem giv_b : ((List.range 99).all fun j => decide (Jvm.Cond.eq (.elem strVm (.int (Int32.ofNat j))) (.int (strB.getD j 0)) ∈ flatC lwG)) = true := by decide +kernel
theorem env_start {s : State} {b L : Nat} {xs : Nat → Int32} (hts : ∀ w ∈ lw_tbl, w.before #[Value.ref b] s = true) (hX : va_X b L xs s s.heap) (hb : b < s.heap.size) (hg : lwG.before #[Value.ref b] s = true) : ∃ (D : va_G) (cI cM cP : ClassId) (sA vA : Nat) (vF : Value), Env D cI cM cP s.heap.size b L xs sA vA vF s := by
  have hf := flat_of_before _ hg
  have hA : ∀ a : Nat, a < s.heap.size → ¬ (fun q => s.heap.size ≤ q) a := fun a h => Nat.not_le.mpr h
  have hB : ∀ w ∈ Big, w.before #[Value.ref b] s = true := fun w hw => hts w (List.mem_filter.mp hw).1
  have ht := tabs_w
  simp only [Bool.and_eq_true, decide_eq_true_eq] at ht
  obtain ⟨⟨⟨⟨⟨⟨⟨t1, t2⟩, t3⟩, t4⟩, t5⟩, t6⟩, t7⟩, t8⟩ := ht
  have hv := giv_w
  simp only [Bool.and_eq_true, decide_eq_true_eq] at hv
  obtain ⟨⟨⟨⟨⟨g1, g2⟩, g3⟩, g4⟩, g5⟩, g6⟩ := hv
  have hk : ∀ c : Nat, ∃ q : ClassId × (Nat → Nat), ∀ r, vwCl[c]? = some r → u_Kn s r.1 r.2.1 r.2.2 q.1 q.2 := by
    intro c
    cases hc : vwCl[c]? with
    | none => exact ⟨(0, fun _ => 0), fun r h => by cases h⟩
    | some r =>
      obtain ⟨h1, -, h3, -⟩ := cls_ok hc
      obtain ⟨cC, iS, hu⟩ := u_known hB h1 (hB _ h3)
      exact ⟨(cC, iS), fun r' h => by cases h; exact hu⟩
  have hD := fun c => Classical.choose_spec (hk c)
  obtain ⟨cI, kI, cmI, i1, i2, i3⟩ := Cond.arrayClass_spec (hts _ t8)
  obtain ⟨cmM, cM, kM, o1, o2, o3, o4, o5⟩ := Cond.arrayOver_spec (hts _ t1)
  obtain ⟨cmP, cP, kP, p1, p2, p3, p4, p5⟩ := Cond.arrayOver_spec (hts _ t2)
  obtain ⟨adK, adV, hS, hKe⟩ := vk_Sof (args := #[Value.ref b]) (s := s) (N := 1) (tm := fun _ => strTm) (len := [99]) (byt := [strB]) (A := fun q => s.heap.size ≤ q) (fun i hi => by rw [show i = 0 by omega]; decide) (fun i hi => hf _ g3) (fun i hi => hf _ g4) (fun i hi => hf _ g5) (fun i hi => by rw [show i = 0 by omega]; exact hf _ g6)
    (fun i hi j hj => by
      rw [show i = 0 by omega] at hj ⊢
      have := List.all_eq_true.mp giv_b j (List.mem_range.mpr hj)
      exact hf _ (of_decide_eq_true this)) (fun i j hi hj hij => by omega) hA
  have hq := va_Zqof (A := fun q => s.heap.size ≤ q) (hts _ t6) (hts _ t7) (hf _ g2) hA
  have hvF : ∃ vF : Value, va_Z "jdk/internal/util/Preconditions" "SIOOBE_FORMATTER" "Ljava/util/function/BiFunction;" vF (fun q => s.heap.size ≤ q) s s.heap ∧ (vF = .null ∨ ∃ a, vF = .ref a) := by
    rcases hq with h | ⟨t, h⟩
    · exact ⟨_, h, Or.inl rfl⟩
    · exact ⟨_, h, Or.inr ⟨t, rfl⟩⟩
  obtain ⟨vF, hF1, hF2⟩ := hvF
  refine ⟨(fun c => (Classical.choose (hk c)).1, fun c => (Classical.choose (hk c)).2), cI, cM, cP, adK 0, adV 0, vF, ⟨fun c q hc => hD c q hc, fun k q hq => ?_⟩, fun q hq => ?_, va_AO.of (hts _ t1), va_AO.of (hts _ t2), vk_R.of (hts _ t3) (hKe 0 (by omega)), ?_, va_Zof (hts _ t4) (hts _ t5) (va_eqt (hf _ g1)) hA, hF1, hX, hb, Nat.le_refl _, hF2⟩
  · match k, hq with
    | 0, hq => cases hq; exact ⟨fun n w => ⟨fun k h => (by cases h), kI, i2, cmI, i3⟩, i1⟩
    | 1, hq => cases hq; exact ⟨fun n w => ⟨fun k h => (by cases h), kM, o3, cmM, o4⟩, kM, cmM, o3, o4, o1, o5⟩
    | 2, hq => cases hq; exact ⟨fun n w => ⟨fun k h => (by cases h), kP, p3, cmP, p4⟩, kP, cmP, p3, p4, p1, p5⟩
    | k + 3, hq => simp at hq
  · have := List.all_eq_true.mp nest_w q hq
    exact va_Nw.of rfl (hts _ (of_decide_eq_true this))
  · refine ⟨fun i hi => ?_, fun i j hi hj _ => by omega⟩
    have h0 := hS.1 i hi
    rw [show i = 0 by omega] at h0 ⊢
    exact h0
/-- what the small machine owes of the law -/
def LawOk : Prop := ∀ (xs : Nat → Int32) (L : Nat), L ≤ 320 → Wp (xs, L) 40 191 0 [some (.float 0), none, none, none] [] 0 (fun _ _ => 0) (fun _ _ => none) (fun v n' _ _ => v = some (.int 1) ∧ n' = 153)
theorem whole_start (HL : LawOk) {p : Program} {e : Jvm.Env} {s : State} {m : MethodId} {below : List Frame} {meth : Method} {c : Code} (l : Launch) (hflags : l.flags = flags0) {b L : Nat} {xs : Nat → Int32} (hL : L ≤ 320) (C0 : lw_At p s m meth c b L xs) : W p l e room_1 s m #[Value.ref b] below meth c s.heap [] 0 0 (lw_Z below #[Value.ref b] s) (entryFrame m ([Value.ref b] : List Value).toArray 4) := by
  obtain ⟨hx, hcb, hr, hml, hown, hts, hX, hbl, hlk, hgv⟩ := C0
  obtain ⟨D, cI, cM, cP, sA, vA, vF, hE⟩ := env_start hts hX hbl hgv
  obtain ⟨k, v, n1, f1, g1, hrun, rfl, rfl⟩ := HL xs L hL
  rw [lg_entry_eq]
  have hT := hE.T
  have e0 : ([Value.float 0] : List Value).map (tr s.heap.size (tk b sA vA vF)) = [Value.ref b] := rfl
  have hLR := LR_entry (z := s.heap.size) (nL := 4) hT (as := [Value.float 0]) (by decide)
  rw [e0] at hLR
  have hB : ∀ w ∈ Big, w.before #[Value.ref b] s = true := fun w hw => hts w (List.mem_filter.mp hw).1
  refine sim_all (D := D) (cI := cI) (cM := cM) (cP := cP) (z := s.heap.size) (b := b) (L := L) (xs := xs) (sA := sA) (vA := vA) (vF := vF) l k 40 191 0 _ [] 0 _ _ (some (.int 1)) 153 f1 g1 hrun m_191 mt191 p e room_1 s m #[Value.ref b] below meth c ⟨hx, hcb, hml, hr, hown, hB, fun h => absurd h (by decide), hlk, hE⟩ (by decide) (by decide) _ s.heap [] 0 0 hLR ⟨rfl, fun i k sz hi => by omega, fun _ _ _ => ⟨rfl, rfl⟩⟩ va_S.rf (by decide) (by decide +kernel) _ ?_
  intro pc2 la2 H2 locs2 hret hW2 hS2
  rcases hret with ⟨x, ty, h1, h2, h3, h4⟩ | ⟨x, h1, -⟩ | ⟨a, nm, h1, -⟩ | ⟨h1, -⟩
  · cases h1
    refine va_forget hS2.2.2 (W.widen (k := 600000) (n := 7302250) (by decide) (by decide +kernel) ?_)
    exact lw_ret hx hcb hr hlk h4
  · cases h1
  · cases h1
  · cases h1
set_option maxHeartbeats 4000000 in
theorem lw_walk (HL : LawOk) (l : Launch) (hflags : l.flags = flags0) (b : Addr) (xs : List Int32) : MetFree l x (headSpec (Jvm.Cond.code x code maxLocals ret :: tables_1) room_1) (lw_P b xs) (fun _ _ _ _ _ => True) lw_Q := by
  refine MetFree.of_bodyS (code := code) (maxLocals := maxLocals) (ret := ret) (by decide) ?_ ?_
  · intro args s m h hn
    obtain ⟨meth, c, h1, h2, h3, h4, h5, h6, -, -⟩ := Cond.code_spec hn (atoms_spec (ws := Jvm.Cond.code x code maxLocals ret :: tables_1) h _ List.mem_cons_self)
    exact ⟨meth, c, h1, h2, h3, h4, h5, h6⟩
  · intro p e s m args below meth c s₁ B hml0 hP _
    obtain ⟨rfl, hx, hbd, hgv⟩ := hP
    obtain ⟨scr, harrAt, hlist, hof, hsmall⟩ := hx
    obtain ⟨hcb, hkn, -, -⟩ := State.arrayAt?_spec harrAt
    have hown : s.vm.findClass R_law = some m.cls := findClass_of_methodNamed B.named
    have hts0 : ∀ c ∈ (Jvm.Cond.code x code maxLocals ret :: tables_1), c.before #[Value.ref b] s = true := atoms_spec (ws := Jvm.Cond.code x code maxLocals ret :: tables_1) B.pre
    have hts : ∀ w ∈ lw_tbl, w.before #[Value.ref b] s = true := k2_hts_sels lw_privs (fun w hw => hts0 w (List.mem_cons_of_mem _ hw)) lw_privs_ok
    have hml : c.maxLocals = 4 := B.maxLocals_eq (hts0 _ List.mem_cons_self)
    have X₀ : Stand p l e room_1 s m #[Value.ref b] below meth c s₁ [] 0 0 := Stand.of_body B
    have hh0 : s₁.heap = s.heap := by rw [B.state]; rfl
    have hsz : scr.slots.size = xs.length := by rw [← Array.length_toList, hlist, List.length_map]
    have hval : ∀ j : Nat, j < xs.length → scr.slots[j]? = some (.int (xs.getD j 0)) := fun j hj => by
      rw [← Array.getElem?_toList, hlist]
      simp [hj]
    have hbl : b < s.heap.size := (Array.getElem?_eq_some_iff.mp hcb).1
    have hX : va_X b xs.length (fun j => xs.getD j 0) s s.heap := ⟨scr, hcb, hof, hkn, hsz, hval⟩
    have K : W p l e room_1 s m #[Value.ref b] below meth c s₁.heap [] 0 0 (lw_Z below #[Value.ref b] s) (entryFrame m ([Value.ref b] : List Value).toArray 4) := by
      rw [hh0]
      exact whole_start HL l hflags hbd ⟨B.exec, B.bytes, B.returns, hml, hown, hts, hX, hbl, B.notSynchronized, hgv⟩
    obtain ⟨t, a1, o, b1, b2, b3⟩ := K s₁ rfl X₀
    exact ⟨t, o, a1, b1, b2, b3⟩
theorem lw_pre_spec {args : Array Value} {s : State} (h : (Jvm.Cond.and given_1 narrow_1).before args s = true) (hr : rest_1_c.before args s = true) : ∃ (b : Addr) (xs : List Int32), lw_P b xs args s := by
  have hs := flat_of_before _ h
  have hq := flat_of_before _ hr
  have hc : (Cond.count 1).before args s = true := hs _ (by decide +kernel)
  have harr : (Cond.arrayOf (.arg 0) .int).before args s = true := hs _ (by decide +kernel)
  have hle : (Cond.le (.length (.arg 0)) (.int 320)).before args s = true := hs _ (by decide +kernel)
  have hlen : (Cond.isInt (.length (.arg 0))).before args s = true := hq _ (by decide +kernel)
  have hall : (Cond.all (.arg 0) (.isInt (.elem (.arg 0) (.index 0)))).before args s = true := hq _ (by decide +kernel)
  obtain ⟨b, xs, hb, hx⟩ := State.ints_of_pre rfl harr hlen hall
  have hsm : xs.length < 2 ^ 31 := hx.choose_spec.2.2.2
  have hev : (Term.length (.arg 0)).eval args s none [] s = some (.int xs.length.toInt32) := hx.length_eval hb
  have hv := Cond.le_ints hev (show (Term.int 320).eval args s none [] s = some (.int 320) from rfl)
  have hd : xs.length.toInt32 ≤ 320 := by
    simpa [Cond.before, Cond.holds, hv] using hle
  have hN : xs.length ≤ 320 := (Int32.ofNat_le_ofNat hsm (by decide)).mp (show Int32.ofNat xs.length ≤ Int32.ofNat 320 from hd)
  exact ⟨b, xs, Cond.one_arg hc (show args[0]? = some (.ref b) from hb), hx, hN, h⟩
theorem lw_comes (HL : LawOk) (l : Launch) (hflags : l.flags = flags0) : Comes l x (Jvm.Cond.code x code maxLocals ret :: tables_1) room_1 (fun tb e args s => Calls_1 tb e args s ∧ rest_1 tb e args s ∧ Pre_1 tb e args s)
    (fun _ _ args s o t => lw_Q args s o t) := by
  intro p e ha hc hk s m args below hf hfit hheap happ hpre
  obtain ⟨b, xs, hP⟩ := lw_pre_spec hpre.2.2 hpre.2.1
  obtain ⟨k, o, h1, h2, h3, hQ⟩ := lw_walk HL l hflags b xs p e ha hc hk s m args below hf ((Spec.applies_iff_loose hf).mp happ).1 hP trivial
  exact ⟨k, o, h1, h2, h3, hQ⟩
theorem lw_frame {s t : State} {o : Outcome} {args : Array Value} (h : Framed s o t [] 600000 7302250) :
    Framed s o t (fieldLocs frame_1_writes args s ++ arrayLocs frame_1_arrays args s ++ staticLocs frame_1_statics s) 600000 7302250 := h
theorem lw_limb (HL : LawOk) (L : Cond) (hL : ∀ (args : Array Value) (s t : State), L.after args s (.returned (some (.int 1))) t = true) :
    ArmFor flags0 classFile x code maxLocals ret World_1 tables_1 room_1 Calls_1 rest_1 Pre_1
      (fun tb e a s o t => postC L tb e a s o t ∧ Framed s o t (fieldLocs frame_1_writes a s ++ arrayLocs frame_1_arrays a s ++ staticLocs frame_1_statics s) 600000 7302250) := by
  intro l hflags _ _ p e ha hc hk s m args below hf hfit hheap happ hpre
  obtain ⟨k, o, h1, h2, h3, rfl, hF⟩ := lw_comes HL l hflags p e ha hc hk s m args below hf hfit hheap happ hpre
  exact ⟨k, _, h1, h2, h3, hL args s _, lw_frame hF⟩
theorem i_vc_open (HL : LawOk) : Claimed_1_1 ∧ Claimed_1_2 := ⟨lw_limb HL limb_1_1 (fun args s t => by simp [limb_1_1, Cond.after, Cond.holds, Cond.value]), lw_limb HL limb_1_2 (fun args s t => Cond.after_iff.mpr (by
  first | (rw [show limb_1_2 = Cond.eq .result (.int 1) from rfl, Cond.eq_ints (x := 1) (y := 1) rfl rfl]; simp; done) | (simp [limb_1_2, Cond.value, Term.eval]; done)))⟩
