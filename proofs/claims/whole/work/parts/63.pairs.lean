/-! SPECS, 53: class and model side by side, call by call -/
theorem kd_mono {n n' a : Nat} {q : Nat × Nat} (h : kd KKl n a = some q) (hn : n ≤ n') : kd KKl n' a = some q := by
  unfold kd at h ⊢
  split at h
  · rw [if_pos (by omega)]
    exact h
  · cases h
theorem MoOk.mono {n n' a : Nat} {g g' : GG} (h : MoOk n g a) (hn : n ≤ n') (h1 : g' a = g a) (h2 : g' (a + 1) = g (a + 1)) : MoOk n' g' a := by
  obtain ⟨a1, a2, a3, a4, a5, a6, a7⟩ := h
  exact ⟨kd_mono a1 hn, kd_mono a2 hn, kd_mono a3 hn, fun j hj => kd_mono (a4 j hj) hn, by rw [h1]; exact a5, by rw [h1]; exact a6, fun j hj => by rw [h2]; exact a7 j hj⟩
theorem PiR.fr {n n' : Nat} {f f' : FF} {g g' : GG} {p q C sz : Nat} {b : Nat → Nat} {L : Nat → Nat → Nat → Nat} (h : PiR n f g p q C b sz L) (hn : n ≤ n') (h6 : ∀ i, i < sz → L i 0 2 ≤ 6) (h1 : f' p = f p) (h2 : g' p = g p) (h3 : g' q = g q) (h4 : ∀ i, i < C → ∀ x, b i ≤ x → x < b i + 9 → f' x = f x ∧ g' x = g x) : PiR n' f' g' p q C b sz L := by
  obtain ⟨⟨a1, a2, a3, a4⟩, a5, a6, a7, a8, a9⟩ := h
  refine ⟨⟨kd_mono a1 hn, kd_mono a2 hn, by rw [h2]; exact a3, a4⟩, fun i hi => ⟨by rw [h3]; exact (a5 i hi).1, (a5 i hi).2.mono hn (h4 i hi _ (by omega) (by omega)).2 (h4 i hi _ (by omega) (by omega)).2⟩, a6, by rw [h1]; exact a7, a8, fun i hi => (a9 i hi).eq (h6 i hi) (fun x hx hy => (h4 i (by omega) x hx hy).1)⟩
theorem refsC_lt : ∀ q ∈ refsC, q.1 < 137 := by decide +kernel
theorem CR.fr {n n' B : Nat} {f f' : FF} {g g' : GG} {tx : Nat → Nat} {tl : Nat} {V : Va} {M : Nat → Nat → Nat} {uN : Nat} {uL : Nat → Nat → Nat → Nat} {kN : Nat} {kL : Nat → Nat → Nat → Nat} {sn : Nat} {se : Nat → Nat → Nat} (h : CR n f g tx tl V M uN uL kN kL sn se) (hW : StW B tx tl V M uN uL kN kL sn se) (hn : n ≤ n') (ho : ∀ x, x < 137 → f' x = f x) (hg : ∀ x, x < 137 → g' x = g x) : CR n' f' g' tx tl V M uN uL kN kL sn se := by
  obtain ⟨h0, h1, h2, h3, ⟨b, h4, hb⟩, h5, h6⟩ := h
  refine ⟨fun q hq => by rw [hg q.1 (refsC_lt q hq)]; exact h0 q hq, h1.eq (fun x hx => ho x (by omega)), h2.off (ho _ (by omega)) (ho _ (by omega)) (ho _ (by omega)) (ho _ (by omega)), h3.eq hW.2.2.1.1.1 (fun x hx hy => ho x (by omega)), ⟨b, ?_, hb⟩, ?_, ⟨by rw [ho 133 (by omega)]; exact h6.1, h6.2.1, fun i hi => by rw [ho 134 (by omega), ho 135 (by omega), ho 136 (by omega)]; exact h6.2.2 i hi⟩⟩
  · exact h4.fr hn (fun i hi => (hW.2.2.2.1 i hi).1.1) (ho _ (by omega)) (hg _ (by omega)) (hg _ (by omega)) (fun i hi x hx hy => by have := hb.in hi; exact ⟨ho x (by omega), hg x (by omega)⟩)
  · exact h5.fr hn (fun i hi => (hW.2.2.2.2.1 i hi).1.1) (ho _ (by omega)) (hg _ (by omega)) (hg _ (by omega)) (fun i hi x hx hy => by have hx : 115 + 9 * i ≤ x := hx; have hy : x < 115 + 9 * i + 9 := hy; exact ⟨ho x (by omega), hg x (by omega)⟩)
/-- all is well, there is a chair, no more than eight can be undone -/
def StX (B : Nat) (tx : Nat → Nat) (tl : Nat) (V : Va) (M : Nat → Nat → Nat) (uN : Nat) (uL : Nat → Nat → Nat → Nat) (kN : Nat) (kL : Nat → Nat → Nat → Nat) (sn : Nat) (se : Nat → Nat → Nat) : Prop := StW B tx tl V M uN uL kN kL sn se ∧ 1 ≤ V.1 ∧ uN ≤ 8
/-- the two answer alike, and are then in one state -/
def PrO (S : Scr) (B y1 y2 : Nat) (l1 l2 : LL) (tx : Nat → Nat) (tl : Nat) (V : Va) (M : Nat → Nat → Nat) (uN : Nat) (uL : Nat → Nat → Nat → Nat) (kN : Nat) (kL : Nat → Nat → Nat → Nat) (sn : Nat) (se : Nat → Nat → Nat) : Prop := ∃ (a : Int32) (tx2 : Nat → Nat) (tl2 : Nat) (V2 : Va) (M2 : Nat → Nat → Nat) (uN2 : Nat) (uL2 : Nat → Nat → Nat → Nat) (kN2 : Nat) (kL2 : Nat → Nat → Nat → Nat) (sn2 : Nat) (se2 : Nat → Nat → Nat), (∀ (f : FF) (g : GG), CR 153 f g tx tl V M uN uL kN kL sn se → Wp S 39 y1 0 l1 [] 153 f g (CQ 153 f g a tx2 tl2 V2 M2 uN2 uL2 kN2 kL2 sn2 se2)) ∧ (∀ (f : FF) (g : GG), MRl f g tx tl V M uN uL kN kL sn se → Wp S 39 y2 0 l2 [] 153 f g (MdQ f g a tx2 tl2 V2 M2 uN2 uL2 kN2 kL2 sn2 se2)) ∧ StX (B + 60) tx2 tl2 V2 M2 uN2 uL2 kN2 kL2 sn2 se2
theorem StX.le {B B2 : Nat} {tx : Nat → Nat} {tl : Nat} {V : Va} {M : Nat → Nat → Nat} {uN : Nat} {uL : Nat → Nat → Nat → Nat} {kN : Nat} {kL : Nat → Nat → Nat → Nat} {sn : Nat} {se : Nat → Nat → Nat} (h : StX B tx tl V M uN uL kN kL sn se) (hb : B ≤ B2) : StX B2 tx tl V M uN uL kN kL sn se := ⟨h.1.le hb, h.2⟩
theorem StX.tx {B : Nat} {tx : Nat → Nat} {tl : Nat} {V : Va} {M : Nat → Nat → Nat} {uN : Nat} {uL : Nat → Nat → Nat → Nat} {kN : Nat} {kL : Nat → Nat → Nat → Nat} {sn : Nat} {se : Nat → Nat → Nat} (h : StX B tx tl V M uN uL kN kL sn se) {tx2 : Nat → Nat} {tl2 : Nat} (ht : TxOk tx2 tl2) : StX B tx2 tl2 V M uN uL kN kL sn se := ⟨⟨ht, h.1.2⟩, h.2⟩
theorem StX.pm {B B2 : Nat} {tx : Nat → Nat} {tl : Nat} {V : Va} {M : Nat → Nat → Nat} {uN : Nat} {uL : Nat → Nat → Nat → Nat} {kN : Nat} {kL : Nat → Nat → Nat → Nat} {sn : Nat} {se : Nat → Nat → Nat} (h : StX B tx tl V M uN uL kN kL sn se) (hb : B ≤ B2) {M2 : Nat → Nat → Nat} (h2 : MoW V M2) (h3 : M2 0 0 ≤ B2) : StX B2 tx tl V M2 (if uN < 8 then uN + 1 else 8) (putL 8 uN uL M) kN kL sn se := ⟨((h.1.put h.2.2).le hb).mo h2 h3, h.2.1, by split <;> omega⟩
theorem StX.se {B : Nat} {tx : Nat → Nat} {tl : Nat} {V : Va} {M : Nat → Nat → Nat} {uN : Nat} {uL : Nat → Nat → Nat → Nat} {kN : Nat} {kL : Nat → Nat → Nat → Nat} {sn : Nat} {se : Nat → Nat → Nat} (h : StX B tx tl V M uN uL kN kL sn se) {sn2 : Nat} {se2 : Nat → Nat → Nat} (hs : ∀ i, i < sn2 → se2 i 0 < V.1 ∧ RowOk (se2 i 1) ∧ RowOk (se2 i 2)) : StX B tx tl V M uN uL kN kL sn2 se2 := ⟨⟨h.1.1, h.1.2.1, h.1.2.2.1, h.1.2.2.2.1, h.1.2.2.2.2.1, hs⟩, h.2⟩
theorem MoW.alt {V : Va} {M : Nat → Nat → Nat} (h : MoW V M) {m r : Nat} (hr : RowOk r) : MoW V (mAlt M m r) := by
  have e0 : ∀ k, mAlt M m r 0 k = M 0 k := fun k => if_neg (by omega)
  refine ⟨by rw [e0]; exact h.1, by rw [e0]; exact h.2.1, by rw [e0]; exact h.2.2.1, fun i hi => ?_⟩
  rw [e0] at hi
  rw [e0]
  obtain ⟨h0, h1, h2, h3, h4, h5, h6, h7, h8⟩ := h.2.2.2 i hi
  have e : ∀ k, k ≠ 3 → mAlt M m r (i + 1) k = M (i + 1) k := fun k hk => if_neg (fun hh => hk hh.2)
  refine ⟨by rw [e 0 (by decide)]; exact h0, by rw [e 1 (by decide)]; exact h1, by rw [e 2 (by decide)]; exact h2, ?_, by rw [e 4 (by decide)]; exact h4, by rw [e 5 (by decide)]; exact h5, by rw [e 1 (by decide), e 0 (by decide), e 4 (by decide)]; exact h6, by rw [e 1 (by decide), e 2 (by decide), e 4 (by decide)]; exact h7, by rw [e 4 (by decide), e 2 (by decide)]; exact h8⟩
  unfold mAlt
  split
  · exact hr
  · exact h3
theorem TxOk.add {tx : Nat → Nat} {tl c : Nat} (h : TxOk tx tl) (h1 : 32 ≤ c) (h2 : c ≤ 126) : TxOk (if tl < 200 then txA tx tl c else tx) (if tl < 200 then tl + 1 else tl) := by
  by_cases hz : tl < 200
  · rw [if_pos hz, if_pos hz]
    intro i hi
    unfold txA
    split
    · exact ⟨h1, h2⟩
    · exact h i (by omega)
  · rw [if_neg hz, if_neg hz]
    exact h
set_option maxHeartbeats 1000000 in
theorem pr_write {S : Scr} {B : Nat} {tx : Nat → Nat} {tl : Nat} {V : Va} {M : Nat → Nat → Nat} {uN : Nat} {uL : Nat → Nat → Nat → Nat} {kN : Nat} {kL : Nat → Nat → Nat → Nat} {sn : Nat} {se : Nat → Nat → Nat} (hX : StX B tx tl V M uN uL kN kL sn se) (hB : B ≤ 4000) (x : Int32) : PrO S B 58 60 [some (.ref 0), some (.int x)] [some (.ref 137), some (.int x)] tx tl V M uN uL kN kL sn se := by
  obtain ⟨hW, h1, h8⟩ := id hX
  have hV := hW.2.1
  have h9 := hV.1
  have hM := hW.2.2.1.1
  have hm6 := hM.1
  have hMB := hW.2.2.1.2
  by_cases hb : 32 ≤ x ∧ x ≤ 126
  · obtain ⟨c, ca, cb, rfl⟩ := bt_nI (a := 32) (b := 126) (by decide) (by decide) hb
    exact ⟨_, _, _, _, _, _, _, _, _, _, _, fun f g hR => sp_write (by decide) hR.1 hR hW ca cb, fun f g hR => mp_write hR.1 hR hW h1 ca cb, (hX.le (by omega)).tx (hW.1.add ca cb)⟩
  · exact ⟨_, _, _, _, _, _, _, _, _, _, _, fun f g hR => sp_write0 (by decide) hR.1 hR hW hb, fun f g hR => mp_write0 hR.1 hR hW h1 hb, hX.le (by omega)⟩
set_option maxHeartbeats 1000000 in
theorem pr_wipe {S : Scr} {B : Nat} {tx : Nat → Nat} {tl : Nat} {V : Va} {M : Nat → Nat → Nat} {uN : Nat} {uL : Nat → Nat → Nat → Nat} {kN : Nat} {kL : Nat → Nat → Nat → Nat} {sn : Nat} {se : Nat → Nat → Nat} (hX : StX B tx tl V M uN uL kN kL sn se) (hB : B ≤ 4000)  : PrO S B 61 62 [some (.ref 0), none] [some (.ref 137), none] tx tl V M uN uL kN kL sn se := by
  obtain ⟨hW, h1, h8⟩ := id hX
  have hV := hW.2.1
  have h9 := hV.1
  have hM := hW.2.2.1.1
  have hm6 := hM.1
  have hMB := hW.2.2.1.2
  exact ⟨_, _, _, _, _, _, _, _, _, _, _, fun f g hR => sp_wipe (by decide) hR.1 hR hW , fun f g hR => mp_wipe hR.1 hR hW h1 , (hX.le (by omega)).tx (fun i hi => absurd hi (Nat.not_lt_zero i))⟩
set_option maxHeartbeats 1000000 in
theorem pr_fault {S : Scr} {B : Nat} {tx : Nat → Nat} {tl : Nat} {V : Va} {M : Nat → Nat → Nat} {uN : Nat} {uL : Nat → Nat → Nat → Nat} {kN : Nat} {kL : Nat → Nat → Nat → Nat} {sn : Nat} {se : Nat → Nat → Nat} (hX : StX B tx tl V M uN uL kN kL sn se) (hB : B ≤ 4000)  : PrO S B 63 71 [some (.ref 0)] [some (.ref 137)] tx tl V M uN uL kN kL sn se := by
  obtain ⟨hW, h1, h8⟩ := id hX
  have hV := hW.2.1
  have h9 := hV.1
  have hM := hW.2.2.1.1
  have hm6 := hM.1
  have hMB := hW.2.2.1.2
  exact ⟨_, _, _, _, _, _, _, _, _, _, _, fun f g hR => sp_fault (by decide) hR.1 hR hW , fun f g hR => mp_fault hR.1 hR hW h1 , hX.le (by omega)⟩
set_option maxHeartbeats 1000000 in
theorem pr_lay {S : Scr} {B : Nat} {tx : Nat → Nat} {tl : Nat} {V : Va} {M : Nat → Nat → Nat} {uN : Nat} {uL : Nat → Nat → Nat → Nat} {kN : Nat} {kL : Nat → Nat → Nat → Nat} {sn : Nat} {se : Nat → Nat → Nat} (hX : StX B tx tl V M uN uL kN kL sn se) (hB : B ≤ 4000)  : PrO S B 73 74 [some (.ref 0)] [some (.ref 137)] tx tl V M uN uL kN kL sn se := by
  obtain ⟨hW, h1, h8⟩ := id hX
  have hV := hW.2.1
  have h9 := hV.1
  have hM := hW.2.2.1.1
  have hm6 := hM.1
  have hMB := hW.2.2.1.2
  have rok := rdP_ok (tx := tx) (tl := tl) 200 0 va0 mo0 va0_W mo0_W rfl
  by_cases hc : (rdP tx tl 200 0 va0 mo0).1 = none ∧ (rdP tx tl 200 0 va0 mo0).2.1.1 ≠ 0
  · exact ⟨_, _, _, _, _, _, _, _, _, _, _, fun f g hR => by
      have h := sp_lay (S := S) (d := 33) (by decide) hR.1 hR hW
      simp only [if_pos hc] at h
      exact h, fun f g hR => by
      have h := mp_lay (S := S) (d := 34) hR.1 hR hW h1
      simp only [if_pos hc] at h
      exact h, ⟨⟨hW.1, rok.1, ⟨rok.2.1, by rw [rok.2.2]; exact Nat.zero_le _⟩, fun i hi => absurd hi (Nat.not_lt_zero i), fun i hi => absurd hi (Nat.not_lt_zero i), fun i hi => absurd hi (Nat.not_lt_zero i)⟩, by have := hc.2; omega, Nat.zero_le _⟩⟩
  · exact ⟨_, _, _, _, _, _, _, _, _, _, _, fun f g hR => by
      have h := sp_lay (S := S) (d := 33) (by decide) hR.1 hR hW
      simp only [if_neg hc] at h
      exact h, fun f g hR => by
      have h := mp_lay (S := S) (d := 34) hR.1 hR hW h1
      simp only [if_neg hc] at h
      exact h, hX.le (by omega)⟩
set_option maxHeartbeats 1000000 in
theorem pr_chair {S : Scr} {B : Nat} {tx : Nat → Nat} {tl : Nat} {V : Va} {M : Nat → Nat → Nat} {uN : Nat} {uL : Nat → Nat → Nat → Nat} {kN : Nat} {kL : Nat → Nat → Nat → Nat} {sn : Nat} {se : Nat → Nat → Nat} (hX : StX B tx tl V M uN uL kN kL sn se) (hB : B ≤ 4000) (x : Int32) (y : Int32) : PrO S B 77 81 [some (.ref 0), some (.int x), some (.int y)] [some (.ref 137), some (.int x), some (.int y)] tx tl V M uN uL kN kL sn se := by
  obtain ⟨hW, h1, h8⟩ := id hX
  have hV := hW.2.1
  have h9 := hV.1
  have hM := hW.2.2.1.1
  have hm6 := hM.1
  have hMB := hW.2.2.1.2
  by_cases hx : 0 ≤ x ∧ x < nI V.1
  · obtain ⟨c, hc, rfl⟩ := in_nI (N := V.1) (by omega) hx
    by_cases hy : 0 ≤ y ∧ y ≤ nI 4
    · obtain ⟨w, wa, wb, rfl⟩ := bt_nI (a := 0) (b := 4) (by decide) (by decide) hy
      exact ⟨_, _, _, _, _, _, _, _, _, _, _, fun f g hR => sp_chair (by decide) hR.1 hR hW hc (by omega), fun f g hR => mp_chair hR.1 hR hW h1 hc (by omega), hX.le (by omega)⟩
    · exact ⟨_, _, _, _, _, _, _, _, _, _, _, fun f g hR => sp_chair1 (by decide) hR.1 hR hW hc hy, fun f g hR => mp_chair1 hR.1 hR hW h1 hc hy, hX.le (by omega)⟩
  · exact ⟨_, _, _, _, _, _, _, _, _, _, _, fun f g hR => sp_chair0 (by decide) hR.1 hR hW hx, fun f g hR => mp_chair0 hR.1 hR hW h1 hx, hX.le (by omega)⟩
set_option maxHeartbeats 1000000 in
theorem pr_message {S : Scr} {B : Nat} {tx : Nat → Nat} {tl : Nat} {V : Va} {M : Nat → Nat → Nat} {uN : Nat} {uL : Nat → Nat → Nat → Nat} {kN : Nat} {kL : Nat → Nat → Nat → Nat} {sn : Nat} {se : Nat → Nat → Nat} (hX : StX B tx tl V M uN uL kN kL sn se) (hB : B ≤ 4000) (x : Int32) (y : Int32) : PrO S B 83 85 [some (.ref 0), some (.int x), some (.int y), none] [some (.ref 137), some (.int x), some (.int y)] tx tl V M uN uL kN kL sn se := by
  obtain ⟨hW, h1, h8⟩ := id hX
  have hV := hW.2.1
  have h9 := hV.1
  have hM := hW.2.2.1.1
  have hm6 := hM.1
  have hMB := hW.2.2.1.2
  by_cases hx : 0 ≤ x ∧ x < nI (M 0 2)
  · obtain ⟨c, hc, rfl⟩ := in_nI (N := M 0 2) (by omega) hx
    by_cases hy : 0 ≤ y ∧ y ≤ nI 5
    · obtain ⟨w, wa, wb, rfl⟩ := bt_nI (a := 0) (b := 5) (by decide) (by decide) hy
      exact ⟨_, _, _, _, _, _, _, _, _, _, _, fun f g hR => sp_message (by decide) hR.1 hR hW hc (by omega), fun f g hR => mp_message hR.1 hR hW h1 hc (by omega), hX.le (by omega)⟩
    · exact ⟨_, _, _, _, _, _, _, _, _, _, _, fun f g hR => sp_message1 (by decide) hR.1 hR hW hc hy, fun f g hR => mp_message1 hR.1 hR hW h1 hc hy, hX.le (by omega)⟩
  · exact ⟨_, _, _, _, _, _, _, _, _, _, _, fun f g hR => sp_message0 (by decide) hR.1 hR hW hx, fun f g hR => mp_message0 hR.1 hR hW h1 hx, hX.le (by omega)⟩
set_option maxHeartbeats 1000000 in
theorem pr_knit {S : Scr} {B : Nat} {tx : Nat → Nat} {tl : Nat} {V : Va} {M : Nat → Nat → Nat} {uN : Nat} {uL : Nat → Nat → Nat → Nat} {kN : Nat} {kL : Nat → Nat → Nat → Nat} {sn : Nat} {se : Nat → Nat → Nat} (hX : StX B tx tl V M uN uL kN kL sn se) (hB : B ≤ 4000) (x : Int32) (y : Int32) : PrO S B 93 98 [some (.ref 0), some (.int x), some (.int y)] [some (.ref 137), some (.int x), some (.int y)] tx tl V M uN uL kN kL sn se := by
  obtain ⟨hW, h1, h8⟩ := id hX
  have hV := hW.2.1
  have h9 := hV.1
  have hM := hW.2.2.1.1
  have hm6 := hM.1
  have hMB := hW.2.2.1.2
  by_cases hb : (0 ≤ x ∧ x < nI V.1) ∧ isRow0 y = true
  · obtain ⟨c, hc, rfl⟩ := in_nI (N := V.1) (by omega) hb.1
    have hrI := hb.2
    obtain ⟨r, rfl, hr⟩ := isRow0_iff.mp hrI
    exact ⟨_, _, _, _, _, _, _, _, _, _, _, fun f g hR => sp_knit (by decide) hR.1 hR hW hc hr hrI, fun f g hR => mp_knit hR.1 hR hW h1 hc hr hrI, hX.le (by omega)⟩
  · exact ⟨_, _, _, _, _, _, _, _, _, _, _, fun f g hR => sp_knit0 (by decide) hR.1 hR hW hb, fun f g hR => mp_knit0 hR.1 hR hW h1 hb, hX.le (by omega)⟩
set_option maxHeartbeats 1000000 in
theorem pr_pass {S : Scr} {B : Nat} {tx : Nat → Nat} {tl : Nat} {V : Va} {M : Nat → Nat → Nat} {uN : Nat} {uL : Nat → Nat → Nat → Nat} {kN : Nat} {kL : Nat → Nat → Nat → Nat} {sn : Nat} {se : Nat → Nat → Nat} (hX : StX B tx tl V M uN uL kN kL sn se) (hB : B ≤ 4000) (x : Int32) : PrO S B 106 112 [some (.ref 0), some (.int x), none] [some (.ref 137), some (.int x), none] tx tl V M uN uL kN kL sn se := by
  obtain ⟨hW, h1, h8⟩ := id hX
  have hV := hW.2.1
  have h9 := hV.1
  have hM := hW.2.2.1.1
  have hm6 := hM.1
  have hMB := hW.2.2.1.2
  by_cases hb : 1 ≤ x ∧ x ≤ 60
  · obtain ⟨k, ka, kb, rfl⟩ := bt_nI (a := 1) (b := 60) (by decide) (by decide) hb
    exact ⟨_, _, _, _, _, _, _, _, _, _, _, fun f g hR => sp_pass (by decide) hR.1 hR hW ka kb (by omega), fun f g hR => mp_pass hR.1 hR hW h1 ka kb (by omega), hX.pm (by omega) (itM_W hV k M hM (by omega)) (by rw [itM_0]; omega)⟩
  · exact ⟨_, _, _, _, _, _, _, _, _, _, _, fun f g hR => sp_pass0 (by decide) hR.1 hR hW hb, fun f g hR => mp_pass0 hR.1 hR hW h1 hb, hX.le (by omega)⟩
set_option maxHeartbeats 1000000 in
theorem pr_rain {S : Scr} {B : Nat} {tx : Nat → Nat} {tl : Nat} {V : Va} {M : Nat → Nat → Nat} {uN : Nat} {uL : Nat → Nat → Nat → Nat} {kN : Nat} {kL : Nat → Nat → Nat → Nat} {sn : Nat} {se : Nat → Nat → Nat} (hX : StX B tx tl V M uN uL kN kL sn se) (hB : B ≤ 4000) (x : Int32) : PrO S B 113 114 [some (.ref 0), some (.int x)] [some (.ref 137), some (.int x)] tx tl V M uN uL kN kL sn se := by
  obtain ⟨hW, h1, h8⟩ := id hX
  have hV := hW.2.1
  have h9 := hV.1
  have hM := hW.2.2.1.1
  have hm6 := hM.1
  have hMB := hW.2.2.1.2
  by_cases hb : 0 ≤ x ∧ x < nI V.1
  · obtain ⟨c, hc, rfl⟩ := in_nI (N := V.1) (by omega) hb
    exact ⟨_, _, _, _, _, _, _, _, _, _, _, fun f g hR => sp_rain (by decide) hR.1 hR hW hc, fun f g hR => mp_rain hR.1 hR hW h1 hc, hX.pm (by omega) (hM.ind (xor_b hM.2.2.1 (by omega))) (by show M 0 0 ≤ _; omega)⟩
  · exact ⟨_, _, _, _, _, _, _, _, _, _, _, fun f g hR => sp_rain0 (by decide) hR.1 hR hW hb, fun f g hR => mp_rain0 hR.1 hR hW h1 hb, hX.le (by omega)⟩
set_option maxHeartbeats 1000000 in
theorem pr_send {S : Scr} {B : Nat} {tx : Nat → Nat} {tl : Nat} {V : Va} {M : Nat → Nat → Nat} {uN : Nat} {uL : Nat → Nat → Nat → Nat} {kN : Nat} {kL : Nat → Nat → Nat → Nat} {sn : Nat} {se : Nat → Nat → Nat} (hX : StX B tx tl V M uN uL kN kL sn se) (hB : B ≤ 4000) (x : Int32) (y : Int32) : PrO S B 117 118 [some (.ref 0), some (.int x), some (.int y)] [some (.ref 137), some (.int x), some (.int y)] tx tl V M uN uL kN kL sn se := by
  obtain ⟨hW, h1, h8⟩ := id hX
  have hV := hW.2.1
  have h9 := hV.1
  have hM := hW.2.2.1.1
  have hm6 := hM.1
  have hMB := hW.2.2.1.2
  by_cases hb : (0 ≤ x ∧ x < nI V.1) ∧ isRowI y = true
  · obtain ⟨c, hc, rfl⟩ := in_nI (N := V.1) (by omega) hb.1
    have hrI := hb.2
    obtain ⟨r, rfl, rp, hr⟩ := isRowI_iff.mp hrI
    by_cases h6z : M 0 2 < 6
    · exact ⟨_, _, _, _, _, _, _, _, _, _, _, fun f g hR => sp_send (by decide) hR.1 hR hW hc hr hrI h6z, fun f g hR => mp_send hR.1 hR hW h1 hc hr hrI h6z, hX.pm (by omega) (hM.add h6z hc (Nat.le_refl _) (by omega) hr) (by show M 0 0 ≤ _; omega)⟩
    · exact ⟨_, _, _, _, _, _, _, _, _, _, _, fun f g hR => sp_sendF (by decide) hR.1 hR hW hc hrI h6z, fun f g hR => mp_sendF hR.1 hR hW h1 hc hrI h6z, hX.le (by omega)⟩
  · exact ⟨_, _, _, _, _, _, _, _, _, _, _, fun f g hR => sp_send0 (by decide) hR.1 hR hW hb, fun f g hR => mp_send0 hR.1 hR hW h1 hb, hX.le (by omega)⟩
set_option maxHeartbeats 1000000 in
theorem pr_alter {S : Scr} {B : Nat} {tx : Nat → Nat} {tl : Nat} {V : Va} {M : Nat → Nat → Nat} {uN : Nat} {uL : Nat → Nat → Nat → Nat} {kN : Nat} {kL : Nat → Nat → Nat → Nat} {sn : Nat} {se : Nat → Nat → Nat} (hX : StX B tx tl V M uN uL kN kL sn se) (hB : B ≤ 4000) (x : Int32) (y : Int32) : PrO S B 119 120 [some (.ref 0), some (.int x), some (.int y), none, none] [some (.ref 137), some (.int x), some (.int y), none] tx tl V M uN uL kN kL sn se := by
  obtain ⟨hW, h1, h8⟩ := id hX
  have hV := hW.2.1
  have h9 := hV.1
  have hM := hW.2.2.1.1
  have hm6 := hM.1
  have hMB := hW.2.2.1.2
  by_cases hb : (0 ≤ x ∧ x < nI (M 0 2)) ∧ isRowI y = true
  · obtain ⟨c, hc, rfl⟩ := in_nI (N := M 0 2) (by omega) hb.1
    have hrI := hb.2
    obtain ⟨r, rfl, rp, hr⟩ := isRowI_iff.mp hrI
    by_cases hs : M (c + 1) 1 = 1
    · exact ⟨_, _, _, _, _, _, _, _, _, _, _, fun f g hR => sp_alter (by decide) hR.1 hR hW hc hrI hs, fun f g hR => mp_alter hR.1 hR hW h1 hc hrI hs, hX.pm (by omega) (hM.alt hr) (by show mAlt M c r 0 0 ≤ _; rw [show mAlt M c r 0 0 = M 0 0 from if_neg (by omega)]; omega)⟩
    · exact ⟨_, _, _, _, _, _, _, _, _, _, _, fun f g hR => sp_alterN (by decide) hR.1 hR hW hc hrI hs, fun f g hR => mp_alterN hR.1 hR hW h1 hc hrI hs, hX.le (by omega)⟩
  · exact ⟨_, _, _, _, _, _, _, _, _, _, _, fun f g hR => sp_alter0 (by decide) hR.1 hR hW hb, fun f g hR => mp_alter0 hR.1 hR hW h1 hb, hX.le (by omega)⟩
set_option maxHeartbeats 1000000 in
theorem pr_undo {S : Scr} {B : Nat} {tx : Nat → Nat} {tl : Nat} {V : Va} {M : Nat → Nat → Nat} {uN : Nat} {uL : Nat → Nat → Nat → Nat} {kN : Nat} {kL : Nat → Nat → Nat → Nat} {sn : Nat} {se : Nat → Nat → Nat} (hX : StX B tx tl V M uN uL kN kL sn se) (hB : B ≤ 4000)  : PrO S B 123 124 [some (.ref 0)] [some (.ref 137), none] tx tl V M uN uL kN kL sn se := by
  obtain ⟨hW, h1, h8⟩ := id hX
  have hV := hW.2.1
  have h9 := hV.1
  have hM := hW.2.2.1.1
  have hm6 := hM.1
  have hMB := hW.2.2.1.2
  by_cases hu : uN = 0
  · exact ⟨_, _, _, _, _, _, _, _, _, _, _, fun f g hR => sp_undo0 (by decide) hR.1 hR hW hu, fun f g hR => mp_undo0 hR.1 hR hW h1 hu, hX.le (by omega)⟩
  · obtain ⟨u, hu⟩ : ∃ u, uN = u + 1 := ⟨uN - 1, by omega⟩
    exact ⟨_, _, _, _, _, _, _, _, _, _, _, fun f g hR => sp_undo (by decide) hR.1 hR hW hu, fun f g hR => mp_undo hR.1 hR hW h1 hu, ⟨⟨hW.1, hV, ⟨(hW.2.2.2.1 u (by omega)).1, Nat.le_trans (hW.2.2.2.1 u (by omega)).2 (by omega)⟩, fun i hi => ⟨(hW.2.2.2.1 i (by omega)).1, Nat.le_trans (hW.2.2.2.1 i (by omega)).2 (by omega)⟩, (hW.le (show B ≤ B + 60 by omega)).2.2.2.2⟩, h1, by omega⟩⟩
set_option maxHeartbeats 1000000 in
theorem pr_comes {S : Scr} {B : Nat} {tx : Nat → Nat} {tl : Nat} {V : Va} {M : Nat → Nat → Nat} {uN : Nat} {uL : Nat → Nat → Nat → Nat} {kN : Nat} {kL : Nat → Nat → Nat → Nat} {sn : Nat} {se : Nat → Nat → Nat} (hX : StX B tx tl V M uN uL kN kL sn se) (hB : B ≤ 4000) (x : Int32) (y : Int32) (z : Int32) : PrO S B 129 132 [some (.ref 0), some (.int x), some (.int y), some (.int z)] [some (.ref 137), some (.int x), some (.int y), some (.int z), none, none] tx tl V M uN uL kN kL sn se := by
  obtain ⟨hW, h1, h8⟩ := id hX
  have hV := hW.2.1
  have h9 := hV.1
  have hM := hW.2.2.1.1
  have hm6 := hM.1
  have hMB := hW.2.2.1.2
  by_cases hb : (0 ≤ x ∧ x < nI V.1) ∧ isRowI y = true ∧ 0 ≤ z ∧ z ≤ 1
  · obtain ⟨c, hc, rfl⟩ := in_nI (N := V.1) (by omega) hb.1
    have hrI := hb.2.1
    obtain ⟨r, rfl, rp, hr⟩ := isRowI_iff.mp hrI
    obtain ⟨w, wa, wb, rfl⟩ := bt_nI (a := 0) (b := 1) (by decide) (by decide) hb.2.2
    exact ⟨_, _, _, _, _, _, _, _, _, _, _, fun f g hR => sp_comes (by decide) hR.1 hR hW hc hr hrI (by omega), fun f g hR => mp_comes hR.1 hR hW h1 hc hr hrI (by omega), hX.le (by omega)⟩
  · exact ⟨_, _, _, _, _, _, _, _, _, _, _, fun f g hR => sp_comes0 (by decide) hR.1 hR hW hb, fun f g hR => mp_comes0 hR.1 hR hW h1 hb, hX.le (by omega)⟩
set_option maxHeartbeats 1000000 in
theorem pr_out {S : Scr} {B : Nat} {tx : Nat → Nat} {tl : Nat} {V : Va} {M : Nat → Nat → Nat} {uN : Nat} {uL : Nat → Nat → Nat → Nat} {kN : Nat} {kL : Nat → Nat → Nat → Nat} {sn : Nat} {se : Nat → Nat → Nat} (hX : StX B tx tl V M uN uL kN kL sn se) (hB : B ≤ 4000) (x : Int32) (y : Int32) : PrO S B 136 138 [some (.ref 0), some (.int x), some (.int y), none, none] [some (.ref 137), some (.int x), some (.int y), none] tx tl V M uN uL kN kL sn se := by
  obtain ⟨hW, h1, h8⟩ := id hX
  have hV := hW.2.1
  have h9 := hV.1
  have hM := hW.2.2.1.1
  have hm6 := hM.1
  have hMB := hW.2.2.1.2
  by_cases hb : (0 ≤ x ∧ x < nI (M 0 2)) ∧ 0 ≤ y ∧ y ≤ 1
  · obtain ⟨c, hc, rfl⟩ := in_nI (N := M 0 2) (by omega) hb.1
    obtain ⟨w, wa, wb, rfl⟩ := bt_nI (a := 0) (b := 1) (by decide) (by decide) hb.2
    by_cases hs : M (c + 1) 1 = 2
    · exact ⟨_, _, _, _, _, _, _, _, _, _, _, fun f g hR => sp_outN (by decide) hR.1 hR hW hc (by omega) hs, fun f g hR => mp_outN hR.1 hR hW h1 hc (by omega) hs, hX.le (by omega)⟩
    · exact ⟨_, _, _, _, _, _, _, _, _, _, _, fun f g hR => sp_out (by decide) hR.1 hR hW hc (by omega) hs, fun f g hR => mp_out hR.1 hR hW h1 hc (by omega) hs (by omega), hX.le (by omega)⟩
  · exact ⟨_, _, _, _, _, _, _, _, _, _, _, fun f g hR => sp_out0 (by decide) hR.1 hR hW hb, fun f g hR => mp_out0 hR.1 hR hW h1 hb, hX.le (by omega)⟩
set_option maxHeartbeats 1000000 in
theorem pr_code {S : Scr} {B : Nat} {tx : Nat → Nat} {tl : Nat} {V : Va} {M : Nat → Nat → Nat} {uN : Nat} {uL : Nat → Nat → Nat → Nat} {kN : Nat} {kL : Nat → Nat → Nat → Nat} {sn : Nat} {se : Nat → Nat → Nat} (hX : StX B tx tl V M uN uL kN kL sn se) (hB : B ≤ 4000) (x : Int32) (y : Int32) : PrO S B 139 140 [some (.ref 0), some (.int x), some (.int y), none] [some (.ref 137), some (.int x), some (.int y), none] tx tl V M uN uL kN kL sn se := by
  obtain ⟨hW, h1, h8⟩ := id hX
  have hV := hW.2.1
  have h9 := hV.1
  have hM := hW.2.2.1.1
  have hm6 := hM.1
  have hMB := hW.2.2.1.2
  by_cases hb : (0 ≤ x ∧ x < nI V.1) ∧ isRow0 y = true
  · obtain ⟨c, hc, rfl⟩ := in_nI (N := V.1) (by omega) hb.1
    have hrI := hb.2
    obtain ⟨r, rfl, hr⟩ := isRow0_iff.mp hrI
    have hrl := hr.lt
    exact ⟨_, _, _, _, _, _, _, _, _, _, _, fun f g hR => sp_code (by decide) hR.1 hR hW hc (by omega) hrI, fun f g hR => mp_code hR.1 hR hW h1 hc (by omega) hrI, hX.le (by omega)⟩
  · exact ⟨_, _, _, _, _, _, _, _, _, _, _, fun f g hR => sp_code0 (by decide) hR.1 hR hW hb, fun f g hR => mp_code0 hR.1 hR hW h1 hb, hX.le (by omega)⟩
set_option maxHeartbeats 1000000 in
theorem pr_could {S : Scr} {B : Nat} {tx : Nat → Nat} {tl : Nat} {V : Va} {M : Nat → Nat → Nat} {uN : Nat} {uL : Nat → Nat → Nat → Nat} {kN : Nat} {kL : Nat → Nat → Nat → Nat} {sn : Nat} {se : Nat → Nat → Nat} (hX : StX B tx tl V M uN uL kN kL sn se) (hB : B ≤ 4000) (x : Int32) (y : Int32) : PrO S B 141 142 [some (.ref 0), some (.int x), some (.int y), none, none] [some (.ref 137), some (.int x), some (.int y), none, none] tx tl V M uN uL kN kL sn se := by
  obtain ⟨hW, h1, h8⟩ := id hX
  have hV := hW.2.1
  have h9 := hV.1
  have hM := hW.2.2.1.1
  have hm6 := hM.1
  have hMB := hW.2.2.1.2
  by_cases hb : (0 ≤ x ∧ x < nI V.1) ∧ isRow0 y = true
  · obtain ⟨c, hc, rfl⟩ := in_nI (N := V.1) (by omega) hb.1
    have hrI := hb.2
    obtain ⟨r, rfl, hr⟩ := isRow0_iff.mp hrI
    have hrl := hr.lt
    exact ⟨_, _, _, _, _, _, _, _, _, _, _, fun f g hR => sp_could (by decide) hR.1 hR hW hc (by omega) hrI, fun f g hR => mp_could hR.1 hR hW h1 hc (by omega) hrI, hX.le (by omega)⟩
  · exact ⟨_, _, _, _, _, _, _, _, _, _, _, fun f g hR => sp_could0 (by decide) hR.1 hR hW hb, fun f g hR => mp_could0 hR.1 hR hW h1 hb, hX.le (by omega)⟩
set_option maxHeartbeats 1000000 in
theorem pr_bring {S : Scr} {B : Nat} {tx : Nat → Nat} {tl : Nat} {V : Va} {M : Nat → Nat → Nat} {uN : Nat} {uL : Nat → Nat → Nat → Nat} {kN : Nat} {kL : Nat → Nat → Nat → Nat} {sn : Nat} {se : Nat → Nat → Nat} (hX : StX B tx tl V M uN uL kN kL sn se) (hB : B ≤ 4000) (x : Int32) : PrO S B 144 147 [some (.ref 0), some (.int x), none, none, none] [some (.ref 137), some (.int x), none, none, none] tx tl V M uN uL kN kL sn se := by
  obtain ⟨hW, h1, h8⟩ := id hX
  have hV := hW.2.1
  have h9 := hV.1
  have hM := hW.2.2.1.1
  have hm6 := hM.1
  have hMB := hW.2.2.1.2
  by_cases hb : 0 ≤ x ∧ x ≤ 1
  · obtain ⟨w, wa, wb, rfl⟩ := bt_nI (a := 0) (b := 1) (by decide) (by decide) hb
    exact ⟨_, _, _, _, _, _, _, _, _, _, _, fun f g hR => sp_bring (by decide) hR.1 hR hW (by omega), fun f g hR => mp_bring hR.1 hR hW h1 (by omega) (by omega), hX.le (by omega)⟩
  · exact ⟨_, _, _, _, _, _, _, _, _, _, _, fun f g hR => sp_bring0 (by decide) hR.1 hR hW hb, fun f g hR => mp_bring0 hR.1 hR hW h1 hb, hX.le (by omega)⟩
set_option maxHeartbeats 1000000 in
theorem pr_meet {S : Scr} {B : Nat} {tx : Nat → Nat} {tl : Nat} {V : Va} {M : Nat → Nat → Nat} {uN : Nat} {uL : Nat → Nat → Nat → Nat} {kN : Nat} {kL : Nat → Nat → Nat → Nat} {sn : Nat} {se : Nat → Nat → Nat} (hX : StX B tx tl V M uN uL kN kL sn se) (hB : B ≤ 4000) (x : Int32) (y : Int32) : PrO S B 149 151 [some (.ref 0), some (.int x), some (.int y), none] [some (.ref 137), some (.int x), some (.int y), none] tx tl V M uN uL kN kL sn se := by
  obtain ⟨hW, h1, h8⟩ := id hX
  have hV := hW.2.1
  have h9 := hV.1
  have hM := hW.2.2.1.1
  have hm6 := hM.1
  have hMB := hW.2.2.1.2
  by_cases hb : (0 ≤ x ∧ x < nI (M 0 2)) ∧ (0 ≤ y ∧ y < nI (M 0 2)) ∧ ¬ x = y
  · obtain ⟨c, hc, rfl⟩ := in_nI (N := M 0 2) (by omega) hb.1
    obtain ⟨e, he, rfl⟩ := in_nI (N := M 0 2) (by omega) hb.2.1
    exact ⟨_, _, _, _, _, _, _, _, _, _, _, fun f g hR => sp_meet (by decide) hR.1 hR hW hc he (fun hh => hb.2.2 (by rw [hh])) (by omega), fun f g hR => mp_meet hR.1 hR hW h1 hc he (fun hh => hb.2.2 (by rw [hh])) (by omega), hX.le (by omega)⟩
  · exact ⟨_, _, _, _, _, _, _, _, _, _, _, fun f g hR => sp_meet0 (by decide) hR.1 hR hW hb, fun f g hR => mp_meet0 hR.1 hR hW h1 hb, hX.le (by omega)⟩
set_option maxHeartbeats 1000000 in
theorem pr_hangs {S : Scr} {B : Nat} {tx : Nat → Nat} {tl : Nat} {V : Va} {M : Nat → Nat → Nat} {uN : Nat} {uL : Nat → Nat → Nat → Nat} {kN : Nat} {kL : Nat → Nat → Nat → Nat} {sn : Nat} {se : Nat → Nat → Nat} (hX : StX B tx tl V M uN uL kN kL sn se) (hB : B ≤ 4000) (x : Int32) : PrO S B 153 155 [some (.ref 0), some (.int x), none, none, none, none] [some (.ref 137), some (.int x), none, none] tx tl V M uN uL kN kL sn se := by
  obtain ⟨hW, h1, h8⟩ := id hX
  have hV := hW.2.1
  have h9 := hV.1
  have hM := hW.2.2.1.1
  have hm6 := hM.1
  have hMB := hW.2.2.1.2
  by_cases hb : 0 ≤ x ∧ x ≤ 1
  · obtain ⟨w, wa, wb, rfl⟩ := bt_nI (a := 0) (b := 1) (by decide) (by decide) hb
    exact ⟨_, _, _, _, _, _, _, _, _, _, _, fun f g hR => sp_hangs (by decide) hR.1 hR hW (by omega), fun f g hR => mp_hangs hR.1 hR hW h1 (by omega), hX.le (by omega)⟩
  · exact ⟨_, _, _, _, _, _, _, _, _, _, _, fun f g hR => sp_hangs0 (by decide) hR.1 hR hW hb, fun f g hR => mp_hangs0 hR.1 hR hW h1 hb, hX.le (by omega)⟩
set_option maxHeartbeats 1000000 in
theorem pr_see {S : Scr} {B : Nat} {tx : Nat → Nat} {tl : Nat} {V : Va} {M : Nat → Nat → Nat} {uN : Nat} {uL : Nat → Nat → Nat → Nat} {kN : Nat} {kL : Nat → Nat → Nat → Nat} {sn : Nat} {se : Nat → Nat → Nat} (hX : StX B tx tl V M uN uL kN kL sn se) (hB : B ≤ 4000) (x : Int32) (y : Int32) (z : Int32) : PrO S B 158 159 [some (.ref 0), some (.int x), some (.int y), some (.int z)] [some (.ref 137), some (.int x), some (.int y), some (.int z)] tx tl V M uN uL kN kL sn se := by
  obtain ⟨hW, h1, h8⟩ := id hX
  have hV := hW.2.1
  have h9 := hV.1
  have hM := hW.2.2.1.1
  have hm6 := hM.1
  have hMB := hW.2.2.1.2
  by_cases hb : (0 ≤ x ∧ x < nI V.1) ∧ isRowI y = true ∧ isRow0 z = true
  · obtain ⟨c, hc, rfl⟩ := in_nI (N := V.1) (by omega) hb.1
    have hrI := hb.2.1
    obtain ⟨r, rfl, rp, hr⟩ := isRowI_iff.mp hrI
    have hwI := hb.2.2
    obtain ⟨w, rfl, hw⟩ := isRow0_iff.mp hwI
    exact ⟨_, _, _, _, _, _, _, _, _, _, _, fun f g hR => sp_see (by decide) hR.1 hR hW hc hrI hwI, fun f g hR => mp_see hR.1 hR hW h1 hc hrI hwI, (hX.le (by omega)).se (fun i hi => by
      by_cases hz : sn < 6
      · rw [if_pos hz] at hi ⊢
        unfold seA
        by_cases hs : i = sn
        · rw [if_pos hs, if_pos hs, if_pos hs]
          exact ⟨hc, hr, hw⟩
        · rw [if_neg hs, if_neg hs, if_neg hs]
          exact hW.2.2.2.2.2 i (by omega)
      · rw [if_neg hz] at hi ⊢
        exact hW.2.2.2.2.2 i hi)⟩
  · exact ⟨_, _, _, _, _, _, _, _, _, _, _, fun f g hR => sp_see0 (by decide) hR.1 hR hW hb, fun f g hR => mp_see0 hR.1 hR hW h1 hb, hX.le (by omega)⟩
set_option maxHeartbeats 1000000 in
theorem pr_forget {S : Scr} {B : Nat} {tx : Nat → Nat} {tl : Nat} {V : Va} {M : Nat → Nat → Nat} {uN : Nat} {uL : Nat → Nat → Nat → Nat} {kN : Nat} {kL : Nat → Nat → Nat → Nat} {sn : Nat} {se : Nat → Nat → Nat} (hX : StX B tx tl V M uN uL kN kL sn se) (hB : B ≤ 4000)  : PrO S B 160 161 [some (.ref 0), none] [some (.ref 137), none] tx tl V M uN uL kN kL sn se := by
  obtain ⟨hW, h1, h8⟩ := id hX
  have hV := hW.2.1
  have h9 := hV.1
  have hM := hW.2.2.1.1
  have hm6 := hM.1
  have hMB := hW.2.2.1.2
  exact ⟨_, _, _, _, _, _, _, _, _, _, _, fun f g hR => sp_forget (by decide) hR.1 hR hW , fun f g hR => mp_forget hR.1 hR hW h1 , (hX.le (by omega)).se (fun i hi => absurd hi (Nat.not_lt_zero i))⟩
set_option maxHeartbeats 1000000 in
theorem pr_kinds {S : Scr} {B : Nat} {tx : Nat → Nat} {tl : Nat} {V : Va} {M : Nat → Nat → Nat} {uN : Nat} {uL : Nat → Nat → Nat → Nat} {kN : Nat} {kL : Nat → Nat → Nat → Nat} {sn : Nat} {se : Nat → Nat → Nat} (hX : StX B tx tl V M uN uL kN kL sn se) (hB : B ≤ 4000) (x : Int32) : PrO S B 164 166 [some (.ref 0), some (.int x)] [some (.ref 137), some (.int x), none, none] tx tl V M uN uL kN kL sn se := by
  obtain ⟨hW, h1, h8⟩ := id hX
  have hV := hW.2.1
  have h9 := hV.1
  have hM := hW.2.2.1.1
  have hm6 := hM.1
  have hMB := hW.2.2.1.2
  by_cases hb : 0 ≤ x ∧ x < nI V.1
  · obtain ⟨c, hc, rfl⟩ := in_nI (N := V.1) (by omega) hb
    exact ⟨_, _, _, _, _, _, _, _, _, _, _, fun f g hR => sp_kinds (by decide) hR.1 hR hW hc, fun f g hR => mp_kinds hR.1 hR hW h1 hc, hX.le (by omega)⟩
  · exact ⟨_, _, _, _, _, _, _, _, _, _, _, fun f g hR => sp_kinds0 (by decide) hR.1 hR hW hb, fun f g hR => mp_kinds0 hR.1 hR hW h1 hb, hX.le (by omega)⟩
set_option maxHeartbeats 1000000 in
theorem pr_lies {S : Scr} {B : Nat} {tx : Nat → Nat} {tl : Nat} {V : Va} {M : Nat → Nat → Nat} {uN : Nat} {uL : Nat → Nat → Nat → Nat} {kN : Nat} {kL : Nat → Nat → Nat → Nat} {sn : Nat} {se : Nat → Nat → Nat} (hX : StX B tx tl V M uN uL kN kL sn se) (hB : B ≤ 4000)  : PrO S B 167 168 [some (.ref 0), none, none, none] [some (.ref 137), none, none, none] tx tl V M uN uL kN kL sn se := by
  obtain ⟨hW, h1, h8⟩ := id hX
  have hV := hW.2.1
  have h9 := hV.1
  have hM := hW.2.2.1.1
  have hm6 := hM.1
  have hMB := hW.2.2.1.2
  exact ⟨_, _, _, _, _, _, _, _, _, _, _, fun f g hR => sp_lies (by decide) hR.1 hR hW , fun f g hR => mp_lies hR.1 hR hW h1 , hX.le (by omega)⟩
set_option maxHeartbeats 1000000 in
theorem pr_slips {S : Scr} {B : Nat} {tx : Nat → Nat} {tl : Nat} {V : Va} {M : Nat → Nat → Nat} {uN : Nat} {uL : Nat → Nat → Nat → Nat} {kN : Nat} {kL : Nat → Nat → Nat → Nat} {sn : Nat} {se : Nat → Nat → Nat} (hX : StX B tx tl V M uN uL kN kL sn se) (hB : B ≤ 4000) (x : Int32) (y : Int32) (z : Int32) (u : Int32) : PrO S B 173 177 [some (.ref 0), some (.int x), some (.int y), some (.int z), some (.int u), none, none, none, none, none, none] [some (.ref 137), some (.int x), some (.int y), some (.int z), some (.int u), none, none, none, none, none, none] tx tl V M uN uL kN kL sn se := by
  obtain ⟨hW, h1, h8⟩ := id hX
  have hV := hW.2.1
  have h9 := hV.1
  have hM := hW.2.2.1.1
  have hm6 := hM.1
  have hMB := hW.2.2.1.2
  by_cases hb : (0 ≤ x ∧ x < nI V.1) ∧ isRowI y = true ∧ (0 ≤ z ∧ z ≤ 10) ∧ 0 ≤ u ∧ u ≤ 1
  · obtain ⟨c, hc, rfl⟩ := in_nI (N := V.1) (by omega) hb.1
    have hrI := hb.2.1
    obtain ⟨r, rfl, rp, hr⟩ := isRowI_iff.mp hrI
    obtain ⟨v, va, vb, rfl⟩ := bt_nI (a := 0) (b := 10) (by decide) (by decide) hb.2.2.1
    obtain ⟨w, wa, wb, rfl⟩ := bt_nI (a := 0) (b := 1) (by decide) (by decide) hb.2.2.2
    exact ⟨_, _, _, _, _, _, _, _, _, _, _, fun f g hR => sp_slips (by decide) hR.1 hR hW hc hr hrI (by omega) (by omega), fun f g hR => mp_slips hR.1 hR hW h1 hc hr hrI (by omega) (by omega), hX.le (by omega)⟩
  · exact ⟨_, _, _, _, _, _, _, _, _, _, _, fun f g hR => sp_slips0 (by decide) hR.1 hR hW hb, fun f g hR => mp_slips0 hR.1 hR hW h1 hb, hX.le (by omega)⟩
set_option maxHeartbeats 1000000 in
theorem pr_evening {S : Scr} {B : Nat} {tx : Nat → Nat} {tl : Nat} {V : Va} {M : Nat → Nat → Nat} {uN : Nat} {uL : Nat → Nat → Nat → Nat} {kN : Nat} {kL : Nat → Nat → Nat → Nat} {sn : Nat} {se : Nat → Nat → Nat} (hX : StX B tx tl V M uN uL kN kL sn se) (hB : B ≤ 4000) (x : Int32) (y : Int32) (z : Int32) : PrO S B 181 182 [some (.ref 0), some (.int x), some (.int y), some (.int z), none] [some (.ref 137), some (.int x), some (.int y), some (.int z), none, none, none, none, none] tx tl V M uN uL kN kL sn se := by
  obtain ⟨hW, h1, h8⟩ := id hX
  have hV := hW.2.1
  have h9 := hV.1
  have hM := hW.2.2.1.1
  have hm6 := hM.1
  have hMB := hW.2.2.1.2
  by_cases hb : (0 ≤ x ∧ x ≤ 9999) ∧ (1 ≤ y ∧ y ≤ 60) ∧ 0 ≤ z ∧ z ≤ 1
  · obtain ⟨v, va, vb, rfl⟩ := bt_nI (a := 0) (b := 9999) (by decide) (by decide) hb.1
    obtain ⟨k, ka, kb, rfl⟩ := bt_nI (a := 1) (b := 60) (by decide) (by decide) hb.2.1
    obtain ⟨w, wa, wb, rfl⟩ := bt_nI (a := 0) (b := 1) (by decide) (by decide) hb.2.2
    exact ⟨_, _, _, _, _, _, _, _, _, _, _, fun f g hR => sp_evening (by decide) hR.1 hR hW h1 vb ka kb (by omega) (by omega), fun f g hR => mp_evening hR.1 hR hW h1 vb ka kb (by omega) (by omega), hX.le (by omega)⟩
  · exact ⟨_, _, _, _, _, _, _, _, _, _, _, fun f g hR => sp_evening0 (by decide) hR.1 hR hW hb, fun f g hR => mp_evening0 hR.1 hR hW h1 hb, hX.le (by omega)⟩
set_option maxHeartbeats 1000000 in
theorem pr_keep {S : Scr} {B : Nat} {tx : Nat → Nat} {tl : Nat} {V : Va} {M : Nat → Nat → Nat} {uN : Nat} {uL : Nat → Nat → Nat → Nat} {kN : Nat} {kL : Nat → Nat → Nat → Nat} {sn : Nat} {se : Nat → Nat → Nat} (hX : StX B tx tl V M uN uL kN kL sn se) (hB : B ≤ 4000)  : PrO S B 183 184 [some (.ref 0)] [some (.ref 137), none] tx tl V M uN uL kN kL sn se := by
  obtain ⟨hW, h1, h8⟩ := id hX
  have hV := hW.2.1
  have h9 := hV.1
  have hM := hW.2.2.1.1
  have hm6 := hM.1
  have hMB := hW.2.2.1.2
  by_cases hk : kN < 2
  · exact ⟨_, _, _, _, _, _, _, _, _, _, _, fun f g hR => sp_keep (by decide) hR.1 hR hW hk, fun f g hR => mp_keep hR.1 hR hW h1 hk, ⟨⟨hW.1, hV, ⟨hM, by omega⟩, (hW.le (show B ≤ B + 60 by omega)).2.2.2.1, fun i hi => by
      show MoW V (if i = kN then M else kL i) ∧ (if i = kN then M else kL i) 0 0 ≤ B + 60
      by_cases hu : i = kN
      · rw [if_pos hu]; exact ⟨hM, by omega⟩
      · rw [if_neg hu]; exact (hW.le (show B ≤ B + 60 by omega)).2.2.2.2.1 i (by omega), hW.2.2.2.2.2⟩, h1, h8⟩⟩
  · exact ⟨_, _, _, _, _, _, _, _, _, _, _, fun f g hR => sp_keepF (by decide) hR.1 hR hW hk, fun f g hR => mp_keepF hR.1 hR hW h1 hk, hX.le (by omega)⟩
set_option maxHeartbeats 1000000 in
theorem pr_back {S : Scr} {B : Nat} {tx : Nat → Nat} {tl : Nat} {V : Va} {M : Nat → Nat → Nat} {uN : Nat} {uL : Nat → Nat → Nat → Nat} {kN : Nat} {kL : Nat → Nat → Nat → Nat} {sn : Nat} {se : Nat → Nat → Nat} (hX : StX B tx tl V M uN uL kN kL sn se) (hB : B ≤ 4000)  : PrO S B 185 186 [some (.ref 0)] [some (.ref 137), none] tx tl V M uN uL kN kL sn se := by
  obtain ⟨hW, h1, h8⟩ := id hX
  have hV := hW.2.1
  have h9 := hV.1
  have hM := hW.2.2.1.1
  have hm6 := hM.1
  have hMB := hW.2.2.1.2
  by_cases hk : kN = 0
  · exact ⟨_, _, _, _, _, _, _, _, _, _, _, fun f g hR => sp_back0 (by decide) hR.1 hR hW hk, fun f g hR => mp_back0 hR.1 hR hW h1 hk, hX.le (by omega)⟩
  · obtain ⟨k, hk⟩ : ∃ k, kN = k + 1 := ⟨kN - 1, by omega⟩
    exact ⟨_, _, _, _, _, _, _, _, _, _, _, fun f g hR => sp_back (by decide) hR.1 hR hW hk, fun f g hR => mp_back hR.1 hR hW h1 hk, ⟨⟨hW.1, hV, ⟨(hW.2.2.2.2.1 k (by omega)).1, Nat.le_trans (hW.2.2.2.2.1 k (by omega)).2 (by omega)⟩, fun i hi => absurd hi (Nat.not_lt_zero i), fun i hi => ⟨(hW.2.2.2.2.1 i (by omega)).1, Nat.le_trans (hW.2.2.2.2.1 i (by omega)).2 (by omega)⟩, hW.2.2.2.2.2⟩, h1, Nat.zero_le _⟩⟩
set_option maxHeartbeats 1000000 in
theorem pr_count {S : Scr} {B : Nat} {tx : Nat → Nat} {tl : Nat} {V : Va} {M : Nat → Nat → Nat} {uN : Nat} {uL : Nat → Nat → Nat → Nat} {kN : Nat} {kL : Nat → Nat → Nat → Nat} {sn : Nat} {se : Nat → Nat → Nat} (hX : StX B tx tl V M uN uL kN kL sn se) (hB : B ≤ 4000) (x : Int32) : PrO S B 188 190 [some (.ref 0), some (.int x)] [some (.ref 137), some (.int x)] tx tl V M uN uL kN kL sn se := by
  obtain ⟨hW, h1, h8⟩ := id hX
  have hV := hW.2.1
  have h9 := hV.1
  have hM := hW.2.2.1.1
  have hm6 := hM.1
  have hMB := hW.2.2.1.2
  by_cases hb : 0 ≤ x ∧ x ≤ nI 9
  · obtain ⟨w, wa, wb, rfl⟩ := bt_nI (a := 0) (b := 9) (by decide) (by decide) hb
    exact ⟨_, _, _, _, _, _, _, _, _, _, _, fun f g hR => sp_count (by decide) hR.1 hR hW (by omega), fun f g hR => mp_count hR.1 hR hW h1 (by omega), hX.le (by omega)⟩
  · exact ⟨_, _, _, _, _, _, _, _, _, _, _, fun f g hR => sp_count0 (by decide) hR.1 hR hW hb, fun f g hR => mp_count0 hR.1 hR hW h1 hb, hX.le (by omega)⟩
