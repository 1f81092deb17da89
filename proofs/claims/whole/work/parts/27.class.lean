/-! SPECS, 18: the class as a whole -/
def bK : Nat → Nat := fun i => 115 + 9 * i
def bU (b : Nat → Nat) : Prop := ∀ i, i < 8 → ∃ j, j < 8 ∧ b i = 41 + 9 * j
def CR (n : Nat) (f : FF) (g : GG) (tx : Nat → Nat) (tl : Nat) (V : Va) (M : Nat → Nat → Nat) (uN : Nat) (uL : Nat → Nat → Nat → Nat) (kN : Nat) (kL : Nat → Nat → Nat → Nat) (sn : Nat) (se : Nat → Nat → Nat) : Prop := GOk g ∧ CLe f tx tl ∧ CVa f 17 V ∧ CMo f 21 M ∧ (∃ b, PiR n f g 39 40 8 b uN uL ∧ bU b) ∧ PiR n f g 113 114 2 bK kN kL ∧ CSe f se sn
/-- all is well, and no minute is above B -/
def StW (B : Nat) (tx : Nat → Nat) (tl : Nat) (V : Va) (M : Nat → Nat → Nat) (uN : Nat) (uL : Nat → Nat → Nat → Nat) (kN : Nat) (kL : Nat → Nat → Nat → Nat) (sn : Nat) (se : Nat → Nat → Nat) : Prop := TxOk tx tl ∧ VWf V ∧ (MoW V M ∧ M 0 0 ≤ B) ∧ (∀ i, i < uN → MoW V (uL i) ∧ uL i 0 0 ≤ B) ∧ (∀ i, i < kN → MoW V (kL i) ∧ kL i 0 0 ≤ B) ∧ ∀ i, i < sn → se i 0 < V.1 ∧ RowOk (se i 1) ∧ RowOk (se i 2)
/-- a call's end -/
def CQ (n : Nat) (f : FF) (g : GG) (a : Int32) (tx : Nat → Nat) (tl : Nat) (V : Va) (M : Nat → Nat → Nat) (uN : Nat) (uL : Nat → Nat → Nat → Nat) (kN : Nat) (kL : Nat → Nat → Nat → Nat) (sn : Nat) (se : Nat → Nat → Nat) : Option Value → Nat → FF → GG → Prop := fun v n' f' g' => v = some (.int a) ∧ n' = n ∧ (∀ x, 137 ≤ x → f' x = f x) ∧ (∀ x, x ≠ 40 → g' x = g x) ∧ CR n f' g' tx tl V M uN uL kN kL sn se
theorem bU.in {b : Nat → Nat} (h : bU b) {i : Nat} (hi : i < 8) : 41 ≤ b i ∧ b i ≤ 104 := by
  obtain ⟨j, h1, h2⟩ := h i hi
  omega
theorem PiR.eq {n : Nat} {f f' : FF} {g : GG} {p q C sz : Nat} {b : Nat → Nat} {L : Nat → Nat → Nat → Nat} (h : PiR n f g p q C b sz L) (h6 : ∀ i, i < sz → L i 0 2 ≤ 6) (h1 : f' p = f p) (h2 : ∀ i, i < C → ∀ x, b i ≤ x → x < b i + 9 → f' x = f x) : PiR n f' g p q C b sz L :=
  ⟨h.1, h.2.1, h.2.2.1, by rw [h1]; exact h.2.2.2.1, h.2.2.2.2.1, fun i hi => (h.2.2.2.2.2 i hi).eq (h6 i hi) (h2 i (Nat.lt_of_lt_of_le hi h.2.2.2.2.1))⟩
/-- the class is the same where only the reader's or the supposed cells have changed -/
theorem CR.eq {n B : Nat} {f f' : FF} {g : GG} {tx : Nat → Nat} {tl : Nat} {V : Va} {M : Nat → Nat → Nat} {uN : Nat} {uL : Nat → Nat → Nat → Nat} {kN : Nat} {kL : Nat → Nat → Nat → Nat} {sn : Nat} {se : Nat → Nat → Nat} (h : CR n f g tx tl V M uN uL kN kL sn se) (hW : StW B tx tl V M uN uL kN kL sn se) (ho : ∀ x, (x = 2 ∨ x = 3) ∨ (17 ≤ x ∧ x < 30) ∨ (39 ≤ x ∧ x < 137) → f' x = f x) : CR n f' g tx tl V M uN uL kN kL sn se := by
  obtain ⟨h0, h1, h2, h3, ⟨b, h4, hb⟩, h5, h6⟩ := h
  refine ⟨h0, h1.eq (fun x hx => ho x (by omega)), h2.off (ho _ (by omega)) (ho _ (by omega)) (ho _ (by omega)) (ho _ (by omega)), h3.eq hW.2.2.1.1.1 (fun x hx hy => ho x (by omega)), ⟨b, ?_, hb⟩, ?_, ?_⟩
  · exact h4.eq (fun i hi => (hW.2.2.2.1 i hi).1.1) (ho _ (by omega)) (fun i hi x hx hy => by have := hb.in hi; exact ho x (by omega))
  · exact h5.eq (fun i hi => (hW.2.2.2.2.1 i hi).1.1) (ho _ (by omega)) (fun i hi x hx hy => by have hx : 115 + 9 * i ≤ x := hx; have hy : x < 115 + 9 * i + 9 := hy; exact ho x (by omega))
  · exact ⟨by rw [ho 133 (by omega)]; exact h6.1, h6.2.1, fun i hi => by rw [ho 134 (by omega), ho 135 (by omega), ho 136 (by omega)]; exact h6.2.2 i hi⟩
/-- the class, where only the letters' cells have changed -/
theorem CR.le {n B : Nat} {f f' : FF} {g : GG} {tx : Nat → Nat} {tl : Nat} {V : Va} {M : Nat → Nat → Nat} {uN : Nat} {uL : Nat → Nat → Nat → Nat} {kN : Nat} {kL : Nat → Nat → Nat → Nat} {sn : Nat} {se : Nat → Nat → Nat} (h : CR n f g tx tl V M uN uL kN kL sn se) (hW : StW B tx tl V M uN uL kN kL sn se) (ho : ∀ x, x ≠ 2 → x ≠ 3 → f' x = f x) {tx2 : Nat → Nat} {tl2 : Nat} (hl : CLe f' tx2 tl2) : CR n f' g tx2 tl2 V M uN uL kN kL sn se := by
  obtain ⟨h0, h1, h2, h3, ⟨b, h4, hb⟩, h5, h6⟩ := h
  refine ⟨h0, hl, h2.off (ho _ (by omega) (by omega)) (ho _ (by omega) (by omega)) (ho _ (by omega) (by omega)) (ho _ (by omega) (by omega)), h3.eq hW.2.2.1.1.1 (fun x hx hy => ho x (by omega) (by omega)), ⟨b, ?_, hb⟩, ?_, ?_⟩
  · exact h4.eq (fun i hi => (hW.2.2.2.1 i hi).1.1) (ho _ (by omega) (by omega)) (fun i hi x hx hy => by have := hb.in hi; exact ho x (by omega) (by omega))
  · exact h5.eq (fun i hi => (hW.2.2.2.2.1 i hi).1.1) (ho _ (by omega) (by omega)) (fun i hi x hx hy => by have hx : 115 + 9 * i ≤ x := hx; exact ho x (by omega) (by omega))
  · exact ⟨by rw [ho 133 (by omega) (by omega)]; exact h6.1, h6.2.1, fun i hi => by rw [ho 134 (by omega) (by omega), ho 135 (by omega) (by omega), ho 136 (by omega) (by omega)]; exact h6.2.2 i hi⟩
set_option maxHeartbeats 1000000 in
theorem sp_wipe {S : Scr} {d : Nat} {f : FF} {g : GG} {n B : Nat} {tx : Nat → Nat} {tl : Nat} {V : Va} {M : Nat → Nat → Nat} {uN : Nat} {uL : Nat → Nat → Nat → Nat} {kN : Nat} {kL : Nat → Nat → Nat → Nat} {sn : Nat} {se : Nat → Nat → Nat} (hn : 137 ≤ n) (G : GOk g) (hR : CR n f g tx tl V M uN uL kN kL sn se) (hW : StW B tx tl V M uN uL kN kL sn se) : Wp S (d + 1) 61 0 [some (.ref 0), none] [] n f g (CQ n f g (nI tl) tx 0 V M uN uL kN kL sn se) := by
  refine w_aload_n k61_0 rfl rfl ?_
  refine w_getr k61_1 (k := 1) (kc0 hn) (by decide) (r0_1 G) ?_
  refine w_vI k61_4 mt19 (kc2 hn) ⟨rfl, by decide⟩ [] rfl rfl rfl (sp_Llen hn hR.2.1) ?_
  refine w_istore_n k61_7 (ls' := [_, _]) rfl ?_
  refine w_aload_n k61_8 rfl rfl ?_
  refine w_getr k61_9 (k := 1) (kc0 hn) (by decide) (r0_1 G) ?_
  refine w_vV k61_12 mt50 (kc2 hn) ⟨rfl, by decide⟩ [] rfl rfl rfl (sp_Lclear hn) ?_
  refine w_iload_n k61_15 rfl ?_
  refine w_iret k61_16 mt61 (.int) rfl (rfl) ?_
  exact ⟨rfl, rfl, fun x hx => by funext y; exact fup_no (by omega), fun _ _ => rfl, hR.le hW (fun x h1 h2 => by funext y; exact fup_no h1) ⟨fup_self, Nat.zero_le _, fun i hi => absurd hi (Nat.not_lt_zero i)⟩⟩
set_option maxHeartbeats 1000000 in
theorem sp_fault {S : Scr} {d : Nat} {f : FF} {g : GG} {n B : Nat} {tx : Nat → Nat} {tl : Nat} {V : Va} {M : Nat → Nat → Nat} {uN : Nat} {uL : Nat → Nat → Nat → Nat} {kN : Nat} {kL : Nat → Nat → Nat → Nat} {sn : Nat} {se : Nat → Nat → Nat} (hn : 137 ≤ n) (G : GOk g) (hR : CR n f g tx tl V M uN uL kN kL sn se) (hW : StW B tx tl V M uN uL kN kL sn se) : Wp S (d + 6) 63 0 [some (.ref 0)] [] n f g (CQ n f g (rdV (rdP tx tl 200 0 va0 mo0).1) tx tl V M uN uL kN kL sn se) := by
  refine w_aload_n k63_0 rfl rfl ?_
  refine w_getr k63_1 (k := 0) (kc0 hn) (by decide) (r0_0 G) ?_
  refine w_vA k63_4 mt39 (kc1 hn) ⟨rfl, by decide⟩ [] rfl rfl rfl (sp_read hn G hR.2.1 hW.1) ?_
  rintro _ _ f2 _ ⟨rfl, rfl, rfl, hO, hr⟩
  refine w_iret k63_7 mt63 (.int) rfl (rfl) ?_
  exact ⟨rfl, rfl, fun x hx => hO x (by omega), fun _ _ => rfl, hR.eq hW (fun x hx => hO x (by omega))⟩
