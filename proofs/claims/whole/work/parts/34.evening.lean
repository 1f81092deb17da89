/-! SPECS, 25: evening -/
/-- what a draw brings about -/
def hpR (e : Nat) : Nat := (1 + e / 128 % 3) * 4 + (1 + e / 512 % 3)
def hpW (V : Va) (M : Nat → Nat → Nat) (e : Nat) : Nat → Nat → Nat := if e % 8 = 0 then mset0 M 1 (M 0 1 ^^^ 2 ^ (e / 8 % V.1)) else if e % 8 = 1 ∧ M 0 2 < 6 then mAdd M (e / 8 % V.1) (M 0 0) (hpR e) else M
theorem row2_ok {a b : Nat} (ha : a < 3) (hb : b < 3) : RowOk ((1 + a) * 4 + (1 + b)) := ⟨[1 + b, 1 + a], ⟨by simp, fun d hd => by
  rcases List.mem_cons.mp hd with rfl | hd
  · omega
  · rcases List.mem_cons.mp hd with rfl | hd
    · omega
    · cases hd⟩, by simp only [vr]; omega⟩
theorem hpR_ok (e : Nat) : RowOk (hpR e) := row2_ok (Nat.mod_lt _ (by decide)) (Nat.mod_lt _ (by decide))
theorem hpW_0 {V : Va} {M : Nat → Nat → Nat} {e : Nat} : hpW V M e 0 0 = M 0 0 := by
  unfold hpW
  split
  · rfl
  · split
    · rfl
    · rfl
theorem hpW_W {V : Va} {M : Nat → Nat → Nat} {e : Nat} (hV : VWf V) (h1 : 1 ≤ V.1) (h : MoW V M) : MoW V (hpW V M e) := by
  have h9 := hV.1
  have hc : e / 8 % V.1 < V.1 := Nat.mod_lt _ h1
  have ht := h.2.1
  unfold hpW
  split
  · exact h.ind (xor_b h.2.2.1 (by omega))
  · split
    · rename_i hh
      exact h.add hh.2 hc (Nat.le_refl _) (Nat.lt_trans ht (by decide)) (hpR_ok e)
    · exact h
/-- an evening from its k-th minute on -/
def evA (V : Va) (z : Nat) : Nat → Nat → (Nat → Nat → Nat) → Nat → Nat → Nat
  | 0, _, M => M
  | t + 1, k, M => evA V z t (k + 1) (mnA V (hpW V M (dW z k)))
def evV (V : Va) (E : Nat → Nat → Nat) (w : Nat) : Nat := if w = 0 then howAre E 2 (E 0 2) 0 0 else sumOut E (E 0 2) 0 0 % 9973
theorem dW_lt (z k : Nat) : dW z k < 65521 := Nat.mod_lt _ (by decide)
theorem sumOut_le {M : Nat → Nat → Nat} : ∀ t m a, (∀ i, m ≤ i → i < m + t → M (i + 1) 3 < 65536) → sumOut M t m a ≤ a + 65536 * t := by
  intro t
  induction t with
  | zero => intro m a _; exact Nat.le_refl _
  | succ t ih =>
    intro m a h
    simp only [sumOut]
    have h1 := h m (Nat.le_refl _) (by omega)
    refine Nat.le_trans (ih (m + 1) _ (fun i hi hi2 => h i (by omega) (by omega))) ?_
    split <;> omega
set_option maxHeartbeats 1000000 in
theorem lp_happen {S : Scr} {d : Nat} {f : FF} {g : GG} {n e : Nat} {V : Va} {M : Nat → Nat → Nat} {y4 y5 : Option Value} (hn : 137 ≤ n) (G : GOk g) (hA : CMo f 30 M) (hV : VWf V) (h1 : 1 ≤ V.1) (hW : MoW V M) (he : e < 65521) (y1 : ¬ e % 8 = 0) : Wp S (d + 2) 179 36 [some (.ref 0), some (.int (nI e)), some (.int (nI V.1)), some (.int (nI (e / 8 % V.1))), y4, y5] [] n f g (fun v n' f' g' => v = none ∧ n' = n ∧ g' = g ∧ OffM f f' 30 ∧ CMo f' 30 (hpW V M e)) := by
  have h9 := hV.1
  refine w_iload_n k179_36 rfl ?_
  refine w_bipush k179_37 ?_
  refine w_irem k179_39 (by decide) ?_
  refine w_top (nI (e % 8)) (pk_rem (d := 8) (by omega) (by omega) (by omega)) ?_
  refine w_iconst k179_40 ?_
  refine w_icmp_ne k179_41 (fun h41 => ?_) (fun h41 => ?_)
  ·
    have y2 : ¬ e % 8 = 1 := fun hh => h41 (by rw [hh]; rfl)
    refine w_vret k179_89 mt179 rfl ?_
    first
      | (have e1 : hpW V M e = M := by unfold hpW; rw [if_neg y1, if_neg (fun hh => y2 hh.1)]
         rw [e1]
         exact ⟨rfl, rfl, rfl, OffM.rf, hA⟩)
      | (have e1 : hpW V M e = if M 0 2 < 6 then mAdd M (e / 8 % V.1) (M 0 0) (hpR e) else M := by
           unfold hpW
           rw [if_neg y1]
           by_cases h6 : M 0 2 < 6
           · rw [if_pos ⟨y2, h6⟩, if_pos h6]
           · rw [if_neg (fun hh => h6 hh.2), if_neg h6]
         rw [e1]
         exact ⟨rfl, rfl, rfl, hO, hM2⟩)
  ·
    have y2 : e % 8 = 1 := (nI_eq (b := 1) (by omega) (by omega)).mp h41
    have y1 : ¬ e % 8 = 0 := by omega
    refine w_iconst k179_44 ?_
    refine w_iload_n k179_45 rfl ?_
    refine w_sipush k179_46 ?_
    refine w_idiv k179_49 (by decide) ?_
    refine w_top (nI (e / 128)) (pk_div (d := 128) (by omega) (by omega) (by omega)) ?_
    refine w_iconst k179_50 ?_
    refine w_irem k179_51 (by decide) ?_
    refine w_top (nI ((e / 128) % 3)) (pk_rem (d := 3) (by omega) (by omega) (by omega)) ?_
    refine w_iadd k179_52 ?_
    refine w_top (nI (1 + e / 128 % 3)) (nI_add 1 _) ?_
    refine w_istore k179_53 (ls' := [_, _, _, _, _, _]) rfl ?_
    refine w_iconst k179_55 ?_
    refine w_iload_n k179_56 rfl ?_
    refine w_sipush k179_57 ?_
    refine w_idiv k179_60 (by decide) ?_
    refine w_top (nI (e / 512)) (pk_div (d := 512) (by omega) (by omega) (by omega)) ?_
    refine w_iconst k179_61 ?_
    refine w_irem k179_62 (by decide) ?_
    refine w_top (nI ((e / 512) % 3)) (pk_rem (d := 3) (by omega) (by omega) (by omega)) ?_
    refine w_iadd k179_63 ?_
    refine w_top (nI (1 + e / 512 % 3)) (nI_add 1 _) ?_
    refine w_istore k179_64 (ls' := [_, _, _, _, _, _]) rfl ?_
    refine w_aload_n k179_66 rfl rfl ?_
    refine w_getr k179_67 (k := 4) (kc0 hn) (by decide) (r0_4 G) ?_
    refine w_iload_n k179_70 rfl ?_
    refine w_aload_n k179_71 rfl rfl ?_
    refine w_getr k179_72 (k := 4) (kc0 hn) (by decide) (r0_4 G) ?_
    refine w_vI k179_75 mt116 (kc30 hn) ⟨rfl, by decide⟩ [] rfl rfl rfl (sp_Mmin (mo30 hn G) hA) ?_
    refine w_iload k179_78 rfl ?_
    refine w_iconst k179_80 ?_
    refine w_imul k179_81 ?_
    refine w_top (nI ((1 + e / 128 % 3) * 4)) (pk_mul _ 4) ?_
    refine w_iload k179_82 rfl ?_
    refine w_iadd k179_84 ?_
    refine w_top (nI (hpR e)) (nI_add _ _) ?_
    refine w_vA k179_85 mt32 (kc30 hn) ⟨rfl, by decide⟩ [_, _, _] rfl rfl rfl (sp_Madd2 (mo30 hn G) hA hW.1 (e / 8 % V.1) (M 0 0) (hpR e)) ?_
    rintro _ _ f2 _ ⟨rfl, rfl, rfl, hO, hM2⟩
    refine w_pop k179_88 rfl ?_
    refine w_vret k179_89 mt179 rfl ?_
    first
      | (have e1 : hpW V M e = M := by unfold hpW; rw [if_neg y1, if_neg (fun hh => y2 hh.1)]
         rw [e1]
         exact ⟨rfl, rfl, rfl, OffM.rf, hA⟩)
      | (have e1 : hpW V M e = if M 0 2 < 6 then mAdd M (e / 8 % V.1) (M 0 0) (hpR e) else M := by
           unfold hpW
           rw [if_neg y1]
           by_cases h6 : M 0 2 < 6
           · rw [if_pos ⟨y2, h6⟩, if_pos h6]
           · rw [if_neg (fun hh => h6 hh.2), if_neg h6]
         rw [e1]
         exact ⟨rfl, rfl, rfl, hO, hM2⟩)
set_option maxHeartbeats 1000000 in
theorem sp_happen {S : Scr} {d : Nat} {f : FF} {g : GG} {n e : Nat} {V : Va} {M : Nat → Nat → Nat} (hn : 137 ≤ n) (G : GOk g) (hA : CMo f 30 M) (hC : CVa f 17 V) (hV : VWf V) (h1 : 1 ≤ V.1) (hW : MoW V M) (he : e < 65521) : Wp S (d + 2) 179 0 [some (.ref 0), some (.int (nI e)), none, none, none, none] [] n f g (fun v n' f' g' => v = none ∧ n' = n ∧ g' = g ∧ OffM f f' 30 ∧ CMo f' 30 (hpW V M e)) := by
  have h9 := hV.1
  refine w_aload_n k179_0 rfl rfl ?_
  refine w_getr k179_1 (k := 2) (kc0 hn) (by decide) (r0_2 G) ?_
  refine w_vI k179_4 mt72 (kc17 hn) ⟨rfl, by decide⟩ [] rfl rfl rfl (sp_Vsize (va17 hn G) hC) ?_
  refine w_istore_n k179_7 (ls' := [_, _, _, _, _, _]) rfl ?_
  refine w_iload_n k179_8 rfl ?_
  refine w_iconst k179_9 ?_
  refine w_icmp_ge k179_10 (fun h10 => ?_) (fun h10 => absurd (nI_le (a := 1) h1 (by omega)) h10)
  refine w_iload_n k179_14 rfl ?_
  refine w_bipush k179_15 ?_
  refine w_idiv k179_17 (by decide) ?_
  refine w_top (nI (e / 8)) (pk_div (d := 8) (by omega) (by omega) (by omega)) ?_
  refine w_iload_n k179_18 rfl ?_
  refine w_irem k179_19 (nI_ne0 (by omega) (by omega)) ?_
  refine w_top (nI (e / 8 % V.1)) (pk_rem (d := V.1) (by omega) (by omega) (by omega)) ?_
  have hc : e / 8 % V.1 < V.1 := Nat.mod_lt _ h1
  refine w_istore_n k179_20 (ls' := [_, _, _, _, _, _]) rfl ?_
  refine w_iload_n k179_21 rfl ?_
  refine w_bipush k179_22 ?_
  refine w_irem k179_24 (by decide) ?_
  refine w_top (nI (e % 8)) (pk_rem (d := 8) (by omega) (by omega) (by omega)) ?_
  refine w_if_ne k179_25 (fun h25 => ?_) (fun h25 => ?_)
  ·
    have y1 : ¬ e % 8 = 0 := fun hh => h25 (by rw [hh]; rfl)
    first
      | exact lp_happen hn G hA hV h1 hW he y1
      | (skip
         refine w_iload_n k179_36 rfl ?_
         refine w_bipush k179_37 ?_
         refine w_irem k179_39 (by decide) ?_
         refine w_top (nI (e % 8)) (pk_rem (d := 8) (by omega) (by omega) (by omega)) ?_
         refine w_iconst k179_40 ?_
         refine w_icmp_ne k179_41 (fun h41 => ?_) (fun h41 => absurd h41 (fun hh => absurd ((nI_eq (b := 1) (by omega) (by omega)).mp hh) (by omega)))
         refine w_vret k179_89 mt179 rfl ?_
         have e1 : hpW V M e = mset0 M 1 (M 0 1 ^^^ 2 ^ (e / 8 % V.1)) := if_pos y1
         rw [e1]
         exact ⟨rfl, rfl, rfl, hO, hM2⟩)
  ·
    have y1 : e % 8 = 0 := (nI_eq (b := 0) (by omega) (by omega)).mp h25
    refine w_aload_n k179_28 rfl rfl ?_
    refine w_getr k179_29 (k := 4) (kc0 hn) (by decide) (r0_4 G) ?_
    refine w_iload_n k179_32 rfl ?_
    refine w_vA k179_33 mt36 (kc30 hn) ⟨rfl, by decide⟩ [_] rfl rfl rfl (sp_goIn (mo30 hn G) hA hW.2.2.1 (by omega)) ?_
    rintro _ _ f2 _ ⟨rfl, rfl, rfl, hO, hM2⟩
    first
      | exact lp_happen hn G hA hV h1 hW he y1
      | (skip
         refine w_iload_n k179_36 rfl ?_
         refine w_bipush k179_37 ?_
         refine w_irem k179_39 (by decide) ?_
         refine w_top (nI (e % 8)) (pk_rem (d := 8) (by omega) (by omega) (by omega)) ?_
         refine w_iconst k179_40 ?_
         refine w_icmp_ne k179_41 (fun h41 => ?_) (fun h41 => absurd h41 (fun hh => absurd ((nI_eq (b := 1) (by omega) (by omega)).mp hh) (by omega)))
         refine w_vret k179_89 mt179 rfl ?_
         have e1 : hpW V M e = mset0 M 1 (M 0 1 ^^^ 2 ^ (e / 8 % V.1)) := if_pos y1
         rw [e1]
         exact ⟨rfl, rfl, rfl, hO, hM2⟩)
set_option maxHeartbeats 1000000 in
theorem lp_evening {S : Scr} {d : Nat} {f : FF} {g : GG} {n z N w : Nat} {V : Va} (hn : 137 ≤ n) (G : GOk g) (hC : CVa f 17 V) (hV : VWf V) (h1 : 1 ≤ V.1) (hz : z ≤ 9999) (hN : N ≤ 60) (hw : w < 2) : ∀ (t k : Nat) (f1 : FF) (M : Nat → Nat → Nat), t + k = N → OffM f f1 30 → CMo f1 30 M → MoW V M → M 0 0 + t < 2 ^ 20 → Wp S (d + 6) 181 46 [some (.ref 0), some (.int (nI z)), some (.int (nI N)), some (.int (nI w)), some (.int (nI k))] [] n f1 g (fun v n' f' g' => v = some (.int (nI (evV V (evA V z t k M) w))) ∧ n' = n ∧ g' = g ∧ OffM f f' 30) := by
  have h9 := hV.1
  intro t
  induction t with
  | zero =>
    intro k f1 M e0 e1 e2 e3 e4
    refine w_iload k181_46 rfl ?_
    refine w_iload_n k181_48 rfl ?_
    refine w_icmp_ge k181_49 (fun h49 => ?_) (fun h49 => absurd (nI_le (by omega) (by omega)) h49)
    refine w_iload_n k181_79 rfl ?_
    refine w_if_ne k181_80 (fun h80 => ?_) (fun h80 => ?_)
    ·
      have y3 : ¬ w = 0 := fun hh => h80 (by rw [hh]; rfl)
      refine w_aload_n k181_94 rfl rfl ?_
      refine w_getr k181_95 (k := 4) (kc0 hn) (by decide) (r0_4 G) ?_
      refine w_vI k181_98 mt180 (kc30 hn) ⟨rfl, by decide⟩ [] rfl rfl rfl (sp_sumOut (mo30 hn G) e2 e3.1 (fun m hm => (e3.l12 h9 m hm).1)) ?_
      refine w_sipush k181_101 ?_
      have h6 := e3.1
      have hs := sumOut_le (M := M) (M 0 2) 0 0 (fun i _ hi => (e3.2.2.2 i (by omega)).2.2.2.1.lt)
      refine w_irem k181_104 (by decide) ?_
      refine w_top (nI (sumOut M (M 0 2) 0 0 % 9973)) (pk_rem (d := 9973) (by omega) (by omega) (by omega)) ?_
      refine w_iret k181_105 mt181 (.int) rfl (rfl) ?_
      show _ = some (Value.int (nI (evV V M w))) ∧ _
      unfold evV
      first
        | (rw [if_pos y3]; exact ⟨rfl, rfl, rfl, e1⟩)
        | (rw [if_neg y3]; exact ⟨rfl, rfl, rfl, e1⟩)
    ·
      have y3 : w = 0 := (nI_eq (b := 0) (by omega) (by omega)).mp h80
      refine w_aload_n k181_83 rfl rfl ?_
      refine w_getr k181_84 (k := 4) (kc0 hn) (by decide) (r0_4 G) ?_
      refine w_iconst k181_87 ?_
      refine w_vI k181_88 mt105 (kc30 hn) ⟨rfl, by decide⟩ [_] rfl rfl rfl (sp_howAre (mo30 hn G) e2 e3.1 (fun m hm => (e3.l12 h9 m hm).1) 2 (by decide)) ?_
      refine w_goto k181_91 ?_
      refine w_iret k181_105 mt181 (.int) rfl (rfl) ?_
      show _ = some (Value.int (nI (evV V M w))) ∧ _
      unfold evV
      first
        | (rw [if_pos y3]; exact ⟨rfl, rfl, rfl, e1⟩)
        | (rw [if_neg y3]; exact ⟨rfl, rfl, rfl, e1⟩)
  | succ t ih =>
    intro k f1 M e0 e1 e2 e3 e4
    refine w_iload k181_46 rfl ?_
    refine w_iload_n k181_48 rfl ?_
    refine w_icmp_ge k181_49 (fun h49 => absurd h49 (nI_ge (by omega) (by omega))) (fun h49 => ?_)
    refine w_aload_n k181_52 rfl rfl ?_
    refine w_iload_n k181_53 rfl ?_
    refine w_iload k181_54 rfl ?_
    refine w_sI k181_56 (by decide) mt178 [_, _] rfl rfl rfl (sp_draw hz (by omega)) ?_
    refine w_vA k181_59 mt179 (kc0 hn) ⟨rfl, by decide⟩ [_] rfl rfl rfl (sp_happen hn G e2 (hC.mo e1 (by omega)) hV h1 e3 (dW_lt z k)) ?_
    rintro _ _ f2 _ ⟨rfl, rfl, rfl, hO, hM2⟩
    have hW2 := hpW_W (e := dW z k) hV h1 e3
    refine w_aload_n k181_62 rfl rfl ?_
    refine w_getr k181_63 (k := 4) (kc0 hn) (by decide) (r0_4 G) ?_
    refine w_aload_n k181_66 rfl rfl ?_
    refine w_getr k181_67 (k := 2) (kc0 hn) (by decide) (r0_2 G) ?_
    refine w_vA k181_70 mt104 (kc30 hn) ⟨rfl, by decide⟩ [_] rfl rfl rfl (sp_minute (mo30 hn G) hM2 (va17 hn G) (hC.mo (e1.tr hO) (by omega)) hV hW2 (by omega)) ?_
    rintro _ _ f3 _ ⟨rfl, rfl, rfl, hO3, hM3⟩
    refine w_iinc k181_73 rfl (ls' := [_, _, _, _, _]) rfl ?_
    refine w_goto k181_76 ?_
    rw [nI_1]
    have hm0 : hpW V M (dW z k) 0 0 = M 0 0 := hpW_0
    exact ih (k + 1) f3 (mnA V (hpW V M (dW z k))) (by omega) ((e1.tr hO).tr hO3) hM3 (hW2.min hV (by rw [hm0]; omega)) (by show hpW V M (dW z k) 0 0 + 1 + t < 2 ^ 20; rw [hm0]; omega)
set_option maxHeartbeats 1000000 in
theorem sp_evening {S : Scr} {d : Nat} {f : FF} {g : GG} {n B : Nat} {tx : Nat → Nat} {tl : Nat} {V : Va} {M : Nat → Nat → Nat} {uN : Nat} {uL : Nat → Nat → Nat → Nat} {kN : Nat} {kL : Nat → Nat → Nat → Nat} {sn : Nat} {se : Nat → Nat → Nat} (hn : 137 ≤ n) (G : GOk g) (hR : CR n f g tx tl V M uN uL kN kL sn se) (hW : StW B tx tl V M uN uL kN kL sn se) {z N w : Nat} (h1 : 1 ≤ V.1) (hz : z ≤ 9999) (hN1 : 1 ≤ N) (hN : N ≤ 60) (hw : w < 2) (hB : M 0 0 + 60 < 2 ^ 20) : Wp S (d + 6) 181 0 [some (.ref 0), some (.int (nI z)), some (.int (nI N)), some (.int (nI w)), none] [] n f g (CQ n f g (nI (evV V (evA V z N 0 M) w)) tx tl V M uN uL kN kL sn se) := by
  have h200 := hR.2.1.2.1
  have hC := hR.2.2.1
  have hA := hR.2.2.2.1
  have hK := hR.2.2.2.2.2.1
  have hS := hR.2.2.2.2.2.2
  have hV := hW.2.1
  have hM := hW.2.2.1.1
  have h9 := hV.1
  have hm6 := hM.1
  have hmt := hM.2.1
  have hmi := hM.2.2.1
  refine w_iload_n k181_0 rfl ?_
  refine w_iconst k181_1 ?_
  refine w_sipush k181_2 ?_
  refine w_sI k181_5 (by decide) mt22 [_, _, _] rfl rfl rfl (sp_isBetween _ _ _) ?_
  refine w_if_eq k181_8 (fun h8 => absurd h8 (bI_n0.mpr (decide_eq_true ⟨(nI_leI (a := 0) (by omega) (by omega)).mpr (by omega), (nI_leI (b := 9999) (by omega) (by omega)).mpr (by omega)⟩))) (fun h8 => ?_)
  refine w_iload_n k181_11 rfl ?_
  refine w_iconst k181_12 ?_
  refine w_bipush k181_13 ?_
  refine w_sI k181_15 (by decide) mt22 [_, _, _] rfl rfl rfl (sp_isBetween _ _ _) ?_
  refine w_if_eq k181_18 (fun h18 => absurd h18 (bI_n0.mpr (decide_eq_true ⟨(nI_leI (a := 1) (by omega) (by omega)).mpr (by omega), (nI_leI (b := 60) (by omega) (by omega)).mpr (by omega)⟩))) (fun h18 => ?_)
  refine w_iload_n k181_21 rfl ?_
  refine w_iconst k181_22 ?_
  refine w_iconst k181_23 ?_
  refine w_sI k181_24 (by decide) mt22 [_, _, _] rfl rfl rfl (sp_isBetween _ _ _) ?_
  refine w_if_ne k181_27 (fun h27 => ?_) (fun h27 => absurd h27 (bI_n0.mpr (decide_eq_true ⟨(nI_leI (a := 0) (by omega) (by omega)).mpr (by omega), (nI_leI (b := 1) (by omega) (by omega)).mpr (by omega)⟩)))
  refine w_aload_n k181_32 rfl rfl ?_
  refine w_getr k181_33 (k := 4) (kc0 hn) (by decide) (r0_4 G) ?_
  refine w_aload_n k181_36 rfl rfl ?_
  refine w_getr k181_37 (k := 3) (kc0 hn) (by decide) (r0_3 G) ?_
  refine w_vA k181_40 mt46 (kc30 hn) ⟨rfl, by decide⟩ [_] rfl rfl rfl (sp_copy (mo30 hn G) (mo21 hn G) hA hm6 (by omega)) ?_
  rintro _ _ f2 _ ⟨rfl, rfl, rfl, hO, hM2⟩
  have hC2 := hC.mo hO (by omega)
  refine w_iconst k181_43 ?_
  refine w_istore k181_44 (ls' := [_, _, _, _, _]) rfl ?_
  refine (lp_evening hn G hC2 hV h1 hz hN hw N 0 f2 M rfl OffM.rf hM2 hM (by omega)).mono ?_
  rintro _ _ f3 _ ⟨rfl, rfl, rfl, hO3⟩
  exact ⟨rfl, rfl, fun x hx => by rw [hO3 x (by omega), hO x (by omega)], fun _ _ => rfl, hR.eq hW (fun x hx => by rw [hO3 x (by omega), hO x (by omega)])⟩
set_option maxHeartbeats 1000000 in
theorem sp_evening0 {S : Scr} {d : Nat} {f : FF} {g : GG} {n B : Nat} {tx : Nat → Nat} {tl : Nat} {V : Va} {M : Nat → Nat → Nat} {uN : Nat} {uL : Nat → Nat → Nat → Nat} {kN : Nat} {kL : Nat → Nat → Nat → Nat} {sn : Nat} {se : Nat → Nat → Nat} (hn : 137 ≤ n) (G : GOk g) (hR : CR n f g tx tl V M uN uL kN kL sn se) (hW : StW B tx tl V M uN uL kN kL sn se) {x y z : Int32} (hb : ¬ ((0 ≤ x ∧ x ≤ 9999) ∧ (1 ≤ y ∧ y ≤ 60) ∧ 0 ≤ z ∧ z ≤ 1)) : Wp S (d + 6) 181 0 [some (.ref 0), some (.int x), some (.int y), some (.int z), none] [] n f g (CQ n f g (-1) tx tl V M uN uL kN kL sn se) := by
  have h200 := hR.2.1.2.1
  have hC := hR.2.2.1
  have hA := hR.2.2.2.1
  have hK := hR.2.2.2.2.2.1
  have hS := hR.2.2.2.2.2.2
  have hV := hW.2.1
  have hM := hW.2.2.1.1
  have h9 := hV.1
  have hm6 := hM.1
  have hmt := hM.2.1
  have hmi := hM.2.2.1
  refine w_iload_n k181_0 rfl ?_
  refine w_iconst k181_1 ?_
  refine w_sipush k181_2 ?_
  refine w_sI k181_5 (by decide) mt22 [_, _, _] rfl rfl rfl (sp_isBetween _ _ _) ?_
  refine w_if_eq k181_8 (fun h8 => ?_) (fun h8 => ?_)
  ·
    refine w_iconst k181_30 ?_
    refine w_iret k181_31 mt181 (.int) rfl (rfl) ?_
    exact CQ.same hR
  ·
    have x8 := of_decide_eq_true (bI_n0.mp h8)
    refine w_iload_n k181_11 rfl ?_
    refine w_iconst k181_12 ?_
    refine w_bipush k181_13 ?_
    refine w_sI k181_15 (by decide) mt22 [_, _, _] rfl rfl rfl (sp_isBetween _ _ _) ?_
    refine w_if_eq k181_18 (fun h18 => ?_) (fun h18 => ?_)
    ·
      refine w_iconst k181_30 ?_
      refine w_iret k181_31 mt181 (.int) rfl (rfl) ?_
      exact CQ.same hR
    ·
      have x18 := of_decide_eq_true (bI_n0.mp h18)
      refine w_iload_n k181_21 rfl ?_
      refine w_iconst k181_22 ?_
      refine w_iconst k181_23 ?_
      refine w_sI k181_24 (by decide) mt22 [_, _, _] rfl rfl rfl (sp_isBetween _ _ _) ?_
      refine w_if_ne k181_27 (fun h27 => absurd (bI_0.mpr (decide_eq_false fun hh => hb ⟨x8, x18, hh⟩)) h27) (fun h27 => ?_)
      refine w_iconst k181_30 ?_
      refine w_iret k181_31 mt181 (.int) rfl (rfl) ?_
      exact CQ.same hR
