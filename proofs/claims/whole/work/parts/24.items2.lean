/-! SPECS, 15: the reader, messages, the whole text -/
theorem rowP_in {tx : Nat → Nat} {tl : Nat} : ∀ t p r, p ≤ tl → (rowP tx tl t p r).2 ≤ tl ∧ p ≤ (rowP tx tl t p r).2 := by
  intro t
  induction t with
  | zero => intro p r h; exact ⟨h, Nat.le_refl _⟩
  | succ t ih =>
    intro p r h
    simp only [rowP]
    split
    · exact ⟨h, Nat.le_refl _⟩
    · rename_i hs
      have h0 : ch tx tl p ≠ 0 := by intro hh; rw [hh] at hs; exact hs rfl
      have := ih (p + 1) (r * 4 + stt (ch tx tl p)) (ch_in h0)
      exact ⟨this.1, by omega⟩
theorem stt_le (c : Nat) : stt c ≤ 3 := by unfold stt; split; omega; split; omega; split <;> omega
theorem rowP_ok {tx : Nat → Nat} {tl : Nat} : ∀ t p l, l.length + t ≤ 8 → (∀ d ∈ l, 1 ≤ d ∧ d ≤ 3) → RowOk (rowP tx tl t p (vr l)).1 := by
  intro t
  induction t with
  | zero => intro p l h1 h2; exact ⟨l, ⟨by omega, h2⟩, rfl⟩
  | succ t ih =>
    intro p l h1 h2
    simp only [rowP]
    split
    · exact ⟨l, ⟨by omega, h2⟩, rfl⟩
    · rename_i hs
      have hst := stt_le (ch tx tl p)
      rw [show vr l * 4 + stt (ch tx tl p) = vr (stt (ch tx tl p) :: l) from by simp only [vr]; omega]
      exact ih (p + 1) _ (by simp; omega) (fun d hd => by
        rcases List.mem_cons.mp hd with rfl | hd
        · omega
        · exact h2 d hd)
theorem rowP_row {tx : Nat → Nat} {tl p : Nat} : RowOk (rowP tx tl 8 p 0).1 := rowP_ok 8 p [] (by simp) (by simp)
theorem has_dec {a b : Nat} (ha : a < 2 ^ 31) (hb : b < 2 ^ 31) : decide (0 ≤ nI a ∧ nI a < nI b) = decide (a < b) := by
  congr 1
  rw [nI_ltI ha hb]
  exact propext ⟨fun h => h.2, fun h => ⟨nI_pos' ha, h⟩⟩
set_option maxHeartbeats 1000000 in
theorem sp_readMessage {S : Scr} {d : Nat} {f : FF} {g : GG} {n tl p : Nat} {tx : Nat → Nat} (hn : 137 ≤ n) (G : GOk g) (hL : CLe f tx tl) (hT : TxOk tx tl) (hp : p ≤ 200) {V : Va} {M : Nat → Nat → Nat} (hC : CVa f 4 V) (hV : VWf V) (hM : CMo f 8 M) (hM6 : M 0 2 ≤ 6) (hMI : M 0 1 < 512) : Wp S (d + 3) 33 0 [some (.ref 1), none, none, none] [] n (setP f p) g (ItQ n f g ((msgP tx tl p V M).map fun q => (q.1, V, q.2))) := by
  refine w_aload_n k33_0 rfl rfl ?_
  have h200 := hL.2.1
  refine w_vI k33_1 mt24 (kc1 hn) ⟨rfl, by decide⟩ [] rfl rfl rfl (sp_number hn G hL hT (by omega)) ?_
  refine w_istore_n k33_4 (ls' := [_, _, _, _]) rfl ?_
  refine w_iload_n k33_5 rfl ?_
  refine w_if_lt k33_6 (fun h6 => ?_) (fun h6 => ?_)
  ·
    have q1 := nv_T h200 hT h6
    refine w_iconst k33_18 ?_
    refine w_iret k33_19 mt33 (.boolean) rfl (rfl) ?_
    first
      | (refine ItQ.no ?_ setP_off; simp [msgP, q1]; done)
      | (refine ItQ.no ?_ setP_off; simp [msgP, q1, k1]; done)
      | (refine ItQ.no ?_ setP_off; simp [msgP, q1, k1, q2]; done)
      | (refine ItQ.no ?_ setP_off; simp [msgP, q1, k1, q2, k2]; done)
      | (refine ItQ.no ?_ setP_off; simp [msgP, q1, k1, q2, k2, w1]; done)
      | (refine ItQ.no ?_ setP_off; simp [msgP, q1, k1, q2, k2, w1, k3]; done)
      | (refine ItQ.no ?_ setP_off; simp [msgP, q1, k1, q2, k2, w1, k3, w2]; done)
      | (refine ItQ.no ?_ (fun x hx => by rw [hO x (by omega)]; exact setP_off x hx); simp [msgP, q1, k1, q2, k2, w1, k3, w2, w3]; done)
      | (rw [if_pos w3] at hM2
         refine ItQ.yes (q := ((rowP tx tl 8 (q2p + 1) 0).2 + 1, V, mAdd M q1v q2v (rowP tx tl 8 (q2p + 1) 0).1)) ?_ (fun x hx => by rw [hO x (by omega)]; exact setP_off x hx) (by rw [hO 1 (by omega)]; exact setP_at) ?_ hM2
         · simp [msgP, q1, k1, q2, k2, w1, k3, w2, w3]
         · exact (hC.setP (p := (rowP tx tl 8 (q2p + 1) 0).2 + 1) (by omega)).off (hO _ (by omega)) (hO _ (by omega)) (hO _ (by omega)) (hO _ (by omega)))
  ·
    obtain ⟨q1v, q1p, q1, q1e, q1n, q1l, q1b, q1c⟩ := nv_F h200 hT h6
    rw [q1e, q1n]
    refine w_aload_n k33_9 rfl rfl ?_
    refine w_bipush k33_10 ?_
    refine w_vI k33_12 mt21 (kc1 hn) ⟨rfl, by decide⟩ [_] rfl rfl rfl (sp_takes hn G hL hT (by omega) (c := 44) (by omega)) ?_
    refine w_if_ne k33_15 (fun h15 => ?_) (fun h15 => ?_)
    ·
      have k1 := of_decide_eq_true (bI_n0.mp h15)
      rw [if_pos k1]
      refine w_aload_n k33_20 rfl rfl ?_
      have i1 := tk_in k1 (by omega)
      refine w_vI k33_21 mt24 (kc1 hn) ⟨rfl, by decide⟩ [] rfl rfl rfl (sp_number hn G hL hT (by omega)) ?_
      refine w_istore_n k33_24 (ls' := [_, _, _, _]) rfl ?_
      refine w_iload_n k33_25 rfl ?_
      refine w_if_lt k33_26 (fun h26 => ?_) (fun h26 => ?_)
      ·
        have q2 := nv_T h200 hT h26
        refine w_iconst k33_38 ?_
        refine w_iret k33_39 mt33 (.boolean) rfl (rfl) ?_
        first
          | (refine ItQ.no ?_ setP_off; simp [msgP, q1]; done)
          | (refine ItQ.no ?_ setP_off; simp [msgP, q1, k1]; done)
          | (refine ItQ.no ?_ setP_off; simp [msgP, q1, k1, q2]; done)
          | (refine ItQ.no ?_ setP_off; simp [msgP, q1, k1, q2, k2]; done)
          | (refine ItQ.no ?_ setP_off; simp [msgP, q1, k1, q2, k2, w1]; done)
          | (refine ItQ.no ?_ setP_off; simp [msgP, q1, k1, q2, k2, w1, k3]; done)
          | (refine ItQ.no ?_ setP_off; simp [msgP, q1, k1, q2, k2, w1, k3, w2]; done)
          | (refine ItQ.no ?_ (fun x hx => by rw [hO x (by omega)]; exact setP_off x hx); simp [msgP, q1, k1, q2, k2, w1, k3, w2, w3]; done)
          | (rw [if_pos w3] at hM2
             refine ItQ.yes (q := ((rowP tx tl 8 (q2p + 1) 0).2 + 1, V, mAdd M q1v q2v (rowP tx tl 8 (q2p + 1) 0).1)) ?_ (fun x hx => by rw [hO x (by omega)]; exact setP_off x hx) (by rw [hO 1 (by omega)]; exact setP_at) ?_ hM2
             · simp [msgP, q1, k1, q2, k2, w1, k3, w2, w3]
             · exact (hC.setP (p := (rowP tx tl 8 (q2p + 1) 0).2 + 1) (by omega)).off (hO _ (by omega)) (hO _ (by omega)) (hO _ (by omega)) (hO _ (by omega)))
      ·
        obtain ⟨q2v, q2p, q2, q2e, q2n, q2l, q2b, q2c⟩ := nv_F h200 hT h26
        rw [q2e, q2n]
        refine w_aload_n k33_29 rfl rfl ?_
        refine w_bipush k33_30 ?_
        refine w_vI k33_32 mt21 (kc1 hn) ⟨rfl, by decide⟩ [_] rfl rfl rfl (sp_takes hn G hL hT (by omega) (c := 44) (by omega)) ?_
        refine w_if_ne k33_35 (fun h35 => ?_) (fun h35 => ?_)
        ·
          have k2 := of_decide_eq_true (bI_n0.mp h35)
          rw [if_pos k2]
          refine w_aload_n k33_40 rfl rfl ?_
          have i2 := tk_in k2 (by omega)
          refine w_vI k33_41 mt28 (kc1 hn) ⟨rfl, by decide⟩ [] rfl rfl rfl (sp_row hn G hL hT (by omega)) ?_
          refine w_istore_n k33_44 (ls' := [_, _, _, _]) rfl ?_
          refine w_iload_n k33_45 rfl ?_
          have hr1 := rowP_row (tx := tx) (tl := tl) (p := q2p + 1)
          have hr2 := rowP_in (tx := tx) (tl := tl) 8 (q2p + 1) 0 (by omega)
          have hr3 := hr1.lt
          refine w_if_le k33_46 (fun h46 => ?_) (fun h46 => ?_)
          ·
            have w1 : (rowP tx tl 8 (q2p + 1) 0).1 = 0 := Nat.le_zero.mp ((nI_leI (b := 0) (by omega) (by omega)).mp h46)
            refine w_iconst k33_86 ?_
            refine w_iret k33_87 mt33 (.boolean) rfl (rfl) ?_
            first
              | (refine ItQ.no ?_ setP_off; simp [msgP, q1]; done)
              | (refine ItQ.no ?_ setP_off; simp [msgP, q1, k1]; done)
              | (refine ItQ.no ?_ setP_off; simp [msgP, q1, k1, q2]; done)
              | (refine ItQ.no ?_ setP_off; simp [msgP, q1, k1, q2, k2]; done)
              | (refine ItQ.no ?_ setP_off; simp [msgP, q1, k1, q2, k2, w1]; done)
              | (refine ItQ.no ?_ setP_off; simp [msgP, q1, k1, q2, k2, w1, k3]; done)
              | (refine ItQ.no ?_ setP_off; simp [msgP, q1, k1, q2, k2, w1, k3, w2]; done)
              | (refine ItQ.no ?_ (fun x hx => by rw [hO x (by omega)]; exact setP_off x hx); simp [msgP, q1, k1, q2, k2, w1, k3, w2, w3]; done)
              | (rw [if_pos w3] at hM2
                 refine ItQ.yes (q := ((rowP tx tl 8 (q2p + 1) 0).2 + 1, V, mAdd M q1v q2v (rowP tx tl 8 (q2p + 1) 0).1)) ?_ (fun x hx => by rw [hO x (by omega)]; exact setP_off x hx) (by rw [hO 1 (by omega)]; exact setP_at) ?_ hM2
                 · simp [msgP, q1, k1, q2, k2, w1, k3, w2, w3]
                 · exact (hC.setP (p := (rowP tx tl 8 (q2p + 1) 0).2 + 1) (by omega)).off (hO _ (by omega)) (hO _ (by omega)) (hO _ (by omega)) (hO _ (by omega)))
          ·
            have w1 : ¬ (rowP tx tl 8 (q2p + 1) 0).1 = 0 := fun hh => h46 (by rw [hh]; decide)
            refine w_aload_n k33_49 rfl rfl ?_
            refine w_bipush k33_50 ?_
            refine w_vI k33_52 mt21 (kc1 hn) ⟨rfl, by decide⟩ [_] rfl rfl rfl (sp_takes hn G hL hT (by omega) (c := 59) (by omega)) ?_
            refine w_if_eq k33_55 (fun h55 => ?_) (fun h55 => ?_)
            ·
              have k3 := of_decide_eq_false (bI_0.mp h55)
              rw [if_neg k3]
              refine w_iconst k33_86 ?_
              refine w_iret k33_87 mt33 (.boolean) rfl (rfl) ?_
              first
                | (refine ItQ.no ?_ setP_off; simp [msgP, q1]; done)
                | (refine ItQ.no ?_ setP_off; simp [msgP, q1, k1]; done)
                | (refine ItQ.no ?_ setP_off; simp [msgP, q1, k1, q2]; done)
                | (refine ItQ.no ?_ setP_off; simp [msgP, q1, k1, q2, k2]; done)
                | (refine ItQ.no ?_ setP_off; simp [msgP, q1, k1, q2, k2, w1]; done)
                | (refine ItQ.no ?_ setP_off; simp [msgP, q1, k1, q2, k2, w1, k3]; done)
                | (refine ItQ.no ?_ setP_off; simp [msgP, q1, k1, q2, k2, w1, k3, w2]; done)
                | (refine ItQ.no ?_ (fun x hx => by rw [hO x (by omega)]; exact setP_off x hx); simp [msgP, q1, k1, q2, k2, w1, k3, w2, w3]; done)
                | (rw [if_pos w3] at hM2
                   refine ItQ.yes (q := ((rowP tx tl 8 (q2p + 1) 0).2 + 1, V, mAdd M q1v q2v (rowP tx tl 8 (q2p + 1) 0).1)) ?_ (fun x hx => by rw [hO x (by omega)]; exact setP_off x hx) (by rw [hO 1 (by omega)]; exact setP_at) ?_ hM2
                   · simp [msgP, q1, k1, q2, k2, w1, k3, w2, w3]
                   · exact (hC.setP (p := (rowP tx tl 8 (q2p + 1) 0).2 + 1) (by omega)).off (hO _ (by omega)) (hO _ (by omega)) (hO _ (by omega)) (hO _ (by omega)))
            ·
              have k3 := of_decide_eq_true (bI_n0.mp h55)
              rw [if_pos k3]
              refine w_aload_n k33_58 rfl rfl ?_
              refine w_getr k33_59 (k := 1) (kc1 hn) (by decide) (r1_1 G) ?_
              refine w_iload_n k33_62 rfl ?_
              have i3 := tk_in k3 (by omega)
              have h99 := hV.1
              refine w_vI k33_63 mt29 (kc4 hn) ⟨rfl, by decide⟩ [_] rfl rfl rfl (sp_Vhas (va4 hn G) (hC.setP (by omega)) h99 _) ?_
              rw [has_dec (by omega) (by omega)]
              refine w_if_eq k33_66 (fun h66 => ?_) (fun h66 => ?_)
              ·
                have w2 := of_decide_eq_false (bI_0.mp h66)
                refine w_iconst k33_86 ?_
                refine w_iret k33_87 mt33 (.boolean) rfl (rfl) ?_
                first
                  | (refine ItQ.no ?_ setP_off; simp [msgP, q1]; done)
                  | (refine ItQ.no ?_ setP_off; simp [msgP, q1, k1]; done)
                  | (refine ItQ.no ?_ setP_off; simp [msgP, q1, k1, q2]; done)
                  | (refine ItQ.no ?_ setP_off; simp [msgP, q1, k1, q2, k2]; done)
                  | (refine ItQ.no ?_ setP_off; simp [msgP, q1, k1, q2, k2, w1]; done)
                  | (refine ItQ.no ?_ setP_off; simp [msgP, q1, k1, q2, k2, w1, k3]; done)
                  | (refine ItQ.no ?_ setP_off; simp [msgP, q1, k1, q2, k2, w1, k3, w2]; done)
                  | (refine ItQ.no ?_ (fun x hx => by rw [hO x (by omega)]; exact setP_off x hx); simp [msgP, q1, k1, q2, k2, w1, k3, w2, w3]; done)
                  | (rw [if_pos w3] at hM2
                     refine ItQ.yes (q := ((rowP tx tl 8 (q2p + 1) 0).2 + 1, V, mAdd M q1v q2v (rowP tx tl 8 (q2p + 1) 0).1)) ?_ (fun x hx => by rw [hO x (by omega)]; exact setP_off x hx) (by rw [hO 1 (by omega)]; exact setP_at) ?_ hM2
                     · simp [msgP, q1, k1, q2, k2, w1, k3, w2, w3]
                     · exact (hC.setP (p := (rowP tx tl 8 (q2p + 1) 0).2 + 1) (by omega)).off (hO _ (by omega)) (hO _ (by omega)) (hO _ (by omega)) (hO _ (by omega)))
              ·
                have w2 := of_decide_eq_true (bI_n0.mp h66)
                refine w_aload_n k33_69 rfl rfl ?_
                refine w_getr k33_70 (k := 2) (kc1 hn) (by decide) (r1_2 G) ?_
                refine w_iload_n k33_73 rfl ?_
                refine w_iload_n k33_74 rfl ?_
                refine w_iload_n k33_75 rfl ?_
                refine w_vA k33_76 mt32 (kc8 hn) ⟨rfl, by decide⟩ [_, _, _] rfl rfl rfl (sp_Madd2 (mo8 hn G) (hM.setP (by omega)) hM6 q1v q2v (rowP tx tl 8 (q2p + 1) 0).1) ?_
                rintro _ _ f2 _ ⟨rfl, rfl, rfl, hO, hM2⟩
                refine w_if_eq k33_79 (fun h79 => ?_) (fun h79 => ?_)
                ·
                  have w3 := of_decide_eq_false (bI_0.mp h79)
                  refine w_iconst k33_86 ?_
                  refine w_iret k33_87 mt33 (.boolean) rfl (rfl) ?_
                  first
                    | (refine ItQ.no ?_ setP_off; simp [msgP, q1]; done)
                    | (refine ItQ.no ?_ setP_off; simp [msgP, q1, k1]; done)
                    | (refine ItQ.no ?_ setP_off; simp [msgP, q1, k1, q2]; done)
                    | (refine ItQ.no ?_ setP_off; simp [msgP, q1, k1, q2, k2]; done)
                    | (refine ItQ.no ?_ setP_off; simp [msgP, q1, k1, q2, k2, w1]; done)
                    | (refine ItQ.no ?_ setP_off; simp [msgP, q1, k1, q2, k2, w1, k3]; done)
                    | (refine ItQ.no ?_ setP_off; simp [msgP, q1, k1, q2, k2, w1, k3, w2]; done)
                    | (refine ItQ.no ?_ (fun x hx => by rw [hO x (by omega)]; exact setP_off x hx); simp [msgP, q1, k1, q2, k2, w1, k3, w2, w3]; done)
                    | (rw [if_pos w3] at hM2
                       refine ItQ.yes (q := ((rowP tx tl 8 (q2p + 1) 0).2 + 1, V, mAdd M q1v q2v (rowP tx tl 8 (q2p + 1) 0).1)) ?_ (fun x hx => by rw [hO x (by omega)]; exact setP_off x hx) (by rw [hO 1 (by omega)]; exact setP_at) ?_ hM2
                       · simp [msgP, q1, k1, q2, k2, w1, k3, w2, w3]
                       · exact (hC.setP (p := (rowP tx tl 8 (q2p + 1) 0).2 + 1) (by omega)).off (hO _ (by omega)) (hO _ (by omega)) (hO _ (by omega)) (hO _ (by omega)))
                ·
                  have w3 := of_decide_eq_true (bI_n0.mp h79)
                  refine w_iconst k33_82 ?_
                  refine w_goto k33_83 ?_
                  refine w_iret k33_87 mt33 (.boolean) rfl (rfl) ?_
                  first
                    | (refine ItQ.no ?_ setP_off; simp [msgP, q1]; done)
                    | (refine ItQ.no ?_ setP_off; simp [msgP, q1, k1]; done)
                    | (refine ItQ.no ?_ setP_off; simp [msgP, q1, k1, q2]; done)
                    | (refine ItQ.no ?_ setP_off; simp [msgP, q1, k1, q2, k2]; done)
                    | (refine ItQ.no ?_ setP_off; simp [msgP, q1, k1, q2, k2, w1]; done)
                    | (refine ItQ.no ?_ setP_off; simp [msgP, q1, k1, q2, k2, w1, k3]; done)
                    | (refine ItQ.no ?_ setP_off; simp [msgP, q1, k1, q2, k2, w1, k3, w2]; done)
                    | (refine ItQ.no ?_ (fun x hx => by rw [hO x (by omega)]; exact setP_off x hx); simp [msgP, q1, k1, q2, k2, w1, k3, w2, w3]; done)
                    | (rw [if_pos w3] at hM2
                       refine ItQ.yes (q := ((rowP tx tl 8 (q2p + 1) 0).2 + 1, V, mAdd M q1v q2v (rowP tx tl 8 (q2p + 1) 0).1)) ?_ (fun x hx => by rw [hO x (by omega)]; exact setP_off x hx) (by rw [hO 1 (by omega)]; exact setP_at) ?_ hM2
                       · simp [msgP, q1, k1, q2, k2, w1, k3, w2, w3]
                       · exact (hC.setP (p := (rowP tx tl 8 (q2p + 1) 0).2 + 1) (by omega)).off (hO _ (by omega)) (hO _ (by omega)) (hO _ (by omega)) (hO _ (by omega)))
        ·
          have k2 := of_decide_eq_false (bI_0.mp h35)
          rw [if_neg k2]
          refine w_iconst k33_38 ?_
          refine w_iret k33_39 mt33 (.boolean) rfl (rfl) ?_
          first
            | (refine ItQ.no ?_ setP_off; simp [msgP, q1]; done)
            | (refine ItQ.no ?_ setP_off; simp [msgP, q1, k1]; done)
            | (refine ItQ.no ?_ setP_off; simp [msgP, q1, k1, q2]; done)
            | (refine ItQ.no ?_ setP_off; simp [msgP, q1, k1, q2, k2]; done)
            | (refine ItQ.no ?_ setP_off; simp [msgP, q1, k1, q2, k2, w1]; done)
            | (refine ItQ.no ?_ setP_off; simp [msgP, q1, k1, q2, k2, w1, k3]; done)
            | (refine ItQ.no ?_ setP_off; simp [msgP, q1, k1, q2, k2, w1, k3, w2]; done)
            | (refine ItQ.no ?_ (fun x hx => by rw [hO x (by omega)]; exact setP_off x hx); simp [msgP, q1, k1, q2, k2, w1, k3, w2, w3]; done)
            | (rw [if_pos w3] at hM2
               refine ItQ.yes (q := ((rowP tx tl 8 (q2p + 1) 0).2 + 1, V, mAdd M q1v q2v (rowP tx tl 8 (q2p + 1) 0).1)) ?_ (fun x hx => by rw [hO x (by omega)]; exact setP_off x hx) (by rw [hO 1 (by omega)]; exact setP_at) ?_ hM2
               · simp [msgP, q1, k1, q2, k2, w1, k3, w2, w3]
               · exact (hC.setP (p := (rowP tx tl 8 (q2p + 1) 0).2 + 1) (by omega)).off (hO _ (by omega)) (hO _ (by omega)) (hO _ (by omega)) (hO _ (by omega)))
    ·
      have k1 := of_decide_eq_false (bI_0.mp h15)
      rw [if_neg k1]
      refine w_iconst k33_18 ?_
      refine w_iret k33_19 mt33 (.boolean) rfl (rfl) ?_
      first
        | (refine ItQ.no ?_ setP_off; simp [msgP, q1]; done)
        | (refine ItQ.no ?_ setP_off; simp [msgP, q1, k1]; done)
        | (refine ItQ.no ?_ setP_off; simp [msgP, q1, k1, q2]; done)
        | (refine ItQ.no ?_ setP_off; simp [msgP, q1, k1, q2, k2]; done)
        | (refine ItQ.no ?_ setP_off; simp [msgP, q1, k1, q2, k2, w1]; done)
        | (refine ItQ.no ?_ setP_off; simp [msgP, q1, k1, q2, k2, w1, k3]; done)
        | (refine ItQ.no ?_ setP_off; simp [msgP, q1, k1, q2, k2, w1, k3, w2]; done)
        | (refine ItQ.no ?_ (fun x hx => by rw [hO x (by omega)]; exact setP_off x hx); simp [msgP, q1, k1, q2, k2, w1, k3, w2, w3]; done)
        | (rw [if_pos w3] at hM2
           refine ItQ.yes (q := ((rowP tx tl 8 (q2p + 1) 0).2 + 1, V, mAdd M q1v q2v (rowP tx tl 8 (q2p + 1) 0).1)) ?_ (fun x hx => by rw [hO x (by omega)]; exact setP_off x hx) (by rw [hO 1 (by omega)]; exact setP_at) ?_ hM2
           · simp [msgP, q1, k1, q2, k2, w1, k3, w2, w3]
           · exact (hC.setP (p := (rowP tx tl 8 (q2p + 1) 0).2 + 1) (by omega)).off (hO _ (by omega)) (hO _ (by omega)) (hO _ (by omega)) (hO _ (by omega)))
set_option maxHeartbeats 1000000 in
theorem sp_readIndoors {S : Scr} {d : Nat} {f : FF} {g : GG} {n tl p : Nat} {tx : Nat → Nat} (hn : 137 ≤ n) (G : GOk g) (hL : CLe f tx tl) (hT : TxOk tx tl) (hp : p ≤ 200) {V : Va} {M : Nat → Nat → Nat} (hC : CVa f 4 V) (hV : VWf V) (hM : CMo f 8 M) (hM6 : M 0 2 ≤ 6) (hMI : M 0 1 < 512) : Wp S (d + 3) 37 0 [some (.ref 1), none] [] n (setP f p) g (ItQ n f g ((indP tx tl p V M).map fun q => (q.1, V, q.2))) := by
  refine w_aload_n k37_0 rfl rfl ?_
  have h200 := hL.2.1
  refine w_vI k37_1 mt24 (kc1 hn) ⟨rfl, by decide⟩ [] rfl rfl rfl (sp_number hn G hL hT (by omega)) ?_
  refine w_istore_n k37_4 (ls' := [_, _]) rfl ?_
  refine w_iload_n k37_5 rfl ?_
  refine w_if_lt k37_6 (fun h6 => ?_) (fun h6 => ?_)
  ·
    have q1 := nv_T h200 hT h6
    refine w_iconst k37_29 ?_
    refine w_iret k37_30 mt37 (.boolean) rfl (rfl) ?_
    first
      | (refine ItQ.no ?_ setP_off; simp [indP, q1]; done)
      | (refine ItQ.no ?_ setP_off; simp [indP, q1, k1]; done)
      | (refine ItQ.no ?_ setP_off; simp [indP, q1, k1, w2]; done)
      | (refine ItQ.yes (q := (q1p + 1, V, M)) ?_ setP_off setP_at (hC.setP (by omega)) (hM.setP (by omega))
         simp [indP, q1, k1, w2, w3]; done)
      | (refine ItQ.yes (q := (q1p + 1, V, mset0 M 1 (M 0 1 ^^^ 2 ^ q1v))) ?_ (fun x hx => by rw [hO x (by omega)]; exact setP_off x hx) (by rw [hO 1 (by omega)]; exact setP_at) ?_ hM2
         · simp [indP, q1, k1, w2, w3]
         · exact (hC.setP (p := q1p + 1) (by omega)).off (hO _ (by omega)) (hO _ (by omega)) (hO _ (by omega)) (hO _ (by omega)))
  ·
    obtain ⟨q1v, q1p, q1, q1e, q1n, q1l, q1b, q1c⟩ := nv_F h200 hT h6
    rw [q1e, q1n]
    refine w_aload_n k37_9 rfl rfl ?_
    refine w_bipush k37_10 ?_
    refine w_vI k37_12 mt21 (kc1 hn) ⟨rfl, by decide⟩ [_] rfl rfl rfl (sp_takes hn G hL hT (by omega) (c := 59) (by omega)) ?_
    refine w_if_eq k37_15 (fun h15 => ?_) (fun h15 => ?_)
    ·
      have k1 := of_decide_eq_false (bI_0.mp h15)
      rw [if_neg k1]
      refine w_iconst k37_29 ?_
      refine w_iret k37_30 mt37 (.boolean) rfl (rfl) ?_
      first
        | (refine ItQ.no ?_ setP_off; simp [indP, q1]; done)
        | (refine ItQ.no ?_ setP_off; simp [indP, q1, k1]; done)
        | (refine ItQ.no ?_ setP_off; simp [indP, q1, k1, w2]; done)
        | (refine ItQ.yes (q := (q1p + 1, V, M)) ?_ setP_off setP_at (hC.setP (by omega)) (hM.setP (by omega))
           simp [indP, q1, k1, w2, w3]; done)
        | (refine ItQ.yes (q := (q1p + 1, V, mset0 M 1 (M 0 1 ^^^ 2 ^ q1v))) ?_ (fun x hx => by rw [hO x (by omega)]; exact setP_off x hx) (by rw [hO 1 (by omega)]; exact setP_at) ?_ hM2
           · simp [indP, q1, k1, w2, w3]
           · exact (hC.setP (p := q1p + 1) (by omega)).off (hO _ (by omega)) (hO _ (by omega)) (hO _ (by omega)) (hO _ (by omega)))
    ·
      have k1 := of_decide_eq_true (bI_n0.mp h15)
      rw [if_pos k1]
      refine w_aload_n k37_18 rfl rfl ?_
      refine w_getr k37_19 (k := 1) (kc1 hn) (by decide) (r1_1 G) ?_
      refine w_iload_n k37_22 rfl ?_
      have i1 := tk_in k1 (by omega)
      have h99 := hV.1
      refine w_vI k37_23 mt29 (kc4 hn) ⟨rfl, by decide⟩ [_] rfl rfl rfl (sp_Vhas (va4 hn G) (hC.setP (by omega)) h99 _) ?_
      rw [has_dec (by omega) (by omega)]
      refine w_if_ne k37_26 (fun h26 => ?_) (fun h26 => ?_)
      ·
        have w2 := of_decide_eq_true (bI_n0.mp h26)
        refine w_aload_n k37_31 rfl rfl ?_
        refine w_getr k37_32 (k := 2) (kc1 hn) (by decide) (r1_2 G) ?_
        refine w_iload_n k37_35 rfl ?_
        refine w_vI k37_36 mt35 (kc8 hn) ⟨rfl, by decide⟩ [_] rfl rfl rfl (sp_isIndoors (mo8 hn G) (hM.setP (by omega)) hMI (by omega)) ?_
        refine w_if_ne k37_39 (fun h39 => ?_) (fun h39 => ?_)
        ·
          have w3 := bI_n0.mp h39
          refine w_iconst k37_50 ?_
          refine w_iret k37_51 mt37 (.boolean) rfl (rfl) ?_
          first
            | (refine ItQ.no ?_ setP_off; simp [indP, q1]; done)
            | (refine ItQ.no ?_ setP_off; simp [indP, q1, k1]; done)
            | (refine ItQ.no ?_ setP_off; simp [indP, q1, k1, w2]; done)
            | (refine ItQ.yes (q := (q1p + 1, V, M)) ?_ setP_off setP_at (hC.setP (by omega)) (hM.setP (by omega))
               simp [indP, q1, k1, w2, w3]; done)
            | (refine ItQ.yes (q := (q1p + 1, V, mset0 M 1 (M 0 1 ^^^ 2 ^ q1v))) ?_ (fun x hx => by rw [hO x (by omega)]; exact setP_off x hx) (by rw [hO 1 (by omega)]; exact setP_at) ?_ hM2
               · simp [indP, q1, k1, w2, w3]
               · exact (hC.setP (p := q1p + 1) (by omega)).off (hO _ (by omega)) (hO _ (by omega)) (hO _ (by omega)) (hO _ (by omega)))
        ·
          have w3 := bI_0.mp h39
          refine w_aload_n k37_42 rfl rfl ?_
          refine w_getr k37_43 (k := 2) (kc1 hn) (by decide) (r1_2 G) ?_
          refine w_iload_n k37_46 rfl ?_
          refine w_vA k37_47 mt36 (kc8 hn) ⟨rfl, by decide⟩ [_] rfl rfl rfl (sp_goIn (mo8 hn G) (hM.setP (by omega)) hMI (by omega)) ?_
          rintro _ _ f2 _ ⟨rfl, rfl, rfl, hO, hM2⟩
          refine w_iconst k37_50 ?_
          refine w_iret k37_51 mt37 (.boolean) rfl (rfl) ?_
          first
            | (refine ItQ.no ?_ setP_off; simp [indP, q1]; done)
            | (refine ItQ.no ?_ setP_off; simp [indP, q1, k1]; done)
            | (refine ItQ.no ?_ setP_off; simp [indP, q1, k1, w2]; done)
            | (refine ItQ.yes (q := (q1p + 1, V, M)) ?_ setP_off setP_at (hC.setP (by omega)) (hM.setP (by omega))
               simp [indP, q1, k1, w2, w3]; done)
            | (refine ItQ.yes (q := (q1p + 1, V, mset0 M 1 (M 0 1 ^^^ 2 ^ q1v))) ?_ (fun x hx => by rw [hO x (by omega)]; exact setP_off x hx) (by rw [hO 1 (by omega)]; exact setP_at) ?_ hM2
               · simp [indP, q1, k1, w2, w3]
               · exact (hC.setP (p := q1p + 1) (by omega)).off (hO _ (by omega)) (hO _ (by omega)) (hO _ (by omega)) (hO _ (by omega)))
      ·
        have w2 := of_decide_eq_false (bI_0.mp h26)
        refine w_iconst k37_29 ?_
        refine w_iret k37_30 mt37 (.boolean) rfl (rfl) ?_
        first
          | (refine ItQ.no ?_ setP_off; simp [indP, q1]; done)
          | (refine ItQ.no ?_ setP_off; simp [indP, q1, k1]; done)
          | (refine ItQ.no ?_ setP_off; simp [indP, q1, k1, w2]; done)
          | (refine ItQ.yes (q := (q1p + 1, V, M)) ?_ setP_off setP_at (hC.setP (by omega)) (hM.setP (by omega))
             simp [indP, q1, k1, w2, w3]; done)
          | (refine ItQ.yes (q := (q1p + 1, V, mset0 M 1 (M 0 1 ^^^ 2 ^ q1v))) ?_ (fun x hx => by rw [hO x (by omega)]; exact setP_off x hx) (by rw [hO 1 (by omega)]; exact setP_at) ?_ hM2
             · simp [indP, q1, k1, w2, w3]
             · exact (hC.setP (p := q1p + 1) (by omega)).off (hO _ (by omega)) (hO _ (by omega)) (hO _ (by omega)) (hO _ (by omega)))
def itemP (tx : Nat → Nat) (tl p : Nat) (V : Va) (M : Nat → Nat → Nat) : Option (Nat × Va × (Nat → Nat → Nat)) :=
  if ch tx tl p = 99 then (chairP tx tl (p + 1) V).map fun q => (q.1, q.2, M) else if ch tx tl p = 109 then (msgP tx tl (p + 1) V M).map fun q => (q.1, V, q.2) else if ch tx tl p = 105 then (indP tx tl (p + 1) V M).map fun q => (q.1, V, q.2) else none
theorem ItQ.b01 {n n' : Nat} {f f' : FF} {g g' : GG} {r : Option (Nat × Va × (Nat → Nat → Nat))} {v : Option Value} (h : ItQ n f g r v n' f' g') : v = some (.int (bI r.isSome)) := by
  obtain ⟨-, -, -, h⟩ := h
  cases r with
  | none => exact h
  | some q => exact h.1
set_option maxHeartbeats 1000000 in
theorem sp_readItem {S : Scr} {d : Nat} {f : FF} {g : GG} {n tl p : Nat} {tx : Nat → Nat} (hn : 137 ≤ n) (G : GOk g) (hL : CLe f tx tl) (hT : TxOk tx tl) (hp : p ≤ 200) {V : Va} {M : Nat → Nat → Nat} (hC : CVa f 4 V) (hV : VWf V) (hM : CMo f 8 M) (hM6 : M 0 2 ≤ 6) (hMI : M 0 1 < 512) : Wp S (d + 4) 38 0 [some (.ref 1)] [] n (setP f p) g (ItQ n f g (itemP tx tl p V M)) := by
  refine w_aload_n k38_0 rfl rfl ?_
  refine w_bipush k38_1 ?_
  have h200 := hL.2.1
  refine w_vI k38_3 mt21 (kc1 hn) ⟨rfl, by decide⟩ [_] rfl rfl rfl (sp_takes hn G hL hT (by omega) (c := 99) (by omega)) ?_
  refine w_if_eq k38_6 (fun h6 => ?_) (fun h6 => ?_)
  ·
    have k1 := of_decide_eq_false (bI_0.mp h6)
    rw [if_neg k1]
    refine w_aload_n k38_14 rfl rfl ?_
    refine w_bipush k38_15 ?_
    refine w_vI k38_17 mt21 (kc1 hn) ⟨rfl, by decide⟩ [_] rfl rfl rfl (sp_takes hn G hL hT (by omega) (c := 109) (by omega)) ?_
    refine w_if_eq k38_20 (fun h20 => ?_) (fun h20 => ?_)
    ·
      have k2 := of_decide_eq_false (bI_0.mp h20)
      rw [if_neg k2]
      refine w_aload_n k38_28 rfl rfl ?_
      refine w_bipush k38_29 ?_
      refine w_vI k38_31 mt21 (kc1 hn) ⟨rfl, by decide⟩ [_] rfl rfl rfl (sp_takes hn G hL hT (by omega) (c := 105) (by omega)) ?_
      refine w_if_eq k38_34 (fun h34 => ?_) (fun h34 => ?_)
      ·
        have k3 := of_decide_eq_false (bI_0.mp h34)
        rw [if_neg k3]
        refine w_iconst k38_42 ?_
        refine w_iret k38_43 mt38 (.boolean) rfl (rfl) ?_
        exact ItQ.no (by unfold itemP; rw [if_neg k1, if_neg k2, if_neg k3]) setP_off
      ·
        have k3 := of_decide_eq_true (bI_n0.mp h34)
        rw [if_pos k3]
        refine w_aload_n k38_37 rfl rfl ?_
        have i1 := tk_in k3 (by omega)
        refine w_vA k38_38 mt37 (kc1 hn) ⟨rfl, by decide⟩ [] rfl rfl rfl (sp_readIndoors hn G hL hT (p := p + 1) (by omega) hC hV hM hM6 hMI) ?_
        rintro v1 n1 f1 g1 hQ
        obtain rfl := hQ.b01
        refine w_iret k38_41 mt38 (.boolean) rfl (nar_b _) ?_
        rw [show itemP tx tl p V M = (indP tx tl (p + 1) V M).map fun q => (q.1, V, q.2) from by unfold itemP; rw [if_neg k1, if_neg k2, if_pos k3]]
        exact hQ
    ·
      have k2 := of_decide_eq_true (bI_n0.mp h20)
      rw [if_pos k2]
      refine w_aload_n k38_23 rfl rfl ?_
      have i1 := tk_in k2 (by omega)
      refine w_vA k38_24 mt33 (kc1 hn) ⟨rfl, by decide⟩ [] rfl rfl rfl (sp_readMessage hn G hL hT (p := p + 1) (by omega) hC hV hM hM6 hMI) ?_
      rintro v1 n1 f1 g1 hQ
      obtain rfl := hQ.b01
      refine w_iret k38_27 mt38 (.boolean) rfl (nar_b _) ?_
      rw [show itemP tx tl p V M = (msgP tx tl (p + 1) V M).map fun q => (q.1, V, q.2) from by unfold itemP; rw [if_neg k1, if_pos k2]]
      exact hQ
  ·
    have k1 := of_decide_eq_true (bI_n0.mp h6)
    rw [if_pos k1]
    refine w_aload_n k38_9 rfl rfl ?_
    have i1 := tk_in k1 (by omega)
    refine w_vA k38_10 mt26 (kc1 hn) ⟨rfl, by decide⟩ [] rfl rfl rfl (sp_readChair hn G hL hT (p := p + 1) (by omega) hC hV hM hM6 hMI) ?_
    rintro v1 n1 f1 g1 hQ
    obtain rfl := hQ.b01
    refine w_iret k38_13 mt38 (.boolean) rfl (nar_b _) ?_
    rw [show itemP tx tl p V M = (chairP tx tl (p + 1) V).map fun q => (q.1, q.2, M) from if_pos k1]
    exact hQ
