/-! SPECS, 36: the model, slips -/
/-- a row down to the sea, with slips by the bits of s -/
def slR (V : Va) (s : Nat) : Nat → Nat → Nat → Nat → Nat
  | 0, _, r, _ => r
  | t + 1, c, r, k => if V.2.2.2 c = c then kn (V.2.1 c) (if s.testBit k = true then wof r else r) else slR V s t (V.2.2.2 c) (kn (V.2.1 c) (if s.testBit k = true then wof r else r)) (k + 1)
def pdW (x s : Nat) : Nat → Nat → Nat → Nat
  | 0, _, a => a
  | t + 1, k, a => pdW x s t (k + 1) (a * (if s.testBit k = true then x else 10 - x))
abbrev lnN (V : Va) (c : Nat) : Nat := popc (wyW V 9 c 0) 9
def slF (V : Va) (x due c r s : Nat) : Nat := if slR V s 9 c r 0 = due then pdW x s (lnN V c) 0 1 else 0
def smF (F : Nat → Nat) : Nat → Nat
  | 0 => 0
  | N + 1 => smF F N + F N
theorem smF_add (F G : Nat → Nat) : ∀ N, smF (fun s => F s + G s) N = smF F N + smF G N := by
  intro N
  induction N with
  | zero => rfl
  | succ N ih => simp only [smF, ih]; omega
theorem smF_mul (k : Nat) (F : Nat → Nat) : ∀ N, smF (fun s => k * F s) N = k * smF F N := by
  intro N
  induction N with
  | zero => rfl
  | succ N ih => simp only [smF, ih, Nat.mul_add]
theorem smF_two (F : Nat → Nat) : ∀ N, smF F (2 * N) = smF (fun s => F (2 * s) + F (2 * s + 1)) N := by
  intro N
  induction N with
  | zero => rfl
  | succ N ih =>
    rw [show 2 * (N + 1) = 2 * N + 1 + 1 by omega]
    simp only [smF, ih]
    omega
theorem smF_eq {F G : Nat → Nat} (h : ∀ s, F s = G s) (N : Nat) : smF F N = smF G N := by rw [show F = G from funext h]
theorem slR_sh {V : Va} {s : Nat} : ∀ t c r k, slR V s t c r (k + 1) = slR V (s / 2) t c r k := by
  intro t
  induction t with
  | zero => intro c r k; rfl
  | succ t ih =>
    intro c r k
    simp only [slR]
    rw [Nat.testBit_succ, ih]
theorem pdW_sh {x s : Nat} : ∀ t k a, pdW x s t (k + 1) a = pdW x (s / 2) t k a := by
  intro t
  induction t with
  | zero => intro k a; rfl
  | succ t ih =>
    intro k a
    simp only [pdW]
    rw [Nat.testBit_succ, ih]
theorem pdW_a {x s : Nat} : ∀ t k a, pdW x s t k a = a * pdW x s t k 1 := by
  intro t
  induction t with
  | zero => intro k a; simp [pdW]
  | succ t ih =>
    intro k a
    simp only [pdW]
    rw [ih (k + 1) (a * _), ih (k + 1) (1 * _), Nat.one_mul, Nat.mul_assoc]
theorem tb0_e (s : Nat) : (2 * s).testBit 0 = false := by rw [Nat.testBit_zero]; simp
theorem tb0_o (s : Nat) : (2 * s + 1).testBit 0 = true := by rw [Nat.testBit_zero]; simp
theorem slp_TT {V : Va} (hV : VWf V) {x due : Nat} : ∀ t c r, c < t → c < V.1 → smF (fun s => if slR V s t c r 0 = due then pdW x s (lnN V c) 0 1 else 0) (2 ^ lnN V c) = TT V x due t c r := by
  have h9 := hV.1
  intro t
  induction t with
  | zero => intro c r h; omega
  | succ t ih =>
    intro c r h hc
    have hle := (hV.2 c hc).2.2.2
    simp only [TT, slR]
    by_cases zs : V.2.2.2 c = c
    · rw [if_pos zs, show lnN V c = 1 from ln_sea (by omega) zs]
      simp only [if_pos zs, smF, pdW, Nat.pow_one, Nat.zero_add, Nat.one_mul, Nat.zero_testBit, show Nat.testBit 1 0 = true from rfl]
      simp
    · rw [if_neg zs, show lnN V c = 1 + lnN V (V.2.2.2 c) from ln_on hV hc zs, Nat.add_comm 1, Nat.pow_succ, Nat.mul_comm _ 2, smF_two]
      have hA := ih (V.2.2.2 c) (kn (V.2.1 c) r) (by omega) (hV.on hc)
      have hB := ih (V.2.2.2 c) (kn (V.2.1 c) (wof r)) (by omega) (hV.on hc)
      rw [← hA, ← hB, ← smF_mul, ← smF_mul, ← smF_add]
      refine smF_eq (fun s => ?_) _
      simp only [if_neg zs, pdW, tb0_e, tb0_o, slR_sh, pdW_sh, Nat.one_mul]
      rw [show 2 * s / 2 = s by omega, show (2 * s + 1) / 2 = s by omega]
      simp only [if_true, Bool.false_eq_true, if_false]
      rw [pdW_a _ 0 (10 - x), pdW_a _ 0 x]
      congr 1
      · split
        · rfl
        · rfl
      · split
        · rfl
        · rfl
def smW (F : Nat → Nat) : Nat → Nat → Nat → Nat
  | 0, _, a => a
  | t + 1, s, a => smW F t (s + 1) (a + F s)
theorem smW_F (F : Nat → Nat) : ∀ t s, smW F t s (smF F s) = smF F (s + t) := by
  intro t
  induction t with
  | zero => intro s; rfl
  | succ t ih =>
    intro s
    show smW F t (s + 1) (smF F s + F s) = _
    rw [show smF F s + F s = smF F (s + 1) from rfl, ih, show s + 1 + t = s + (t + 1) by omega]
set_option maxHeartbeats 1000000 in
theorem ml_slx {S : Scr} {d : Nat} {f : FF} {g : GG} {q1 q2 : Int32} {s : Nat} {r a k : Int32} : Wp S (d + 2) 175 12 [some (.ref 137), some (.int q1), some (.int q2), some (.int (nI s)), some (.int (r)), some (.int (a)), some (.int 0), some (.int (k))] [] 153 f g (Is (some (.int (r))) 153 f g) := by
  refine w_iload k175_12 rfl ?_
  refine w_if_eq k175_14 (fun h14 => ?_) (fun h14 => absurd (rfl) h14)
  refine w_iload k175_82 rfl ?_
  refine w_iret k175_84 mt175 (.int) rfl (rfl) ?_
  exact ⟨rfl, rfl, rfl, rfl⟩
set_option maxHeartbeats 1000000 in
theorem ml_slipped {S : Scr} {d : Nat} {f : FF} {g : GG} (G : GOm g) {V : Va} (hVa : MVa f V) (hV : VWf V) {q1 q2 : Int32} {s : Nat} (hs : s < 2 ^ 31) : ∀ (t c r k : Nat), c < t → c < V.1 → RowOk r → k + c ≤ 9 → Wp S (d + 2) 175 12 [some (.ref 137), some (.int q1), some (.int q2), some (.int (nI s)), some (.int (nI r)), some (.int (nI c)), some (.int 1), some (.int (nI k))] [] 153 f g (Is (some (.int (nI (slR V s t c r k)))) 153 f g) := by
  have h99 := hV.1
  intro t
  induction t with
  | zero =>
    intro c r k h
    exact absurd h (Nat.not_lt_zero c)
  | succ t ih =>
    intro c r k h0 hc hr hk
    have ho := hV.on hc
    have hle := (hV.2 c hc).2.2.2
    have hk4 := (hV.2 c hc).1
    refine w_iload k175_12 rfl ?_
    refine w_if_eq k175_14 (fun h14 => absurd h14 (by decide)) (fun h14 => ?_)
    refine w_aload_n k175_17 rfl rfl ?_
    refine w_getr k175_18 (k := 13) kd137 (by decide) (r137_13 G) ?_
    refine w_iload k175_21 rfl ?_
    refine w_iald k175_23 kd145 (nI_pos (by omega)) (nI_clamp (by omega)) (by omega) ?_
    rw [(hVa.2 c hc).1]
    refine w_iload_n k175_24 rfl ?_
    refine w_iload k175_25 rfl ?_
    refine w_sI k175_27 (by decide) mt108 [_, _] rfl rfl rfl (mp_has hs (by omega)) ?_
    refine w_if_eq k175_30 (fun h30 => ?_) (fun h30 => ?_)
    ·
      have zb : ¬ s.testBit k = true := by rw [bI_0.mp h30]; decide
      have er : r = (if s.testBit k = true then wof r else r) := (if_neg zb).symm
      refine w_iload k175_41 rfl ?_
      refine w_sI k175_43 (by decide) mt97 [_, _] rfl rfl rfl (mp_knitBy hk4 (by first | exact (wof_ok hr).1 | exact hr)) ?_
      refine w_istore k175_46 (ls' := [_, _, _, _, _, _, _, _]) rfl ?_
      refine w_aload_n k175_48 rfl rfl ?_
      refine w_getr k175_49 (k := 15) kd137 (by decide) (r137_15 G) ?_
      refine w_iload k175_52 rfl ?_
      refine w_iald k175_54 kd147 (nI_pos (by omega)) (nI_clamp (by omega)) (by omega) ?_
      rw [(hVa.2 c hc).2.2]
      refine w_iload k175_55 rfl ?_
      refine w_icmp_eq k175_57 (fun h57 => ?_) (fun h57 => ?_)
      ·
        have zs : V.2.2.2 c = c := (nI_eq (by omega) (by omega)).mp h57
        refine w_iconst k175_64 ?_
        refine w_istore k175_65 (ls' := [_, _, _, _, _, _, _, _]) rfl ?_
        refine w_aload_n k175_67 rfl rfl ?_
        refine w_getr k175_68 (k := 15) kd137 (by decide) (r137_15 G) ?_
        refine w_iload k175_71 rfl ?_
        refine w_iald k175_73 kd147 (nI_pos (by omega)) (nI_clamp (by omega)) (by omega) ?_
        rw [(hVa.2 c hc).2.2]
        refine w_istore k175_74 (ls' := [_, _, _, _, _, _, _, _]) rfl ?_
        refine w_iinc k175_76 rfl (ls' := [_, _, _, _, _, _, _, _]) rfl ?_
        refine w_goto k175_79 ?_
        rw [nI_1]
        first
          | (rw [show slR V s (t + 1) c r k = kn (V.2.1 c) (if s.testBit k = true then wof r else r) from if_pos zs, ← er]
             exact ml_slx)
          | (rw [show slR V s (t + 1) c r k = slR V s t (V.2.2.2 c) (kn (V.2.1 c) (if s.testBit k = true then wof r else r)) (k + 1) from if_neg zs, ← er]
             exact ih _ _ (k + 1) (by omega) ho (kn_ok (by first | exact (wof_ok hr).1 | exact hr)) (by omega))
      ·
        have zs : ¬ V.2.2.2 c = c := fun hh => h57 (by rw [hh])
        refine w_iconst k175_60 ?_
        refine w_goto k175_61 ?_
        refine w_istore k175_65 (ls' := [_, _, _, _, _, _, _, _]) rfl ?_
        refine w_aload_n k175_67 rfl rfl ?_
        refine w_getr k175_68 (k := 15) kd137 (by decide) (r137_15 G) ?_
        refine w_iload k175_71 rfl ?_
        refine w_iald k175_73 kd147 (nI_pos (by omega)) (nI_clamp (by omega)) (by omega) ?_
        rw [(hVa.2 c hc).2.2]
        refine w_istore k175_74 (ls' := [_, _, _, _, _, _, _, _]) rfl ?_
        refine w_iinc k175_76 rfl (ls' := [_, _, _, _, _, _, _, _]) rfl ?_
        refine w_goto k175_79 ?_
        rw [nI_1]
        first
          | (rw [show slR V s (t + 1) c r k = kn (V.2.1 c) (if s.testBit k = true then wof r else r) from if_pos zs, ← er]
             exact ml_slx)
          | (rw [show slR V s (t + 1) c r k = slR V s t (V.2.2.2 c) (kn (V.2.1 c) (if s.testBit k = true then wof r else r)) (k + 1) from if_neg zs, ← er]
             exact ih _ _ (k + 1) (by omega) ho (kn_ok (by first | exact (wof_ok hr).1 | exact hr)) (by omega))
    ·
      have zb := bI_n0.mp h30
      have er : wof r = (if s.testBit k = true then wof r else r) := (if_pos zb).symm
      refine w_iload k175_33 rfl ?_
      refine w_sI k175_35 (by decide) mt174 [_] rfl rfl rfl (mp_withoutFirst hr) ?_
      refine w_goto k175_38 ?_
      refine w_sI k175_43 (by decide) mt97 [_, _] rfl rfl rfl (mp_knitBy hk4 (by first | exact (wof_ok hr).1 | exact hr)) ?_
      refine w_istore k175_46 (ls' := [_, _, _, _, _, _, _, _]) rfl ?_
      refine w_aload_n k175_48 rfl rfl ?_
      refine w_getr k175_49 (k := 15) kd137 (by decide) (r137_15 G) ?_
      refine w_iload k175_52 rfl ?_
      refine w_iald k175_54 kd147 (nI_pos (by omega)) (nI_clamp (by omega)) (by omega) ?_
      rw [(hVa.2 c hc).2.2]
      refine w_iload k175_55 rfl ?_
      refine w_icmp_eq k175_57 (fun h57 => ?_) (fun h57 => ?_)
      ·
        have zs : V.2.2.2 c = c := (nI_eq (by omega) (by omega)).mp h57
        refine w_iconst k175_64 ?_
        refine w_istore k175_65 (ls' := [_, _, _, _, _, _, _, _]) rfl ?_
        refine w_aload_n k175_67 rfl rfl ?_
        refine w_getr k175_68 (k := 15) kd137 (by decide) (r137_15 G) ?_
        refine w_iload k175_71 rfl ?_
        refine w_iald k175_73 kd147 (nI_pos (by omega)) (nI_clamp (by omega)) (by omega) ?_
        rw [(hVa.2 c hc).2.2]
        refine w_istore k175_74 (ls' := [_, _, _, _, _, _, _, _]) rfl ?_
        refine w_iinc k175_76 rfl (ls' := [_, _, _, _, _, _, _, _]) rfl ?_
        refine w_goto k175_79 ?_
        rw [nI_1]
        first
          | (rw [show slR V s (t + 1) c r k = kn (V.2.1 c) (if s.testBit k = true then wof r else r) from if_pos zs, ← er]
             exact ml_slx)
          | (rw [show slR V s (t + 1) c r k = slR V s t (V.2.2.2 c) (kn (V.2.1 c) (if s.testBit k = true then wof r else r)) (k + 1) from if_neg zs, ← er]
             exact ih _ _ (k + 1) (by omega) ho (kn_ok (by first | exact (wof_ok hr).1 | exact hr)) (by omega))
      ·
        have zs : ¬ V.2.2.2 c = c := fun hh => h57 (by rw [hh])
        refine w_iconst k175_60 ?_
        refine w_goto k175_61 ?_
        refine w_istore k175_65 (ls' := [_, _, _, _, _, _, _, _]) rfl ?_
        refine w_aload_n k175_67 rfl rfl ?_
        refine w_getr k175_68 (k := 15) kd137 (by decide) (r137_15 G) ?_
        refine w_iload k175_71 rfl ?_
        refine w_iald k175_73 kd147 (nI_pos (by omega)) (nI_clamp (by omega)) (by omega) ?_
        rw [(hVa.2 c hc).2.2]
        refine w_istore k175_74 (ls' := [_, _, _, _, _, _, _, _]) rfl ?_
        refine w_iinc k175_76 rfl (ls' := [_, _, _, _, _, _, _, _]) rfl ?_
        refine w_goto k175_79 ?_
        rw [nI_1]
        first
          | (rw [show slR V s (t + 1) c r k = kn (V.2.1 c) (if s.testBit k = true then wof r else r) from if_pos zs, ← er]
             exact ml_slx)
          | (rw [show slR V s (t + 1) c r k = slR V s t (V.2.2.2 c) (kn (V.2.1 c) (if s.testBit k = true then wof r else r)) (k + 1) from if_neg zs, ← er]
             exact ih _ _ (k + 1) (by omega) ho (kn_ok (by first | exact (wof_ok hr).1 | exact hr)) (by omega))
set_option maxHeartbeats 1000000 in
theorem mp_slipped {S : Scr} {d : Nat} {f : FF} {g : GG} (G : GOm g) {V : Va} (hVa : MVa f V) (hV : VWf V) {c r s : Nat} (hc : c < V.1) (hr : RowOk r) (hs : s < 2 ^ 31) : Wp S (d + 2) 175 0 [some (.ref 137), some (.int (nI c)), some (.int (nI r)), some (.int (nI s)), none, none, none, none] [] 153 f g (Is (some (.int (nI (slR V s 9 c r 0)))) 153 f g) := by
  refine w_iload_n k175_0 rfl ?_
  refine w_istore k175_1 (ls' := [_, _, _, _, _, _, _, _]) rfl ?_
  refine w_iload_n k175_3 rfl ?_
  refine w_istore k175_4 (ls' := [_, _, _, _, _, _, _, _]) rfl ?_
  refine w_iconst k175_6 ?_
  refine w_istore k175_7 (ls' := [_, _, _, _, _, _, _, _]) rfl ?_
  refine w_iconst k175_9 ?_
  refine w_istore k175_10 (ls' := [_, _, _, _, _, _, _, _]) rfl ?_
  have h99 := hV.1
  exact ml_slipped G hVa hV hs 9 c r 0 (by omega) hc hr (by omega)
set_option maxHeartbeats 1000000 in
theorem ml_common {S : Scr} {d : Nat} {f : FF} {g : GG} {q0 q1 : Int32} : ∀ (t a b : Nat) (q4 : Option Value), b ≤ t → a < 2 ^ 31 → b < 2 ^ 31 → Wp S d 176 4 [some (.int q0), some (.int q1), some (.int (nI a)), some (.int (nI b)), q4] [] 153 f g (Is (some (.int (nI (Nat.gcd a b)))) 153 f g) := by
  intro t
  induction t with
  | zero =>
    intro a b q4 h0 h1 h2
    obtain rfl : b = 0 := by omega
    refine w_iload_n k176_4 rfl ?_
    refine w_if_eq k176_5 (fun h5 => ?_) (fun h5 => absurd (rfl) h5)
    refine w_iload_n k176_21 rfl ?_
    refine w_iret k176_22 mt176 (.int) rfl (rfl) ?_
    rw [Nat.gcd_zero_right]
    exact ⟨rfl, rfl, rfl, rfl⟩
  | succ t ih =>
    intro a b q4 h0 h1 h2
    refine w_iload_n k176_4 rfl ?_
    refine w_if_eq k176_5 (fun h5 => ?_) (fun h5 => ?_)
    ·
      have y1 : b = 0 := (nI_eq (b := 0) (by omega) (by omega)).mp h5
      rw [y1, Nat.gcd_zero_right]
      refine w_iload_n k176_21 rfl ?_
      refine w_iret k176_22 mt176 (.int) rfl (rfl) ?_
      exact ⟨rfl, rfl, rfl, rfl⟩
    ·
      have y1 : ¬ b = 0 := fun hh => h5 (by rw [hh]; rfl)
      have hm := Nat.mod_lt a (Nat.pos_of_ne_zero y1)
      refine w_iload_n k176_8 rfl ?_
      refine w_iload_n k176_9 rfl ?_
      refine w_irem k176_10 (h5) ?_
      refine w_top (nI (a % b)) (pk_rem h1 (by omega) h2) ?_
      refine w_istore k176_11 (ls' := [_, _, _, _, _]) rfl ?_
      refine w_iload_n k176_13 rfl ?_
      refine w_istore_n k176_14 (ls' := [_, _, _, _, _]) rfl ?_
      refine w_iload k176_15 rfl ?_
      refine w_istore_n k176_17 (ls' := [_, _, _, _, _]) rfl ?_
      refine w_goto k176_18 ?_
      rw [show Nat.gcd a b = Nat.gcd b (a % b) from by rw [Nat.gcd_comm a b, Nat.gcd_rec b a, Nat.gcd_comm]]
      exact ih b (a % b) _ (by omega) h2 (by omega)
set_option maxHeartbeats 1000000 in
theorem mp_common {S : Scr} {d : Nat} {f : FF} {g : GG} {a b : Nat} (ha : a < 2 ^ 31) (hb : b < 2 ^ 31) : Wp S d 176 0 [some (.int (nI a)), some (.int (nI b)), none, none, none] [] 153 f g (Is (some (.int (nI (Nat.gcd a b)))) 153 f g) := by
  refine w_iload_n k176_0 rfl ?_
  refine w_istore_n k176_1 (ls' := [_, _, _, _, _]) rfl ?_
  refine w_iload_n k176_2 rfl ?_
  refine w_istore_n k176_3 (ls' := [_, _, _, _, _]) rfl ?_
  exact ml_common b a b none (Nat.le_refl b) ha hb
set_option maxHeartbeats 1000000 in
theorem ml_sl47 {S : Scr} {d : Nat} {f : FF} {g : GG} {P : Option Value → Nat → FF → GG → Prop} (G : GOm g) {V : Va} (hVa : MVa f V) (hV : VWf V) {c0 r x w T : Nat} {q8 q9 q10 : Option Value} (hk : ∀ q : Nat, Wp S (d + 4) 177 81 [some (.ref 137), some (.int (nI c0)), some (.int (nI r)), some (.int (nI x)), some (.int (nI w)), some (.int (nI T)), some (.int (nI (10 ^ T))), some (.int (nI q)), q8, q9, q10] [] 153 f g P) : ∀ (t c a : Nat), c < t → c < V.1 → a + lnN V c = T → Wp S (d + 4) 177 47 [some (.ref 137), some (.int (nI c0)), some (.int (nI r)), some (.int (nI x)), some (.int (nI w)), some (.int (nI (a + 1))), some (.int (nI (10 ^ (a + 1)))), some (.int (nI c)), q8, q9, q10] [] 153 f g P := by
  have h99 := hV.1
  intro t
  induction t with
  | zero =>
    intro c a h
    exact absurd h (Nat.not_lt_zero c)
  | succ t ih =>
    intro c a h0 hc hT
    have ho := hV.on hc
    have hle := (hV.2 c hc).2.2.2
    refine w_aload_n k177_47 rfl rfl ?_
    refine w_getr k177_48 (k := 15) kd137 (by decide) (r137_15 G) ?_
    refine w_iload k177_51 rfl ?_
    refine w_iald k177_53 kd147 (nI_pos (by omega)) (nI_clamp (by omega)) (by omega) ?_
    rw [(hVa.2 c hc).2.2]
    refine w_iload k177_54 rfl ?_
    refine w_icmp_eq k177_56 (fun h56 => ?_) (fun h56 => ?_)
    ·
      have zs : V.2.2.2 c = c := (nI_eq (by omega) (by omega)).mp h56
      rw [show lnN V c = 1 from ln_sea (by omega) zs] at hT
      rw [hT]
      exact hk c
    ·
      have zs : ¬ V.2.2.2 c = c := fun hh => h56 (by rw [hh])
      rw [show lnN V c = 1 + lnN V (V.2.2.2 c) from ln_on hV hc zs] at hT
      refine w_iinc k177_59 rfl (ls' := [_, _, _, _, _, _, _, _, _, _, _]) rfl ?_
      rw [nI_1]
      refine w_iload k177_62 rfl ?_
      refine w_bipush k177_64 ?_
      refine w_imul k177_66 ?_
      refine w_top (nI (10 ^ (a + 1) * 10)) (pk_mul _ 10) ?_
      refine w_istore k177_67 (ls' := [_, _, _, _, _, _, _, _, _, _, _]) rfl ?_
      refine w_aload_n k177_69 rfl rfl ?_
      refine w_getr k177_70 (k := 15) kd137 (by decide) (r137_15 G) ?_
      refine w_iload k177_73 rfl ?_
      refine w_iald k177_75 kd147 (nI_pos (by omega)) (nI_clamp (by omega)) (by omega) ?_
      rw [(hVa.2 c hc).2.2]
      refine w_istore k177_76 (ls' := [_, _, _, _, _, _, _, _, _, _, _]) rfl ?_
      refine w_goto k177_78 ?_
      rw [← Nat.pow_succ]
      exact ih _ (a + 1) (by omega) ho (by omega)
set_option maxHeartbeats 1000000 in
theorem ml_sl102 {S : Scr} {d : Nat} {f : FF} {g : GG} {P : Option Value → Nat → FF → GG → Prop} {c0 r x w T s : Nat} {q6 q7 : Int32} (hT : T ≤ 9) (hx : x ≤ 10) (hs : s < 2 ^ 31) (hk : Wp S (d + 4) 177 138 [some (.ref 137), some (.int (nI c0)), some (.int (nI r)), some (.int (nI x)), some (.int (nI w)), some (.int (nI T)), some (.int q6), some (.int q7), some (.int (nI s)), some (.int (nI (pdW x s T 0 1))), some (.int (nI T))] [] 153 f g P) : ∀ (t k a : Nat), t + k = T → pdW x s t k a = pdW x s T 0 1 → Wp S (d + 4) 177 102 [some (.ref 137), some (.int (nI c0)), some (.int (nI r)), some (.int (nI x)), some (.int (nI w)), some (.int (nI T)), some (.int q6), some (.int q7), some (.int (nI s)), some (.int (nI a)), some (.int (nI k))] [] 153 f g P := by
  intro t
  induction t with
  | zero =>
    intro k a e0 e1
    obtain rfl : k = T := by omega
    have e1 : a = pdW x s k 0 1 := e1
    rw [e1]
    refine w_iload k177_102 rfl ?_
    refine w_iload k177_104 rfl ?_
    refine w_icmp_ge k177_106 (fun h106 => ?_) (fun h106 => absurd (nI_le (Nat.le_refl _) (by omega)) h106)
    exact hk
  | succ t ih =>
    intro k a e0 e1
    refine w_iload k177_102 rfl ?_
    refine w_iload k177_104 rfl ?_
    refine w_icmp_ge k177_106 (fun h106 => absurd h106 (nI_ge (by omega) (by omega))) (fun h106 => ?_)
    refine w_iload k177_109 rfl ?_
    refine w_iload k177_111 rfl ?_
    refine w_iload k177_113 rfl ?_
    refine w_sI k177_115 (by decide) mt108 [_, _] rfl rfl rfl (mp_has hs (by omega)) ?_
    refine w_if_eq k177_118 (fun h118 => ?_) (fun h118 => ?_)
    ·
      have zb : ¬ s.testBit k = true := by rw [bI_0.mp h118]; decide
      refine w_bipush k177_125 ?_
      refine w_iload_n k177_127 rfl ?_
      refine w_isub k177_128 ?_
      refine w_top (nI (10 - x)) (pk_sub (a := 10) (by omega)) ?_
      refine w_imul k177_129 ?_
      rw [pk_mul]
      refine w_istore k177_130 (ls' := [_, _, _, _, _, _, _, _, _, _, _]) rfl ?_
      refine w_iinc k177_132 rfl (ls' := [_, _, _, _, _, _, _, _, _, _, _]) rfl ?_
      refine w_goto k177_135 ?_
      rw [nI_1]
      simp only [pdW] at e1
      first
        | (rw [if_pos zb] at e1; exact ih (k + 1) _ (by omega) e1)
        | (rw [if_neg zb] at e1; exact ih (k + 1) _ (by omega) e1)
    ·
      have zb := bI_n0.mp h118
      refine w_iload_n k177_121 rfl ?_
      refine w_goto k177_122 ?_
      refine w_imul k177_129 ?_
      rw [pk_mul]
      refine w_istore k177_130 (ls' := [_, _, _, _, _, _, _, _, _, _, _]) rfl ?_
      refine w_iinc k177_132 rfl (ls' := [_, _, _, _, _, _, _, _, _, _, _]) rfl ?_
      refine w_goto k177_135 ?_
      rw [nI_1]
      simp only [pdW] at e1
      first
        | (rw [if_pos zb] at e1; exact ih (k + 1) _ (by omega) e1)
        | (rw [if_neg zb] at e1; exact ih (k + 1) _ (by omega) e1)
theorem slR_ok {V : Va} {s : Nat} : ∀ t c r k, RowOk r → RowOk (slR V s t c r k) := by
  intro t
  induction t with
  | zero => intro c r k h; exact h
  | succ t ih =>
    intro c r k h
    have h2 : RowOk (if s.testBit k = true then wof r else r) := by
      split
      · exact (wof_ok h).1
      · exact h
    simp only [slR]
    split
    · exact kn_ok h2
    · exact ih _ _ _ (kn_ok h2)
set_option maxHeartbeats 1000000 in
theorem ml_sl87 {S : Scr} {d : Nat} {f : FF} {g : GG} {P : Option Value → Nat → FF → GG → Prop} (G : GOm g) {V : Va} (hVa : MVa f V) (hV : VWf V) {c0 r x w T : Nat} {q6 : Int32} (hc : c0 < V.1) (hr : RowOk r) (hT : T = lnN V c0) (hx : x ≤ 10) (hk : ∀ q9 q10 : Option Value, Wp S (d + 4) 177 172 [some (.ref 137), some (.int (nI c0)), some (.int (nI r)), some (.int (nI x)), some (.int (nI w)), some (.int (nI T)), some (.int q6), some (.int (nI (smW (slF V x (cmW V V.2.1 9 c0 r) c0 r) (2 ^ T) 0 0))), some (.int (nI (2 ^ T))), q9, q10] [] 153 f g P) : ∀ (t s a : Nat) (q9 q10 : Option Value), t + s = 2 ^ T → smW (slF V x (cmW V V.2.1 9 c0 r) c0 r) t s a = smW (slF V x (cmW V V.2.1 9 c0 r) c0 r) (2 ^ T) 0 0 → Wp S (d + 4) 177 87 [some (.ref 137), some (.int (nI c0)), some (.int (nI r)), some (.int (nI x)), some (.int (nI w)), some (.int (nI T)), some (.int q6), some (.int (nI a)), some (.int (nI s)), q9, q10] [] 153 f g P := by
  have h99 := hV.1
  have hT9 : T ≤ 9 := by rw [hT]; exact popc_le _ 9
  have hp9 : 2 ^ T ≤ 2 ^ 9 := Nat.pow_le_pow_right (by decide) hT9
  intro t
  induction t with
  | zero =>
    intro s a q9 q10 e0 e1
    obtain rfl : s = 2 ^ T := by omega
    have e1 : a = smW (slF V x (cmW V V.2.1 9 c0 r) c0 r) (2 ^ T) 0 0 := e1
    rw [e1]
    refine w_iload k177_87 rfl ?_
    refine w_iconst k177_89 ?_
    refine w_iload k177_90 rfl ?_
    refine w_ishl k177_92 ?_
    rw [shl1_n (by omega)]
    refine w_icmp_ge k177_93 (fun h93 => ?_) (fun h93 => absurd (nI_le (Nat.le_refl _) (by omega)) h93)
    exact hk _ _
  | succ t ih =>
    intro s a q9 q10 e0 e1
    refine w_iload k177_87 rfl ?_
    refine w_iconst k177_89 ?_
    refine w_iload k177_90 rfl ?_
    refine w_ishl k177_92 ?_
    rw [shl1_n (by omega)]
    refine w_icmp_ge k177_93 (fun h93 => absurd h93 (nI_ge (by omega) (by omega))) (fun h93 => ?_)
    refine w_iconst k177_96 ?_
    refine w_istore k177_97 (ls' := [_, _, _, _, _, _, _, _, _, _, _]) rfl ?_
    refine w_iconst k177_99 ?_
    refine w_istore k177_100 (ls' := [_, _, _, _, _, _, _, _, _, _, _]) rfl ?_
    refine ml_sl102 hT9 hx (by omega) ?_ T 0 1 (by omega) rfl
    refine w_iload k177_138 rfl ?_
    refine w_aload_n k177_140 rfl rfl ?_
    refine w_iload_n k177_141 rfl ?_
    refine w_iload_n k177_142 rfl ?_
    refine w_iload k177_143 rfl ?_
    refine w_vI k177_145 mt175 kd137 ⟨rfl, by decide⟩ [_, _, _] rfl rfl rfl (mp_slipped G hVa hV hc hr (by omega)) ?_
    refine w_aload_n k177_148 rfl rfl ?_
    refine w_iload_n k177_149 rfl ?_
    refine w_iload_n k177_150 rfl ?_
    refine w_vI k177_151 mt131 kd137 ⟨rfl, by decide⟩ [_, _] rfl rfl rfl (mp_comesOf G hVa hV hc hr) ?_
    have hl1 := cmW_lt (V := V) (K := V.2.1) 9 c0 r hr.lt
    have hl2 := (slR_ok (V := V) (s := s) 9 c0 r 0 hr).lt
    refine w_icmp_ne k177_154 (fun h154 => ?_) (fun h154 => ?_)
    ·
      have y1 : slF V x (cmW V V.2.1 9 c0 r) c0 r s = 0 := if_neg fun hh => h154 (by rw [hh])
      refine w_iconst k177_162 ?_
      refine w_iadd k177_163 ?_
      refine w_top (nI (a + slF V x (cmW V V.2.1 9 c0 r) c0 r s)) (by rw [y1]; exact nI_add _ _) ?_
      refine w_istore k177_164 (ls' := [_, _, _, _, _, _, _, _, _, _, _]) rfl ?_
      refine w_iinc k177_166 rfl (ls' := [_, _, _, _, _, _, _, _, _, _, _]) rfl ?_
      refine w_goto k177_169 ?_
      rw [nI_1]
      exact ih (s + 1) _ _ _ (by omega) e1
    ·
      have y1 : slF V x (cmW V V.2.1 9 c0 r) c0 r s = pdW x s T 0 1 := by
        rw [hT]
        exact if_pos ((nI_eq (by omega) (by omega)).mp h154)
      refine w_iload k177_157 rfl ?_
      refine w_goto k177_159 ?_
      refine w_iadd k177_163 ?_
      refine w_top (nI (a + slF V x (cmW V V.2.1 9 c0 r) c0 r s)) (by rw [y1]; exact nI_add _ _) ?_
      refine w_istore k177_164 (ls' := [_, _, _, _, _, _, _, _, _, _, _]) rfl ?_
      refine w_iinc k177_166 rfl (ls' := [_, _, _, _, _, _, _, _, _, _, _]) rfl ?_
      refine w_goto k177_169 ?_
      rw [nI_1]
      exact ih (s + 1) _ _ _ (by omega) e1
set_option maxHeartbeats 1000000 in
theorem mp_slips {S : Scr} {d : Nat} {f : FF} {g : GG} {B : Nat} {tx : Nat → Nat} {tl : Nat} {V : Va} {M : Nat → Nat → Nat} {uN : Nat} {uL : Nat → Nat → Nat → Nat} {kN : Nat} {kL : Nat → Nat → Nat → Nat} {sn : Nat} {se : Nat → Nat → Nat} (G : GOm g) (hR : MRl f g tx tl V M uN uL kN kL sn se) (hW : StW B tx tl V M uN uL kN kL sn se) (h1 : 1 ≤ V.1) {c r x w : Nat} (hc : c < V.1) (hr : RowOk r) (hr0 : isRowI (nI r) = true) (hx : x ≤ 10) (hw : w < 2) : Wp S (d + 4) 177 0 [some (.ref 137), some (.int (nI c)), some (.int (nI r)), some (.int (nI x)), some (.int (nI w)), none, none, none, none, none, none] [] 153 f g (MdQ f g (nI (slV (TT V x (cmW V V.2.1 9 c r) 9 c r) (10 ^ popc (wyW V 9 c 0) 9) w)) tx tl V M uN uL kN kL sn se) := by
  obtain ⟨g0, hL, hVa, hA, hU, hK, hS⟩ := id hR
  have h200 := hL.2.1
  have hV := hW.2.1
  have hM := hW.2.2.1.1
  have h9 := hV.1
  have hm6 := hM.1
  have hmt := hM.2.1
  have hmi := hM.2.2.1
  refine w_aload_n k177_0 rfl rfl ?_
  refine w_iload_n k177_1 rfl ?_
  refine w_vI k177_2 mt78 kd137 ⟨rfl, by decide⟩ [_] rfl rfl rfl (mp_isChair G hVa h9 h1 _) ?_
  rw [has_dec (by omega) (by omega)]
  refine w_if_eq k177_5 (fun h5 => absurd h5 (bI_n0.mpr (decide_eq_true hc))) (fun h5 => ?_)
  refine w_iload_n k177_8 rfl ?_
  refine w_sI k177_9 (by decide) mt94 [_] rfl rfl rfl (mp_isRow _) ?_
  refine w_if_eq k177_12 (fun h12 => absurd h12 (bI_n0.mpr hr0)) (fun h12 => ?_)
  refine w_iload_n k177_15 rfl ?_
  refine w_iconst k177_16 ?_
  refine w_bipush k177_17 ?_
  refine w_sI k177_19 (by decide) mt59 [_, _, _] rfl rfl rfl (mp_in _ _ _) ?_
  refine w_if_eq k177_22 (fun h22 => absurd h22 (bI_n0.mpr (decide_eq_true ⟨(nI_leI (a := 0) (by omega) (by omega)).mpr (by omega), (nI_leI (b := 10) (by omega) (by omega)).mpr (by omega)⟩))) (fun h22 => ?_)
  refine w_iload k177_25 rfl ?_
  refine w_iconst k177_27 ?_
  refine w_iconst k177_28 ?_
  refine w_sI k177_29 (by decide) mt59 [_, _, _] rfl rfl rfl (mp_in _ _ _) ?_
  refine w_if_ne k177_32 (fun h32 => ?_) (fun h32 => absurd h32 (bI_n0.mpr (decide_eq_true ⟨(nI_leI (a := 0) (by omega) (by omega)).mpr (by omega), (nI_leI (b := 1) (by omega) (by omega)).mpr (by omega)⟩)))
  refine w_iconst k177_37 ?_
  refine w_istore k177_38 (ls' := [_, _, _, _, _, _, _, _, _, _, _]) rfl ?_
  refine w_bipush k177_40 ?_
  refine w_istore k177_42 (ls' := [_, _, _, _, _, _, _, _, _, _, _]) rfl ?_
  refine w_iload_n k177_44 rfl ?_
  refine w_istore k177_45 (ls' := [_, _, _, _, _, _, _, _, _, _, _]) rfl ?_
  refine ml_sl47 (T := lnN V c) G hVa hV (fun q => ?_) 9 c 0 (by omega) hc (by omega)
  refine w_iconst k177_81 ?_
  refine w_istore k177_82 (ls' := [_, _, _, _, _, _, _, _, _, _, _]) rfl ?_
  refine w_iconst k177_84 ?_
  refine w_istore k177_85 (ls' := [_, _, _, _, _, _, _, _, _, _, _]) rfl ?_
  refine ml_sl87 G hVa hV hc hr rfl hx (fun q9 q10 => ?_) (2 ^ lnN V c) 0 0 none none (by omega) rfl
  have hle : TT V x (cmW V V.2.1 9 c r) 9 c r ≤ 10 ^ 9 := TT_le hx 9 c r
  have hpc := popc_le (wyW V 9 c 0) 9
  have hp9 : 10 ^ lnN V c ≤ 10 ^ 9 := Nat.pow_le_pow_right (by decide) hpc
  have hp0 : 0 < 10 ^ lnN V c := Nat.pow_pos (by decide)
  have hsum : smW (slF V x (cmW V V.2.1 9 c r) c r) (2 ^ lnN V c) 0 0 = TT V x (cmW V V.2.1 9 c r) 9 c r := by
    have e1 := smW_F (slF V x (cmW V V.2.1 9 c r) c r) (2 ^ lnN V c) 0
    rw [Nat.zero_add] at e1
    exact e1.trans (slp_TT hV 9 c r (by omega) hc)
  rw [hsum]
  have hg0 : 0 < Nat.gcd (TT V x (cmW V V.2.1 9 c r) 9 c r) (10 ^ lnN V c) := Nat.gcd_pos_of_pos_right _ hp0
  have hgl : Nat.gcd (TT V x (cmW V V.2.1 9 c r) 9 c r) (10 ^ lnN V c) ≤ 10 ^ lnN V c := Nat.gcd_le_right _ hp0
  refine w_iload k177_172 rfl ?_
  refine w_iload k177_174 rfl ?_
  refine w_sI k177_176 (by decide) mt176 [_, _] rfl rfl rfl (mp_common (by omega) (by omega)) ?_
  refine w_istore k177_179 (ls' := [_, _, _, _, _, _, _, _, _, _, _]) rfl ?_
  refine w_iload k177_181 rfl ?_
  refine w_if_ne k177_183 (fun h183 => ?_) (fun h183 => ?_)
  ·
    have y3 : ¬ w = 0 := fun hh => h183 (by rw [hh]; rfl)
    refine w_iload k177_194 rfl ?_
    refine w_iload k177_196 rfl ?_
    refine w_idiv k177_198 (nI_ne0 hg0 (by omega)) ?_
    rw [pk_div (by omega) hg0 (by omega)]
    refine w_iret k177_199 mt177 (.int) rfl (rfl) ?_
    unfold slV
    first
      | (rw [if_pos y3]; exact MdQ.same hR)
      | (rw [if_neg y3]; exact MdQ.same hR)
  ·
    have y3 : w = 0 := (nI_eq (b := 0) (by omega) (by omega)).mp h183
    refine w_iload k177_186 rfl ?_
    refine w_iload k177_188 rfl ?_
    refine w_idiv k177_190 (nI_ne0 hg0 (by omega)) ?_
    rw [pk_div (by omega) hg0 (by omega)]
    refine w_goto k177_191 ?_
    refine w_iret k177_199 mt177 (.int) rfl (rfl) ?_
    unfold slV
    first
      | (rw [if_pos y3]; exact MdQ.same hR)
      | (rw [if_neg y3]; exact MdQ.same hR)
set_option maxHeartbeats 1000000 in
theorem mp_slips0 {S : Scr} {d : Nat} {f : FF} {g : GG} {B : Nat} {tx : Nat → Nat} {tl : Nat} {V : Va} {M : Nat → Nat → Nat} {uN : Nat} {uL : Nat → Nat → Nat → Nat} {kN : Nat} {kL : Nat → Nat → Nat → Nat} {sn : Nat} {se : Nat → Nat → Nat} (G : GOm g) (hR : MRl f g tx tl V M uN uL kN kL sn se) (hW : StW B tx tl V M uN uL kN kL sn se) (h1 : 1 ≤ V.1) {x y z u : Int32} (hb : ¬ ((0 ≤ x ∧ x < nI V.1) ∧ isRowI y = true ∧ (0 ≤ z ∧ z ≤ 10) ∧ 0 ≤ u ∧ u ≤ 1)) : Wp S (d + 4) 177 0 [some (.ref 137), some (.int x), some (.int y), some (.int z), some (.int u), none, none, none, none, none, none] [] 153 f g (MdQ f g (-1) tx tl V M uN uL kN kL sn se) := by
  obtain ⟨g0, hL, hVa, hA, hU, hK, hS⟩ := id hR
  have h200 := hL.2.1
  have hV := hW.2.1
  have hM := hW.2.2.1.1
  have h9 := hV.1
  have hm6 := hM.1
  have hmt := hM.2.1
  have hmi := hM.2.2.1
  refine w_aload_n k177_0 rfl rfl ?_
  refine w_iload_n k177_1 rfl ?_
  refine w_vI k177_2 mt78 kd137 ⟨rfl, by decide⟩ [_] rfl rfl rfl (mp_isChair G hVa h9 h1 _) ?_
  refine w_if_eq k177_5 (fun h5 => ?_) (fun h5 => ?_)
  ·
    refine w_iconst k177_35 ?_
    refine w_iret k177_36 mt177 (.int) rfl (rfl) ?_
    exact MdQ.same hR
  ·
    have x5 := of_decide_eq_true (bI_n0.mp h5)
    refine w_iload_n k177_8 rfl ?_
    refine w_sI k177_9 (by decide) mt94 [_] rfl rfl rfl (mp_isRow _) ?_
    refine w_if_eq k177_12 (fun h12 => ?_) (fun h12 => ?_)
    ·
      refine w_iconst k177_35 ?_
      refine w_iret k177_36 mt177 (.int) rfl (rfl) ?_
      exact MdQ.same hR
    ·
      have x12 := bI_n0.mp h12
      refine w_iload_n k177_15 rfl ?_
      refine w_iconst k177_16 ?_
      refine w_bipush k177_17 ?_
      refine w_sI k177_19 (by decide) mt59 [_, _, _] rfl rfl rfl (mp_in _ _ _) ?_
      refine w_if_eq k177_22 (fun h22 => ?_) (fun h22 => ?_)
      ·
        refine w_iconst k177_35 ?_
        refine w_iret k177_36 mt177 (.int) rfl (rfl) ?_
        exact MdQ.same hR
      ·
        have x22 := of_decide_eq_true (bI_n0.mp h22)
        refine w_iload k177_25 rfl ?_
        refine w_iconst k177_27 ?_
        refine w_iconst k177_28 ?_
        refine w_sI k177_29 (by decide) mt59 [_, _, _] rfl rfl rfl (mp_in _ _ _) ?_
        refine w_if_ne k177_32 (fun h32 => absurd (bI_0.mpr (decide_eq_false fun hh => hb ⟨x5, x12, x22, hh⟩)) h32) (fun h32 => ?_)
        refine w_iconst k177_35 ?_
        refine w_iret k177_36 mt177 (.int) rfl (rfl) ?_
        exact MdQ.same hR
