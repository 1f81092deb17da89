/-! the small machine's steps, one by one -/
section INV
variable {KK : List (Nat × Nat)} {MT : List Mth} {MC : List (List (Option Ent))} {S : Scr}
theorem run_ret {k d y pc n : Nat} {ls : LL} {st : List Value} {f : FF} {g : GG} {e : Ent} {mt : Mth} {r : Res} (hi : icode MC y pc = some e) (hk : knd e = 1) (hm : MT[y]? = some mt) (hr : rets mt.2.2.2.1 e st n f g = some r) : run KK MT MC S (k + 1) d y pc ls st n f g = some r := by
  simp [run, hi, hk, hm, hr]
theorem run_call {k d y pc n n' : Nat} {ls : LL} {st as rest : List Value} {f f' : FF} {g g' : GG} {e : Ent} {mt : Mth} {v : Option Value} {r : Res} (hi : icode MC y pc = some e) (hk : knd e = 2) (hm : MT[e.2.2.1]? = some mt) (hc : callA KK e mt st n = some (as, rest)) (h1 : run KK MT MC S k d e.2.2.1 0 (entL as mt.2.2.1) [] n f g = some (v, n', f', g')) (h2 : run KK MT MC S k (d + 1) y e.2.1 ls (v.toList ++ rest) n' f' g' = some r) : run KK MT MC S (k + 1) (d + 1) y pc ls st n f g = some r := by
  simp [run, dpre, hi, hk, hm, hc, h1, h2]
theorem run_obj {k d y pc n a : Nat} {ls : LL} {rest : List Value} {f : FF} {g : GG} {e : Ent} {r : Res} (hi : icode MC y pc = some e) (hk : knd e = 3) (hs : Nat.ble (rest.map Value.category).sum 8 = true) (h2 : run KK MT MC S k (d + 1) y e.2.1 ls rest n f g = some r) : run KK MT MC S (k + 1) (d + 1) y pc ls (.ref a :: rest) n f g = some r := by
  have hp : popR (.ref a :: rest) = some rest := by simp [popR, hs]
  simp [run, dpre, hi, hk, hp, h2]
theorem run_stp {k d y pc n pc' n' : Nat} {ls ls' : LL} {st st' : List Value} {f f' : FF} {g g' : GG} {e : Ent} {r : Res} (hi : icode MC y pc = some e) (h0 : knd e ≠ 1 ∧ knd e ≠ 2 ∧ knd e ≠ 3) (hs : stp KK S e pc ls st n f g = some (pc', ls', st', n', f', g')) (h2 : run KK MT MC S k d y pc' ls' st' n' f' g' = some r) : run KK MT MC S (k + 1) d y pc ls st n f g = some r := by
  rw [run]
  simp only [hi]
  split
  · exact absurd ‹_› h0.1
  · exact absurd ‹_› h0.2.1
  · exact absurd ‹_› h0.2.2
  · simp only [hs, h2]
theorem run_inv {k d y pc n : Nat} {ls : LL} {st : List Value} {f : FF} {g : GG} {r : Res} (h : run KK MT MC S (k + 1) d y pc ls st n f g = some r) :
    ∃ e : Ent, icode MC y pc = some e ∧
      ((knd e = 1 ∧ ∃ mt, MT[y]? = some mt ∧ rets mt.2.2.2.1 e st n f g = some r) ∨
       (knd e = 2 ∧ ∃ (d' : Nat) (mt : Mth) (as rest : List Value) (v : Option Value) (n' : Nat) (f' : FF) (g' : GG), d = d' + 1 ∧ MT[e.2.2.1]? = some mt ∧ callA KK e mt st n = some (as, rest) ∧ run KK MT MC S k d' e.2.2.1 0 (entL as mt.2.2.1) [] n f g = some (v, n', f', g') ∧ run KK MT MC S k d y e.2.1 ls (v.toList ++ rest) n' f' g' = some r) ∨
       (knd e = 3 ∧ ∃ (d' a : Nat) (rest : List Value), d = d' + 1 ∧ st = .ref a :: rest ∧ Nat.ble (rest.map Value.category).sum 8 = true ∧ run KK MT MC S k d y e.2.1 ls rest n f g = some r) ∨
       (knd e ≠ 1 ∧ knd e ≠ 2 ∧ knd e ≠ 3 ∧ ∃ (pc' n' : Nat) (ls' : LL) (st' : List Value) (f' : FF) (g' : GG), stp KK S e pc ls st n f g = some (pc', ls', st', n', f', g') ∧ run KK MT MC S k d y pc' ls' st' n' f' g' = some r)) := by
  rw [run] at h
  cases hi : icode MC y pc with
  | none => simp only [hi] at h; cases h
  | some e =>
    refine ⟨e, rfl, ?_⟩
    simp only [hi] at h
    split at h
    · rename_i hk
      refine Or.inl ⟨hk, ?_⟩
      split at h
      · rename_i mt hm
        exact ⟨mt, hm, h⟩
      · cases h
    · rename_i hk
      refine Or.inr (Or.inl ⟨hk, ?_⟩)
      cases d with
      | zero => simp [dpre] at h
      | succ d' =>
        simp only [dpre] at h
        split at h
        · rename_i mt hm
          split at h
          · rename_i as rest hc
            split at h
            · rename_i v n' f' g' h1
              exact ⟨d', mt, as, rest, v, n', f', g', rfl, hm, hc, h1, h⟩
            · cases h
          · cases h
        · cases h
    · rename_i hk
      refine Or.inr (Or.inr (Or.inl ⟨hk, ?_⟩))
      cases d with
      | zero => simp [dpre] at h
      | succ d' =>
        simp only [dpre] at h
        split at h
        · rename_i r hp
          unfold popR at hp
          split at hp
          · rename_i a rest
            split at hp
            · rename_i hb
              cases hp
              exact ⟨d', a, _, rfl, rfl, hb, h⟩
            · cases hp
          · cases hp
        · cases h
    · rename_i h1 h2 h3
      refine Or.inr (Or.inr (Or.inr ⟨h1, h2, h3, ?_⟩))
      split at h
      · rename_i pc' ls' st' n' f' g' hs
        exact ⟨pc', n', ls', st', f', g', hs, h⟩
      · cases h
theorem run_mono : ∀ {k d y pc n : Nat} {ls : LL} {st : List Value} {f : FF} {g : GG} {r : Res}, run KK MT MC S k d y pc ls st n f g = some r → run KK MT MC S (k + 1) d y pc ls st n f g = some r := by
  intro k
  induction k with
  | zero => intro d y pc n ls st f g r h; simp [run] at h
  | succ k ih =>
    intro d y pc n ls st f g r h
    obtain ⟨e, hi, ⟨hk, mt, hm, hr⟩ | ⟨hk, d', mt, as, rest, v, n', f', g', rfl, hm, hc, h1, h2⟩ | ⟨hk, d', a, rest, rfl, rfl, hb, h2⟩ | ⟨h1, h2, h3, pc', n', ls', st', f', g', hs, h4⟩⟩ := run_inv h
    · exact run_ret hi hk hm hr
    · exact run_call hi hk hm hc (ih h1) (ih h2)
    · exact run_obj hi hk hb (ih h2)
    · exact run_stp hi ⟨h1, h2, h3⟩ hs (ih h4)
theorem run_le {k d y pc n : Nat} {ls : LL} {st : List Value} {f : FF} {g : GG} {r : Res} (h : run KK MT MC S k d y pc ls st n f g = some r) : ∀ j, run KK MT MC S (k + j) d y pc ls st n f g = some r
  | 0 => h
  | j + 1 => run_mono (run_le h j)
end INV
