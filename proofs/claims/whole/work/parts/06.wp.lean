/-- the machine comes from here to a return with P -/
def Wp (S : Scr) (d y pc : Nat) (ls : LL) (st : List Value) (n : Nat) (f : FF) (g : GG) (P : Option Value → Nat → FF → GG → Prop) : Prop :=
  ∃ (k : Nat) (v : Option Value) (n' : Nat) (f' : FF) (g' : GG), run KKl MTl MCl S k d y pc ls st n f g = some (v, n', f', g') ∧ P v n' f' g'
section STEPS
variable {S : Scr} {d y pc n : Nat} {ls ls' : LL} {st : List Value} {f : FF} {g : GG} {P : Option Value → Nat → FF → GG → Prop} {l A B : Nat} {cv : Int32}
theorem Wp.mono {P' : Option Value → Nat → FF → GG → Prop} (h : Wp S d y pc ls st n f g P) (hp : ∀ v n' f' g', P v n' f' g' → P' v n' f' g') : Wp S d y pc ls st n f g P' := by
  obtain ⟨k, v, n', f', g', h1, h2⟩ := h
  exact ⟨k, v, n', f', g', h1, hp _ _ _ _ h2⟩
theorem w_stp {e : Ent} {pc' n' : Nat} {st' : List Value} {f' : FF} {g' : GG} (hi : icode MCl y pc = some e) (h0 : knd e ≠ 1 ∧ knd e ≠ 2 ∧ knd e ≠ 3) (hs : stp KKl S e pc ls st n f g = some (pc', ls', st', n', f', g')) (h : Wp S d y pc' ls' st' n' f' g' P) : Wp S d y pc ls st n f g P := by
  obtain ⟨k, v, n2, f2, g2, h1, h2⟩ := h
  exact ⟨k + 1, v, n2, f2, g2, run_stp hi h0 hs h1, h2⟩
/-- a call: what the callee comes to, then what follows -/
theorem w_call {e : Ent} {mt : Mth} {as rest : List Value} {Pc : Option Value → Nat → FF → GG → Prop} {ls0 : LL} (hi : icode MCl y pc = some e) (hk : knd e = 2) (hm : MTl[e.2.2.1]? = some mt) (hc : callA KKl e mt st n = some (as, rest)) (hl : entL as mt.2.2.1 = ls0) (h1 : Wp S d e.2.2.1 0 ls0 [] n f g Pc) (h2 : ∀ v n' f' g', Pc v n' f' g' → Wp S (d + 1) y e.2.1 ls (v.toList ++ rest) n' f' g' P) : Wp S (d + 1) y pc ls st n f g P := by
  subst hl
  obtain ⟨k, v, n2, f2, g2, a1, a2⟩ := h1
  obtain ⟨j, w, n3, f3, g3, b1, b2⟩ := h2 v n2 f2 g2 a2
  refine ⟨(k + j) + 1, w, n3, f3, g3, run_call hi hk hm hc (run_le a1 j) ?_, b2⟩
  rw [Nat.add_comm]
  exact run_le b1 k
theorem w_obj {e : Ent} {a : Nat} {rest : List Value} (hi : icode MCl y pc = some e) (hk : knd e = 3) (hs : Nat.ble (rest.map Value.category).sum 8 = true) (h : Wp S (d + 1) y e.2.1 ls rest n f g P) : Wp S (d + 1) y pc ls (.ref a :: rest) n f g P := by
  obtain ⟨k, v, n2, f2, g2, h1, h2⟩ := h
  exact ⟨k + 1, v, n2, f2, g2, run_obj hi hk hs h1, h2⟩
theorem w_ret {e : Ent} {mt : Mth} {v : Option Value} {n' : Nat} {f' : FF} {g' : GG} (hi : icode MCl y pc = some e) (hk : knd e = 1) (hm : MTl[y]? = some mt) (hr : rets mt.2.2.2.1 e st n f g = some (v, n', f', g')) (h : P v n' f' g') : Wp S d y pc ls st n f g P := ⟨1, v, n', f', g', run_ret hi hk hm hr, h⟩
end STEPS
/-! a step an instruction -/
section OPS
variable {S : Scr} {d y pc q n A B : Nat} {ls ls' : LL} {st : List Value} {f : FF} {g : GG} {P : Option Value → Nat → FF → GG → Prop} {cv : Int32}
theorem w_iload {k : Nat} {x : Int32} (hi : icode MCl y pc = some (.iload k, q, A, B, cv)) (hl : lget ls k = some (.int x)) (h : Wp S d y q ls (.int x :: st) n f g P) : Wp S d y pc ls (st) n f g P :=
  w_stp hi (by simp [knd]) (by simp [stp, pu, ldI, hl]) h
theorem w_iload_n {k : Fin 4} {x : Int32} (hi : icode MCl y pc = some (.iload_n k, q, A, B, cv)) (hl : lget ls k.val = some (.int x)) (h : Wp S d y q ls (.int x :: st) n f g P) : Wp S d y pc ls (st) n f g P :=
  w_stp hi (by simp [knd]) (by simp [stp, pu, ldI, hl]) h
theorem w_lload {k : Nat} {x : Int64} (hi : icode MCl y pc = some (.lload k, q, A, B, cv)) (hl : lget ls k = some (.long x)) (h : Wp S d y q ls (.long x :: st) n f g P) : Wp S d y pc ls (st) n f g P :=
  w_stp hi (by simp [knd]) (by simp [stp, pu, ldL, hl]) h
theorem w_lload_n {k : Fin 4} {x : Int64} (hi : icode MCl y pc = some (.lload_n k, q, A, B, cv)) (hl : lget ls k.val = some (.long x)) (h : Wp S d y q ls (.long x :: st) n f g P) : Wp S d y pc ls (st) n f g P :=
  w_stp hi (by simp [knd]) (by simp [stp, pu, ldL, hl]) h
theorem w_aload {k : Nat} {v : Value} (hi : icode MCl y pc = some (.aload k, q, A, B, cv)) (hl : lget ls k = some v) (ha : isA v = true) (h : Wp S d y q ls (v :: st) n f g P) : Wp S d y pc ls (st) n f g P :=
  w_stp hi (by simp [knd]) (by simp [stp, pu, ldA, hl, ha]) h
theorem w_aload_n {k : Fin 4} {v : Value} (hi : icode MCl y pc = some (.aload_n k, q, A, B, cv)) (hl : lget ls k.val = some v) (ha : isA v = true) (h : Wp S d y q ls (v :: st) n f g P) : Wp S d y pc ls (st) n f g P :=
  w_stp hi (by simp [knd]) (by simp [stp, pu, ldA, hl, ha]) h
theorem w_istore {k : Nat} {x : Int32} (hi : icode MCl y pc = some (.istore k, q, A, B, cv)) (hl : st1 ls k (.int x) = ls') (h : Wp S d y q ls' (st) n f g P) : Wp S d y pc ls (.int x :: st) n f g P :=
  w_stp hi (by simp [knd]) (by simp [stp, hl]) h
theorem w_istore_n {k : Fin 4} {x : Int32} (hi : icode MCl y pc = some (.istore_n k, q, A, B, cv)) (hl : st1 ls k.val (.int x) = ls') (h : Wp S d y q ls' (st) n f g P) : Wp S d y pc ls (.int x :: st) n f g P :=
  w_stp hi (by simp [knd]) (by simp [stp, hl]) h
theorem w_lstore {k : Nat} {x : Int64} (hi : icode MCl y pc = some (.lstore k, q, A, B, cv)) (hl : st2 ls k (.long x) = ls') (h : Wp S d y q ls' (st) n f g P) : Wp S d y pc ls (.long x :: st) n f g P :=
  w_stp hi (by simp [knd]) (by simp [stp, hl]) h
theorem w_lstore_n {k : Fin 4} {x : Int64} (hi : icode MCl y pc = some (.lstore_n k, q, A, B, cv)) (hl : st2 ls k.val (.long x) = ls') (h : Wp S d y q ls' (st) n f g P) : Wp S d y pc ls (.long x :: st) n f g P :=
  w_stp hi (by simp [knd]) (by simp [stp, hl]) h
theorem w_astore {k : Nat} {v : Value} (hi : icode MCl y pc = some (.astore k, q, A, B, cv)) (ha : isA v = true) (hl : st1 ls k v = ls') (h : Wp S d y q ls' (st) n f g P) : Wp S d y pc ls (v :: st) n f g P :=
  w_stp hi (by simp [knd]) (by simp [stp, ha, hl]) h
theorem w_astore_n {k : Fin 4} {v : Value} (hi : icode MCl y pc = some (.astore_n k, q, A, B, cv)) (ha : isA v = true) (hl : st1 ls k.val v = ls') (h : Wp S d y q ls' (st) n f g P) : Wp S d y pc ls (v :: st) n f g P :=
  w_stp hi (by simp [knd]) (by simp [stp, ha, hl]) h
theorem w_iinc {k : Nat} {z : Int} {x : Int32} (hi : icode MCl y pc = some (.iinc k z, q, A, B, cv)) (hx : lget ls k = some (.int x)) (hl : st1 ls k (.int (x + cv)) = ls') (h : Wp S d y q ls' (st) n f g P) : Wp S d y pc ls (st) n f g P :=
  w_stp hi (by simp [knd]) (by simp [stp, hx, hl]) h
theorem w_iconst {z : Int} (hi : icode MCl y pc = some (.iconst z, q, A, B, cv)) (h : Wp S d y q ls (.int cv :: st) n f g P) : Wp S d y pc ls (st) n f g P :=
  w_stp hi (by simp [knd]) (by simp [stp, ]) h
theorem w_bipush {z : Int} (hi : icode MCl y pc = some (.bipush z, q, A, B, cv)) (h : Wp S d y q ls (.int cv :: st) n f g P) : Wp S d y pc ls (st) n f g P :=
  w_stp hi (by simp [knd]) (by simp [stp, ]) h
theorem w_sipush {z : Int} (hi : icode MCl y pc = some (.sipush z, q, A, B, cv)) (h : Wp S d y q ls (.int cv :: st) n f g P) : Wp S d y pc ls (st) n f g P :=
  w_stp hi (by simp [knd]) (by simp [stp, ]) h
theorem w_ldc {z : Nat} (hi : icode MCl y pc = some (.ldc z, q, 0, B, cv)) (h : Wp S d y q ls (.int cv :: st) n f g P) : Wp S d y pc ls st n f g P :=
  w_stp hi (by simp [knd]) (by simp [stp]) h
theorem w_ldcs {z : Nat} (hi : icode MCl y pc = some (.ldc z, q, 1, B, cv)) (h : Wp S d y q ls (.float 1 :: st) n f g P) : Wp S d y pc ls st n f g P :=
  w_stp hi (by simp [knd]) (by simp [stp]) h
theorem w_ldc_w {z : Nat} (hi : icode MCl y pc = some (.ldc_w z, q, A, B, cv)) (h : Wp S d y q ls (.int cv :: st) n f g P) : Wp S d y pc ls (st) n f g P :=
  w_stp hi (by simp [knd]) (by simp [stp, ]) h
theorem w_ldc2 {z : Nat} (hi : icode MCl y pc = some (.ldc2_w z, q, A, B, cv)) (h : Wp S d y q ls (.long cv.toInt64 :: st) n f g P) : Wp S d y pc ls (st) n f g P :=
  w_stp hi (by simp [knd]) (by simp [stp, ]) h
theorem w_lconst {z : Fin 2} (hi : icode MCl y pc = some (.lconst z, q, A, B, cv)) (h : Wp S d y q ls (.long cv.toInt64 :: st) n f g P) : Wp S d y pc ls (st) n f g P :=
  w_stp hi (by simp [knd]) (by simp [stp, ]) h
theorem w_null (hi : icode MCl y pc = some (.aconst_null, q, A, B, cv)) (h : Wp S d y q ls (.null :: st) n f g P) : Wp S d y pc ls (st) n f g P :=
  w_stp hi (by simp [knd]) (by simp [stp, ]) h
theorem w_dup {v : Value} (hi : icode MCl y pc = some (.dup, q, A, B, cv)) (hv : v.category = 1) (h : Wp S d y q ls (v :: v :: st) n f g P) : Wp S d y pc ls (v :: st) n f g P :=
  w_stp hi (by simp [knd]) (by simp [stp, hv]) h
theorem w_dup2 {v w : Value} (hi : icode MCl y pc = some (.dup2, q, A, B, cv)) (hv : v.category = 1) (hw : w.category = 1) (h : Wp S d y q ls (v :: w :: v :: w :: st) n f g P) : Wp S d y pc ls (v :: w :: st) n f g P :=
  w_stp hi (by simp [knd]) (by simp [stp, hv, hw]) h
theorem w_pop {v : Value} (hi : icode MCl y pc = some (.pop, q, A, B, cv)) (hv : v.category = 1) (h : Wp S d y q ls (st) n f g P) : Wp S d y pc ls (v :: st) n f g P :=
  w_stp hi (by simp [knd]) (by simp [stp, hv]) h
theorem w_iadd {x y2 : Int32} (hi : icode MCl y pc = some (.iadd, q, A, B, cv)) (h : Wp S d y q ls (.int (x + y2) :: st) n f g P) : Wp S d y pc ls (.int y2 :: .int x :: st) n f g P :=
  w_stp hi (by simp [knd]) (by simp [stp, bin]) h
theorem w_isub {x y2 : Int32} (hi : icode MCl y pc = some (.isub, q, A, B, cv)) (h : Wp S d y q ls (.int (x - y2) :: st) n f g P) : Wp S d y pc ls (.int y2 :: .int x :: st) n f g P :=
  w_stp hi (by simp [knd]) (by simp [stp, bin]) h
theorem w_imul {x y2 : Int32} (hi : icode MCl y pc = some (.imul, q, A, B, cv)) (h : Wp S d y q ls (.int (x * y2) :: st) n f g P) : Wp S d y pc ls (.int y2 :: .int x :: st) n f g P :=
  w_stp hi (by simp [knd]) (by simp [stp, bin]) h
theorem w_iand {x y2 : Int32} (hi : icode MCl y pc = some (.iand, q, A, B, cv)) (h : Wp S d y q ls (.int (x &&& y2) :: st) n f g P) : Wp S d y pc ls (.int y2 :: .int x :: st) n f g P :=
  w_stp hi (by simp [knd]) (by simp [stp, bin]) h
theorem w_ior {x y2 : Int32} (hi : icode MCl y pc = some (.ior, q, A, B, cv)) (h : Wp S d y q ls (.int (x ||| y2) :: st) n f g P) : Wp S d y pc ls (.int y2 :: .int x :: st) n f g P :=
  w_stp hi (by simp [knd]) (by simp [stp, bin]) h
theorem w_ixor {x y2 : Int32} (hi : icode MCl y pc = some (.ixor, q, A, B, cv)) (h : Wp S d y q ls (.int (x ^^^ y2) :: st) n f g P) : Wp S d y pc ls (.int y2 :: .int x :: st) n f g P :=
  w_stp hi (by simp [knd]) (by simp [stp, bin]) h
theorem w_ishl {x y2 : Int32} (hi : icode MCl y pc = some (.ishl, q, A, B, cv)) (h : Wp S d y q ls (.int (x <<< (y2 &&& 31)) :: st) n f g P) : Wp S d y pc ls (.int y2 :: .int x :: st) n f g P :=
  w_stp hi (by simp [knd]) (by simp [stp, bin]) h
theorem w_ishr {x y2 : Int32} (hi : icode MCl y pc = some (.ishr, q, A, B, cv)) (h : Wp S d y q ls (.int (x >>> (y2 &&& 31)) :: st) n f g P) : Wp S d y pc ls (.int y2 :: .int x :: st) n f g P :=
  w_stp hi (by simp [knd]) (by simp [stp, bin]) h
theorem w_iushr {x y2 : Int32} (hi : icode MCl y pc = some (.iushr, q, A, B, cv)) (h : Wp S d y q ls (.int ((x.toUInt32 >>> (y2.toUInt32 &&& Int32.toUInt32 31)).toInt32) :: st) n f g P) : Wp S d y pc ls (.int y2 :: .int x :: st) n f g P :=
  w_stp hi (by simp [knd]) (by simp [stp, bin]) h
theorem w_idiv {x y2 : Int32} (hi : icode MCl y pc = some (.idiv, q, A, B, cv)) (hy : ¬ y2 = 0) (h : Wp S d y q ls (.int (x / y2) :: st) n f g P) : Wp S d y pc ls (.int y2 :: .int x :: st) n f g P :=
  w_stp hi (by simp [knd]) (by simp [stp, bin, hy]) h
theorem w_irem {x y2 : Int32} (hi : icode MCl y pc = some (.irem, q, A, B, cv)) (hy : ¬ y2 = 0) (h : Wp S d y q ls (.int (x - x / y2 * y2) :: st) n f g P) : Wp S d y pc ls (.int y2 :: .int x :: st) n f g P :=
  w_stp hi (by simp [knd]) (by simp [stp, bin, hy]) h
theorem w_ladd {x y2 : Int64} (hi : icode MCl y pc = some (.ladd, q, A, B, cv)) (h : Wp S d y q ls (.long (x + y2) :: st) n f g P) : Wp S d y pc ls (.long y2 :: .long x :: st) n f g P :=
  w_stp hi (by simp [knd]) (by simp [stp, binl]) h
theorem w_lmul {x y2 : Int64} (hi : icode MCl y pc = some (.lmul, q, A, B, cv)) (h : Wp S d y q ls (.long (x * y2) :: st) n f g P) : Wp S d y pc ls (.long y2 :: .long x :: st) n f g P :=
  w_stp hi (by simp [knd]) (by simp [stp, binl]) h
theorem w_ldiv {x y2 : Int64} (hi : icode MCl y pc = some (.ldiv, q, A, B, cv)) (hy : ¬ y2 = 0) (h : Wp S d y q ls (.long (x / y2) :: st) n f g P) : Wp S d y pc ls (.long y2 :: .long x :: st) n f g P :=
  w_stp hi (by simp [knd]) (by simp [stp, binl, hy]) h
theorem w_lrem {x y2 : Int64} (hi : icode MCl y pc = some (.lrem, q, A, B, cv)) (hy : ¬ y2 = 0) (h : Wp S d y q ls (.long (x - x / y2 * y2) :: st) n f g P) : Wp S d y pc ls (.long y2 :: .long x :: st) n f g P :=
  w_stp hi (by simp [knd]) (by simp [stp, binl, hy]) h
theorem w_lcmp {x y2 : Int64} (hi : icode MCl y pc = some (.lcmp, q, A, B, cv)) (h : Wp S d y q ls (.int (lg_cmp x y2) :: st) n f g P) : Wp S d y pc ls (.long y2 :: .long x :: st) n f g P :=
  w_stp hi (by simp [knd]) (by simp [stp, binl]) h
theorem w_i2l {x : Int32} (hi : icode MCl y pc = some (.i2l, q, A, B, cv)) (h : Wp S d y q ls (.long x.toInt64 :: st) n f g P) : Wp S d y pc ls (.int x :: st) n f g P :=
  w_stp hi (by simp [knd]) (by simp [stp, ]) h
theorem w_l2i {x : Int64} (hi : icode MCl y pc = some (.l2i, q, A, B, cv)) (h : Wp S d y q ls (.int x.toInt32 :: st) n f g P) : Wp S d y pc ls (.long x :: st) n f g P :=
  w_stp hi (by simp [knd]) (by simp [stp, ]) h
theorem w_i2c {x : Int32} (hi : icode MCl y pc = some (.i2c, q, A, B, cv)) (h : Wp S d y q ls (.int (x.toUInt32 % 65536).toInt32 :: st) n f g P) : Wp S d y pc ls (.int x :: st) n f g P :=
  w_stp hi (by simp [knd]) (by simp [stp, ]) h
theorem w_max {ix : Nat} {x y2 : Int32} (hi : icode MCl y pc = some (.invokestatic ix, q, 9997, B, cv)) (hs : Nat.ble (st.map Value.category).sum 8 = true) (h : Wp S d y q ls (.int (if x < y2 then y2 else x) :: st) n f g P) : Wp S d y pc ls (.int y2 :: .int x :: st) n f g P :=
  w_stp hi (by simp [knd]) (by simp only [stp, sMax, hs, if_true]) h
theorem w_goto {z : Int} (hi : icode MCl y pc = some (.goto z, q, A, B, cv)) (h : Wp S d y A ls (st) n f g P) : Wp S d y pc ls (st) n f g P :=
  w_stp hi (by simp [knd]) (by simp [stp, ]) h
theorem w_nnR {z : Int} {a : Nat} (hi : icode MCl y pc = some (.ifnonnull z, q, A, B, cv)) (h : Wp S d y A ls (st) n f g P) : Wp S d y pc ls (.ref a :: st) n f g P :=
  w_stp hi (by simp [knd]) (by simp [stp, ]) h
theorem w_nnN {z : Int} (hi : icode MCl y pc = some (.ifnonnull z, q, A, B, cv)) (h : Wp S d y q ls (st) n f g P) : Wp S d y pc ls (.null :: st) n f g P :=
  w_stp hi (by simp [knd]) (by simp [stp, ]) h
theorem w_icmp_eq {z : Int} {x y2 : Int32} (hi : icode MCl y pc = some (.if_icmp .eq z, q, A, B, cv)) (h1 : x = y2 → Wp S d y A ls st n f g P) (h2 : ¬ x = y2 → Wp S d y q ls st n f g P) : Wp S d y pc ls (.int y2 :: .int x :: st) n f g P := by
  by_cases hc : x = y2
  · exact w_stp hi (by simp [knd]) (by simp [stp, cnd, hc]) (h1 hc)
  · exact w_stp hi (by simp [knd]) (by simp [stp, cnd, hc]) (h2 hc)
theorem w_if_eq {z : Int} {x : Int32} (hi : icode MCl y pc = some (.ifCond .eq z, q, A, B, cv)) (h1 : x = 0 → Wp S d y A ls st n f g P) (h2 : ¬ x = 0 → Wp S d y q ls st n f g P) : Wp S d y pc ls (.int x :: st) n f g P := by
  by_cases hc : x = 0
  · exact w_stp hi (by simp [knd]) (by simp [stp, cnd, hc]) (h1 hc)
  · exact w_stp hi (by simp [knd]) (by simp [stp, cnd, hc]) (h2 hc)
theorem w_icmp_ne {z : Int} {x y2 : Int32} (hi : icode MCl y pc = some (.if_icmp .ne z, q, A, B, cv)) (h1 : ¬ x = y2 → Wp S d y A ls st n f g P) (h2 : x = y2 → Wp S d y q ls st n f g P) : Wp S d y pc ls (.int y2 :: .int x :: st) n f g P := by
  by_cases hc : x = y2
  · exact w_stp hi (by simp [knd]) (by simp [stp, cnd, hc]) (h2 hc)
  · exact w_stp hi (by simp [knd]) (by simp [stp, cnd, hc]) (h1 hc)
theorem w_if_ne {z : Int} {x : Int32} (hi : icode MCl y pc = some (.ifCond .ne z, q, A, B, cv)) (h1 : ¬ x = 0 → Wp S d y A ls st n f g P) (h2 : x = 0 → Wp S d y q ls st n f g P) : Wp S d y pc ls (.int x :: st) n f g P := by
  by_cases hc : x = 0
  · exact w_stp hi (by simp [knd]) (by simp [stp, cnd, hc]) (h2 hc)
  · exact w_stp hi (by simp [knd]) (by simp [stp, cnd, hc]) (h1 hc)
theorem w_icmp_lt {z : Int} {x y2 : Int32} (hi : icode MCl y pc = some (.if_icmp .lt z, q, A, B, cv)) (h1 : x < y2 → Wp S d y A ls st n f g P) (h2 : ¬ x < y2 → Wp S d y q ls st n f g P) : Wp S d y pc ls (.int y2 :: .int x :: st) n f g P := by
  by_cases hc : x < y2
  · exact w_stp hi (by simp [knd]) (by simp [stp, cnd, hc]) (h1 hc)
  · exact w_stp hi (by simp [knd]) (by simp [stp, cnd, hc]) (h2 hc)
theorem w_if_lt {z : Int} {x : Int32} (hi : icode MCl y pc = some (.ifCond .lt z, q, A, B, cv)) (h1 : x < 0 → Wp S d y A ls st n f g P) (h2 : ¬ x < 0 → Wp S d y q ls st n f g P) : Wp S d y pc ls (.int x :: st) n f g P := by
  by_cases hc : x < 0
  · exact w_stp hi (by simp [knd]) (by simp [stp, cnd, hc]) (h1 hc)
  · exact w_stp hi (by simp [knd]) (by simp [stp, cnd, hc]) (h2 hc)
theorem w_icmp_ge {z : Int} {x y2 : Int32} (hi : icode MCl y pc = some (.if_icmp .ge z, q, A, B, cv)) (h1 : y2 ≤ x → Wp S d y A ls st n f g P) (h2 : ¬ y2 ≤ x → Wp S d y q ls st n f g P) : Wp S d y pc ls (.int y2 :: .int x :: st) n f g P := by
  by_cases hc : y2 ≤ x
  · exact w_stp hi (by simp [knd]) (by simp [stp, cnd, hc]) (h1 hc)
  · exact w_stp hi (by simp [knd]) (by simp [stp, cnd, hc]) (h2 hc)
theorem w_if_ge {z : Int} {x : Int32} (hi : icode MCl y pc = some (.ifCond .ge z, q, A, B, cv)) (h1 : 0 ≤ x → Wp S d y A ls st n f g P) (h2 : ¬ 0 ≤ x → Wp S d y q ls st n f g P) : Wp S d y pc ls (.int x :: st) n f g P := by
  by_cases hc : 0 ≤ x
  · exact w_stp hi (by simp [knd]) (by simp [stp, cnd, hc]) (h1 hc)
  · exact w_stp hi (by simp [knd]) (by simp [stp, cnd, hc]) (h2 hc)
theorem w_icmp_gt {z : Int} {x y2 : Int32} (hi : icode MCl y pc = some (.if_icmp .gt z, q, A, B, cv)) (h1 : y2 < x → Wp S d y A ls st n f g P) (h2 : ¬ y2 < x → Wp S d y q ls st n f g P) : Wp S d y pc ls (.int y2 :: .int x :: st) n f g P := by
  by_cases hc : y2 < x
  · exact w_stp hi (by simp [knd]) (by simp [stp, cnd, hc]) (h1 hc)
  · exact w_stp hi (by simp [knd]) (by simp [stp, cnd, hc]) (h2 hc)
theorem w_if_gt {z : Int} {x : Int32} (hi : icode MCl y pc = some (.ifCond .gt z, q, A, B, cv)) (h1 : 0 < x → Wp S d y A ls st n f g P) (h2 : ¬ 0 < x → Wp S d y q ls st n f g P) : Wp S d y pc ls (.int x :: st) n f g P := by
  by_cases hc : 0 < x
  · exact w_stp hi (by simp [knd]) (by simp [stp, cnd, hc]) (h1 hc)
  · exact w_stp hi (by simp [knd]) (by simp [stp, cnd, hc]) (h2 hc)
theorem w_icmp_le {z : Int} {x y2 : Int32} (hi : icode MCl y pc = some (.if_icmp .le z, q, A, B, cv)) (h1 : x ≤ y2 → Wp S d y A ls st n f g P) (h2 : ¬ x ≤ y2 → Wp S d y q ls st n f g P) : Wp S d y pc ls (.int y2 :: .int x :: st) n f g P := by
  by_cases hc : x ≤ y2
  · exact w_stp hi (by simp [knd]) (by simp [stp, cnd, hc]) (h1 hc)
  · exact w_stp hi (by simp [knd]) (by simp [stp, cnd, hc]) (h2 hc)
theorem w_if_le {z : Int} {x : Int32} (hi : icode MCl y pc = some (.ifCond .le z, q, A, B, cv)) (h1 : x ≤ 0 → Wp S d y A ls st n f g P) (h2 : ¬ x ≤ 0 → Wp S d y q ls st n f g P) : Wp S d y pc ls (.int x :: st) n f g P := by
  by_cases hc : x ≤ 0
  · exact w_stp hi (by simp [knd]) (by simp [stp, cnd, hc]) (h1 hc)
  · exact w_stp hi (by simp [knd]) (by simp [stp, cnd, hc]) (h2 hc)
theorem w_tsw {df lo hi2 : Int} {offs : Array Int} {x : Int32} {t : Nat} (hi : icode MCl y pc = some (.tableswitch df lo hi2 offs, q, A, B, cv)) (ht : tsw pc df lo hi2 offs x = some t) (h : Wp S d y t ls (st) n f g P) : Wp S d y pc ls (.int x :: st) n f g P :=
  w_stp hi (by simp [knd]) (by simp [stp, ht]) h
theorem w_geti {ix a ci sz k : Nat} (hi : icode MCl y pc = some (.getfield ix, q, A, B, 0)) (hk : kd KKl n a = some (ci, sz)) (hA : ci < 20 ∧ ci = A / 100 ∧ A % 100 = k ∧ k < sz) (h : Wp S d y q ls (.int (f a k) :: st) n f g P) : Wp S d y pc ls (.ref a :: st) n f g P := by
  obtain ⟨h1, h2, h3, h4⟩ := hA
  subst h3
  exact w_stp hi (by simp [knd]) (by simp [stp, sGet, hk, ← h2, h1, h4]) h
theorem w_getv {ix a ci sz k : Nat} (hi : icode MCl y pc = some (.getfield ix, q, A, B, 1)) (hk : kd KKl n a = some (ci, sz)) (hA : ci < 20 ∧ ci = A / 100 ∧ A % 100 = k ∧ k < sz) (h : Wp S d y q ls (va_rf (g a k) :: st) n f g P) : Wp S d y pc ls (.ref a :: st) n f g P := by
  obtain ⟨h1, h2, h3, h4⟩ := hA
  subst h3
  exact w_stp hi (by simp [knd]) (by simp [stp, sGet, hk, ← h2, h1, h4]) h
theorem w_getr {ix a ci sz k b : Nat} (hi : icode MCl y pc = some (.getfield ix, q, A, B, 1)) (hk : kd KKl n a = some (ci, sz)) (hA : ci < 20 ∧ ci = A / 100 ∧ A % 100 = k ∧ k < sz) (hg : g a k = some b) (h : Wp S d y q ls (.ref b :: st) n f g P) : Wp S d y pc ls (.ref a :: st) n f g P := by
  obtain ⟨h1, h2, h3, h4⟩ := hA
  subst h3
  exact w_stp hi (by simp [knd]) (by simp [stp, sGet, hk, hg, va_rf, ← h2, h1, h4]) h
theorem w_puti {ix a ci sz k : Nat} {x : Int32} (hi : icode MCl y pc = some (.putfield ix, q, A, B, 0)) (hk : kd KKl n a = some (ci, sz)) (hA : ci < 20 ∧ ci = A / 100 ∧ A % 100 = k ∧ k < sz) (h : Wp S d y q ls (st) n (fup f a k x) g P) : Wp S d y pc ls (.int x :: .ref a :: st) n f g P := by
  obtain ⟨h1, h2, h3, h4⟩ := hA
  subst h3
  exact w_stp hi (by simp [knd]) (by simp [stp, sPut, hk, ← h2, h1, h4]) h
theorem w_putr {ix a ci sz k b : Nat} (hi : icode MCl y pc = some (.putfield ix, q, A, B, 1)) (hk : kd KKl n a = some (ci, sz)) (hA : ci < 20 ∧ ci = A / 100 ∧ A % 100 = k ∧ k < sz) (h : Wp S d y q ls (st) n f (gup g a k (some b)) P) : Wp S d y pc ls (.ref b :: .ref a :: st) n f g P := by
  obtain ⟨h1, h2, h3, h4⟩ := hA
  subst h3
  exact w_stp hi (by simp [knd]) (by simp [stp, sPut, hk, ← h2, h1, h4]) h
theorem w_alen {a k sz : Nat} {x : Int32} (hi : icode MCl y pc = some (.arraylength, q, A, B, cv)) (hk : kd KKl n a = some (k, sz)) (h20 : 20 ≤ k) (hv : Int32.ofNat sz = x) (h : Wp S d y q ls (.int x :: st) n f g P) : Wp S d y pc ls (.ref a :: st) n f g P :=
  w_stp hi (by simp [knd]) (by simp [stp, sALen, hk, h20, hv]) h
theorem w_slen (hi : icode MCl y pc = some (.arraylength, q, A, B, cv)) (h : Wp S d y q ls (.int (Int32.ofNat S.2) :: st) n f g P) : Wp S d y pc ls (.float 0 :: st) n f g P :=
  w_stp hi (by simp [knd]) (by simp [stp, sALen]) h
theorem w_blen (hi : icode MCl y pc = some (.arraylength, q, A, B, cv)) (h : Wp S d y q ls (.int 99 :: st) n f g P) : Wp S d y pc ls (.float 2 :: st) n f g P :=
  w_stp hi (by simp [knd]) (by simp [stp, sALen]) h
theorem w_ixn {x : Int32} {j sz : Nat} (hz : ¬ x < 0) (hj : x.toNatClampNeg = j) (hs : j < sz) : ¬ (x < 0 ∨ sz ≤ x.toNatClampNeg) := by
  rintro (h | h)
  · exact hz h
  · omega
theorem w_iald {a sz j : Nat} {x : Int32} (hi : icode MCl y pc = some (.iaload, q, A, B, cv)) (hk : kd KKl n a = some (20, sz)) (hz : ¬ x < 0) (hj : x.toNatClampNeg = j) (hs : j < sz) (h : Wp S d y q ls (.int (f a j) :: st) n f g P) : Wp S d y pc ls (.int x :: .ref a :: st) n f g P := by
  have hx := w_ixn hz hj hs
  subst hj
  exact w_stp hi (by simp [knd]) (by simp only [stp, sIald, hk, hx, not_false_eq_true, and_self, if_true, and_true, true_and]) h
theorem w_iast {a sz j : Nat} {x w : Int32} (hi : icode MCl y pc = some (.iastore, q, A, B, cv)) (hk : kd KKl n a = some (20, sz)) (hz : ¬ x < 0) (hj : x.toNatClampNeg = j) (hs : j < sz) (h : Wp S d y q ls (st) n (fup f a j w) g P) : Wp S d y pc ls (.int w :: .int x :: .ref a :: st) n f g P := by
  have hx := w_ixn hz hj hs
  subst hj
  exact w_stp hi (by simp [knd]) (by simp only [stp, sIast, hk, hx, not_false_eq_true, and_self, if_true, and_true, true_and]) h
theorem w_sld {j : Nat} {x : Int32} (hi : icode MCl y pc = some (.iaload, q, A, B, cv)) (hz : ¬ x < 0) (hj : x.toNatClampNeg = j) (hs : j < S.2) (h : Wp S d y q ls (.int (S.1 j) :: st) n f g P) : Wp S d y pc ls (.int x :: .float 0 :: st) n f g P := by
  have hx := w_ixn hz hj hs
  subst hj
  exact w_stp hi (by simp [knd]) (by simp only [stp, sIald, hx, not_false_eq_true, and_self, if_true]) h
theorem w_bld {j : Nat} {x : Int32} (hi : icode MCl y pc = some (.baload, q, A, B, cv)) (hz : ¬ x < 0) (hj : x.toNatClampNeg = j) (hs : j < 99) (h : Wp S d y q ls (.int (strB.getD j 0) :: st) n f g P) : Wp S d y pc ls (.int x :: .float 2 :: st) n f g P := by
  have hx := w_ixn hz hj hs
  subst hj
  exact w_stp hi (by simp [knd]) (by simp only [stp, sBald, hx, not_false_eq_true, and_self, if_true]) h
theorem w_aald {a k sz j b : Nat} {x : Int32} (hi : icode MCl y pc = some (.aaload, q, A, B, cv)) (hk : kd KKl n a = some (k, sz)) (h20 : 20 < k) (hz : ¬ x < 0) (hj : x.toNatClampNeg = j) (hs : j < sz) (hg : g a j = some b) (h : Wp S d y q ls (.ref b :: st) n f g P) : Wp S d y pc ls (.int x :: .ref a :: st) n f g P := by
  have hx := w_ixn hz hj hs
  subst hj
  exact w_stp hi (by simp [knd]) (by simp only [stp, sAald, hk, h20, hx, not_false_eq_true, and_self, if_true, hg, va_rf]) h
theorem w_aast {a v k sz j sv : Nat} {x : Int32} (hi : icode MCl y pc = some (.aastore, q, A, B, cv)) (hk : kd KKl n a = some (k, sz)) (hv : kd KKl n v = some (elK k, sv)) (h20 : k = 21 ∨ k = 22) (hz : ¬ x < 0) (hj : x.toNatClampNeg = j) (hs : j < sz) (h : Wp S d y q ls st n f (gup g a j (some v)) P) : Wp S d y pc ls (.ref v :: .int x :: .ref a :: st) n f g P := by
  have hx := w_ixn hz hj hs
  subst hj
  exact w_stp hi (by simp [knd]) (by simp only [stp, sAast, hk, hv, h20, hx, not_false_eq_true, and_self, if_true]) h
theorem w_new {ix sz : Nat} (hi : icode MCl y pc = some (.new ix, q, A, B, cv)) (hk : KKl[n]? = some (A, sz)) (hA : A < 20) (h : Wp S d y q ls (.ref n :: st) (n + 1) f g P) : Wp S d y pc ls st n f g P :=
  w_stp hi (by simp [knd]) (by simp [stp, sNewO, hk, hA]) h
theorem w_newa {t : ArrayType} {x : Int32} {sz : Nat} (hi : icode MCl y pc = some (.newarray t, q, A, B, cv)) (hx : ¬ x < 0 ∧ x.toNatClampNeg ≤ 1000) (hs : x.toNatClampNeg = sz) (hk : KKl[n]? = some (20, sz)) (h : Wp S d y q ls (.ref n :: st) (n + 1) f g P) : Wp S d y pc ls (.int x :: st) n f g P := by
  subst hs
  exact w_stp hi (by simp [knd]) (by simp only [stp, sNewA, sNew, hx, hk, not_false_eq_true, and_self, if_true]) h
theorem w_anewa {ix : Nat} {x : Int32} {sz : Nat} (hi : icode MCl y pc = some (.anewarray ix, q, A, B, cv)) (hx : ¬ x < 0 ∧ x.toNatClampNeg ≤ 1000) (hs : x.toNatClampNeg = sz) (hk : KKl[n]? = some (A, sz)) (h : Wp S d y q ls (.ref n :: st) (n + 1) f g P) : Wp S d y pc ls (.int x :: st) n f g P := by
  subst hs
  exact w_stp hi (by simp [knd]) (by simp only [stp, sNewA, sNew, hx, hk, not_false_eq_true, and_self, if_true]) h
theorem w_strv {ix : Nat} (hi : icode MCl y pc = some (.getfield ix, q, 9000, B, cv)) (h : Wp S d y q ls (.float 2 :: st) n f g P) : Wp S d y pc ls (.float 1 :: st) n f g P :=
  w_stp hi (by simp [knd]) (by simp [stp, sGet]) h
theorem w_strc {ix : Nat} (hi : icode MCl y pc = some (.getfield ix, q, 9001, B, cv)) (h : Wp S d y q ls (.int 0 :: st) n f g P) : Wp S d y pc ls (.float 1 :: st) n f g P :=
  w_stp hi (by simp [knd]) (by simp [stp, sGet]) h
theorem w_gs0 {ix : Nat} (hi : icode MCl y pc = some (.getstatic ix, q, 0, B, cv)) (h : Wp S d y q ls (.int 1 :: st) n f g P) : Wp S d y pc ls st n f g P :=
  w_stp hi (by simp [knd]) (by simp [stp]) h
theorem w_gs1 {ix : Nat} (hi : icode MCl y pc = some (.getstatic ix, q, 1, B, cv)) (h : Wp S d y q ls (.float 3 :: st) n f g P) : Wp S d y pc ls st n f g P :=
  w_stp hi (by simp [knd]) (by simp [stp]) h
/-- exactly this end -/
def Is (v0 : Option Value) (n0 : Nat) (f0 : FF) (g0 : GG) : Option Value → Nat → FF → GG → Prop := fun v n f g => v = v0 ∧ n = n0 ∧ f = f0 ∧ g = g0
theorem w_iret {mt : Mth} {x : Int32} (hi : icode MCl y pc = some (.ireturn, q, A, B, cv)) (hm : MTl[y]? = some mt) (ty : FieldType) (hr : mt.2.2.2.1 = some ty) (hn : narrow ty (.int x) = .int x) (h : P (some (.int x)) n f g) : Wp S d y pc ls [.int x] n f g P :=
  w_ret hi (by simp [knd]) hm (by simp [rets, hr, hn]) h
theorem w_lret {mt : Mth} {x : Int64} (hi : icode MCl y pc = some (.lreturn, q, A, B, cv)) (hm : MTl[y]? = some mt) (hr : mt.2.2.2.1 = some .long) (h : P (some (.long x)) n f g) : Wp S d y pc ls [.long x] n f g P :=
  w_ret hi (by simp [knd]) hm (by simp [rets, hr]) h
theorem w_aret {mt : Mth} {a : Nat} {s : String} (hi : icode MCl y pc = some (.areturn, q, A, B, cv)) (hm : MTl[y]? = some mt) (hr : mt.2.2.2.1 = some (.object s)) (h : P (some (.ref a)) n f g) : Wp S d y pc ls [.ref a] n f g P :=
  w_ret hi (by simp [knd]) hm (by simp [rets, hr]) h
theorem w_vret {mt : Mth} (hi : icode MCl y pc = some (.return_, q, A, B, cv)) (hm : MTl[y]? = some mt) (hr : mt.2.2.2.1 = none) (h : P none n f g) : Wp S d y pc ls [] n f g P :=
  w_ret hi (by simp [knd]) hm (by simp [rets, hr]) h
theorem w_obj0 {ix a : Nat} {rest : List Value} (hi : icode MCl y pc = some (.invokespecial ix, q, 9999, B, cv)) (hs : Nat.ble (rest.map Value.category).sum 8 = true) (h : Wp S (d + 1) y q ls rest n f g P) : Wp S (d + 1) y pc ls (.ref a :: rest) n f g P :=
  w_obj hi (by simp [knd]) hs h
/-- a call's fixed conditions -/
def mOk (mt : Mth) (na : Nat) (stat : Bool) (as rest : List Value) : Bool := decide (mt.2.2.2.2.1 = na) && (mt.2.2.2.2.2.1 == stat) && Nat.ble (rest.map Value.category).sum 8 && Nat.ble (entL1 as).length mt.2.2.1
theorem mOk_spec {mt : Mth} {na : Nat} {stat : Bool} {as rest : List Value} (h : mOk mt na stat as rest = true) : mt.2.2.2.2.1 = na ∧ mt.2.2.2.2.2.1 = stat ∧ Nat.ble (rest.map Value.category).sum 8 = true ∧ (entL1 as).length ≤ mt.2.2.1 := by
  simp only [mOk, Bool.and_eq_true, decide_eq_true_eq, beq_iff_eq] at h
  exact ⟨h.1.1.1, h.1.1.2, h.1.2, Nat.le_of_ble_eq_true h.2⟩
theorem callS_ok {e : Ent} {ix : Nat} {mt : Mth} {as rest st : List Value} (he : e.1 = .invokestatic ix) (hst : st = as.reverse ++ rest) (hm : mOk mt as.length true as rest = true) : callA KKl e mt st n = some (as, rest) := by
  obtain ⟨h1, h2, h3, h4⟩ := mOk_spec hm
  subst hst
  have e1 : (as.reverse ++ rest).take mt.2.2.2.2.1 = as.reverse := by rw [h1, ← List.length_reverse (as := as)]; exact List.take_left
  have e2 : (as.reverse ++ rest).drop mt.2.2.2.2.1 = rest := by rw [h1, ← List.length_reverse (as := as)]; exact List.drop_left
  have e3 : mt.2.2.2.2.1 ≤ (as.reverse ++ rest).length := by rw [h1, List.length_append, List.length_reverse]; omega
  unfold callA
  rw [e1, e2, List.reverse_reverse, if_pos ⟨e3, h3, h4⟩, he]
  simp [h2]
theorem callV_ok {e : Ent} {ix a ci sz : Nat} {mt : Mth} {as rest st : List Value} (he : e.1 = .invokevirtual ix) (hk : kd KKl n a = some (ci, sz)) (hci : ci = mt.2.2.2.2.2.2 ∧ ci < 20) (hst : st = as.reverse ++ .ref a :: rest) (hm : mOk mt (as.length + 1) false (.ref a :: as) rest = true) : callA KKl e mt st n = some (.ref a :: as, rest) := by
  obtain ⟨h1, h2, h3, h4⟩ := mOk_spec hm
  have hst' : st = (Value.ref a :: as).reverse ++ rest := by rw [hst]; simp
  subst hst'
  have hl : (Value.ref a :: as).reverse.length = mt.2.2.2.2.1 := by rw [h1]; simp
  have e1 : ((Value.ref a :: as).reverse ++ rest).take mt.2.2.2.2.1 = (Value.ref a :: as).reverse := by rw [← hl]; exact List.take_left
  have e2 : ((Value.ref a :: as).reverse ++ rest).drop mt.2.2.2.2.1 = rest := by rw [← hl]; exact List.drop_left
  have e3 : mt.2.2.2.2.1 ≤ ((Value.ref a :: as).reverse ++ rest).length := by rw [← hl, List.length_append]; omega
  unfold callA
  rw [e1, e2, List.reverse_reverse, if_pos ⟨e3, h3, h4⟩, he]
  obtain ⟨rfl, hc2⟩ := hci
  simp [h2, recOk, hk, hc2]
theorem callI_ok {e : Ent} {ix a ci sz : Nat} {mt : Mth} {as rest st : List Value} (he : e.1 = .invokespecial ix) (hk : kd KKl n a = some (ci, sz)) (hci : ci = mt.2.2.2.2.2.2 ∧ ci < 20 ∧ mt.1.name = "<init>" ∧ mt.2.2.2.1 = none) (hst : st = as.reverse ++ .ref a :: rest) (hm : mOk mt (as.length + 1) false (.ref a :: as) rest = true) : callA KKl e mt st n = some (.ref a :: as, rest) := by
  obtain ⟨h1, h2, h3, h4⟩ := mOk_spec hm
  have hst' : st = (Value.ref a :: as).reverse ++ rest := by rw [hst]; simp
  subst hst'
  have hl : (Value.ref a :: as).reverse.length = mt.2.2.2.2.1 := by rw [h1]; simp
  have e1 : ((Value.ref a :: as).reverse ++ rest).take mt.2.2.2.2.1 = (Value.ref a :: as).reverse := by rw [← hl]; exact List.take_left
  have e2 : ((Value.ref a :: as).reverse ++ rest).drop mt.2.2.2.2.1 = rest := by rw [← hl]; exact List.drop_left
  have e3 : mt.2.2.2.2.1 ≤ ((Value.ref a :: as).reverse ++ rest).length := by rw [← hl, List.length_append]; omega
  unfold callA
  rw [e1, e2, List.reverse_reverse, if_pos ⟨e3, h3, h4⟩, he]
  obtain ⟨rfl, hc2, hc3, hc4⟩ := hci
  simp [h2, recOk, hk, hc2, hc3, hc4]
section CALLS
variable {ix a ci sz n0 : Nat} {mt : Mth} {as rest : List Value} {ls0 : LL} {w : Value} {f0 : FF} {g0 : GG} {Pc : Option Value → Nat → FF → GG → Prop}
/-- static calls: an answer, none, any -/
theorem w_sI (hi : icode MCl y pc = some (.invokestatic ix, q, A, B, cv)) (hA : A ≠ 9997) (hm : MTl[A]? = some mt) (as : List Value) (hst : st = as.reverse ++ rest) (ho : mOk mt as.length true as rest = true) (hl : entL as mt.2.2.1 = ls0) (h1 : Wp S d A 0 ls0 [] n f g (Is (some w) n0 f0 g0)) (h2 : Wp S (d + 1) y q ls (w :: rest) n0 f0 g0 P) : Wp S (d + 1) y pc ls st n f g P :=
  w_call hi (by simp [knd, hA]) hm (callS_ok rfl hst ho) hl h1 (by rintro v n' f' g' ⟨rfl, rfl, rfl, rfl⟩; exact h2)
theorem w_sV (hi : icode MCl y pc = some (.invokestatic ix, q, A, B, cv)) (hA : A ≠ 9997) (hm : MTl[A]? = some mt) (as : List Value) (hst : st = as.reverse ++ rest) (ho : mOk mt as.length true as rest = true) (hl : entL as mt.2.2.1 = ls0) (h1 : Wp S d A 0 ls0 [] n f g (Is none n0 f0 g0)) (h2 : Wp S (d + 1) y q ls rest n0 f0 g0 P) : Wp S (d + 1) y pc ls st n f g P :=
  w_call hi (by simp [knd, hA]) hm (callS_ok rfl hst ho) hl h1 (by rintro v n' f' g' ⟨rfl, rfl, rfl, rfl⟩; exact h2)
theorem w_sA (hi : icode MCl y pc = some (.invokestatic ix, q, A, B, cv)) (hA : A ≠ 9997) (hm : MTl[A]? = some mt) (as : List Value) (hst : st = as.reverse ++ rest) (ho : mOk mt as.length true as rest = true) (hl : entL as mt.2.2.1 = ls0) (h1 : Wp S d A 0 ls0 [] n f g Pc) (h2 : ∀ v n' f' g', Pc v n' f' g' → Wp S (d + 1) y q ls (v.toList ++ rest) n' f' g' P) : Wp S (d + 1) y pc ls st n f g P :=
  w_call hi (by simp [knd, hA]) hm (callS_ok rfl hst ho) hl h1 h2
/-- calls of an object's methods -/
theorem w_vI (hi : icode MCl y pc = some (.invokevirtual ix, q, A, B, cv)) (hm : MTl[A]? = some mt) (hk : kd KKl n a = some (ci, sz)) (hci : ci = mt.2.2.2.2.2.2 ∧ ci < 20) (as : List Value) (hst : st = as.reverse ++ .ref a :: rest) (ho : mOk mt (as.length + 1) false (.ref a :: as) rest = true) (hl : entL (.ref a :: as) mt.2.2.1 = ls0) (h1 : Wp S d A 0 ls0 [] n f g (Is (some w) n0 f0 g0)) (h2 : Wp S (d + 1) y q ls (w :: rest) n0 f0 g0 P) : Wp S (d + 1) y pc ls st n f g P :=
  w_call hi (by simp [knd]) hm (callV_ok rfl hk hci hst ho) hl h1 (by rintro v n' f' g' ⟨rfl, rfl, rfl, rfl⟩; exact h2)
theorem w_vV (hi : icode MCl y pc = some (.invokevirtual ix, q, A, B, cv)) (hm : MTl[A]? = some mt) (hk : kd KKl n a = some (ci, sz)) (hci : ci = mt.2.2.2.2.2.2 ∧ ci < 20) (as : List Value) (hst : st = as.reverse ++ .ref a :: rest) (ho : mOk mt (as.length + 1) false (.ref a :: as) rest = true) (hl : entL (.ref a :: as) mt.2.2.1 = ls0) (h1 : Wp S d A 0 ls0 [] n f g (Is none n0 f0 g0)) (h2 : Wp S (d + 1) y q ls rest n0 f0 g0 P) : Wp S (d + 1) y pc ls st n f g P :=
  w_call hi (by simp [knd]) hm (callV_ok rfl hk hci hst ho) hl h1 (by rintro v n' f' g' ⟨rfl, rfl, rfl, rfl⟩; exact h2)
theorem w_vA (hi : icode MCl y pc = some (.invokevirtual ix, q, A, B, cv)) (hm : MTl[A]? = some mt) (hk : kd KKl n a = some (ci, sz)) (hci : ci = mt.2.2.2.2.2.2 ∧ ci < 20) (as : List Value) (hst : st = as.reverse ++ .ref a :: rest) (ho : mOk mt (as.length + 1) false (.ref a :: as) rest = true) (hl : entL (.ref a :: as) mt.2.2.1 = ls0) (h1 : Wp S d A 0 ls0 [] n f g Pc) (h2 : ∀ v n' f' g', Pc v n' f' g' → Wp S (d + 1) y q ls (v.toList ++ rest) n' f' g' P) : Wp S (d + 1) y pc ls st n f g P :=
  w_call hi (by simp [knd]) hm (callV_ok rfl hk hci hst ho) hl h1 h2
theorem w_iV (hi : icode MCl y pc = some (.invokespecial ix, q, A, B, cv)) (hA : A ≠ 9999) (hm : MTl[A]? = some mt) (hk : kd KKl n a = some (ci, sz)) (hci : ci = mt.2.2.2.2.2.2 ∧ ci < 20 ∧ mt.1.name = "<init>" ∧ mt.2.2.2.1 = none) (as : List Value) (hst : st = as.reverse ++ .ref a :: rest) (ho : mOk mt (as.length + 1) false (.ref a :: as) rest = true) (hl : entL (.ref a :: as) mt.2.2.1 = ls0) (h1 : Wp S d A 0 ls0 [] n f g (Is none n0 f0 g0)) (h2 : Wp S (d + 1) y q ls rest n0 f0 g0 P) : Wp S (d + 1) y pc ls st n f g P :=
  w_call hi (by simp [knd, hA]) hm (callI_ok rfl hk hci hst ho) hl h1 (by rintro v n' f' g' ⟨rfl, rfl, rfl, rfl⟩; exact h2)
theorem w_iA (hi : icode MCl y pc = some (.invokespecial ix, q, A, B, cv)) (hA : A ≠ 9999) (hm : MTl[A]? = some mt) (hk : kd KKl n a = some (ci, sz)) (hci : ci = mt.2.2.2.2.2.2 ∧ ci < 20 ∧ mt.1.name = "<init>" ∧ mt.2.2.2.1 = none) (as : List Value) (hst : st = as.reverse ++ .ref a :: rest) (ho : mOk mt (as.length + 1) false (.ref a :: as) rest = true) (hl : entL (.ref a :: as) mt.2.2.1 = ls0) (h1 : Wp S d A 0 ls0 [] n f g Pc) (h2 : ∀ v n' f' g', Pc v n' f' g' → Wp S (d + 1) y q ls (v.toList ++ rest) n' f' g' P) : Wp S (d + 1) y pc ls st n f g P :=
  w_call hi (by simp [knd, hA]) hm (callI_ok rfl hk hci hst ho) hl h1 h2
end CALLS
end OPS
