/-! ===== smaller rules ===== -/
def qFuel : Nat := 10000
def qd0 : UInt64 := FP.dconst0
def qd1 : UInt64 := FP.dconst1
theorem st_all : ∀ h, h < 295 → kd h = 1 → ∀ j, j < 22 → h + j < 294 ∧ kd (h + j) = (qStL.getD j (0, 0)).1 ∧ ln (h + j) = (qStL.getD j (0, 0)).2 := by decide +kernel
theorem st_n {E : Ev} {h : Nat} (k : kd h = 1) (hN : 295 ≤ eN E) (j : Nat) (hj : j < 22) : h + j < eN E := by
  have := (st_all h (kd1_lt k) k j hj).1
  omega
theorem st_kd {h : Nat} (k : kd h = 1) (j : Nat) (hj : j < 22) : kd (h + j) = (qStL.getD j (0, 0)).1 := (st_all h (kd1_lt k) k j hj).2.1
theorem st_ln {h : Nat} (k : kd h = 1) (j : Nat) (hj : j < 22) : ln (h + j) = (qStL.getD j (0, 0)).2 := (st_all h (kd1_lt k) k j hj).2.2
theorem tb_all : ∀ h, h < 296 → kd h = 2 → h + 1 < 294 ∧ kd (h + 1) = 6 := by decide +kernel
theorem kd_lt {h : Nat} (k : kd h < 99) : h < 296 := by
  rcases Nat.lt_or_ge h 296 with h2 | h2
  · exact h2
  · exfalso
    unfold kd at k
    rw [List.getD_eq_getElem?_getD, List.getElem?_eq_none (by rw [qShp_len]; exact h2)] at k
    exact absurd k (by decide)
theorem tb_n0 {E : Ev} {h : Nat} (k : kd h = 2) (hN : 295 ≤ eN E) : h < eN E := by
  have := (tb_all h (kd_lt (by omega)) k).1
  omega
theorem tb_n1 {E : Ev} {h : Nat} (k : kd h = 2) (hN : 295 ≤ eN E) : h + 1 < eN E := by
  have := (tb_all h (kd_lt (by omega)) k).1
  omega
theorem tb_kd {h : Nat} (k : kd h = 2) : kd (h + 1) = 6 := (tb_all h (kd_lt (by omega)) k).2
theorem qn_l {E : Ev} (i : Nat) (h : i < 295) {N : Nat} (hN : N ≤ eN E) (h2 : 295 ≤ N := by decide) : i < eN E := by omega
theorem zb_ex2 {x r : Int32} (h : zb x = some r) : narrow .boolean (.int r) = .int r ∧ x = r := by
  have h2 := zb_ex h
  unfold zb at h
  exact ⟨h2, (ifs_some h).2⟩
theorem sw_out7 {x : Int32} (h0 : ¬ x = 0) (h1 : ¬ x = 1) (h2 : ¬ x = 2) (h3 : ¬ x = 3) (h4 : ¬ x = 4) (h5 : ¬ x = 5) (h6 : ¬ x = 6) (h7 : ¬ x = 7) : x.toInt < 0 ∨ 7 < x.toInt := by
  rcases Int.lt_or_le x.toInt 0 with h | h
  · exact Or.inl h
  rcases Int.lt_or_le 7 x.toInt with h' | h'
  · exact Or.inr h'
  exfalso
  have key : ∀ n : Int32, x.toInt = n.toInt → x = n := fun n hn => Int32.toInt_inj.mp hn
  rcases (show x.toInt = 0 ∨ x.toInt = 1 ∨ x.toInt = 2 ∨ x.toInt = 3 ∨ x.toInt = 4 ∨ x.toInt = 5 ∨ x.toInt = 6 ∨ x.toInt = 7 by omega) with q | q | q | q | q | q | q | q
  · exact h0 (key 0 (by rw [q]; rfl))
  · exact h1 (key 1 (by rw [q]; rfl))
  · exact h2 (key 2 (by rw [q]; rfl))
  · exact h3 (key 3 (by rw [q]; rfl))
  · exact h4 (key 4 (by rw [q]; rfl))
  · exact h5 (key 5 (by rw [q]; rfl))
  · exact h6 (key 6 (by rw [q]; rfl))
  · exact h7 (key 7 (by rw [q]; rfl))
section QR
variable {E : Ev} {p : Program} {l : Launch} {e : Env} {R : Room} {s : State} {m : MethodId} {args : Array Value} {below : List Frame} {meth : Method} {c : Code} {k n nL : Nat} {Q : State → Prop} {cc : ByteArray} {own : String} {pc : Nat} {lv lv' : List (Nat × Value)} {rest st : List Value} {μ μ' : Mm}
theorem gq_join {k' n' pc' : Nat} {st' : List Value} (h1 : Gq E p l e R s m args below meth c k' n' nL Q pc' lv' st' μ') (h2 : Gq E p l e R s m args below meth c k' n' nL Q pc' lv' st' μ' → Gq E p l e R s m args below meth c k n nL Q pc lv st μ) : Gq E p l e R s m args below meth c k n nL Q pc lv st μ := h2 h1
theorem gq_idivE (C : Cq E p s m args meth c cc nL own) {x y z : Int32} (d : decode cc pc = .ok (.idiv, 1)) (hne : ¬ y = 0) (hz : x / y = z) (kk : Gq E p l e R s m args below meth c k n nL Q (pc + 1) lv (.int z :: rest) μ) : Gq E p l e R s m args below meth c k n nL Q pc lv (.int y :: .int x :: rest) μ := gq_idiv C d hne (hz ▸ kk)
theorem gq_iremE (C : Cq E p s m args meth c cc nL own) {x y z : Int32} (d : decode cc pc = .ok (.irem, 1)) (hne : ¬ y = 0) (hz : x - x / y * y = z) (kk : Gq E p l e R s m args below meth c k n nL Q (pc + 1) lv (.int z :: rest) μ) : Gq E p l e R s m args below meth c k n nL Q pc lv (.int y :: .int x :: rest) μ := gq_irem C d hne (hz ▸ kk)
theorem gq_ddivE (C : Cq E p s m args meth c cc nL own) {x y z : UInt64} (d : decode cc pc = .ok (.ddiv, 1)) (hne : FP.ddiv x y &&& 0x7fffffffffffffff ≤ 0x7ff0000000000000) (hz : FP.ddiv x y = z) (kk : Gq E p l e R s m args below meth c k n nL Q (pc + 1) lv (.double z :: rest) μ) : Gq E p l e R s m args below meth c k n nL Q pc lv (.double y :: .double x :: rest) μ := gq_ddiv C d hne (hz ▸ kk)
theorem gq_dconst0 (C : Cq E p s m args meth c cc nL own) (d : decode cc pc = .ok (.dconst 0, 1)) (kk : Gq E p l e R s m args below meth c k n nL Q (pc + 1) lv (.double qd0 :: rest) μ) : Gq E p l e R s m args below meth c k n nL Q pc lv rest μ := fun H locs ls hH hS hl => lv_dconst0 C.1 C.2.1 d (kk H locs ls hH hS hl)
theorem gq_dconst1 (C : Cq E p s m args meth c cc nL own) (d : decode cc pc = .ok (.dconst 1, 1)) (kk : Gq E p l e R s m args below meth c k n nL Q (pc + 1) lv (.double qd1 :: rest) μ) : Gq E p l e R s m args below meth c k n nL Q pc lv rest μ := fun H locs ls hH hS hl => lv_dconst1 C.1 C.2.1 d (kk H locs ls hH hS hl)
theorem gq_mmax (C : Cq E p s m args meth c cc nL own) {index : Nat} {x y : Int32} (w1 : Cond.methodLink own index Lib.Math.max.name ∈ GW) (w2 : Cond.static Lib.Math.max.name ∈ GW) (w3 : Cond.initialized "java/lang/Math" ∈ GW) (w4 : Cond.code Lib.Math.max.name Lib.Math.max.code 2 (some .int) ∈ GW) (hf : 1 ≤ R.frames) (hlo : (rest.map fun v => v.category).sum + 13 ≤ R.locals) (hc : k ≤ R.cells) (hs : n ≤ R.slots) (d : decode cc pc = .ok (.invokestatic index, 3)) (kk : Gq E p l e R s m args below meth c k n nL Q (pc + 3) lv (.int (if x < y then y else x) :: rest) μ) : Gq E p l e R s m args below meth c k n nL Q pc lv (.int y :: .int x :: rest) μ := fun H locs ls hH hS hl => va_mmax C.1 C.2.1 (C.2.2.1.trans hl.1.symm) C.2.2.2.1 (C.2.2.2.2.1 _ w1) (C.2.2.2.2.1 _ w2) (C.2.2.2.2.1 _ w3) (C.2.2.2.2.1 _ w4) hf hlo hc hs d (kk H locs ls hH hS hl)
theorem gq_mmin (C : Cq E p s m args meth c cc nL own) {index : Nat} {x y : Int32} (w1 : Cond.methodLink own index Lib.Math.min.name ∈ GW) (w2 : Cond.static Lib.Math.min.name ∈ GW) (w3 : Cond.initialized "java/lang/Math" ∈ GW) (w4 : Cond.code Lib.Math.min.name Lib.Math.min.code 2 (some .int) ∈ GW) (hf : 1 ≤ R.frames) (hlo : (rest.map fun v => v.category).sum + 13 ≤ R.locals) (hc : k ≤ R.cells) (hs : n ≤ R.slots) (d : decode cc pc = .ok (.invokestatic index, 3)) (kk : Gq E p l e R s m args below meth c k n nL Q (pc + 3) lv (.int (if y < x then y else x) :: rest) μ) : Gq E p l e R s m args below meth c k n nL Q pc lv (.int y :: .int x :: rest) μ := fun H locs ls hH hS hl => va_mmin C.1 C.2.1 (C.2.2.1.trans hl.1.symm) C.2.2.2.1 (C.2.2.2.2.1 _ w1) (C.2.2.2.2.1 _ w2) (C.2.2.2.2.1 _ w3) (C.2.2.2.2.1 _ w4) hf hlo hc hs d (kk H locs ls hH hS hl)
theorem gq_ldcS (C : Cq E p s m args meth c cc nL own) {index j : Nat} {tx : String} (hq : (own, index, tx, j) ∈ qLits) (d : decode cc pc = .ok (.ldc index, 2)) (kk : Gq E p l e R s m args below meth c k n nL Q (pc + 2) lv (.ref (eK E j) :: rest) μ) : Gq E p l e R s m args below meth c k n nL Q pc lv rest μ := fun H locs ls hH hS hl => va_ldcS C.1 C.2.1 C.2.2.2.1 (C.2.2.2.2.2.2.2.2.1 _ hq) d (kk H locs ls hH hS hl)
end QR
