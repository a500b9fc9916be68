/-! ===== arrays ===== -/
def inb (i : Int32) (n : Nat) : Bool := decide (0 ≤ i) && decide (i.toNatClampNeg < n)
theorem inb_in {i : Int32} {n : Nat} (h : inb i n = true) : vp_in i n := by
  obtain ⟨h1, h2⟩ := Bool.and_eq_true_iff.mp h
  have h1 := of_decide_eq_true h1
  have h2 := of_decide_eq_true h2
  intro h
  rcases h with h | h
  · rw [Int32.lt_iff_toInt_lt] at h; rw [Int32.le_iff_toInt_le] at h1; omega
  · omega
/-- reading and writing a row at a place: none where the place is outside -/
def aI (μ : Mm) (a : Nat) (i : Int32) : Option Int32 := if inb i (ln a) = true then some (μ.1 a i.toNatClampNeg) else none
def aL (μ : Mm) (a : Nat) (i : Int32) : Option Int64 := if inb i (ln a) = true then some (μ.2.1 a i.toNatClampNeg) else none
def sI (μ : Mm) (a : Nat) (i v : Int32) : Option Mm := if inb i (ln a) = true then some (uI μ a i.toNatClampNeg v) else none
def sB (μ : Mm) (a : Nat) (i v : Int32) : Option Mm := if inb i (ln a) = true then some (uI μ a i.toNatClampNeg (vp_nar .byte v)) else none
def sZ (μ : Mm) (a : Nat) (i v : Int32) : Option Mm := if inb i (ln a) = true then some (uI μ a i.toNatClampNeg (vp_nar .boolean v)) else none
def sL (μ : Mm) (a : Nat) (i : Int32) (v : Int64) : Option Mm := if inb i (ln a) = true then some (uL μ a i.toNatClampNeg v) else none
/-- a state out of a row of states, and into it -/
def aR (μ : Mm) (a : Nat) (i : Int32) : Option Nat := if inb i (ln a) = true ∧ kd (μ.1 a i.toNatClampNeg).toNatClampNeg = 1 then some (μ.1 a i.toNatClampNeg).toNatClampNeg else none
def sR (μ : Mm) (a : Nat) (i : Int32) (v : Nat) : Option Mm := if inb i (ln a) = true ∧ kd v = 1 then some (uI μ a i.toNatClampNeg (nI v)) else none
def cpOk (a b : Nat) (sp dp n : Int32) : Bool := decide (0 ≤ sp) && (decide (0 ≤ dp) && (decide (0 ≤ n) && (decide (sp.toNatClampNeg + n.toNatClampNeg ≤ ln a) && decide (dp.toNatClampNeg + n.toNatClampNeg ≤ ln b))))
def yI (μ : Mm) (a : Nat) (sp : Int32) (b : Nat) (dp n : Int32) : Option Mm := if cpOk a b sp dp n = true then some (cpI μ a sp.toNatClampNeg b dp.toNatClampNeg n.toNatClampNeg) else none
def yL (μ : Mm) (a : Nat) (sp : Int32) (b : Nat) (dp n : Int32) : Option Mm := if cpOk a b sp dp n = true then some (cpL μ a sp.toNatClampNeg b dp.toNatClampNeg n.toNatClampNeg) else none
def yR (μ : Mm) (a : Nat) (sp : Int32) (b : Nat) (dp n : Int32) : Option Mm := if cpOk a b sp dp n = true ∧ ∀ i, i < n.toNatClampNeg → kd (μ.1 a (sp.toNatClampNeg + i)).toNatClampNeg = 1 then some (cpI μ a sp.toNatClampNeg b dp.toNatClampNeg n.toNatClampNeg) else none
theorem ifs_some {α : Type} {c : Prop} {dc : Decidable c} {a r : α} (h : (@ite (Option α) c dc (some a) none) = some r) : c ∧ a = r := by
  by_cases hc : c
  · rw [if_pos hc] at h; exact ⟨hc, Option.some.inj h⟩
  · rw [if_neg hc] at h; cases h
theorem ite_ex {α : Type} {c : Prop} {dc : Decidable c} {a b r : α} (h : (@ite α c dc a b) = r) : (c ∧ a = r) ∨ (¬ c ∧ b = r) := by
  by_cases hc : c
  · rw [if_pos hc] at h; exact Or.inl ⟨hc, h⟩
  · rw [if_neg hc] at h; exact Or.inr ⟨hc, h⟩
theorem bind_ex {α β : Type} {x : Option α} {f : α → Option β} {r : β} (h : x.bind f = some r) : ∃ a, x = some a ∧ f a = some r := Option.bind_eq_some_iff.mp h
def idv (x y : Int32) : Option Int32 := if y = 0 then none else some (x / y)
def irm (x y : Int32) : Option Int32 := if y = 0 then none else some (x - x / y * y)
def zb (x : Int32) : Option Int32 := if x = 0 ∨ x = 1 then some x else none
def ddv (x y : UInt64) : Option UInt64 := if FP.ddiv x y &&& 0x7fffffffffffffff ≤ 0x7ff0000000000000 then some (FP.ddiv x y) else none
theorem idv_ex {x y r : Int32} (h : idv x y = some r) : (¬ y = 0) ∧ x / y = r := by
  unfold idv at h
  rcases ite_ex h with ⟨_, h⟩ | ⟨h1, h⟩
  · cases h
  · exact ⟨h1, Option.some.inj h⟩
theorem irm_ex {x y r : Int32} (h : irm x y = some r) : (¬ y = 0) ∧ x - x / y * y = r := by
  unfold irm at h
  rcases ite_ex h with ⟨_, h⟩ | ⟨h1, h⟩
  · cases h
  · exact ⟨h1, Option.some.inj h⟩
theorem zb_ex {x r : Int32} (h : zb x = some r) : narrow .boolean (.int r) = .int r := by
  unfold zb at h
  obtain ⟨h1, h⟩ := ifs_some h
  subst h
  rcases h1 with rfl | rfl <;> rfl
section QR
variable {E : Ev} {p : Program} {l : Launch} {e : Env} {R : Room} {s : State} {m : MethodId} {args : Array Value} {below : List Frame} {meth : Method} {c : Code} {k n nL : Nat} {Q : State → Prop} {cc : ByteArray} {own : String} {pc : Nat} {lv lv' : List (Nat × Value)} {rest st : List Value} {μ μ' : Mm}

theorem gq_ialoadI (C : Cq E p s m args meth c cc nL own) {a : Nat} (ha : a < eN E) (hk : kd a = 6) {i : Int32} {x : Int32} (hx : aI μ a i = some x) (d : decode cc pc = .ok (.iaload, 1)) (kk : Gq E p l e R s m args below meth c k n nL Q (pc + 1) lv (.int x :: rest) μ) : Gq E p l e R s m args below meth c k n nL Q pc lv (.int i :: .ref (eB E + a) :: rest) μ := by
  intro H locs ls hH hS hl
  obtain ⟨q, hq⟩ := wl_get E μ ha (by rintro rfl; exact absurd hk (by decide))
  rw [cn_6 hk] at hq
  obtain ⟨hin, rfl⟩ := ifs_some hx
  exact va_iald C.1 C.2.1 C.2.2.2.2.2.2.1 hH.1 q 1 hq rfl (inb_in hin) d (kk H locs ls hH hS hl)
theorem gq_laloadL (C : Cq E p s m args meth c cc nL own) {a : Nat} (ha : a < eN E) (hk : kd a = 7) {i : Int32} {x : Int64} (hx : aL μ a i = some x) (d : decode cc pc = .ok (.laload, 1)) (kk : Gq E p l e R s m args below meth c k n nL Q (pc + 1) lv (.long x :: rest) μ) : Gq E p l e R s m args below meth c k n nL Q pc lv (.int i :: .ref (eB E + a) :: rest) μ := by
  intro H locs ls hH hS hl
  obtain ⟨q, hq⟩ := wl_get E μ ha (by rintro rfl; exact absurd hk (by decide))
  rw [cn_7 hk] at hq
  obtain ⟨hin, rfl⟩ := ifs_some hx
  exact va_lald C.1 C.2.1 C.2.2.2.2.2.2.1 hH.1 q 2 hq rfl (inb_in hin) d (kk H locs ls hH hS hl)
theorem gq_baloadB (C : Cq E p s m args meth c cc nL own) {a : Nat} (ha : a < eN E) (hk : kd a = 8) {i : Int32} {x : Int32} (hx : aI μ a i = some x) (d : decode cc pc = .ok (.baload, 1)) (kk : Gq E p l e R s m args below meth c k n nL Q (pc + 1) lv (.int x :: rest) μ) : Gq E p l e R s m args below meth c k n nL Q pc lv (.int i :: .ref (eB E + a) :: rest) μ := by
  intro H locs ls hH hS hl
  obtain ⟨q, hq⟩ := wl_get E μ ha (by rintro rfl; exact absurd hk (by decide))
  rw [cn_8 hk] at hq
  obtain ⟨hin, rfl⟩ := ifs_some hx
  exact va_bald C.1 C.2.1 C.2.2.2.2.2.2.1 hH.1 q 0 hq rfl (inb_in hin) d (kk H locs ls hH hS hl)
theorem gq_baloadZ (C : Cq E p s m args meth c cc nL own) {a : Nat} (ha : a < eN E) (hk : kd a = 9) {i : Int32} {x : Int32} (hx : aI μ a i = some x) (d : decode cc pc = .ok (.baload, 1)) (kk : Gq E p l e R s m args below meth c k n nL Q (pc + 1) lv (.int x :: rest) μ) : Gq E p l e R s m args below meth c k n nL Q pc lv (.int i :: .ref (eB E + a) :: rest) μ := by
  intro H locs ls hH hS hl
  obtain ⟨q, hq⟩ := wl_get E μ ha (by rintro rfl; exact absurd hk (by decide))
  rw [cn_9 hk] at hq
  obtain ⟨hin, rfl⟩ := ifs_some hx
  exact va_zald C.1 C.2.1 C.2.2.2.2.2.2.1 hH.1 q 3 hq rfl (inb_in hin) d (kk H locs ls hH hS hl)
theorem gq_iastore (C : Cq E p s m args meth c cc nL own) {a : Nat} (ha : a < eN E) (hk : kd a = 6) {i : Int32} {x : Int32} (hx : sI μ a i x = some μ') (d : decode cc pc = .ok (.iastore, 1)) (kk : Gq E p l e R s m args below meth c k n nL Q (pc + 1) lv rest μ') : Gq E p l e R s m args below meth c k n nL Q pc lv (.int x :: .int i :: .ref (eB E + a) :: rest) μ := by
  intro H locs ls hH hS hl
  have h9 : a ≠ 296 := by rintro rfl; exact absurd hk (by decide)
  obtain ⟨q, hq0⟩ := wl_get E μ ha h9
  have hq := hq0
  rw [cn_6 hk] at hq
  obtain ⟨hin, rfl⟩ := ifs_some hx
  refine va_iast C.1 C.2.1 C.2.2.2.2.2.2.1 hH.1 hH.2 hS q 1 hq rfl (inb_in hin) d (fun H1 locs1 hP hD hS1 => kk H1 locs1 ls ?_ hS1 hl)
  have he : cn E (uI μ a i.toNatClampNeg x) a = .inl (eC E 1, ln a, .inl (upd (μ.1 a) i.toNatClampNeg x)) := by
    rw [cn_6 hk, uI_eq]
    rfl
  have hw := wl_set hH.2 ha h9 hq0 he cnI_ne rfl
  rw [hw] at hP hD
  exact ⟨hP, hD⟩
theorem gq_lastore (C : Cq E p s m args meth c cc nL own) {a : Nat} (ha : a < eN E) (hk : kd a = 7) {i : Int32} {x : Int64} (hx : sL μ a i x = some μ') (d : decode cc pc = .ok (.lastore, 1)) (kk : Gq E p l e R s m args below meth c k n nL Q (pc + 1) lv rest μ') : Gq E p l e R s m args below meth c k n nL Q pc lv (.long x :: .int i :: .ref (eB E + a) :: rest) μ := by
  intro H locs ls hH hS hl
  have h9 : a ≠ 296 := by rintro rfl; exact absurd hk (by decide)
  obtain ⟨q, hq0⟩ := wl_get E μ ha h9
  have hq := hq0
  rw [cn_7 hk] at hq
  obtain ⟨hin, rfl⟩ := ifs_some hx
  refine va_last C.1 C.2.1 C.2.2.2.2.2.2.1 hH.1 hH.2 hS q 2 hq rfl (inb_in hin) d (fun H1 locs1 hP hD hS1 => kk H1 locs1 ls ?_ hS1 hl)
  have he : cn E (uL μ a i.toNatClampNeg x) a = .inl (eC E 2, ln a, .inr (.inl (vp_updL (μ.2.1 a) i.toNatClampNeg x))) := by
    rw [cn_7 hk, uL_eq]
    rfl
  have hw := wl_set hH.2 ha h9 hq0 he cnL_ne rfl
  rw [hw] at hP hD
  exact ⟨hP, hD⟩
theorem gq_bastoreB (C : Cq E p s m args meth c cc nL own) {a : Nat} (ha : a < eN E) (hk : kd a = 8) {i : Int32} {x : Int32} (hx : sB μ a i x = some μ') (d : decode cc pc = .ok (.bastore, 1)) (kk : Gq E p l e R s m args below meth c k n nL Q (pc + 1) lv rest μ') : Gq E p l e R s m args below meth c k n nL Q pc lv (.int x :: .int i :: .ref (eB E + a) :: rest) μ := by
  intro H locs ls hH hS hl
  have h9 : a ≠ 296 := by rintro rfl; exact absurd hk (by decide)
  obtain ⟨q, hq0⟩ := wl_get E μ ha h9
  have hq := hq0
  rw [cn_8 hk] at hq
  obtain ⟨hin, rfl⟩ := ifs_some hx
  refine va_bast C.1 C.2.1 C.2.2.2.2.2.2.1 hH.1 hH.2 hS q 0 hq rfl (inb_in hin) d (fun H1 locs1 hP hD hS1 => kk H1 locs1 ls ?_ hS1 hl)
  have he : cn E (uI μ a i.toNatClampNeg (vp_nar .byte x)) a = .inl (eC E 0, ln a, .inl (upd (μ.1 a) i.toNatClampNeg (vp_nar .byte x))) := by
    rw [cn_8 hk, uI_eq]
    rfl
  have hw := wl_set hH.2 ha h9 hq0 he cnI_ne rfl
  rw [hw] at hP hD
  exact ⟨hP, hD⟩
theorem gq_bastoreZ (C : Cq E p s m args meth c cc nL own) {a : Nat} (ha : a < eN E) (hk : kd a = 9) {i : Int32} {x : Int32} (hx : sZ μ a i x = some μ') (d : decode cc pc = .ok (.bastore, 1)) (kk : Gq E p l e R s m args below meth c k n nL Q (pc + 1) lv rest μ') : Gq E p l e R s m args below meth c k n nL Q pc lv (.int x :: .int i :: .ref (eB E + a) :: rest) μ := by
  intro H locs ls hH hS hl
  have h9 : a ≠ 296 := by rintro rfl; exact absurd hk (by decide)
  obtain ⟨q, hq0⟩ := wl_get E μ ha h9
  have hq := hq0
  rw [cn_9 hk] at hq
  obtain ⟨hin, rfl⟩ := ifs_some hx
  refine va_zast C.1 C.2.1 C.2.2.2.2.2.2.1 hH.1 hH.2 hS q 3 hq rfl (inb_in hin) d (fun H1 locs1 hP hD hS1 => kk H1 locs1 ls ?_ hS1 hl)
  have he : cn E (uI μ a i.toNatClampNeg (vp_nar .boolean x)) a = .inl (eC E 3, ln a, .inl (upd (μ.1 a) i.toNatClampNeg (vp_nar .boolean x))) := by
    rw [cn_9 hk, uI_eq]
    rfl
  have hw := wl_set hH.2 ha h9 hq0 he cnI_ne rfl
  rw [hw] at hP hD
  exact ⟨hP, hD⟩
theorem kd1_rec {E : Ev} {μ : Mm} {H : Heap} (hH : Hd E μ H) {s : State} (hK : va_K E.1 vwCl (eTy E) s) {v : Nat} (hv : v < eN E) (hk : kd v = 1) : ∃ (q : Nat) (vs : List Value), (wl E μ)[q]? = some (eB E + v, .inr (3, vs)) := by
  obtain ⟨q, hq⟩ := wl_get E μ hv (by rintro rfl; exact absurd hk (by decide))
  rw [cn_1 hk] at hq
  exact ⟨q, _, hq⟩
theorem kd1_lt {v : Nat} (hk : kd v = 1) : v < 295 := by
  rcases Nat.lt_or_ge v 296 with h2 | h2
  · rcases Nat.lt_or_ge v 295 with h | h
    · exact h
    · exfalso
      exact absurd hk ((show ∀ v, v < 296 → 295 ≤ v → ¬ kd v = 1 by decide +kernel) v h2 h)
  · exfalso
    unfold kd at hk
    rw [List.getD_eq_getElem?_getD, List.getElem?_eq_none (by rw [qShp_len]; exact h2)] at hk
    exact absurd hk (by decide)
theorem gq_aaload (C : Cq E p s m args meth c cc nL own) {a : Nat} (ha : a < eN E) (hk : kd a = 10) {i : Int32} {x : Nat} (hx : aR μ a i = some x) (d : decode cc pc = .ok (.aaload, 1)) (kk : kd x = 1 → Gq E p l e R s m args below meth c k n nL Q (pc + 1) lv (.ref (eB E + x) :: rest) μ) : Gq E p l e R s m args below meth c k n nL Q pc lv (.int i :: .ref (eB E + a) :: rest) μ := by
  intro H locs ls hH hS hl
  obtain ⟨q, hq⟩ := wl_get E μ ha (by rintro rfl; exact absurd hk (by decide))
  rw [cn_10 hk] at hq
  obtain ⟨⟨hin, hk1⟩, rfl⟩ := ifs_some hx
  exact va_aldq C.1 C.2.1 C.2.2.2.2.2.2.1 hH.1 q 4 hq rfl (inb_in hin) d (kk hk1 H locs ls hH hS hl)
theorem gq_aastore (C : Cq E p s m args meth c cc nL own) {a v : Nat} (ha : a < eN E) (hN : 295 ≤ eN E) (hk : kd a = 10) {i : Int32} (hx : sR μ a i v = some μ') (d : decode cc pc = .ok (.aastore, 1)) (kk : Gq E p l e R s m args below meth c k n nL Q (pc + 1) lv rest μ') : Gq E p l e R s m args below meth c k n nL Q pc lv (.ref (eB E + v) :: .int i :: .ref (eB E + a) :: rest) μ := by
  intro H locs ls hH hS hl
  have h9 : a ≠ 296 := by rintro rfl; exact absurd hk (by decide)
  obtain ⟨q, hq0⟩ := wl_get E μ ha h9
  have hq := hq0
  rw [cn_10 hk] at hq
  obtain ⟨⟨hin, hk1⟩, rfl⟩ := ifs_some hx
  have hlt := kd1_lt hk1
  obtain ⟨qk, vs, hqk⟩ := kd1_rec hH C.2.2.2.2.2.2.1 (Nat.lt_of_lt_of_le hlt hN) hk1
  refine va_astq (r := (RX1, TX1, 19)) C.1 C.2.1 C.2.2.2.2.2.2.1 hH.1 hH.2 hS q 4 qk 3 hq rfl hqk rfl (inb_in hin) d (fun H1 locs1 hP hD hS1 => kk H1 locs1 ls ?_ hS1 hl)
  have he : cn E (uI μ a i.toNatClampNeg (nI v)) a = .inl (eC E 4, ln a, .inr (.inr (.inr (.inr (va_up (fun j => some (eB E + (μ.1 a j).toNatClampNeg)) i.toNatClampNeg (some (eB E + v))))))) := by
    rw [cn_10 hk, uI_eq]
    congr 7
    funext j
    unfold va_up
    by_cases hj : j = i.toNatClampNeg
    · simp only [hj, if_true]
      rw [nI_clamp (by omega)]
    · simp only [hj, if_false]
  have hw := wl_set hH.2 ha h9 hq0 he cnI_ne rfl
  rw [hw] at hP hD
  exact ⟨hP, hD⟩
theorem gq_alen (C : Cq E p s m args meth c cc nL own) {a : Nat} (ha : a < eN E) (hk : kd a = 6) (d : decode cc pc = .ok (.arraylength, 1)) (kk : Gq E p l e R s m args below meth c k n nL Q (pc + 1) lv (.int (Int32.ofNat (ln a)) :: rest) μ) : Gq E p l e R s m args below meth c k n nL Q pc lv (.ref (eB E + a) :: rest) μ := by
  intro H locs ls hH hS hl
  obtain ⟨q, hq⟩ := wl_get E μ ha (by rintro rfl; exact absurd hk (by decide))
  rw [cn_6 hk] at hq
  exact va_alen C.1 C.2.1 C.2.2.2.2.2.2.1 hH.1 q 1 hq rfl rfl d (kk H locs ls hH hS hl)
theorem cpOk_ex {a b : Nat} {sp dp n : Int32} (h : cpOk a b sp dp n = true) : (¬ sp < 0) ∧ (¬ dp < 0) ∧ (¬ n < 0) ∧ sp.toNatClampNeg + n.toNatClampNeg ≤ ln a ∧ dp.toNatClampNeg + n.toNatClampNeg ≤ ln b := by
  obtain ⟨h1, h⟩ := Bool.and_eq_true_iff.mp h
  obtain ⟨h2, h⟩ := Bool.and_eq_true_iff.mp h
  obtain ⟨h3, h⟩ := Bool.and_eq_true_iff.mp h
  obtain ⟨h4, h5⟩ := Bool.and_eq_true_iff.mp h
  have q1 := of_decide_eq_true h1
  have q2 := of_decide_eq_true h2
  have q3 := of_decide_eq_true h3
  rw [Int32.le_iff_toInt_le] at q1 q2 q3
  refine ⟨?_, ?_, ?_, of_decide_eq_true h4, of_decide_eq_true h5⟩ <;> (rw [Int32.lt_iff_toInt_lt]; omega)
theorem va_cpy_I {α : Type} (f g : Nat → α) (sp dp n : Nat) : va_cpy f g sp dp n = fun j => if dp ≤ j ∧ j < dp + n then f (sp + (j - dp)) else g j := rfl

theorem gq_cpyI (C : Cq E p s m args meth c cc nL own) {a b : Nat} (ha : a < eN E) (hb : b < eN E) (hka : kd a = 6) (hkb : kd b = 6) {index : Nat} {sp dp z : Int32} (hx : yI μ a sp b dp z = some μ') (w1 : Cond.methodLink own index arraycopyName ∈ GW) (w2 : Cond.native arraycopyName ∈ GW) (w3 : Cond.static arraycopyName ∈ GW) (w4 : Cond.initialized "java/lang/System" ∈ GW) (hf : 1 ≤ R.frames) (hlo : (rest.map fun v => v.category).sum + (nativeFrameWords "java/lang/System" "arraycopy" 5 + 11) ≤ R.locals) (d : decode cc pc = .ok (.invokestatic index, 3)) (kk : Gq E p l e R s m args below meth c k n nL Q (pc + 3) lv rest μ') : Gq E p l e R s m args below meth c k n nL Q pc lv (.int z :: .int dp :: .ref (eB E + b) :: .int sp :: .ref (eB E + a) :: rest) μ := by
  intro H locs ls hH hS hl
  have h9 : b ≠ 296 := by rintro rfl; exact absurd hkb (by decide)
  obtain ⟨qa, hqa⟩ := wl_get E μ ha (by rintro rfl; exact absurd hka (by decide))
  obtain ⟨qb, hq0⟩ := wl_get E μ hb h9
  have hqb := hq0
  rw [cn_6 hka] at hqa
  rw [cn_6 hkb] at hqb
  obtain ⟨hok, rfl⟩ := ifs_some hx
  obtain ⟨h1, h2, h3, h4, h5⟩ := cpOk_ex hok
  refine va_copyi C.1 C.2.1 (C.2.2.1.trans hl.1.symm) C.2.2.2.1 (C.2.2.2.2.1 _ w1) (C.2.2.2.2.1 _ w2) (C.2.2.2.2.1 _ w3) (C.2.2.2.2.1 _ w4) C.2.2.2.2.2.2.1 hH.1 hH.2 hS qa qb 1 1 hqa hqb rfl rfl rfl h1 h2 h3 h4 h5 (fun _ _ => rfl) hf hlo d (fun H1 locs1 hP hD hS1 => kk H1 locs1 ls ?_ hS1 hl)
  have hfn : (cpI μ a sp.toNatClampNeg b dp.toNatClampNeg z.toNatClampNeg).1 b = va_cpy (μ.1 a) (μ.1 b) sp.toNatClampNeg dp.toNatClampNeg z.toNatClampNeg := by
    funext j
    simp [cpI, va_cpy]
  have he : cn E (cpI μ a sp.toNatClampNeg b dp.toNatClampNeg z.toNatClampNeg) b = .inl (eC E 1, ln b, .inl (va_cpy (μ.1 a) (μ.1 b) sp.toNatClampNeg dp.toNatClampNeg z.toNatClampNeg)) := by rw [cn_6 hkb, hfn]
  have hw := wl_set hH.2 hb h9 hq0 he cncI_ne rfl
  rw [hw] at hP hD
  exact ⟨hP, hD⟩
theorem gq_cpyL (C : Cq E p s m args meth c cc nL own) {a b : Nat} (ha : a < eN E) (hb : b < eN E) (hka : kd a = 7) (hkb : kd b = 7) {index : Nat} {sp dp z : Int32} (hx : yL μ a sp b dp z = some μ') (w1 : Cond.methodLink own index arraycopyName ∈ GW) (w2 : Cond.native arraycopyName ∈ GW) (w3 : Cond.static arraycopyName ∈ GW) (w4 : Cond.initialized "java/lang/System" ∈ GW) (hf : 1 ≤ R.frames) (hlo : (rest.map fun v => v.category).sum + (nativeFrameWords "java/lang/System" "arraycopy" 5 + 11) ≤ R.locals) (d : decode cc pc = .ok (.invokestatic index, 3)) (kk : Gq E p l e R s m args below meth c k n nL Q (pc + 3) lv rest μ') : Gq E p l e R s m args below meth c k n nL Q pc lv (.int z :: .int dp :: .ref (eB E + b) :: .int sp :: .ref (eB E + a) :: rest) μ := by
  intro H locs ls hH hS hl
  have h9 : b ≠ 296 := by rintro rfl; exact absurd hkb (by decide)
  obtain ⟨qa, hqa⟩ := wl_get E μ ha (by rintro rfl; exact absurd hka (by decide))
  obtain ⟨qb, hq0⟩ := wl_get E μ hb h9
  have hqb := hq0
  rw [cn_7 hka] at hqa
  rw [cn_7 hkb] at hqb
  obtain ⟨hok, rfl⟩ := ifs_some hx
  obtain ⟨h1, h2, h3, h4, h5⟩ := cpOk_ex hok
  refine va_copyl C.1 C.2.1 (C.2.2.1.trans hl.1.symm) C.2.2.2.1 (C.2.2.2.2.1 _ w1) (C.2.2.2.2.1 _ w2) (C.2.2.2.2.1 _ w3) (C.2.2.2.2.1 _ w4) C.2.2.2.2.2.2.1 hH.1 hH.2 hS qa qb 2 2 hqa hqb rfl rfl rfl h1 h2 h3 h4 h5 (fun _ _ => rfl) hf hlo d (fun H1 locs1 hP hD hS1 => kk H1 locs1 ls ?_ hS1 hl)
  have hfn : (cpL μ a sp.toNatClampNeg b dp.toNatClampNeg z.toNatClampNeg).2.1 b = va_cpy (μ.2.1 a) (μ.2.1 b) sp.toNatClampNeg dp.toNatClampNeg z.toNatClampNeg := by
    funext j
    simp [cpL, va_cpy]
  have he : cn E (cpL μ a sp.toNatClampNeg b dp.toNatClampNeg z.toNatClampNeg) b = .inl (eC E 2, ln b, .inr (.inl (va_cpy (μ.2.1 a) (μ.2.1 b) sp.toNatClampNeg dp.toNatClampNeg z.toNatClampNeg))) := by rw [cn_7 hkb, hfn]
  have hw := wl_set hH.2 hb h9 hq0 he cncL_ne rfl
  rw [hw] at hP hD
  exact ⟨hP, hD⟩
theorem gq_cpyR (C : Cq E p s m args meth c cc nL own) {a b : Nat} (ha : a < eN E) (hb : b < eN E) (hN : 295 ≤ eN E) (hka : kd a = 10) (hkb : kd b = 10) {index : Nat} {sp dp z : Int32} (hx : yR μ a sp b dp z = some μ') (w1 : Cond.methodLink own index arraycopyName ∈ GW) (w2 : Cond.native arraycopyName ∈ GW) (w3 : Cond.static arraycopyName ∈ GW) (w4 : Cond.initialized "java/lang/System" ∈ GW) (hf : 1 ≤ R.frames) (hlo : (rest.map fun v => v.category).sum + (nativeFrameWords "java/lang/System" "arraycopy" 5 + 11) ≤ R.locals) (d : decode cc pc = .ok (.invokestatic index, 3)) (kk : Gq E p l e R s m args below meth c k n nL Q (pc + 3) lv rest μ') : Gq E p l e R s m args below meth c k n nL Q pc lv (.int z :: .int dp :: .ref (eB E + b) :: .int sp :: .ref (eB E + a) :: rest) μ := by
  intro H locs ls hH hS hl
  have h9 : b ≠ 296 := by rintro rfl; exact absurd hkb (by decide)
  obtain ⟨qa, hqa⟩ := wl_get E μ ha (by rintro rfl; exact absurd hka (by decide))
  obtain ⟨qb, hq0⟩ := wl_get E μ hb h9
  have hqb := hq0
  rw [cn_10 hka] at hqa
  rw [cn_10 hkb] at hqb
  obtain ⟨⟨hok, hall⟩, rfl⟩ := ifs_some hx
  obtain ⟨h1, h2, h3, h4, h5⟩ := cpOk_ex hok
  refine va_copyq (C := RX1) C.1 C.2.1 (C.2.2.1.trans hl.1.symm) C.2.2.2.1 (C.2.2.2.2.1 _ w1) (C.2.2.2.2.1 _ w2) (C.2.2.2.2.1 _ w3) (C.2.2.2.2.1 _ w4) C.2.2.2.2.2.2.1 hH.1 hH.2 hS qa qb 4 4 hqa hqb rfl rfl h1 h2 h3 h4 h5 (fun i hi y hy => ?_) (fun comp c0 g1 g2 => ?_) hf hlo d (fun H1 locs1 hP hD hS1 => kk H1 locs1 ls ?_ hS1 hl)
  · cases Option.some.inj hy
    have hk1 := hall i hi
    obtain ⟨qk, vs, hqk⟩ := kd1_rec hH C.2.2.2.2.2.2.1 (Nat.lt_of_lt_of_le (kd1_lt hk1) hN) hk1
    exact va_recv (q := (RX1, TX1, 19)) C.2.2.2.2.2.2.1 hH.1 rfl hqk
  · cases Option.some.inj (g1.symm.trans g2)
    exact Jvm.Free.SB.assignable_self _ _
  have he : cn E (cpI μ a sp.toNatClampNeg b dp.toNatClampNeg z.toNatClampNeg) b = .inl (eC E 4, ln b, .inr (.inr (.inr (.inr (va_cpy (fun j => some (eB E + (μ.1 a j).toNatClampNeg)) (fun j => some (eB E + (μ.1 b j).toNatClampNeg)) sp.toNatClampNeg dp.toNatClampNeg z.toNatClampNeg))))) := by
    rw [cn_10 hkb]
    congr 7
    funext j
    unfold va_cpy
    by_cases hj : dp.toNatClampNeg ≤ j ∧ j < dp.toNatClampNeg + z.toNatClampNeg
    · simp [cpI, hj]
    · simp [cpI, hj]
  have hw := wl_set hH.2 hb h9 hq0 he cncI_ne rfl
  rw [hw] at hP hD
  exact ⟨hP, hD⟩
end QR
