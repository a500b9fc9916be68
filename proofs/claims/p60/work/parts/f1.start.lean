/-! ===== what holds at the law's entry ===== -/
def stW : List Cond := flatC (Jvm.Cond.and given_1 narrow_1)
def qSc : List String := ["WaterExchange$Reader", "WaterExchange$Reader", "WaterExchange$Reader", "WaterExchange$Reader", "WaterExchange$Reader", "WaterExchange$Reader", "WaterExchange$Reader", "WaterExchange$Reader", "WaterExchange$Reader", "WaterExchange$Reader", "WaterExchangeLaw$Made", "WaterExchangeLaw$Made", "WaterExchangeLaw$Made", "WaterExchangeLaw$Made", "WaterExchangeLaw$Made", "WaterExchangeLaw$Made", "WaterExchangeLaw$Made", "WaterExchangeLaw$Made", "WaterExchangeLaw$Made", "WaterExchangeLaw$Made", "WaterExchangeLaw$Made", "WaterExchangeLaw$Made", "WaterExchange$Reader", "WaterExchange", "WaterExchange", "WaterExchange", "WaterExchange", "WaterExchange", "WaterExchange"]
def qSx : List Nat := [76, 85, 90, 95, 103, 108, 164, 166, 113, 118, 37, 46, 51, 53, 55, 57, 59, 61, 63, 65, 67, 72, 76, 65, 118, 288, 283, 235, 290]
section STA
variable {args : Array Value} {s : State} {A : Nat → Prop}
theorem st_w (h : (Jvm.Cond.and given_1 narrow_1).before args s = true) {k : Nat} {w : Cond} (hk : stW[k]? = some w) : w.before args s = true := flat_of_before _ h w (List.mem_of_getElem? hk)
theorem vk_S1 {n : Nat} {bs : List Int32} {f g : Nat → Nat} {U : State} {H : Heap} (h : vk_S 1 [n] [bs] f g A U H) : vk_S 1 [n] [bs] (fun _ => f 0) (fun _ => g 0) A U H := by
  refine ⟨fun i hi => ?_, fun i j hi hj _ => by omega⟩
  obtain rfl : i = 0 := by omega
  exact h.1 0 (by decide)
theorem os_of (h : (Jvm.Cond.and given_1 narrow_1).before args s = true) (hA : ∀ a : Nat, a < s.heap.size → ¬ A a) {C : String} {ix k n : Nat} {bs : List Int32} (hn : n < 2 ^ 31) (a0 : stW[k]? = some (.exactly (.string C ix) "java/lang/String")) (a1 : stW[k + 1]? = some (.eq (.field (.string C ix) "java/lang/String" "coder" "B") (.int 0))) (a2 : stW[k + 2]? = some (.arrayOf (.field (.string C ix) "java/lang/String" "value" "[B") .byte)) (a3 : stW[k + 3]? = some (.eq (.length (.field (.string C ix) "java/lang/String" "value" "[B")) (.int (Int32.ofNat n)))) (a4 : ∀ j, j < n → stW[k + 4 + j]? = some (.eq (.elem (.field (.string C ix) "java/lang/String" "value" "[B") (.int (Int32.ofNat j))) (.int (bs.getD j 0)))) : ∃ a v, vk_S 1 [n] [bs] (fun _ => a) (fun _ => v) A s s.heap ∧ (Term.string C ix).eval args s none [] s = some (.ref a) := by
  have z : ∀ i, i < 1 → i = 0 := fun i hi => by omega
  obtain ⟨f, g, h1, h2⟩ := vk_Sof (N := 1) (tm := fun _ => .string C ix) (len := [n]) (byt := [bs]) (A := A) (args := args) (s := s) (fun i hi => by obtain rfl := z i hi; exact hn) (fun i hi => st_w h a0) (fun i hi => st_w h a1) (fun i hi => st_w h a2) (fun i hi => by obtain rfl := z i hi; exact st_w h a3) (fun i hi j hj => by obtain rfl := z i hi; exact st_w h (a4 j hj)) (fun i j hi hj e => absurd ((z i hi).trans (z j hj).symm) e) hA
  exact ⟨f 0, g 0, vk_S1 h1, h2 0 (by decide)⟩
theorem oe_of (h : (Jvm.Cond.and given_1 narrow_1).before args s = true) {C : String} {ix k : Nat} (a0 : stW[k]? = some (.exactly (.string C ix) "java/lang/String")) : ∃ a, (Term.string C ix).eval args s none [] s = some (.ref a) := by
  obtain ⟨a, c, cell, kk, h1, -⟩ := Cond.exactly_spec (first := s) (o := none) (idx := []) (st_w h a0)
  exact ⟨a, h1⟩
theorem va_eqRR {t u : Term} {a : Nat} (h : (Cond.eq t u).before args s = true) (ht : t.eval args s none [] s = some (.ref a)) : u.eval args s none [] s = some (.ref a) := by
  cases hv : u.eval args s none [] s with
  | none => simp [Cond.before, Cond.holds, Cond.value, ht, hv] at h
  | some w =>
    simp only [Cond.before, Cond.holds, Cond.value, ht, hv] at h
    cases w <;> simp_all
def PJ (args : Array Value) (s : State) (A : Nat → Prop) (j : Nat) (q : Nat × Nat) : Prop := (j < 22 → vk_S 1 [qLen.getD j 0] [qByt.getD j []] (fun _ => q.1) (fun _ => q.2) A s s.heap) ∧ (Term.string (qSc.getD j "") (qSx.getD j 0)).eval args s none [] s = some (.ref q.1)
set_option maxRecDepth 100000 in
theorem pj_ex (h : (Jvm.Cond.and given_1 narrow_1).before args s = true) (hA : ∀ a : Nat, a < s.heap.size → ¬ A a) : ∀ j, ∃ q : Nat × Nat, j < 29 → PJ args s A j q := by
  intro j
  by_cases hj : j < 29
  · rcases (show j = 0 ∨ j = 1 ∨ j = 2 ∨ j = 3 ∨ j = 4 ∨ j = 5 ∨ j = 6 ∨ j = 7 ∨ j = 8 ∨ j = 9 ∨ j = 10 ∨ j = 11 ∨ j = 12 ∨ j = 13 ∨ j = 14 ∨ j = 15 ∨ j = 16 ∨ j = 17 ∨ j = 18 ∨ j = 19 ∨ j = 20 ∨ j = 21 ∨ j = 22 ∨ j = 23 ∨ j = 24 ∨ j = 25 ∨ j = 26 ∨ j = 27 ∨ j = 28 by omega) with rfl | rfl | rfl | rfl | rfl | rfl | rfl | rfl | rfl | rfl | rfl | rfl | rfl | rfl | rfl | rfl | rfl | rfl | rfl | rfl | rfl | rfl | rfl | rfl | rfl | rfl | rfl | rfl | rfl
    · obtain ⟨a, v, h1, h2⟩ := os_of (C := "WaterExchange$Reader") (ix := 76) (k := 430) (n := qLen.getD 0 0) (bs := qByt.getD 0 []) h hA (by decide) (by decide +kernel) (by decide +kernel) (by decide +kernel) (by decide +kernel) (by decide +kernel)
      exact ⟨(a, v), fun _ => ⟨fun _ => h1, h2⟩⟩
    · obtain ⟨a, v, h1, h2⟩ := os_of (C := "WaterExchange$Reader") (ix := 85) (k := 439) (n := qLen.getD 1 0) (bs := qByt.getD 1 []) h hA (by decide) (by decide +kernel) (by decide +kernel) (by decide +kernel) (by decide +kernel) (by decide +kernel)
      exact ⟨(a, v), fun _ => ⟨fun _ => h1, h2⟩⟩
    · obtain ⟨a, v, h1, h2⟩ := os_of (C := "WaterExchange$Reader") (ix := 90) (k := 449) (n := qLen.getD 2 0) (bs := qByt.getD 2 []) h hA (by decide) (by decide +kernel) (by decide +kernel) (by decide +kernel) (by decide +kernel) (by decide +kernel)
      exact ⟨(a, v), fun _ => ⟨fun _ => h1, h2⟩⟩
    · obtain ⟨a, v, h1, h2⟩ := os_of (C := "WaterExchange$Reader") (ix := 95) (k := 458) (n := qLen.getD 3 0) (bs := qByt.getD 3 []) h hA (by decide) (by decide +kernel) (by decide +kernel) (by decide +kernel) (by decide +kernel) (by decide +kernel)
      exact ⟨(a, v), fun _ => ⟨fun _ => h1, h2⟩⟩
    · obtain ⟨a, v, h1, h2⟩ := os_of (C := "WaterExchange$Reader") (ix := 103) (k := 466) (n := qLen.getD 4 0) (bs := qByt.getD 4 []) h hA (by decide) (by decide +kernel) (by decide +kernel) (by decide +kernel) (by decide +kernel) (by decide +kernel)
      exact ⟨(a, v), fun _ => ⟨fun _ => h1, h2⟩⟩
    · obtain ⟨a, v, h1, h2⟩ := os_of (C := "WaterExchange$Reader") (ix := 108) (k := 478) (n := qLen.getD 5 0) (bs := qByt.getD 5 []) h hA (by decide) (by decide +kernel) (by decide +kernel) (by decide +kernel) (by decide +kernel) (by decide +kernel)
      exact ⟨(a, v), fun _ => ⟨fun _ => h1, h2⟩⟩
    · obtain ⟨a, v, h1, h2⟩ := os_of (C := "WaterExchange$Reader") (ix := 164) (k := 487) (n := qLen.getD 6 0) (bs := qByt.getD 6 []) h hA (by decide) (by decide +kernel) (by decide +kernel) (by decide +kernel) (by decide +kernel) (by decide +kernel)
      exact ⟨(a, v), fun _ => ⟨fun _ => h1, h2⟩⟩
    · obtain ⟨a, v, h1, h2⟩ := os_of (C := "WaterExchange$Reader") (ix := 166) (k := 498) (n := qLen.getD 7 0) (bs := qByt.getD 7 []) h hA (by decide) (by decide +kernel) (by decide +kernel) (by decide +kernel) (by decide +kernel) (by decide +kernel)
      exact ⟨(a, v), fun _ => ⟨fun _ => h1, h2⟩⟩
    · obtain ⟨a, v, h1, h2⟩ := os_of (C := "WaterExchange$Reader") (ix := 113) (k := 507) (n := qLen.getD 8 0) (bs := qByt.getD 8 []) h hA (by decide) (by decide +kernel) (by decide +kernel) (by decide +kernel) (by decide +kernel) (by decide +kernel)
      exact ⟨(a, v), fun _ => ⟨fun _ => h1, h2⟩⟩
    · obtain ⟨a, v, h1, h2⟩ := os_of (C := "WaterExchange$Reader") (ix := 118) (k := 516) (n := qLen.getD 9 0) (bs := qByt.getD 9 []) h hA (by decide) (by decide +kernel) (by decide +kernel) (by decide +kernel) (by decide +kernel) (by decide +kernel)
      exact ⟨(a, v), fun _ => ⟨fun _ => h1, h2⟩⟩
    · obtain ⟨a, v, h1, h2⟩ := os_of (C := "WaterExchangeLaw$Made") (ix := 37) (k := 311) (n := qLen.getD 10 0) (bs := qByt.getD 10 []) h hA (by decide) (by decide +kernel) (by decide +kernel) (by decide +kernel) (by decide +kernel) (by decide +kernel)
      exact ⟨(a, v), fun _ => ⟨fun _ => h1, h2⟩⟩
    · obtain ⟨a, v, h1, h2⟩ := os_of (C := "WaterExchangeLaw$Made") (ix := 46) (k := 324) (n := qLen.getD 11 0) (bs := qByt.getD 11 []) h hA (by decide) (by decide +kernel) (by decide +kernel) (by decide +kernel) (by decide +kernel) (by decide +kernel)
      exact ⟨(a, v), fun _ => ⟨fun _ => h1, h2⟩⟩
    · obtain ⟨a, v, h1, h2⟩ := os_of (C := "WaterExchangeLaw$Made") (ix := 51) (k := 334) (n := qLen.getD 12 0) (bs := qByt.getD 12 []) h hA (by decide) (by decide +kernel) (by decide +kernel) (by decide +kernel) (by decide +kernel) (by decide +kernel)
      exact ⟨(a, v), fun _ => ⟨fun _ => h1, h2⟩⟩
    · obtain ⟨a, v, h1, h2⟩ := os_of (C := "WaterExchangeLaw$Made") (ix := 53) (k := 344) (n := qLen.getD 13 0) (bs := qByt.getD 13 []) h hA (by decide) (by decide +kernel) (by decide +kernel) (by decide +kernel) (by decide +kernel) (by decide +kernel)
      exact ⟨(a, v), fun _ => ⟨fun _ => h1, h2⟩⟩
    · obtain ⟨a, v, h1, h2⟩ := os_of (C := "WaterExchangeLaw$Made") (ix := 55) (k := 349) (n := qLen.getD 14 0) (bs := qByt.getD 14 []) h hA (by decide) (by decide +kernel) (by decide +kernel) (by decide +kernel) (by decide +kernel) (by decide +kernel)
      exact ⟨(a, v), fun _ => ⟨fun _ => h1, h2⟩⟩
    · obtain ⟨a, v, h1, h2⟩ := os_of (C := "WaterExchangeLaw$Made") (ix := 57) (k := 360) (n := qLen.getD 15 0) (bs := qByt.getD 15 []) h hA (by decide) (by decide +kernel) (by decide +kernel) (by decide +kernel) (by decide +kernel) (by decide +kernel)
      exact ⟨(a, v), fun _ => ⟨fun _ => h1, h2⟩⟩
    · obtain ⟨a, v, h1, h2⟩ := os_of (C := "WaterExchangeLaw$Made") (ix := 59) (k := 365) (n := qLen.getD 16 0) (bs := qByt.getD 16 []) h hA (by decide) (by decide +kernel) (by decide +kernel) (by decide +kernel) (by decide +kernel) (by decide +kernel)
      exact ⟨(a, v), fun _ => ⟨fun _ => h1, h2⟩⟩
    · obtain ⟨a, v, h1, h2⟩ := os_of (C := "WaterExchangeLaw$Made") (ix := 61) (k := 375) (n := qLen.getD 17 0) (bs := qByt.getD 17 []) h hA (by decide) (by decide +kernel) (by decide +kernel) (by decide +kernel) (by decide +kernel) (by decide +kernel)
      exact ⟨(a, v), fun _ => ⟨fun _ => h1, h2⟩⟩
    · obtain ⟨a, v, h1, h2⟩ := os_of (C := "WaterExchangeLaw$Made") (ix := 63) (k := 385) (n := qLen.getD 18 0) (bs := qByt.getD 18 []) h hA (by decide) (by decide +kernel) (by decide +kernel) (by decide +kernel) (by decide +kernel) (by decide +kernel)
      exact ⟨(a, v), fun _ => ⟨fun _ => h1, h2⟩⟩
    · obtain ⟨a, v, h1, h2⟩ := os_of (C := "WaterExchangeLaw$Made") (ix := 65) (k := 398) (n := qLen.getD 19 0) (bs := qByt.getD 19 []) h hA (by decide) (by decide +kernel) (by decide +kernel) (by decide +kernel) (by decide +kernel) (by decide +kernel)
      exact ⟨(a, v), fun _ => ⟨fun _ => h1, h2⟩⟩
    · obtain ⟨a, v, h1, h2⟩ := os_of (C := "WaterExchangeLaw$Made") (ix := 67) (k := 409) (n := qLen.getD 20 0) (bs := qByt.getD 20 []) h hA (by decide) (by decide +kernel) (by decide +kernel) (by decide +kernel) (by decide +kernel) (by decide +kernel)
      exact ⟨(a, v), fun _ => ⟨fun _ => h1, h2⟩⟩
    · obtain ⟨a, v, h1, h2⟩ := os_of (C := "WaterExchangeLaw$Made") (ix := 72) (k := 419) (n := qLen.getD 21 0) (bs := qByt.getD 21 []) h hA (by decide) (by decide +kernel) (by decide +kernel) (by decide +kernel) (by decide +kernel) (by decide +kernel)
      exact ⟨(a, v), fun _ => ⟨fun _ => h1, h2⟩⟩
    · obtain ⟨a, h2⟩ := oe_of (C := "WaterExchange$Reader") (ix := 76) (k := 430) h (by decide +kernel)
      exact ⟨(a, 0), fun _ => ⟨fun z => absurd z (by decide), h2⟩⟩
    · obtain ⟨a, h2⟩ := oe_of (C := "WaterExchange") (ix := 65) (k := 526) h (by decide +kernel)
      exact ⟨(a, 0), fun _ => ⟨fun z => absurd z (by decide), h2⟩⟩
    · obtain ⟨a, h2⟩ := oe_of (C := "WaterExchange") (ix := 118) (k := 217) h (by decide +kernel)
      exact ⟨(a, 0), fun _ => ⟨fun z => absurd z (by decide), h2⟩⟩
    · obtain ⟨a, h2⟩ := oe_of (C := "WaterExchange") (ix := 288) (k := 252) h (by decide +kernel)
      exact ⟨(a, 0), fun _ => ⟨fun z => absurd z (by decide), h2⟩⟩
    · obtain ⟨a, h2⟩ := oe_of (C := "WaterExchange") (ix := 283) (k := 234) h (by decide +kernel)
      exact ⟨(a, 0), fun _ => ⟨fun z => absurd z (by decide), h2⟩⟩
    · obtain ⟨a, h2⟩ := oe_of (C := "WaterExchange") (ix := 235) (k := 271) h (by decide +kernel)
      exact ⟨(a, 0), fun _ => ⟨fun z => absurd z (by decide), h2⟩⟩
    · obtain ⟨a, h2⟩ := oe_of (C := "WaterExchange") (ix := 290) (k := 287) h (by decide +kernel)
      exact ⟨(a, 0), fun _ => ⟨fun z => absurd z (by decide), h2⟩⟩
  · exact ⟨(0, 0), fun z => absurd z hj⟩
theorem dg_DigitOnes (h : (Jvm.Cond.and given_1 narrow_1).before args s = true) (hA : ∀ a : Nat, a < s.heap.size → ¬ A a) : ∃ t, (Term.static "java/lang/Integer" "DigitOnes" "[B").eval args s none [] s = some (.ref t) ∧ va_T .byte t 100 qOnes A s s.heap := by
  have d : ∀ j, j < 100 → stW[14 + j]? = some (.eq (.elem (.static "java/lang/Integer" "DigitOnes" "[B") (.int (Int32.ofNat j))) (.int (Int32.ofNat (48 + j % 10)))) := by decide +kernel
  exact va_Tof (N := 100) (by decide) (st_w h (k := 12) (by decide +kernel)) (va_eqt (st_w h (k := 13) (by decide +kernel))) (fun j hj => va_eqt (st_w h (d j hj))) hA
theorem dg_DigitTens (h : (Jvm.Cond.and given_1 narrow_1).before args s = true) (hA : ∀ a : Nat, a < s.heap.size → ¬ A a) : ∃ t, (Term.static "java/lang/Integer" "DigitTens" "[B").eval args s none [] s = some (.ref t) ∧ va_T .byte t 100 qTens A s s.heap := by
  have d : ∀ j, j < 100 → stW[117 + j]? = some (.eq (.elem (.static "java/lang/Integer" "DigitTens" "[B") (.int (Int32.ofNat j))) (.int (Int32.ofNat (48 + j / 10)))) := by decide +kernel
  exact va_Tof (N := 100) (by decide) (st_w h (k := 115) (by decide +kernel)) (va_eqt (st_w h (k := 116) (by decide +kernel))) (fun j hj => va_eqt (st_w h (d j hj))) hA
theorem sr_all : ∀ q ∈ qLits, Cond.stringRef q.1 q.2.1 q.2.2.1 ∈ lw_tbl := by decide +kernel
theorem ls_all : (Cond.laysStatic "java/lang/String" "COMPACT_STRINGS" "Z" ∈ lw_tbl ∧ Cond.initialized "java/lang/String" ∈ lw_tbl) ∧ ((Cond.laysStatic "java/lang/Integer" "DigitOnes" "[B" ∈ lw_tbl ∧ Cond.laysStatic "java/lang/Integer" "DigitTens" "[B" ∈ lw_tbl) ∧ (Cond.initialized "java/lang/Integer" ∈ lw_tbl ∧ ((Cond.laysStatic "java/lang/Throwable" "UNASSIGNED_STACK" Bundle.steD ∈ lw_tbl ∧ Cond.laysStatic "java/lang/Throwable" "SUPPRESSED_SENTINEL" Bundle.listD ∈ lw_tbl) ∧ (Cond.initialized "java/lang/Throwable" ∈ lw_tbl ∧ (Cond.laysStatic "jdk/internal/util/Preconditions" "SIOOBE_FORMATTER" "Ljava/util/function/BiFunction;" ∈ lw_tbl ∧ Cond.initialized "jdk/internal/util/Preconditions" ∈ lw_tbl))))) := by decide +kernel
theorem lit0_as : ∀ b, b ∈ qByt.getD 0 [] → ∃ c, c < 128 ∧ b = nI c := fun b hb => ⟨b.toNatClampNeg, (lit_as 0 (by decide) b hb).2, (lit_as 0 (by decide) b hb).1⟩
set_option maxRecDepth 100000 in
set_option maxHeartbeats 4000000 in
theorem env_old (hts : ∀ w ∈ lw_tbl, w.before args s = true) (h : (Jvm.Cond.and given_1 narrow_1).before args s = true) : ∃ (K V : Nat → Nat), ∀ (D : va_G) (cy : Nat → ClassId) (n : Nat), Old (D, (cy, ((s.heap.size, n), (K, (V, ((0, 0), qByt.getD 0 [])))))) s := by
  have hA : ∀ (E : Ev), eB E = s.heap.size → ∀ a : Nat, a < s.heap.size → ¬ eA E a := fun E hE a ha hb => by have h1 : eB E ≤ a := hb.1; omega
  have hA0 : ∀ a : Nat, a < s.heap.size → ¬ (fun q => s.heap.size ≤ q) a := fun a ha hb => absurd hb (Nat.not_le.mpr ha)
  obtain ⟨f, hf⟩ := Classical.axiomOfChoice (pj_ex h hA0)
  obtain ⟨t1, e1, T1⟩ := dg_DigitOnes h hA0
  obtain ⟨t2, e2, T2⟩ := dg_DigitTens h hA0
  obtain ⟨⟨l1, i1⟩, ⟨l2, l3⟩, i2, ⟨l4, l5⟩, i3, l6, i4⟩ := ls_all
  have r : ∀ j, j < 29 → (Term.string (qSc.getD j "") (qSx.getD j 0)).eval args s none [] s = some (.ref (f j).1) := fun j hj => (hf j hj).2
  refine ⟨fun j => if j = 22 then (f 0).1 else (f j).1, fun j => if j = 22 then (f 0).2 else if j = 100 then t1 else if j = 101 then t2 else (f j).2, fun D cy n => ?_⟩
  have hN : ∀ q, eA (D, (cy, ((s.heap.size, n), ((fun j => if j = 22 then (f 0).1 else (f j).1), ((fun j => if j = 22 then (f 0).2 else if j = 100 then t1 else if j = 101 then t2 else (f j).2), ((0, 0), qByt.getD 0 [])))))) q → (fun q => s.heap.size ≤ q) q := fun q z => z.1
  have hev : ∀ q ∈ qLits, (Term.string q.1 q.2.1).eval args s none [] s = some (.ref (if q.2.2.2 = 22 then (f 0).1 else (f q.2.2.2).1)) := by
    exact List.forall_mem_cons.mpr ⟨(r 0 (by decide)), List.forall_mem_cons.mpr ⟨(r 1 (by decide)), List.forall_mem_cons.mpr ⟨(r 2 (by decide)), List.forall_mem_cons.mpr ⟨(r 3 (by decide)), List.forall_mem_cons.mpr ⟨(r 4 (by decide)), List.forall_mem_cons.mpr ⟨(r 5 (by decide)), List.forall_mem_cons.mpr ⟨(r 6 (by decide)), List.forall_mem_cons.mpr ⟨(r 7 (by decide)), List.forall_mem_cons.mpr ⟨(r 8 (by decide)), List.forall_mem_cons.mpr ⟨(r 9 (by decide)), List.forall_mem_cons.mpr ⟨(r 10 (by decide)), List.forall_mem_cons.mpr ⟨(r 11 (by decide)), List.forall_mem_cons.mpr ⟨(r 12 (by decide)), List.forall_mem_cons.mpr ⟨(r 13 (by decide)), List.forall_mem_cons.mpr ⟨(r 14 (by decide)), List.forall_mem_cons.mpr ⟨(r 15 (by decide)), List.forall_mem_cons.mpr ⟨(r 16 (by decide)), List.forall_mem_cons.mpr ⟨(r 17 (by decide)), List.forall_mem_cons.mpr ⟨(r 18 (by decide)), List.forall_mem_cons.mpr ⟨(r 19 (by decide)), List.forall_mem_cons.mpr ⟨(r 20 (by decide)), List.forall_mem_cons.mpr ⟨(r 21 (by decide)), List.forall_mem_cons.mpr ⟨(r 23 (by decide)), List.forall_mem_cons.mpr ⟨(r 24 (by decide)), List.forall_mem_cons.mpr ⟨(r 25 (by decide)), List.forall_mem_cons.mpr ⟨(r 26 (by decide)), List.forall_mem_cons.mpr ⟨(r 27 (by decide)), List.forall_mem_cons.mpr ⟨(r 28 (by decide)), fun _ z => absurd z List.not_mem_nil⟩⟩⟩⟩⟩⟩⟩⟩⟩⟩⟩⟩⟩⟩⟩⟩⟩⟩⟩⟩⟩⟩⟩⟩⟩⟩⟩⟩
  refine ⟨fun q hq => vk_R.of (hts _ (sr_all q hq)) (hev q hq), fun j hj => ?_, vx_Zq.narrow (vx_Zqof (hts _ l4) (hts _ i3) (st_w h (k := 4) (by decide +kernel)) hA0) hN, vx_Zq.narrow (vx_Zqof (hts _ l5) (hts _ i3) (st_w h (k := 5) (by decide +kernel)) hA0) hN, va_Z.narrow (va_Zof (hts _ l1) (hts _ i1) (va_eqt (st_w h (k := 6) (by decide +kernel))) hA0) hN, va_Z.narrow (va_Zof (hts _ l2) (hts _ i2) e1 hA0) hN, va_T.narrow T1 hN, va_Z.narrow (va_Zof (hts _ l3) (hts _ i2) e2 hA0) hN, va_T.narrow T2 hN, fun w hw => va_Nw.of (nw_tab (List.mem_filter.mp hw).2) (hts w (List.mem_filter.mp hw).1), ⟨by show (qByt.getD 0 []).length < 1000; decide +kernel, lit0_as⟩, va_Zq.narrow (va_Zqof (hts _ l6) (hts _ i4) (st_w h (k := 7) (by decide +kernel)) hA0) hN⟩
  by_cases e : j = 22
  · subst e
    have h1 := (hf 0 (by decide)).1 (by decide)
    exact vk_S.narrow (show vk_S 1 [qLen.getD 0 0] [qByt.getD 0 []] (fun _ => (f 0).1) (fun _ => (f 0).2) _ s s.heap from h1) hN
  · have h1 := (hf j (by omega)).1 (by omega)
    refine vk_S.narrow (A := fun q => s.heap.size ≤ q) ?_ hN
    show vk_S 1 [if j = 22 then (qByt.getD 0 []).length else qLen.getD j 0] [if j = 22 then qByt.getD 0 [] else qByt.getD j []] (fun _ => if j = 22 then (f 0).1 else (f j).1) (fun _ => if j = 22 then (f 0).2 else if j = 100 then t1 else if j = 101 then t2 else (f j).2) _ s s.heap
    rw [if_neg e, if_neg e, if_neg e, if_neg e, if_neg (by omega), if_neg (by omega)]
    exact h1
theorem in_cl : (∀ w ∈ u_ws RJ0 TJ0 4, w ∈ lw_tbl) ∧ (∀ w ∈ u_ws RJ4 TJ4 4, w ∈ lw_tbl) := by decide +kernel
theorem in_cl2 : (∀ w ∈ u_ws RX0 TX0 8, w ∈ lw_tbl) ∧ ((∀ w ∈ u_ws RX1 TX1 19, w ∈ lw_tbl) ∧ ((∀ w ∈ u_ws RX2 TX2 3, w ∈ lw_tbl) ∧ ((∀ w ∈ u_ws RX3 TX3 9, w ∈ lw_tbl) ∧ ((∀ w ∈ u_ws RX4 TX4 7, w ∈ lw_tbl) ∧ (∀ w ∈ u_ws RX5 TX5 1, w ∈ lw_tbl))))) := by decide +kernel
theorem in_inst : ∀ q ∈ vwCl, Cond.instantiable q.1 q.2.2 ∈ lw_tbl := by decide +kernel
theorem in_arr : (Cond.arrayClass .byte ∈ lw_tbl ∧ Cond.arrayClass .int ∈ lw_tbl) ∧ (Cond.arrayClass .long ∈ lw_tbl ∧ (Cond.arrayClass .boolean ∈ lw_tbl ∧ Cond.arrayOver (.object RX1) ∈ lw_tbl)) := by decide +kernel
theorem ar_of {ty : FieldType} (h : (Cond.arrayClass ty).before args s = true) (hp : ∀ cA, s.vm.findClass ("[" ++ ty.toString) = some cA → va_RA s cA ty) : ∃ cA, ArrOfT s cA ty ∧ va_RA s cA ty := by
  obtain ⟨cA, kA, comp, h1, h2, h3⟩ := Cond.arrayClass_spec (first := s) (o := none) (idx := []) h
  exact ⟨cA, fun n z => ⟨fun k h => (by cases h), kA, h2, comp, h3⟩, hp cA h1⟩
set_option maxHeartbeats 4000000 in
theorem env_K (hts : ∀ w ∈ lw_tbl, w.before args s = true) : ∃ (D : va_G) (cy : Nat → ClassId), ∀ (B n : Nat) (K V : Nat → Nat) (l : List Int32), va_K D vwCl (eTy (D, (cy, ((B, n), (K, (V, ((0, 0), l))))))) s := by
  have hin : ∀ q ∈ vwCl, ∀ w ∈ u_ws q.1 q.2.1 q.2.2, w ∈ lw_tbl := List.forall_mem_cons.mpr ⟨in_cl.1, List.forall_mem_cons.mpr ⟨in_cl.2, List.forall_mem_cons.mpr ⟨in_cl2.1, List.forall_mem_cons.mpr ⟨in_cl2.2.1, List.forall_mem_cons.mpr ⟨in_cl2.2.2.1, List.forall_mem_cons.mpr ⟨in_cl2.2.2.2.1, List.forall_mem_cons.mpr ⟨in_cl2.2.2.2.2.1, List.forall_mem_cons.mpr ⟨in_cl2.2.2.2.2.2, fun _ z => absurd z List.not_mem_nil⟩⟩⟩⟩⟩⟩⟩⟩
  have hk : ∀ k : Nat, ∃ z : ClassId × (Nat → Nat), ∀ q, vwCl[k]? = some q → u_Kn s q.1 q.2.1 q.2.2 z.1 z.2 := fun k => by
    cases hq : vwCl[k]? with
    | none => exact ⟨(default, fun _ => 0), fun q z => by cases z⟩
    | some q =>
      obtain ⟨c, i, h1⟩ := u_known hts (hin q (List.mem_of_getElem? hq)) (hts _ (in_inst q (List.mem_of_getElem? hq)))
      exact ⟨(c, i), fun q' z => by cases z; exact h1⟩
  obtain ⟨f, hf⟩ := Classical.axiomOfChoice hk
  obtain ⟨⟨a0, a1⟩, a2, a3, a4⟩ := in_arr
  obtain ⟨c0, h0, r0⟩ := ar_of (hts _ a0) (fun _ z => z)
  obtain ⟨c1, h1, r1⟩ := ar_of (hts _ a1) (fun _ z => z)
  obtain ⟨c2, h2, r2⟩ := ar_of (hts _ a2) (fun _ z => z)
  obtain ⟨c3, h3, r3⟩ := ar_of (hts _ a3) (fun _ z => z)
  obtain ⟨comp, c4, kA, g1, -, g3, g4, g5⟩ := Cond.arrayOver_spec (first := s) (o := none) (idx := []) (hts _ a4)
  refine ⟨(fun k => (f k).1, fun k => (f k).2), fun k => if k = 0 then c0 else if k = 1 then c1 else if k = 2 then c2 else if k = 3 then c3 else c4, fun B n K V l => ⟨fun k q hq => hf k q hq, fun k q hq => ?_⟩⟩
  match k, hq with
  | 0, hq => cases hq; exact ⟨h0, r0⟩
  | 1, hq => cases hq; exact ⟨h1, r1⟩
  | 2, hq => cases hq; exact ⟨h2, r2⟩
  | 3, hq => cases hq; exact ⟨h3, r3⟩
  | 4, hq => cases hq; exact ⟨fun n z => ⟨fun k h => (by cases h), kA, g3, comp, g4⟩, kA, comp, g3, g4, g1, g5⟩
  | k + 5, hq => simp [eTy] at hq
theorem px_start (hts : ∀ w ∈ lw_tbl, w.before args s = true) : Px args s := by
  have hg : ∀ w ∈ GW, w.before args s = true := fun w hw => hts w (List.mem_filter.mp hw).1
  have w0 : Cond.privateMethod yJ5_ensureCapacityInternal_d00df ∈ lw_tbl ∧ Cond.instanceMethod yJ5_ensureCapacityInternal_d00df ∈ lw_tbl := by decide +kernel
  have w1 : Cond.privateMethod yJ5_newCapacity_0f7a4 ∈ lw_tbl ∧ Cond.instanceMethod yJ5_newCapacity_0f7a4 ∈ lw_tbl := by decide +kernel
  have w2 : Cond.privateMethod yJ5_inflateIfNeededFor_a7421 ∈ lw_tbl ∧ Cond.instanceMethod yJ5_inflateIfNeededFor_a7421 ∈ lw_tbl := by decide +kernel
  have w3 : Cond.privateMethod yJ5_putStringAt_47b60 ∈ lw_tbl ∧ Cond.instanceMethod yJ5_putStringAt_47b60 ∈ lw_tbl := by decide +kernel
  refine fun w hw => (List.mem_append.mp hw).elim (fun h => ?_) (hg w)
  rcases List.mem_cons.mp h with rfl | h
  · exact sel_priv (hg _ wk_3_161) rfl (by decide +kernel) (hts _ w0.1) (hts _ w0.2)
  rcases List.mem_cons.mp h with rfl | h
  · exact sel_priv (hg _ wk_3_161) rfl (by decide +kernel) (hts _ w1.1) (hts _ w1.2)
  rcases List.mem_cons.mp h with rfl | h
  · exact sel_priv (hg _ wk_3_161) rfl (by decide +kernel) (hts _ w2.1) (hts _ w2.2)
  obtain rfl := List.mem_singleton.mp h
  exact sel_priv (hg _ wk_3_161) rfl (by decide +kernel) (hts _ w3.1) (hts _ w3.2)
end STA
