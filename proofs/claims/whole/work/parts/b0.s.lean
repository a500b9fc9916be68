/-! ===== what holds at the law's entry ===== -/
def stW : List Cond := flatC (Jvm.Cond.and given_1 narrow_1)
def qSc : List String := ["WaterExchange$Reader", "WaterExchange$Reader", "WaterExchange$Reader", "WaterExchange$Reader", "WaterExchange$Reader", "WaterExchange$Reader", "WaterExchange$Reader", "WaterExchange$Reader", "WaterExchange$Reader", "WaterExchange$Reader", "WaterExchange", "WaterExchange", "WaterExchange", "WaterExchange", "WaterExchange", "WaterExchange", "WaterExchange", "WaterExchange", "WaterExchange", "WaterExchange", "WaterExchange", "WaterExchange"]
def qSx : List Nat := [76, 85, 90, 95, 103, 108, 164, 166, 113, 118, 65, 118, 288, 129, 283, 235, 290, 229, 237, 248, 286, 256]
section STA
variable {args : Array Value} {s : State} {A : Nat → Prop}
theorem st_w (h : (Jvm.Cond.and given_1 narrow_1).before args s = true) {k : Nat} {w : Cond} (hk : stW[k]? = some w) : w.before args s = true := flat_of_before _ h w (List.mem_of_getElem? hk)
theorem vk_S1 {n : Nat} {bs : List Int32} {f g : Nat → Nat} {U : State} {H : Heap} (h : vk_S 1 [n] [bs] f g A U H) : vk_S 1 [n] [bs] (fun _ => f 0) (fun _ => g 0) A U H := by
  refine ⟨fun i hi => ?_, fun i j hi hj _ => by omega⟩
  obtain rfl : i = 0 := by omega
  exact h.1 0 (by decide)
theorem os_of (h : (Jvm.Cond.and given_1 narrow_1).before args s = true) (hA : ∀ a : Nat, a < s.heap.size → ¬ A a) {C : String} {ix k n : Nat} {bs : List Int32} (hn : n < 2 ^ 31) (a0 : stW[k]? = some (.exactly (.string C ix) "java/lang/String")) (a1 : stW[k + 1]? = some (.eq (.field (.string C ix) "java/lang/String" "coder" "B") (.int 0))) (a2 : stW[k + 2]? = some (.arrayOf (.field (.string C ix) "java/lang/String" "value" "[B") .byte)) (a3 : stW[k + 3]? = some (.eq (.length (.field (.string C ix) "java/lang/String" "value" "[B")) (.int (Int32.ofNat n)))) (a4 : ∀ j, j < n → stW[k + 4 + j]? = some (.eq (.elem (.field (.string C ix) "java/lang/String" "value" "[B") (.int (Int32.ofNat j))) (.int (bs.getD j 0)))) : ∃ a v, vk_S 1 [n] [bs] (fun _ => a) (fun _ => v) A s s.heap ∧ (Term.string C ix).eval args s none [] s = some (.ref a) := by
  have z : ∀ i, i < 1 → i = 0 := fun i hi => by omega
  obtain ⟨f, g, h1, h2⟩ := vk_Sof (N := 1) (tm := fun _ => .string C ix) (len := [n]) (byt := [bs]) (A := A) (args := args) (s := s) (fun i hi => by obtain rfl := z i hi; exact hn) (fun i hi => st_w h a0) (fun i hi => st_w h a1) (fun i hi => st_w h a2) (fun i hi => by obtain rfl := z i hi; exact st_w h a3) (fun i hi j hj => by obtain rfl := z i hi; exact st_w h (a4 j hj)) (fun i j hi hj e => absurd ((z i hi).trans (z j hj).symm) e) hA
  exact ⟨f 0, g 0, vk_S1 h1, h2 0 (by decide)⟩
theorem oe_of (h : (Jvm.Cond.and given_1 narrow_1).before args s = true) {C : String} {ix k : Nat} (a0 : stW[k]? = some (.exactly (.string C ix) "java/lang/String")) : ∃ a, (Term.string C ix).eval args s none [] s = some (.ref a) := by
  obtain ⟨a, c, cell, kk, h1, -⟩ := Cond.exactly_spec (first := s) (o := none) (idx := []) (st_w h a0)
  exact ⟨a, h1⟩
theorem va_eqRR {t u : Term} {a : Nat} (h : (Cond.eq t u).before args s = true) (ht : t.eval args s none [] s = some (.ref a)) : u.eval args s none [] s = some (.ref a) := by
  cases hv : u.eval args s none [] s with
  | none => simp [Cond.before, Cond.holds, Cond.value, ht, hv] at h
  | some w =>
    simp only [Cond.before, Cond.holds, Cond.value, ht, hv] at h
    cases w <;> simp_all
def PJ (args : Array Value) (s : State) (A : Nat → Prop) (j : Nat) (q : Nat × Nat) : Prop := (j < 10 → vk_S 1 [qLen.getD j 0] [qByt.getD j []] (fun _ => q.1) (fun _ => q.2) A s s.heap) ∧ (Term.string (qSc.getD j "") (qSx.getD j 0)).eval args s none [] s = some (.ref q.1)
set_option maxRecDepth 100000 in
theorem pj_ex (h : (Jvm.Cond.and given_1 narrow_1).before args s = true) (hA : ∀ a : Nat, a < s.heap.size → ¬ A a) : ∀ j, ∃ q : Nat × Nat, j < 22 → PJ args s A j q := by
  intro j
  by_cases hj : j < 22
  · rcases (show j = 0 ∨ j = 1 ∨ j = 2 ∨ j = 3 ∨ j = 4 ∨ j = 5 ∨ j = 6 ∨ j = 7 ∨ j = 8 ∨ j = 9 ∨ j = 10 ∨ j = 11 ∨ j = 12 ∨ j = 13 ∨ j = 14 ∨ j = 15 ∨ j = 16 ∨ j = 17 ∨ j = 18 ∨ j = 19 ∨ j = 20 ∨ j = 21 by omega) with rfl | rfl | rfl | rfl | rfl | rfl | rfl | rfl | rfl | rfl | rfl | rfl | rfl | rfl | rfl | rfl | rfl | rfl | rfl | rfl | rfl | rfl
    · obtain ⟨a, v, h1, h2⟩ := os_of (C := "WaterExchange$Reader") (ix := 76) (k := 366) (n := qLen.getD 0 0) (bs := qByt.getD 0 []) h hA (by decide) (by decide +kernel) (by decide +kernel) (by decide +kernel) (by decide +kernel) (by decide +kernel)
      exact ⟨(a, v), fun _ => ⟨fun _ => h1, h2⟩⟩
    · obtain ⟨a, v, h1, h2⟩ := os_of (C := "WaterExchange$Reader") (ix := 85) (k := 375) (n := qLen.getD 1 0) (bs := qByt.getD 1 []) h hA (by decide) (by decide +kernel) (by decide +kernel) (by decide +kernel) (by decide +kernel) (by decide +kernel)
      exact ⟨(a, v), fun _ => ⟨fun _ => h1, h2⟩⟩
    · obtain ⟨a, v, h1, h2⟩ := os_of (C := "WaterExchange$Reader") (ix := 90) (k := 385) (n := qLen.getD 2 0) (bs := qByt.getD 2 []) h hA (by decide) (by decide +kernel) (by decide +kernel) (by decide +kernel) (by decide +kernel) (by decide +kernel)
      exact ⟨(a, v), fun _ => ⟨fun _ => h1, h2⟩⟩
    · obtain ⟨a, v, h1, h2⟩ := os_of (C := "WaterExchange$Reader") (ix := 95) (k := 394) (n := qLen.getD 3 0) (bs := qByt.getD 3 []) h hA (by decide) (by decide +kernel) (by decide +kernel) (by decide +kernel) (by decide +kernel) (by decide +kernel)
      exact ⟨(a, v), fun _ => ⟨fun _ => h1, h2⟩⟩
    · obtain ⟨a, v, h1, h2⟩ := os_of (C := "WaterExchange$Reader") (ix := 103) (k := 402) (n := qLen.getD 4 0) (bs := qByt.getD 4 []) h hA (by decide) (by decide +kernel) (by decide +kernel) (by decide +kernel) (by decide +kernel) (by decide +kernel)
      exact ⟨(a, v), fun _ => ⟨fun _ => h1, h2⟩⟩
    · obtain ⟨a, v, h1, h2⟩ := os_of (C := "WaterExchange$Reader") (ix := 108) (k := 414) (n := qLen.getD 5 0) (bs := qByt.getD 5 []) h hA (by decide) (by decide +kernel) (by decide +kernel) (by decide +kernel) (by decide +kernel) (by decide +kernel)
      exact ⟨(a, v), fun _ => ⟨fun _ => h1, h2⟩⟩
    · obtain ⟨a, v, h1, h2⟩ := os_of (C := "WaterExchange$Reader") (ix := 164) (k := 423) (n := qLen.getD 6 0) (bs := qByt.getD 6 []) h hA (by decide) (by decide +kernel) (by decide +kernel) (by decide +kernel) (by decide +kernel) (by decide +kernel)
      exact ⟨(a, v), fun _ => ⟨fun _ => h1, h2⟩⟩
    · obtain ⟨a, v, h1, h2⟩ := os_of (C := "WaterExchange$Reader") (ix := 166) (k := 434) (n := qLen.getD 7 0) (bs := qByt.getD 7 []) h hA (by decide) (by decide +kernel) (by decide +kernel) (by decide +kernel) (by decide +kernel) (by decide +kernel)
      exact ⟨(a, v), fun _ => ⟨fun _ => h1, h2⟩⟩
    · obtain ⟨a, v, h1, h2⟩ := os_of (C := "WaterExchange$Reader") (ix := 113) (k := 443) (n := qLen.getD 8 0) (bs := qByt.getD 8 []) h hA (by decide) (by decide +kernel) (by decide +kernel) (by decide +kernel) (by decide +kernel) (by decide +kernel)
      exact ⟨(a, v), fun _ => ⟨fun _ => h1, h2⟩⟩
    · obtain ⟨a, v, h1, h2⟩ := os_of (C := "WaterExchange$Reader") (ix := 118) (k := 452) (n := qLen.getD 9 0) (bs := qByt.getD 9 []) h hA (by decide) (by decide +kernel) (by decide +kernel) (by decide +kernel) (by decide +kernel) (by decide +kernel)
      exact ⟨(a, v), fun _ => ⟨fun _ => h1, h2⟩⟩
    · obtain ⟨a, h2⟩ := oe_of (C := "WaterExchange") (ix := 65) (k := 462) h (by decide +kernel)
      exact ⟨(a, 0), fun _ => ⟨fun z => absurd z (by decide), h2⟩⟩
    · obtain ⟨a, h2⟩ := oe_of (C := "WaterExchange") (ix := 118) (k := 489) h (by decide +kernel)
      exact ⟨(a, 0), fun _ => ⟨fun z => absurd z (by decide), h2⟩⟩
    · obtain ⟨a, h2⟩ := oe_of (C := "WaterExchange") (ix := 288) (k := 506) h (by decide +kernel)
      exact ⟨(a, 0), fun _ => ⟨fun z => absurd z (by decide), h2⟩⟩
    · obtain ⟨a, h2⟩ := oe_of (C := "WaterExchange") (ix := 129) (k := 525) h (by decide +kernel)
      exact ⟨(a, 0), fun _ => ⟨fun z => absurd z (by decide), h2⟩⟩
    · obtain ⟨a, h2⟩ := oe_of (C := "WaterExchange") (ix := 283) (k := 552) h (by decide +kernel)
      exact ⟨(a, 0), fun _ => ⟨fun z => absurd z (by decide), h2⟩⟩
    · obtain ⟨a, h2⟩ := oe_of (C := "WaterExchange") (ix := 235) (k := 570) h (by decide +kernel)
      exact ⟨(a, 0), fun _ => ⟨fun z => absurd z (by decide), h2⟩⟩
    · obtain ⟨a, h2⟩ := oe_of (C := "WaterExchange") (ix := 290) (k := 586) h (by decide +kernel)
      exact ⟨(a, 0), fun _ => ⟨fun z => absurd z (by decide), h2⟩⟩
    · obtain ⟨a, h2⟩ := oe_of (C := "WaterExchange") (ix := 229) (k := 610) h (by decide +kernel)
      exact ⟨(a, 0), fun _ => ⟨fun z => absurd z (by decide), h2⟩⟩
    · obtain ⟨a, h2⟩ := oe_of (C := "WaterExchange") (ix := 237) (k := 633) h (by decide +kernel)
      exact ⟨(a, 0), fun _ => ⟨fun z => absurd z (by decide), h2⟩⟩
    · obtain ⟨a, h2⟩ := oe_of (C := "WaterExchange") (ix := 248) (k := 654) h (by decide +kernel)
      exact ⟨(a, 0), fun _ => ⟨fun z => absurd z (by decide), h2⟩⟩
    · obtain ⟨a, h2⟩ := oe_of (C := "WaterExchange") (ix := 286) (k := 697) h (by decide +kernel)
      exact ⟨(a, 0), fun _ => ⟨fun z => absurd z (by decide), h2⟩⟩
    · obtain ⟨a, h2⟩ := oe_of (C := "WaterExchange") (ix := 256) (k := 713) h (by decide +kernel)
      exact ⟨(a, 0), fun _ => ⟨fun z => absurd z (by decide), h2⟩⟩
  · exact ⟨(0, 0), fun z => absurd z hj⟩
theorem dg_DigitOnes (h : (Jvm.Cond.and given_1 narrow_1).before args s = true) (hA : ∀ a : Nat, a < s.heap.size → ¬ A a) : ∃ t, (Term.static "java/lang/Integer" "DigitOnes" "[B").eval args s none [] s = some (.ref t) ∧ va_T .byte t 100 qOnes A s s.heap := by
  have d : ∀ j, j < 100 → stW[12 + j]? = some (.eq (.elem (.static "java/lang/Integer" "DigitOnes" "[B") (.int (Int32.ofNat j))) (.int (Int32.ofNat (48 + j % 10)))) := by decide +kernel
  exact va_Tof (N := 100) (by decide) (st_w h (k := 10) (by decide +kernel)) (va_eqt (st_w h (k := 11) (by decide +kernel))) (fun j hj => va_eqt (st_w h (d j hj))) hA
theorem dg_DigitTens (h : (Jvm.Cond.and given_1 narrow_1).before args s = true) (hA : ∀ a : Nat, a < s.heap.size → ¬ A a) : ∃ t, (Term.static "java/lang/Integer" "DigitTens" "[B").eval args s none [] s = some (.ref t) ∧ va_T .byte t 100 qTens A s s.heap := by
  have d : ∀ j, j < 100 → stW[115 + j]? = some (.eq (.elem (.static "java/lang/Integer" "DigitTens" "[B") (.int (Int32.ofNat j))) (.int (Int32.ofNat (48 + j / 10)))) := by decide +kernel
  exact va_Tof (N := 100) (by decide) (st_w h (k := 113) (by decide +kernel)) (va_eqt (st_w h (k := 114) (by decide +kernel))) (fun j hj => va_eqt (st_w h (d j hj))) hA
theorem sr_all : ∀ q ∈ qLits, Cond.stringRef q.1 q.2.1 q.2.2.1 ∈ lw_tbl := by decide +kernel
theorem ls_all : (Cond.laysStatic "java/lang/String" "COMPACT_STRINGS" "Z" ∈ lw_tbl ∧ Cond.initialized "java/lang/String" ∈ lw_tbl) ∧ ((Cond.laysStatic "java/lang/Integer" "DigitOnes" "[B" ∈ lw_tbl ∧ Cond.laysStatic "java/lang/Integer" "DigitTens" "[B" ∈ lw_tbl) ∧ (Cond.initialized "java/lang/Integer" ∈ lw_tbl ∧ ((Cond.laysStatic "java/lang/Throwable" "UNASSIGNED_STACK" Bundle.steD ∈ lw_tbl ∧ Cond.laysStatic "java/lang/Throwable" "SUPPRESSED_SENTINEL" Bundle.listD ∈ lw_tbl) ∧ (Cond.initialized "java/lang/Throwable" ∈ lw_tbl ∧ (Cond.laysStatic "jdk/internal/util/Preconditions" "SIOOBE_FORMATTER" "Ljava/util/function/BiFunction;" ∈ lw_tbl ∧ Cond.initialized "jdk/internal/util/Preconditions" ∈ lw_tbl))))) := by decide +kernel
set_option maxRecDepth 100000 in
set_option maxHeartbeats 4000000 in
theorem env_old (hts : ∀ w ∈ lw_tbl, w.before args s = true) (h : (Jvm.Cond.and given_1 narrow_1).before args s = true) : ∃ (K V : Nat → Nat), ∀ (D : va_G) (cy : Nat → ClassId) (n : Nat), Old (D, (cy, ((s.heap.size, n), (K, V)))) s := by
  have hA : ∀ a : Nat, a < s.heap.size → ¬ (fun q => s.heap.size ≤ q) a := fun a ha hb => absurd hb (Nat.not_le.mpr ha)
  obtain ⟨f, hf⟩ := Classical.axiomOfChoice (pj_ex h hA)
  obtain ⟨t1, e1, T1⟩ := dg_DigitOnes h hA
  obtain ⟨t2, e2, T2⟩ := dg_DigitTens h hA
  obtain ⟨⟨l1, i1⟩, ⟨l2, l3⟩, i2, ⟨l4, l5⟩, i3, l6, i4⟩ := ls_all
  refine ⟨fun j => (f j).1, fun j => if j = 100 then t1 else if j = 101 then t2 else (f j).2, fun D cy n => ?_⟩
  have hev : ∀ q ∈ qLits, (Term.string q.1 q.2.1).eval args s none [] s = some (.ref (f q.2.2.2).1) := by
    have r : ∀ j, j < 22 → (Term.string (qSc.getD j "") (qSx.getD j 0)).eval args s none [] s = some (.ref (f j).1) := fun j hj => (hf j hj).2
    exact List.forall_mem_cons.mpr ⟨(r 0 (by decide)), List.forall_mem_cons.mpr ⟨(va_eqRR (st_w h (k := 743) (w := .eq (.string "WaterExchange$Reader" 76) (.string "WaterExchangeModel" 162)) (by decide +kernel)) (r 0 (by decide))), List.forall_mem_cons.mpr ⟨(r 1 (by decide)), List.forall_mem_cons.mpr ⟨(va_eqRR (st_w h (k := 754) (w := .eq (.string "WaterExchange$Reader" 85) (.string "WaterExchangeModel" 168)) (by decide +kernel)) (r 1 (by decide))), List.forall_mem_cons.mpr ⟨(r 2 (by decide)), List.forall_mem_cons.mpr ⟨(va_eqRR (st_w h (k := 764) (w := .eq (.string "WaterExchange$Reader" 90) (.string "WaterExchangeModel" 173)) (by decide +kernel)) (r 2 (by decide))), List.forall_mem_cons.mpr ⟨(r 3 (by decide)), List.forall_mem_cons.mpr ⟨(va_eqRR (st_w h (k := 773) (w := .eq (.string "WaterExchange$Reader" 95) (.string "WaterExchangeModel" 175)) (by decide +kernel)) (r 3 (by decide))), List.forall_mem_cons.mpr ⟨(r 4 (by decide)), List.forall_mem_cons.mpr ⟨(va_eqRR (st_w h (k := 786) (w := .eq (.string "WaterExchange$Reader" 103) (.string "WaterExchangeModel" 177)) (by decide +kernel)) (r 4 (by decide))), List.forall_mem_cons.mpr ⟨(r 5 (by decide)), List.forall_mem_cons.mpr ⟨(va_eqRR (st_w h (k := 796) (w := .eq (.string "WaterExchange$Reader" 108) (.string "WaterExchangeModel" 179)) (by decide +kernel)) (r 5 (by decide))), List.forall_mem_cons.mpr ⟨(r 6 (by decide)), List.forall_mem_cons.mpr ⟨(va_eqRR (st_w h (k := 808) (w := .eq (.string "WaterExchange$Reader" 164) (.string "WaterExchangeModel" 150)) (by decide +kernel)) (r 6 (by decide))), List.forall_mem_cons.mpr ⟨(r 7 (by decide)), List.forall_mem_cons.mpr ⟨(va_eqRR (st_w h (k := 818) (w := .eq (.string "WaterExchange$Reader" 166) (.string "WaterExchangeModel" 156)) (by decide +kernel)) (r 7 (by decide))), List.forall_mem_cons.mpr ⟨(r 8 (by decide)), List.forall_mem_cons.mpr ⟨(va_eqRR (st_w h (k := 828) (w := .eq (.string "WaterExchange$Reader" 113) (.string "WaterExchangeModel" 184)) (by decide +kernel)) (r 8 (by decide))), List.forall_mem_cons.mpr ⟨(r 9 (by decide)), List.forall_mem_cons.mpr ⟨(va_eqRR (st_w h (k := 839) (w := .eq (.string "WaterExchange$Reader" 118) (.string "WaterExchangeModel" 189)) (by decide +kernel)) (r 9 (by decide))), List.forall_mem_cons.mpr ⟨(r 10 (by decide)), List.forall_mem_cons.mpr ⟨(r 11 (by decide)), List.forall_mem_cons.mpr ⟨(r 12 (by decide)), List.forall_mem_cons.mpr ⟨(r 13 (by decide)), List.forall_mem_cons.mpr ⟨(r 14 (by decide)), List.forall_mem_cons.mpr ⟨(r 15 (by decide)), List.forall_mem_cons.mpr ⟨(r 16 (by decide)), List.forall_mem_cons.mpr ⟨(r 17 (by decide)), List.forall_mem_cons.mpr ⟨(r 18 (by decide)), List.forall_mem_cons.mpr ⟨(r 19 (by decide)), List.forall_mem_cons.mpr ⟨(r 20 (by decide)), List.forall_mem_cons.mpr ⟨(r 21 (by decide)), fun _ z => absurd z List.not_mem_nil⟩⟩⟩⟩⟩⟩⟩⟩⟩⟩⟩⟩⟩⟩⟩⟩⟩⟩⟩⟩⟩⟩⟩⟩⟩⟩⟩⟩⟩⟩⟩⟩
  refine ⟨fun q hq => vk_R.of (hts _ (sr_all q hq)) (hev q hq), fun j hj => ?_, vx_Zqof (hts _ l4) (hts _ i3) (st_w h (k := 215) (by decide +kernel)) hA, vx_Zqof (hts _ l5) (hts _ i3) (st_w h (k := 216) (by decide +kernel)) hA, va_Zof (hts _ l1) (hts _ i1) (va_eqt (st_w h (k := 4) (by decide +kernel))) hA, va_Zof (hts _ l2) (hts _ i2) e1 hA, T1, va_Zof (hts _ l3) (hts _ i2) e2 hA, T2, fun w hw => va_Nw.of (nw_tab (List.mem_filter.mp hw).2) (hts w (List.mem_filter.mp hw).1), ?_, va_Zqof (hts _ l6) (hts _ i4) (st_w h (k := 5) (by decide +kernel)) hA⟩
  · have h1 := (hf j (by omega)).1 hj
    show vk_S 1 [qLen.getD j 0] [qByt.getD j []] (fun _ => (f j).1) (fun _ => if j = 100 then t1 else if j = 101 then t2 else (f j).2) _ s s.heap
    rw [if_neg (by omega), if_neg (by omega)]
    exact h1
  · exact List.forall_mem_cons.mpr ⟨va_Nc.of (st_w h (k := 248) (by decide +kernel)), List.forall_mem_cons.mpr ⟨va_Nc.of (st_w h (k := 247) (by decide +kernel)), List.forall_mem_cons.mpr ⟨va_Nc.of (st_w h (k := 225) (by decide +kernel)), List.forall_mem_cons.mpr ⟨va_Nc.of (st_w h (k := 249) (by decide +kernel)), fun _ z => absurd z List.not_mem_nil⟩⟩⟩⟩
theorem in_cl : (∀ w ∈ u_ws RJ0 TJ0 4, w ∈ lw_tbl) ∧ ((∀ w ∈ u_ws RJ4 TJ4 4, w ∈ lw_tbl) ∧ ((∀ w ∈ u_ws RJx00060 TJx00060 6, w ∈ lw_tbl) ∧ (∀ w ∈ u_ws RJx7c733 TJx7c733 6, w ∈ lw_tbl))) := by decide +kernel
theorem in_cl2 : (∀ w ∈ u_ws RX0 TX0 8, w ∈ lw_tbl) ∧ ((∀ w ∈ u_ws RX1 TX1 19, w ∈ lw_tbl) ∧ ((∀ w ∈ u_ws RX2 TX2 3, w ∈ lw_tbl) ∧ ((∀ w ∈ u_ws RX3 TX3 9, w ∈ lw_tbl) ∧ (∀ w ∈ u_ws RX4 TX4 30, w ∈ lw_tbl)))) := by decide +kernel
theorem in_inst : ∀ q ∈ vwCl, Cond.instantiable q.1 q.2.2 ∈ lw_tbl := by decide +kernel
theorem in_arr : (Cond.arrayClass .byte ∈ lw_tbl ∧ Cond.arrayClass .int ∈ lw_tbl) ∧ (Cond.arrayClass .long ∈ lw_tbl ∧ (Cond.arrayClass .boolean ∈ lw_tbl ∧ Cond.arrayOver (.object RX1) ∈ lw_tbl)) := by decide +kernel
theorem ar_of {ty : FieldType} (h : (Cond.arrayClass ty).before args s = true) (hp : ∀ cA, s.vm.findClass ("[" ++ ty.toString) = some cA → va_RA s cA ty) : ∃ cA, ArrOfT s cA ty ∧ va_RA s cA ty := by
  obtain ⟨cA, kA, comp, h1, h2, h3⟩ := Cond.arrayClass_spec (first := s) (o := none) (idx := []) h
  exact ⟨cA, fun n z => ⟨fun k h => (by cases h), kA, h2, comp, h3⟩, hp cA h1⟩
set_option maxHeartbeats 4000000 in
theorem env_K (hts : ∀ w ∈ lw_tbl, w.before args s = true) : ∃ (D : va_G) (cy : Nat → ClassId), ∀ (B n : Nat) (K V : Nat → Nat), va_K D vwCl (eTy (D, (cy, ((B, n), (K, V))))) s := by
  have hin : ∀ q ∈ vwCl, ∀ w ∈ u_ws q.1 q.2.1 q.2.2, w ∈ lw_tbl := List.forall_mem_cons.mpr ⟨in_cl.1, List.forall_mem_cons.mpr ⟨in_cl.2.1, List.forall_mem_cons.mpr ⟨in_cl.2.2.1, List.forall_mem_cons.mpr ⟨in_cl.2.2.2, List.forall_mem_cons.mpr ⟨in_cl2.1, List.forall_mem_cons.mpr ⟨in_cl2.2.1, List.forall_mem_cons.mpr ⟨in_cl2.2.2.1, List.forall_mem_cons.mpr ⟨in_cl2.2.2.2.1, List.forall_mem_cons.mpr ⟨in_cl2.2.2.2.2, fun _ z => absurd z List.not_mem_nil⟩⟩⟩⟩⟩⟩⟩⟩⟩
  have hk : ∀ k : Nat, ∃ z : ClassId × (Nat → Nat), ∀ q, vwCl[k]? = some q → u_Kn s q.1 q.2.1 q.2.2 z.1 z.2 := fun k => by
    cases hq : vwCl[k]? with
    | none => exact ⟨(default, fun _ => 0), fun q z => by cases z⟩
    | some q =>
      obtain ⟨c, i, h1⟩ := u_known hts (hin q (List.mem_of_getElem? hq)) (hts _ (in_inst q (List.mem_of_getElem? hq)))
      exact ⟨(c, i), fun q' z => by cases z; exact h1⟩
  obtain ⟨f, hf⟩ := Classical.axiomOfChoice hk
  obtain ⟨⟨a0, a1⟩, a2, a3, a4⟩ := in_arr
  obtain ⟨c0, h0, r0⟩ := ar_of (hts _ a0) (fun _ z => z)
  obtain ⟨c1, h1, r1⟩ := ar_of (hts _ a1) (fun _ z => z)
  obtain ⟨c2, h2, r2⟩ := ar_of (hts _ a2) (fun _ z => z)
  obtain ⟨c3, h3, r3⟩ := ar_of (hts _ a3) (fun _ z => z)
  obtain ⟨comp, c4, kA, g1, -, g3, g4, g5⟩ := Cond.arrayOver_spec (first := s) (o := none) (idx := []) (hts _ a4)
  refine ⟨(fun k => (f k).1, fun k => (f k).2), fun k => if k = 0 then c0 else if k = 1 then c1 else if k = 2 then c2 else if k = 3 then c3 else c4, fun B n K V => ⟨fun k q hq => hf k q hq, fun k q hq => ?_⟩⟩
  match k, hq with
  | 0, hq => cases hq; exact ⟨h0, r0⟩
  | 1, hq => cases hq; exact ⟨h1, r1⟩
  | 2, hq => cases hq; exact ⟨h2, r2⟩
  | 3, hq => cases hq; exact ⟨h3, r3⟩
  | 4, hq => cases hq; exact ⟨fun n z => ⟨fun k h => (by cases h), kA, g3, comp, g4⟩, kA, comp, g3, g4, g1, g5⟩
  | k + 5, hq => simp [eTy] at hq
theorem px_start (hts : ∀ w ∈ lw_tbl, w.before args s = true) : Px args s := by
  have hg : ∀ w ∈ GW, w.before args s = true := fun w hw => hts w (List.mem_filter.mp hw).1
  have w1 : Cond.privateMethod yJ5_ensureCapacityInternal_d00df ∈ lw_tbl ∧ (Cond.instanceMethod yJ5_ensureCapacityInternal_d00df ∈ lw_tbl ∧ (Cond.privateMethod yJ5_newCapacity_0f7a4 ∈ lw_tbl ∧ Cond.instanceMethod yJ5_newCapacity_0f7a4 ∈ lw_tbl)) := by decide +kernel
  refine fun w hw => (List.mem_append.mp hw).elim (fun h => ?_) (hg w)
  rcases List.mem_cons.mp h with rfl | h
  · exact sel_priv (hg _ wk_2_215) rfl (by decide +kernel) (hts _ w1.1) (hts _ w1.2.1)
  · obtain rfl := List.mem_singleton.mp h
    exact sel_priv (hg _ wk_2_215) rfl (by decide +kernel) (hts _ w1.2.2.1) (hts _ w1.2.2.2)
end STA
