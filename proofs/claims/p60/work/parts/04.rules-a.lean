/-! THE MEMORY: numbers by cell and place, long numbers, the text's bytes (address, capacity, bytes); cells are numbered in the order in which they are made -/
abbrev Mm : Type := (Nat → Nat → Int32) × ((Nat → Nat → Int64) × (Nat × (Nat × (Nat → Int32))))
def uI (m : Mm) (a k : Nat) (v : Int32) : Mm := (fun b j => if b = a ∧ j = k then v else m.1 b j, m.2)
def uL (m : Mm) (a k : Nat) (v : Int64) : Mm := (m.1, (fun b j => if b = a ∧ j = k then v else m.2.1 b j, m.2.2))
/-- a piece of one row of numbers laid over another -/
def cpI (m : Mm) (a p b q n : Nat) : Mm := (fun c j => if c = b ∧ q ≤ j ∧ j < q + n then m.1 a (p + (j - q)) else m.1 c j, m.2)
def cpL (m : Mm) (a p b q n : Nat) : Mm := (m.1, (fun c j => if c = b ∧ q ≤ j ∧ j < q + n then m.2.1 a (p + (j - q)) else m.2.1 c j, m.2.2))
/-- the kinds of the cells (0 the exchange, 1 a state, 2 a table, 3 the reader, 4 the text, 5 the model, 6 ints, 7 longs, 8 bytes, 9 booleans, 10 states, 11 none), and the lengths of rows -/
def qStL : List (Nat × Nat) := [(1, 0), (2, 0), (6, 18), (6, 12), (6, 5), (2, 0), (6, 10), (7, 5), (2, 0), (6, 100), (6, 10), (7, 10), (2, 0), (6, 54), (2, 0), (6, 36), (2, 0), (6, 152), (2, 0), (6, 30), (2, 0), (6, 96)]
def qShp : List (Nat × Nat) := [(0, 0)] ++ (qStL ++ (qStL ++ ([(3, 0), (8, 900)] ++ (qStL ++ ([(6, 10), (10, 8)] ++ (qStL ++ (qStL ++ (qStL ++ (qStL ++ (qStL ++ (qStL ++ (qStL ++ (qStL ++ ([(10, 2)] ++ (qStL ++ (qStL ++ ([(9, 2), (11, 0), (8, 16), (4, 0)])))))))))))))))))
def kd (i : Nat) : Nat := (qShp.getD i (99, 0)).1
def ln (i : Nat) : Nat := (qShp.getD i (99, 0)).2
theorem qShp_len : qShp.length = 296 := by decide +kernel
/-- the surroundings: where fields lie; the array classes (byte, int, long, boolean, State); the first cell's address, how many cells there are; the literals' addresses and those of their bytes -/
abbrev Ev : Type := va_G × ((Nat → ClassId) × ((Nat × Nat) × ((Nat → Nat) × ((Nat → Nat) × ((Nat × Nat) × List Int32)))))
def eB (E : Ev) : Nat := E.2.2.1.1
def eN (E : Ev) : Nat := E.2.2.1.2
def eK (E : Ev) : Nat → Nat := E.2.2.2.1
def eV (E : Ev) : Nat → Nat := E.2.2.2.2.1
/-- whether its addresses end (0 no), and where; the bytes of the text that was made -/
def eU (E : Ev) : Nat × Nat := E.2.2.2.2.2.1
def eD (E : Ev) : List Int32 := E.2.2.2.2.2.2
def eC (E : Ev) : Nat → ClassId := E.2.1
def eTy (E : Ev) : List (ClassId × FieldType) := [(eC E 0, .byte), (eC E 1, .int), (eC E 2, .long), (eC E 3, .boolean), (eC E 4, .object RX1)]
def eA (E : Ev) : Nat → Prop := fun q => eB E ≤ q ∧ ((eU E).1 = 0 ∨ q < (eU E).2)
/-- what a cell holds -/
def cnB (B : Nat) (cy : Nat → ClassId) (k n i : Nat) (f : Nat → Int32) (g : Nat → Int64) (sb : Nat × (Nat × (Nat → Int32))) : va_E :=
  if k = 0 then .inr (5, [.ref (B + 1), .ref (B + 23), .ref (B + 45), .ref (B + 69), .ref (B + 70), .int (f 5), .ref (B + 247), .ref (B + 292), .ref (B + 293)])
  else if k = 1 then .inr (3, [.ref (B + (i + 1)), .ref (B + (i + 3)), .ref (B + (i + 4)), .int (f 3), .ref (B + (i + 5)), .ref (B + (i + 7)), .ref (B + (i + 8)), .ref (B + (i + 10)), .ref (B + (i + 11)), .ref (B + (i + 12)), .ref (B + (i + 14)), .ref (B + (i + 16)), .ref (B + (i + 18)), .ref (B + (i + 20)), .int (f 14), .int (f 15), .int (f 16), .int (f 17), .int (f 18)])
  else if k = 2 then .inr (4, [.int (f 0), .ref (B + (i + 1)), .int (f 2)])
  else if k = 3 then .inr (2, [.ref (B + 46), .ref (B + 47), .int (f 2), .int (f 3), .int (f 4), .int (f 5), .int (f 6), .int (f 7)])
  else if k = 4 then .inr (1, [.ref sb.1, .int (f 1), .int (f 2), .int (f 3)])
  else if k = 11 then .inr (1, [.ref (B + (i + 1)), .int (f 1), .int (f 2), .int (f 3)])
  else if k = 6 then .inl (cy 1, n, .inl f)
  else if k = 7 then .inl (cy 2, n, .inr (.inl g))
  else if k = 8 then .inl (cy 0, n, .inl f)
  else if k = 9 then .inl (cy 3, n, .inl f)
  else .inl (cy 4, n, .inr (.inr (.inr (.inr (fun j => some (B + (f j).toNatClampNeg))))))
def cn (E : Ev) (m : Mm) (i : Nat) : va_E := cnB (eB E) (eC E) (kd i) (ln i) i (m.1 i) (m.2.1 i) m.2.2
def eL (E : Ev) : List Nat := ((List.range (eN E)).filter (fun i => i != 296)).map (fun i => eB E + i)
def tx (E : Ev) (m : Mm) : va_W := if eN E ≤ 295 then [] else [(m.2.2.1, .inl (eC E 0, m.2.2.2.1, .inl m.2.2.2.2))]
def wl (E : Ev) (m : Mm) : va_W := tx E m ++ va_pl (eL E) (fun a => cn E m (a - eB E))
def Hd (E : Ev) (m : Mm) (H : Heap) : Prop := va_P E.1 vwCl (wl E m) H ∧ va_D (eA E) (wl E m)
theorem cn_congr {E : Ev} {m m' : Mm} {i : Nat} (h1 : m'.1 i = m.1 i) (h2 : m'.2.1 i = m.2.1 i) (h3 : m'.2.2 = m.2.2) : cn E m' i = cn E m i := by unfold cn; rw [h1, h2, h3]
theorem eL_mem {E : Ev} {i : Nat} (h : i < eN E) (h2 : i ≠ 296) : eB E + i ∈ eL E := by
  refine List.mem_map.mpr ⟨i, List.mem_filter.mpr ⟨List.mem_range.mpr h, ?_⟩, rfl⟩
  simpa using h2
theorem eL_ge {E : Ev} {a : Nat} (h : a ∈ eL E) : ∃ i, i < eN E ∧ i ≠ 296 ∧ a = eB E + i := by
  obtain ⟨i, h1, h2⟩ := List.mem_map.mp h
  obtain ⟨h3, h4⟩ := List.mem_filter.mp h1
  exact ⟨i, List.mem_range.mp h3, by simpa using h4, h2.symm⟩
theorem wl_get (E : Ev) (m : Mm) {i : Nat} (h : i < eN E) (h2 : i ≠ 296) : ∃ k : Nat, (wl E m)[k]? = some (eB E + i, cn E m i) := by
  obtain ⟨k, hk⟩ := va_pl_get (X := tx E m) (f := fun a => cn E m (a - eB E)) (eL_mem h h2)
  refine ⟨k, hk.trans ?_⟩
  rw [Nat.add_sub_cancel_left]
theorem wl_set {E : Ev} {m m' : Mm} {i k : Nat} {e : va_E} (hD : va_D (eA E) (wl E m)) (h : i < eN E) (h2 : i ≠ 296) (hk : (wl E m)[k]? = some (eB E + i, cn E m i)) (he : cn E m' i = e) (hne : ∀ j, j ≠ i → cn E m' j = cn E m j) (hs : m'.2.2 = m.2.2) : (wl E m).set k (eB E + i, e) = wl E m' := by
  have ht : tx E m' = tx E m := by unfold tx; rw [hs]
  have hk' : (tx E m ++ va_pl (eL E) (fun a => cn E m (a - eB E)))[k]? = some (eB E + i, (fun a => cn E m (a - eB E)) (eB E + i)) := by
    refine hk.trans ?_
    show some (eB E + i, cn E m i) = some (eB E + i, cn E m (eB E + i - eB E))
    rw [Nat.add_sub_cancel_left]
  unfold wl at hD ⊢
  rw [va_pl_set hD (eL_mem h h2) hk', ht]
  congr 1
  unfold va_pl
  apply List.map_congr_left
  intro a ha
  obtain ⟨j, -, -, rfl⟩ := eL_ge ha
  show (eB E + j, va_up (fun a => cn E m (a - eB E)) (eB E + i) e (eB E + j)) = (eB E + j, cn E m' (eB E + j - eB E))
  rw [Nat.add_sub_cancel_left]
  by_cases hj : j = i
  · subst hj
    rw [va_up_self, he]
  · rw [va_up_ne _ _ (by omega)]
    show (eB E + j, cn E m (eB E + j - eB E)) = _
    rw [Nat.add_sub_cancel_left, hne j hj]
theorem uI_ne {m : Mm} {a k : Nat} {v : Int32} {j : Nat} (h : j ≠ a) : (uI m a k v).1 j = m.1 j := by
  funext x
  simp [uI, h]
theorem uI_eq {m : Mm} {a k : Nat} {v : Int32} : (uI m a k v).1 a = fun j => if j = k then v else m.1 a j := by
  funext x
  simp [uI]
theorem uL_ne {m : Mm} {a k : Nat} {v : Int64} {j : Nat} (h : j ≠ a) : (uL m a k v).2.1 j = m.2.1 j := by
  funext x
  simp [uL, h]
theorem uL_eq {m : Mm} {a k : Nat} {v : Int64} : (uL m a k v).2.1 a = fun j => if j = k then v else m.2.1 a j := by
  funext x
  simp [uL]
theorem cnI_ne {E : Ev} {m : Mm} {a k : Nat} {v : Int32} (j : Nat) (h : j ≠ a) : cn E (uI m a k v) j = cn E m j := cn_congr (uI_ne h) rfl rfl
theorem cnL_ne {E : Ev} {m : Mm} {a k : Nat} {v : Int64} (j : Nat) (h : j ≠ a) : cn E (uL m a k v) j = cn E m j := cn_congr rfl (uL_ne h) rfl
theorem cpI_ne {m : Mm} {a p b q n : Nat} {j : Nat} (h : j ≠ b) : (cpI m a p b q n).1 j = m.1 j := by
  funext x
  simp [cpI, h]
theorem cpL_ne {m : Mm} {a p b q n : Nat} {j : Nat} (h : j ≠ b) : (cpL m a p b q n).2.1 j = m.2.1 j := by
  funext x
  simp [cpL, h]
theorem cncI_ne {E : Ev} {m : Mm} {a p b q n : Nat} (j : Nat) (h : j ≠ b) : cn E (cpI m a p b q n) j = cn E m j := cn_congr (cpI_ne h) rfl rfl
theorem cncL_ne {E : Ev} {m : Mm} {a p b q n : Nat} (j : Nat) (h : j ≠ b) : cn E (cpL m a p b q n) j = cn E m j := cn_congr rfl (cpL_ne h) rfl
theorem cn_0 {E : Ev} {m : Mm} {i : Nat} (h : kd i = 0) : cn E m i = .inr (5, [.ref (eB E + 1), .ref (eB E + 23), .ref (eB E + 45), .ref (eB E + 69), .ref (eB E + 70), .int (m.1 i 5), .ref (eB E + 247), .ref (eB E + 292), .ref (eB E + 293)]) := by unfold cn cnB; rw [h, if_pos rfl]
theorem cn_1 {E : Ev} {m : Mm} {i : Nat} (h : kd i = 1) : cn E m i = .inr (3, [.ref (eB E + (i + 1)), .ref (eB E + (i + 3)), .ref (eB E + (i + 4)), .int (m.1 i 3), .ref (eB E + (i + 5)), .ref (eB E + (i + 7)), .ref (eB E + (i + 8)), .ref (eB E + (i + 10)), .ref (eB E + (i + 11)), .ref (eB E + (i + 12)), .ref (eB E + (i + 14)), .ref (eB E + (i + 16)), .ref (eB E + (i + 18)), .ref (eB E + (i + 20)), .int (m.1 i 14), .int (m.1 i 15), .int (m.1 i 16), .int (m.1 i 17), .int (m.1 i 18)]) := by unfold cn cnB; rw [h]; rfl
theorem cn_2 {E : Ev} {m : Mm} {i : Nat} (h : kd i = 2) : cn E m i = .inr (4, [.int (m.1 i 0), .ref (eB E + (i + 1)), .int (m.1 i 2)]) := by unfold cn cnB; rw [h]; rfl
theorem cn_3 {E : Ev} {m : Mm} {i : Nat} (h : kd i = 3) : cn E m i = .inr (2, [.ref (eB E + 46), .ref (eB E + 47), .int (m.1 i 2), .int (m.1 i 3), .int (m.1 i 4), .int (m.1 i 5), .int (m.1 i 6), .int (m.1 i 7)]) := by unfold cn cnB; rw [h]; rfl
theorem cn_4 {E : Ev} {m : Mm} {i : Nat} (h : kd i = 4) : cn E m i = .inr (1, [.ref m.2.2.1, .int (m.1 i 1), .int (m.1 i 2), .int (m.1 i 3)]) := by unfold cn cnB; rw [h]; rfl
theorem cn_6 {E : Ev} {m : Mm} {i : Nat} (h : kd i = 6) : cn E m i = .inl (eC E 1, ln i, .inl (m.1 i)) := by unfold cn cnB; rw [h]; rfl
theorem cn_7 {E : Ev} {m : Mm} {i : Nat} (h : kd i = 7) : cn E m i = .inl (eC E 2, ln i, .inr (.inl (m.2.1 i))) := by unfold cn cnB; rw [h]; rfl
theorem cn_8 {E : Ev} {m : Mm} {i : Nat} (h : kd i = 8) : cn E m i = .inl (eC E 0, ln i, .inl (m.1 i)) := by unfold cn cnB; rw [h]; rfl
theorem cn_9 {E : Ev} {m : Mm} {i : Nat} (h : kd i = 9) : cn E m i = .inl (eC E 3, ln i, .inl (m.1 i)) := by unfold cn cnB; rw [h]; rfl
theorem cn_11 {E : Ev} {m : Mm} {i : Nat} (h : kd i = 11) : cn E m i = .inr (1, [.ref (eB E + (i + 1)), .int (m.1 i 1), .int (m.1 i 2), .int (m.1 i 3)]) := by unfold cn cnB; rw [h]; rfl
theorem cn_10 {E : Ev} {m : Mm} {i : Nat} (h : kd i = 10) : cn E m i = .inl (eC E 4, ln i, .inr (.inr (.inr (.inr (fun j => some (eB E + (m.1 i j).toNatClampNeg)))))) := by unfold cn cnB; rw [h]; rfl
/-- the literals: whose constant, which, its text, its number -/
def qLits : List (String × (Nat × (String × Nat))) := [("WaterExchange$Reader", 76, "reach", 0), ("WaterExchange$Reader", 85, "season", 1), ("WaterExchange$Reader", 90, "years", 2), ("WaterExchange$Reader", 95, "loss", 3), ("WaterExchange$Reader", 103, "accounts", 4), ("WaterExchange$Reader", 108, "right", 5), ("WaterExchange$Reader", 164, "returns", 6), ("WaterExchange$Reader", 166, "keeps", 7), ("WaterExchange$Reader", 113, "lease", 8), ("WaterExchange$Reader", 118, "option", 9), ("WaterExchangeLaw$Made", 37, "accounts ", 10), ("WaterExchangeLaw$Made", 46, ";loss ", 11), ("WaterExchangeLaw$Made", 51, ";years", 12), ("WaterExchangeLaw$Made", 53, " ", 13), ("WaterExchangeLaw$Made", 55, ";season", 14), ("WaterExchangeLaw$Made", 57, ";", 15), ("WaterExchangeLaw$Made", 59, "reach ", 16), ("WaterExchangeLaw$Made", 61, "right ", 17), ("WaterExchangeLaw$Made", 63, " returns ", 18), ("WaterExchangeLaw$Made", 65, " keeps ", 19), ("WaterExchangeLaw$Made", 67, "lease ", 20), ("WaterExchangeLaw$Made", 72, "option ", 21), ("WaterExchange", 65, "the text does not match", 23), ("WaterExchange", 118, "no such count", 24), ("WaterExchange", 288, "no such element", 25), ("WaterExchange", 283, "no such number", 26), ("WaterExchange", 235, "out of range", 27), ("WaterExchange", 290, "there are no reaches", 28)]
def qLen : List Nat := [5, 6, 5, 4, 8, 5, 7, 5, 5, 6, 9, 6, 6, 1, 7, 1, 6, 6, 9, 7, 6, 7]
def qByt : List (List Int32) := [[114, 101, 97, 99, 104], [115, 101, 97, 115, 111, 110], [121, 101, 97, 114, 115], [108, 111, 115, 115], [97, 99, 99, 111, 117, 110, 116, 115], [114, 105, 103, 104, 116], [114, 101, 116, 117, 114, 110, 115], [107, 101, 101, 112, 115], [108, 101, 97, 115, 101], [111, 112, 116, 105, 111, 110], [97, 99, 99, 111, 117, 110, 116, 115, 32], [59, 108, 111, 115, 115, 32], [59, 121, 101, 97, 114, 115], [32], [59, 115, 101, 97, 115, 111, 110], [59], [114, 101, 97, 99, 104, 32], [114, 105, 103, 104, 116, 32], [32, 114, 101, 116, 117, 114, 110, 115, 32], [32, 107, 101, 101, 112, 115, 32], [108, 101, 97, 115, 101, 32], [111, 112, 116, 105, 111, 110, 32]]
/-- the texts: the literals, and the one that was made (22) -/
def eLn (E : Ev) (j : Nat) : Nat := if j = 22 then (eD E).length else qLen.getD j 0
def eBy (E : Ev) (j : Nat) : List Int32 := if j = 22 then eD E else qByt.getD j []
def qOnes : Nat → Value := fun j => .int (Int32.ofNat (48 + j % 10))
def qTens : Nat → Value := fun j => .int (Int32.ofNat (48 + j / 10))
/-- what the tables' words say: the good ones -/
def GW : List Cond := lw_tbl.filter goodWord
/-- .. those of nest mates' fields, and of casts -/
def nwOk : Cond → Bool
  | .fieldLinkNest .. => true
  | .castable .. => true
  | .declares .. => true
  | _ => false
def NW : List Cond := lw_tbl.filter nwOk
theorem nw_warm {w : Cond} (h : nwOk w = true) {s U : State} (hW : s.WarmedH U.vm) (hZ : va_Nw w s) : va_Nw w U := by
  cases w <;> first | exact va_Nw.warmF hW hZ | exact va_Nw.warmC hW hZ | exact va_Nw.warmD hW hZ | (cases h)
theorem nw_tab {w : Cond} (h : nwOk w = true) : w.onTables = true := by
  cases w <;> first | rfl | (cases h)
/-- what was there before, and stays -/
def Old (E : Ev) (U : State) : Prop :=
  (∀ q ∈ qLits, vk_R q.1 q.2.1 q.2.2.1 (eK E q.2.2.2) U) ∧ (∀ j, j < 23 → vk_S 1 [eLn E j] [eBy E j] (fun _ => eK E j) (fun _ => eV E j) (eA E) U U.heap) ∧
  vx_Zq Bundle.tN "UNASSIGNED_STACK" Bundle.steD (eA E) U U.heap ∧ vx_Zq Bundle.tN "SUPPRESSED_SENTINEL" Bundle.listD (eA E) U U.heap ∧
  va_Z "java/lang/String" "COMPACT_STRINGS" "Z" (.int 1) (eA E) U U.heap ∧
  va_Z "java/lang/Integer" "DigitOnes" "[B" (.ref (eV E 100)) (eA E) U U.heap ∧ va_T .byte (eV E 100) 100 qOnes (eA E) U U.heap ∧
  va_Z "java/lang/Integer" "DigitTens" "[B" (.ref (eV E 101)) (eA E) U U.heap ∧ va_T .byte (eV E 101) 100 qTens (eA E) U U.heap ∧
  (∀ w ∈ NW, va_Nw w U) ∧ ((eD E).length < 1000 ∧ ∀ b, b ∈ eD E → ∃ c, c < 128 ∧ b = nI c) ∧ va_Zq "jdk/internal/util/Preconditions" "SIOOBE_FORMATTER" "Ljava/util/function/BiFunction;" (eA E) U U.heap
theorem Old.same {E : Ev} {u U : State} (hv : U.vm = u.vm) (hh : U.heap = u.heap) (h : Old E u) : Old E U := by
  obtain ⟨h1, h2, h3, h4, h5, h6, h7, h8, h9, h10, h11, h12⟩ := h
  have ha : u.vm.Alike U.vm := by rw [hv]; exact Vm.Alike.refl u.vm
  unfold Old
  rw [hh]
  exact ⟨fun q hq => vk_R.same hv (h1 q hq), fun j hj => vk_S.moved ha (h2 j hj), vx_Zq.moved ha h3, vx_Zq.moved ha h4, va_Z.moved ha h5, va_Z.moved ha h6, va_T.moved ha h7, va_Z.moved ha h8, va_T.moved ha h9, fun w hw => va_Nw.same (nw_tab (List.mem_filter.mp hw).2) hv.symm (h10 w hw), h11, va_Zq.moved ha h12⟩
theorem Old.to {E : Ev} {s U : State} {locs : List Loc} (hW : s.WarmedH U.vm) (hS : va_S (eA E) s.heap U.heap locs) (h : Old E s) : Old E U := by
  obtain ⟨h1, h2, h3, h4, h5, h6, h7, h8, h9, h10, h11, h12⟩ := h
  have ha : s.vm.Alike U.vm := hW.alike
  have hq := hS.2.1
  exact ⟨fun q hq => vk_R.warm hW (h1 q hq), fun j hj => vk_S.moved ha (vk_S.kept (h2 j hj) hq), vx_Zq.moved ha (vx_Zq.kept h3 hq), vx_Zq.moved ha (vx_Zq.kept h4 hq), va_Z.moved ha (va_Z.kept h5 hq), va_Z.moved ha (va_Z.kept h6 hq), va_T.moved ha (va_T.kept h7 hq), va_Z.moved ha (va_Z.kept h8 hq), va_T.moved ha (va_T.kept h9 hq), fun w hw => nw_warm (List.mem_filter.mp hw).2 hW (h10 w hw), h11, va_Zq.moved ha (va_Zq.kept h12 hq)⟩
/-- what a method's frame is sure of -/
def Cq (E : Ev) (p : Program) (s : State) (m : MethodId) (args : Array Value) (meth : Method) (c : Code) (cc : ByteArray) (nL : Nat) (own : String) : Prop :=
  p.tables.exec = Jvm.exec ∧ c.code = cc ∧ c.maxLocals = nL ∧ s.vm.findClass own = some m.cls ∧ (∀ w ∈ GW, w.before args s = true) ∧ meth.locks = false ∧ va_K E.1 vwCl (eTy E) s ∧ eB E ≤ s.heap.size ∧ Old E s
/-- the goal at a place: whatever heap holds the memory μ -/
def Gq (E : Ev) (p : Program) (l : Launch) (e : Env) (R : Room) (s : State) (m : MethodId) (args : Array Value) (below : List Frame) (meth : Method) (c : Code) (k n nL : Nat) (Q : State → Prop) (pc : Nat) (lv : List (Nat × Value)) (st : List Value) (μ : Mm) : Prop :=
  ∀ (H : Heap) (locs : List Loc) (ls : Array Slot), Hd E μ H → va_S (eA E) s.heap H locs → lv_has ls nL lv → W p l e R s m args below meth c H locs k n Q (F0 m pc ls st)
/-- a contract: of a method that returns; o what it answers, μ and μ' the memory ahead and behind -/
def qP (E : Ev) (μ : Mm) (U : State) : Prop := Hd E μ U.heap ∧ va_K E.1 vwCl (eTy E) U ∧ eB E ≤ U.heap.size ∧ Old E U
def qQ (E : Ev) (o : Option Value) (μ' : Mm) : Array Value → State → Outcome → State → Prop := fun _ st oc t => oc = .returned o ∧ Hd E μ' t.heap ∧ va_F (eA E) st t
def Ct (l : Launch) (E : Ev) (y : MethodName) (ws : List Cond) (rm : Room) (av : List Value) (μ : Mm) (o : Option Value) (μ' : Mm) : Prop := Met l y ws rm (va_Pc av (qP E μ)) (qQ E o μ') rm.cells rm.slots (eA E)
/-- .. that may throw: ec is 0 where it returns, else the number of what it throws -/
def XN (k : Nat) : String := match k with
  | 1 => "java/lang/IndexOutOfBoundsException"
  | 2 => "java/util/NoSuchElementException"
  | 3 => "java/lang/IllegalArgumentException"
  | _ => "java/lang/IllegalStateException"
def qX (E : Ev) (ec : Nat) (μ' : Mm) : String → State → State → Prop := fun X st t => (ec ≠ 0 ∧ X = XN ec) ∧ Hd E μ' t.heap ∧ va_F (eA E) st t
def qQx (E : Ev) (ec : Nat) (o : Option Value) (μ' : Mm) : Array Value → State → Outcome → State → Prop := fun _ st oc t => ec = 0 ∧ oc = .returned o ∧ Hd E μ' t.heap ∧ va_F (eA E) st t
def Cx (l : Launch) (E : Ev) (y : MethodName) (ws : List Cond) (rm : Room) (av : List Value) (μ : Mm) (ec : Nat) (o : Option Value) (μ' : Mm) : Prop := vx_Met l y ws rm (va_Pc av (qP E μ)) (qQx E ec o μ') (qX E ec μ') rm.cells rm.slots (eA E)
theorem Hd.sameH {E : Ev} {μ : Mm} {H H' : Heap} (h : Hd E μ H) (e : H' = H) : Hd E μ H' := e ▸ h
theorem qP_blind (E : Ev) (μ : Mm) (av : List Value) : FrameBlind (va_Pc av (qP E μ)) := fun a U g mk h => ⟨h.1, h.2.1, va_K.moved (u := U) (U := U.calling g mk a) (Vm.Alike.refl U.vm) h.2.2.1, h.2.2.2.1, Old.same (u := U) (U := U.calling g mk a) rfl rfl h.2.2.2.2⟩
theorem qP_at {E : Ev} {μ : Mm} {s U : State} {H : Heap} {locs : List Loc} (hH : Hd E μ H) (hS : va_S (eA E) s.heap H locs) (hK : va_K E.1 vwCl (eTy E) s) (hB : eB E ≤ s.heap.size) (hO : Old E s) (hU : U.heap = H) (hW : s.WarmedH U.vm) : qP E μ U :=
  ⟨by rw [hU]; exact hH, va_K.moved hW.alike hK, by rw [hU]; exact Nat.le_trans hB hS.1, Old.to hW (by rw [hU]; exact hS) hO⟩
