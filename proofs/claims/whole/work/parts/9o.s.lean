/-! ===== load: what stands before and behind the loop ===== -/
section LDA
variable {μ ν μ' b : Mm} {f : Nat → Int32} {n t k : Nat} {s : Nat → Int32}
theorem kd_47 : kd 47 = 1 := by decide +kernel
theorem rdt_E (hs : ∀ j, j < 521 → s j = sE j) (h : NV μ 47 sE gE) : RdT μ s := by
  have d0 : ct sE 0 = 0 := by decide
  have d1 : ct sE 1 = 1 := by decide
  have d2 : ct sE 2 = 0 := by decide
  have d3 : ct sE 3 = 0 := by decide
  have d4 : ct sE 4 = 0 := by decide
  refine ⟨?_, ?_, ?_, ?_, ?_, fun k hk => (h.sea k hk).trans (hs _ (by omega)).symm, fun k hk h7 => (h.yea k hk (by rw [← ct_eq (hs 7 (by decide))]; exact h7)).trans (hs _ (by omega)).symm, h.sca.1.trans (hs 7 (by decide)).symm, h.sca.2.2.1.trans (hs 6 (by decide)).symm⟩
  · rw [ct_eq (hs 0 (by decide))]
    exact h.rch.congr (fun r k hr hk => (hs _ (by omega)).symm)
  · rw [ct_eq (hs 1 (by decide))]
    exact h.acc.congr (fun r k hr hk => (hs _ (by omega)).symm)
  · rw [ct_eq (hs 2 (by decide))]
    exact h.rgt.congr (fun r k hr hk => by omega)
  · rw [ct_eq (hs 3 (by decide)), d3]
    have q := h.lea
    rw [lso_E] at q
    exact Tb.congr (n := 0) q (fun r k hr _ => absurd hr (Nat.not_lt_zero r))
  · rw [ct_eq (hs 4 (by decide)), d4]
    have q := h.opt
    rw [oso_E] at q
    exact Tb.congr (n := 0) q (fun r k hr _ => absurd hr (Nat.not_lt_zero r))
theorem rok_E (hs : ∀ j, j < 521 → s j = sE j) : Rok s ∧ qf s = 0 := by
  have d2 : ct s 2 = 0 := (ct_eq (hs 2 (by decide))).trans (by decide)
  have d3 : ct s 3 = 0 := (ct_eq (hs 3 (by decide))).trans (by decide)
  have d4 : ct s 4 = 0 := (ct_eq (hs 4 (by decide))).trans (by decide)
  have d1 : ct s 1 = 1 := (ct_eq (hs 1 (by decide))).trans (by decide)
  have d7 : ct s 7 = 1 := (ct_eq (hs 7 (by decide))).trans (by decide)
  have z : ∀ {j m : Nat}, j < 521 → sE j = nI 0 → m < 2 ^ 30 → Bn s j m := fun {j m} h e hm => Bn.mk (v := 0) ((hs j h).trans e) (Nat.zero_le m) hm
  refine ⟨⟨⟨z (by decide) (by decide) (by decide), ⟨Bn.mk (v := 1) ((hs 1 (by decide)).trans (by decide)) (by decide) (by decide), by omega⟩, z (by decide) (by decide) (by decide), z (by decide) (by decide) (by decide), z (by decide) (by decide) (by decide), z (by decide) (by decide) (by decide), Bn.mk (v := 1) ((hs 7 (by decide)).trans (by decide)) (by decide) (by decide), by omega⟩, ⟨fun q hq => z (by omega) ((show ∀ q, q < 6 → sE (8 + q) = nI 0 by decide) q hq) (by decide), fun q hq => z (by omega) ((show ∀ q, q < 6 → sE (14 + q) = nI 0 by decide) q hq) (by decide), fun q hq => Bn.mk (v := 100) ((hs _ (by omega)).trans ((show ∀ q, q < 12 → sE (36 + q) = nI 100 by decide) q hq)) (by decide) (by decide), fun q hq => ?_⟩, ⟨fun r hr => by omega, fun c d hc => by omega⟩, fun l hl => by omega, fun l hl => by omega, fun j hj hz => ?_⟩, ?_⟩
  · by_cases e : q = 0
    · rw [e]
      exact Bn.mk (v := 100) ((hs _ (by decide)).trans (by decide)) (by decide) (by decide)
    · exact z (by omega) ((if_neg (by omega)).trans (if_neg (by omega))) (by decide)
  · rw [d2] at hz
    rw [hs j hj]
    exact (if_neg (by omega)).trans (if_neg (by omega))
  · unfold qf
    rw [if_pos d2]
def rtB (o : Mm) : Option (Int32 × Mm) := (F_X1_rankRights 47 o).bind fun o38 => if (o38.1 45 4) = 0 then (some ((1 : Int32), o38)) else (some ((0 : Int32), o38))
theorem c_pre (h : KB μ 47) (h2 : μ.1 45 2 = nI n) (hB : BY (μ.1 46) n) : ∃ b, F_X0_readText μ = (F_X0_readText_28 qFuel 0 b).bind rtB ∧ (CL (μ.1 46) n (skp (μ.1 46) n 0) b ∧ ((b.1 45 4 = 0 ∧ b.1 45 3 = -1) ∧ (NV b 47 sE gE ∧ Fs (fun a => a = 45 ∨ Blk 47 a) μ b))) := by
  have k5 : Fs (fun a => a = 45) μ (uI (uI (uI μ 45 3 (-1)) 45 4 0) 45 7 0) := ((Fs.uI (S := fun a => a = 45) rfl).tr (Fs.uI rfl)).tr (Fs.uI rfl)
  have v : ∀ j, (uI (uI (uI μ 45 3 (-1)) 45 4 0) 45 7 0).1 45 j = if j = 7 then 0 else if j = 4 then 0 else if j = 3 then -1 else μ.1 45 j := fun j => by rw [uI_eq, uI_eq, uI_eq]
  obtain ⟨m8, e8, n8, f8⟩ := x1_empty (b := 47) kd_47 (h.fs k5 (fun a x y => by omega))
  have e45 : m8.1 45 = (uI (uI (uI μ 45 3 (-1)) 45 4 0) 45 7 0).1 45 := (f8.1 45 (by unfold Blk; omega)).1
  have t8 : Tx (μ.1 46) n m8 := ⟨by rw [e45, v]; exact h2, fun i _ => by rw [(f8.1 46 (by unfold Blk; omega)).1, (k5.1 46 (by decide)).1]⟩
  obtain ⟨b, e11, c11, k11⟩ := x0_next (e := 0) hB.1 t8 (by rw [e45, v]; rfl) (Nat.zero_le n)
  refine ⟨b, ?_, c11, ⟨(k11.2 4 (by decide)).trans (by rw [e45, v]; rfl), (k11.2 3 (by decide)).trans (by rw [e45, v]; rfl)⟩, SV.fs n8 k11.1 (fun a x y => by omega), ?_⟩
  · unfold F_X0_readText
    show (F_X1_makeEmpty 47 (uI (uI (uI μ 45 3 (-1)) 45 4 0) 45 7 0)).bind _ = _
    rw [e8]
    show (F_X0_nextToken m8).bind _ = _
    rw [e11]
    rfl
  · exact ((k5.mo (fun a e => Or.inl e)).tr (f8.mo (fun a e => Or.inr e))).tr (k11.1.mo (fun a e => Or.inl e))
/-! the reference's beginning -/
theorem m_zeL : ∀ (d m i : Nat) (μ : Mm), i + d = 521 → d < m → (∀ j, j < i → μ.1 297 j = 0) → Op (F_X4_clears_2 m (nI i) μ) (fun μ' => (∀ j, j < 521 → μ'.1 297 j = 0) ∧ Fs (fun a => a = 297) μ μ') := by
  intro d
  induction d with
  | zero =>
    intro m i μ hi hm hj
    obtain ⟨m, rfl⟩ : ∃ z, m = z + 1 := ⟨m - 1, by omega⟩
    rw [F_X4_clears_2, if_pos (show (521 : Int32) ≤ nI i from nI_le (a := 521) (by omega) (by omega))]
    exact op_r ⟨fun j h => hj j (by omega), Fs.rf⟩
  | succ d ih =>
    intro m i μ hi hm hj
    obtain ⟨m, rfl⟩ : ∃ z, m = z + 1 := ⟨m - 1, by omega⟩
    rw [F_X4_clears_2, if_neg (show ¬ (521 : Int32) ≤ nI i from nI_ge (b := 521) (by omega) (by decide))]
    refine op_eb (sI_ok (k := i) rfl (by rw [ln297]; omega)) ?_
    rw [nI_1]
    refine op_m (ih m (i + 1) _ (by omega) (by omega) (fun j h => ?_)) (fun μ' z => ⟨z.1, (Fs.uI (S := fun a => a = 297) rfl).tr z.2⟩)
    rw [uI_eq]
    show (if j = i then (0 : Int32) else μ.1 297 j) = 0
    by_cases e : j = i
    · rw [if_pos e]
    · rw [if_neg e]; exact hj j (by omega)
theorem m_huL {g : Nat → Int32} : ∀ (d m i : Nat) (μ : Mm), i + d = 12 → d < m → (∀ j, j < 521 → μ.1 297 j = if 36 ≤ j ∧ j < 36 + i then 100 else g j) → Op (F_X4_clears_48 m (nI i) μ) (fun μ' => (∀ j, j < 521 → μ'.1 297 j = if 36 ≤ j ∧ j < 48 then 100 else g j) ∧ Fs (fun a => a = 297) μ μ') := by
  intro d
  induction d with
  | zero =>
    intro m i μ hi hm hj
    obtain ⟨m, rfl⟩ : ∃ z, m = z + 1 := ⟨m - 1, by omega⟩
    rw [F_X4_clears_48, if_pos (show (12 : Int32) ≤ nI i from nI_le (a := 12) (by omega) (by omega))]
    obtain rfl : i = 12 := by omega
    exact op_r ⟨hj, Fs.rf⟩
  | succ d ih =>
    intro m i μ hi hm hj
    obtain ⟨m, rfl⟩ : ∃ z, m = z + 1 := ⟨m - 1, by omega⟩
    rw [F_X4_clears_48, if_neg (show ¬ (12 : Int32) ≤ nI i from nI_ge (b := 12) (by omega) (by decide))]
    refine op_eb (sI_ok (k := 36 + i) (nI_add 36 i) (by rw [ln297]; omega)) ?_
    rw [nI_1]
    refine op_m (ih m (i + 1) _ (by omega) (by omega) (fun j h => ?_)) (fun μ' z => ⟨z.1, (Fs.uI (S := fun a => a = 297) rfl).tr z.2⟩)
    rw [uI_eq]
    show (if j = 36 + i then (100 : Int32) else μ.1 297 j) = _
    by_cases e : j = 36 + i
    · rw [if_pos e, if_pos (by omega)]
    · rw [if_neg e, hj j h]
      by_cases e2 : 36 ≤ j ∧ j < 36 + i
      · rw [if_pos e2, if_pos (by omega)]
      · rw [if_neg e2, if_neg (by omega)]
theorem m_clears : Op (F_X4_clears μ) (fun μ' => (∀ j, j < 521 → μ'.1 297 j = sE j) ∧ (Fs (fun a => a = 295 ∨ a = 297) μ μ' ∧ ∀ j, μ'.1 295 j = if j = 19 then 0 else μ.1 295 j)) := by
  unfold F_X4_clears
  refine op_mb (m_zeL 521 qFuel 0 μ (by decide) (by decide) (fun j h => absurd h (Nat.not_lt_zero j))) (fun m1 w1 => ?_)
  refine op_eb (sI_ok (k := 1) rfl (by rw [ln297]; decide)) (op_eb (sI_ok (k := 7) rfl (by rw [ln297]; decide)) (op_eb (sI_ok (k := 48) rfl (by rw [ln297]; decide)) ?_))
  refine op_mb (m_huL (g := fun j => if j = 48 then 100 else if j = 7 then 1 else if j = 1 then 1 else m1.1 297 j) 12 qFuel 0 _ (by decide) (by decide) (fun j hj => ?_)) (fun m2 w2 => ?_)
  · rw [if_neg (by omega), uI_eq, uI_eq, uI_eq]
  · have F2 : Fs (fun a => a = 297) μ m2 := (((w1.2.tr (Fs.uI rfl)).tr (Fs.uI rfl)).tr (Fs.uI rfl)).tr w2.2
    refine op_br (op_r ⟨fun j hj => ?_, (F2.mo (fun a e => Or.inr e)).tr (Fs.uI (Or.inl rfl)), fun j => ?_⟩)
    · rw [uI_ne (by decide), w2.1 j hj]
      unfold sE
      by_cases e1 : 36 ≤ j ∧ j < 48
      · rw [if_pos e1, if_neg (by omega), if_pos (Or.inr e1)]
      · rw [if_neg e1]
        show (if j = 48 then 100 else if j = 7 then 1 else if j = 1 then 1 else m1.1 297 j) = _
        by_cases e2 : j = 48
        · rw [if_pos e2, if_neg (by omega), if_pos (Or.inl e2)]
        · rw [if_neg e2]
          by_cases e3 : j = 7
          · rw [if_pos e3, if_pos (Or.inr e3)]
          · rw [if_neg e3]
            by_cases e4 : j = 1
            · rw [if_pos e4, if_pos (Or.inl e4)]
            · rw [if_neg e4, if_neg (by omega), if_neg (by omega), w1.1 j hj]
    · rw [uI_eq, (F2.1 295 (by decide)).1]
def ldB (o : Mm) : Option (Int32 × Mm) := (F_X4_failed o).bind fun o54 => if o54 = 0 then ((F_X4_begins o).bind fun o59 => (aI o59 296 (2 : Int32)).bind fun x61 => some (x61, o59)) else ((some (uI o 295 0 (1 : Int32))).bind fun m63 => some ((0 : Int32), m63))
theorem m_pre (hp : ν.1 295 13 = nI n) : ∃ m, F_X4_load ν = (F_X4_load_37 qFuel m).bind ldB ∧ ((∀ j, j < 521 → m.1 297 j = sE j) ∧ (Fs (fun a => a = 295 ∨ a = 297) ν m ∧ ∀ j, m.1 295 j = if j = 19 then 0 else if j = 17 then 0 else if j = 16 then -1 else if j = 15 then 0 else if j = 13 then 0 else if j = 14 then nI n else if j = 0 then 0 else ν.1 295 j)) := by
  obtain ⟨m, e, h1, h2, h3⟩ := m_clears (μ := uI (uI (uI (uI (uI (uI ν 295 0 0) 295 14 ((uI ν 295 0 0).1 295 13)) 295 13 0) 295 15 0) 295 16 (-1)) 295 17 0)
  have k5 : Fs (fun a => a = 295) ν (uI (uI (uI (uI (uI (uI ν 295 0 0) 295 14 ((uI ν 295 0 0).1 295 13)) 295 13 0) 295 15 0) 295 16 (-1)) 295 17 0) := (((((Fs.uI (S := fun a => a = 295) rfl).tr (Fs.uI rfl)).tr (Fs.uI rfl)).tr (Fs.uI rfl)).tr (Fs.uI rfl)).tr (Fs.uI rfl)
  refine ⟨m, ?_, h1, (k5.mo (fun a e => Or.inl e)).tr h2, fun j => ?_⟩
  · unfold F_X4_load
    exact be_ rfl (be_ rfl (be_ rfl (be_ rfl (be_ rfl (be_ rfl (be_ e rfl))))))
  · have e13 : (uI ν 295 0 0).1 295 13 = nI n := by rw [uI_eq]; exact hp
    rw [h3, e13, uI_eq, uI_eq, uI_eq, uI_eq, uI_eq, uI_eq]
end LDA
