/-! ===== loss, accounts ===== -/
section LLA
variable {f : Nat → Int32} {n t a k o : Nat} {s s' : Nat → Int32} {q : Int32} {b b' μ μ' μc μm : Mm}
theorem Rok.nz {s' : Nat → Int32} {lo hi : Nat} (R : Rok s) (hs : ∀ j, ¬ (lo ≤ j ∧ j < hi) → s' j = s j) (hz : (lo = 36 ∧ hi = 48) ∨ ((lo = 48 ∧ hi = 53) ∨ ((lo = 6 ∧ hi = 7) ∨ (lo = 7 ∧ hi = 8)))) (b6 : Bn s' 6 50) (b7 : Bn s' 7 5) (p7 : 1 ≤ ct s' 7) (i36 : ∀ k, k < 12 → Bn s' (36 + k) 200) (i48 : ∀ k, k < 5 → Bn s' (48 + k) 200) : Rok s' := by
  obtain ⟨⟨r0, ⟨r1, r1'⟩, r2, r3, r4, r6, r7, r7'⟩, ⟨r8, r14, r36, r48⟩, ⟨rr, rd⟩, rl, ro, rz⟩ := id R
  have e0 : ct s' 0 = ct s 0 := ct_eq (hs 0 (by omega))
  have e1 : ct s' 1 = ct s 1 := ct_eq (hs 1 (by omega))
  have e2 : ct s' 2 = ct s 2 := ct_eq (hs 2 (by omega))
  have e3 : ct s' 3 = ct s 3 := ct_eq (hs 3 (by omega))
  have e4 : ct s' 4 = ct s 4 := ct_eq (hs 4 (by omega))
  refine R.up (r0.eq (hs 0 (by omega))) (by omega) (r1.eq (hs 1 (by omega))) (by omega) (Or.inr e1) (r2.eq (hs 2 (by omega))) (by omega) (r3.eq (hs 3 (by omega))) (r4.eq (hs 4 (by omega))) b6 b7 p7 (fun q hq => (r8 q hq).eq (hs _ (by omega))) (fun q hq => (r14 q hq).eq (hs _ (by omega))) i36 i48 (fun r k hr hk => hs _ (by omega)) (fun r h1 h2 => by omega) (fun c d hc hd q => ?_) (fun l k hl hk => hs _ (by omega)) (fun l h1 h2 => by omega) (fun l k hl hk => hs _ (by omega)) (fun l h1 h2 => by omega) (fun j hj hz => ?_)
  · rw [e2] at hc hd
    rw [hs _ (by omega), hs _ (by omega)] at q
    exact rd c d hc hd q
  · rw [e2] at hz
    rw [hs j (by omega)]
    exact rz j hj hz
/-- fields of the class' target beside its tables -/
theorem GC.cel {c j : Nat} {v : Int32} {s' : Nat → Int32} (h : GC f n t s b μ) (hc : (c = 47 ∧ (j = 3 ∨ j = 15)) ∨ (c = 50 ∨ c = 51)) (hs : ∀ i, (i < 6 ∨ ((8 ≤ i ∧ i < 36) ∨ 53 ≤ i)) → s' i = s i) (h6 : ∀ k, k < 12 → (uI μ c j v).1 50 k = s' (36 + k)) (h7 : ∀ k, k < 5 → k < ct s' 7 → (uI μ c j v).1 51 k = s' (48 + k)) (h8 : (uI μ c j v).1 47 3 = s' 7) (h9 : (uI μ c j v).1 47 15 = s' 6) : GC f n t s' b (uI μ c j v) := by
  obtain ⟨a1, a2, ⟨g1, g2, g3, g4, g5, -⟩, a4, a5⟩ := h
  have l1 := g1.2.2.1.1
  have l2 := g2.2.2.1.1
  rw [show ln (48 + 1) = 18 by decide +kernel] at l1
  rw [show ln (52 + 1) = 10 by decide +kernel] at l2
  have fr : Fs (fun a => a = c) μ (uI μ c j v) := Fs.uI rfl
  have e45 : (uI μ c j v).1 45 = μ.1 45 := uI_ne (by omega)
  refine ⟨a1.fs fr (by omega) (by omega), by rw [e45]; exact a2, ⟨?_, ?_, ?_, ?_, ?_, h6, h7, h8, h9⟩, a4.tr (fr.mo (fun a e => by unfold LSg; omega)), fun i i3 i5 => ?_⟩
  · rw [ct_eq (hs 0 (by omega))]
    exact (g1.fs fr (by omega) (by omega)).congr (fun r k hr hk => (hs _ (by omega)).symm)
  · rw [ct_eq (hs 1 (by omega))]
    exact (g2.fs fr (by omega) (by omega)).congr (fun r k hr hk => (hs _ (by omega)).symm)
  · rw [ct_eq (hs 2 (by omega))]
    exact (g3.fs fr (by omega) (by omega)).congr (fun r k hr hk => (hs _ (by omega)).symm)
  · rw [ct_eq (hs 3 (by omega))]
    exact (g4.fs fr (by omega) (by omega)).congr (fun r k hr hk => (hs _ (by omega)).symm)
  · rw [ct_eq (hs 4 (by omega))]
    exact (g5.fs fr (by omega) (by omega)).congr (fun r k hr hk => (hs _ (by omega)).symm)
  · rw [← a5 i i3 i5]
    by_cases e : c = 47
    · rw [e, uI_eq]
      exact if_neg (by omega)
    · rw [uI_ne (fun z => e z.symm)]
theorem gc_next (hB : BY f n) (h : GC f n t s b μ) : Op (F_X0_nextToken μ) (GC f n (skp f n (te f n t)) s b) := op_m (h.1.next hB.1) (fun m w => h.mv w.1 w.2)
def loA (μ : Mm) : Option Mm := (F_X0_takeNumber (0 : Int32) (50 : Int32) μ).bind fun o60 => (some (uI o60.2 47 15 o60.1)).bind fun m63 => some m63
def acA (μ : Mm) : Option Mm := (F_X0_takeNumber (1 : Int32) (5 : Int32) μ).bind fun o7 => (F_X2_removeAll 52 o7.2).bind fun o11 => (F_X0_readAccounts_46 o7.1 qFuel (0 : Int32) o11).bind fun o20 => some o20
theorem x0_accL {x : Nat} (hx : x ≤ 5) : ∀ (d m i : Nat) (μ : Mm), i + d = x → d < m → Tb μ 52 2 i (fun _ _ => 0) → Op (F_X0_readAccounts_46 (nI x) m (nI i) μ) (fun z => Tb z 52 2 x (fun _ _ => 0) ∧ Fs (fun a => a = 52 ∨ a = 52 + 1) μ z) := by
  intro d
  induction d with
  | zero =>
    intro m i μ hi hm h
    obtain ⟨m, rfl⟩ : ∃ q, m = q + 1 := ⟨m - 1, by omega⟩
    obtain rfl : i = x := by omega
    rw [F_X0_readAccounts_46]
    exact op_t (Int32.le_refl _) (op_r ⟨h, Fs.rf⟩)
  | succ d ih =>
    intro m i μ hi hm h
    obtain ⟨m, rfl⟩ : ∃ q, m = q + 1 := ⟨m - 1, by omega⟩
    rw [F_X0_readAccounts_46]
    refine op_f (nI_ge (by omega) (by omega)) (op_mb (x2_add h (by rw [show ln (52 + 1) = 10 by decide +kernel]; omega)) (fun z w => ?_))
    rw [nI_1]
    exact op_m (ih m (i + 1) z.2 (by omega) (by omega) (w.2.1.congr (fun r k _ _ => by split <;> rfl))) (fun z' w' => ⟨w'.1, w.2.2.tr w'.2⟩)
end LLA

