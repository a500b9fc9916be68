/-! ===== the lines of leases and options ===== -/
section LLO
variable {f : Nat → Int32} {n t a k o : Nat} {s s' : Nat → Int32} {q : Int32} {b b' μ μ' μc μm : Mm}
def E_l : E6 := fun a b c d e g μ => (F_X1_addLease 47 a b c d e g μ).bind fun o29 => some o29.2
theorem leC_eq {x : Int32} : leC x μ = tcC 999 99 1 36 E_l x μ := rfl
theorem fx_El {x0 x1 x2 x3 x4 x5 : Int32} (h : FX f n k o b μ) : Op (E_l x0 x1 x2 x3 x4 x5 μ) (FX f n k o b) := op_mb (fx_lea h) (fun m q => op_r q)
theorem gc_El {x0 x1 x2 x3 x4 x5 : Int32} (h : GC f n t s b μ) (R : Rok s) (hc : ct s 3 < 8) : Op (E_l x0 x1 x2 x3 x4 x5 μ) (GC f n t (rw6S s (158 + 6 * ct s 3) 3 x0 x1 x2 x3 x4 x5) b) := by
  refine op_mb (tb6_row (tq := 59) h.2.2.1.2.2.2.1 (by rw [show ln (59 + 1) = 54 by decide +kernel]; omega)) (fun z w => op_r ?_)
  refine h.tab w.2 ⟨by decide, by unfold LSg; omega, by unfold LSg; omega⟩ (h.2.2.1.row6 w.2 (Or.inl ⟨rfl, rfl, rfl⟩) R.1.2.2.2.1.2 R.1.2.2.2.2.1.2 ⟨fun _ => hc, fun z => absurd z (by decide)⟩ R.1.2.2.2.1.1 ⟨R.1.1.2, R.1.2.1.1.2, R.1.2.2.1.2⟩ w.1)
theorem row_l {x0 x1 x2 x3 x4 x5 : Nat} (R : Rok s) (h0 : x0 < ct s 2) (h1 : x1 < ct s 1) (h2 : x2 < ct s 0) : Row0 s (rw6 (nI x0) (nI x1) (nI x2) (nI x3) (nI x4) (nI x5)) := by
  have r2 := R.1.2.2.1.2
  have r1 := R.1.2.1.1.2
  have r0 := R.1.1.2
  have e0 : (rw6 (nI x0) (nI x1) (nI x2) (nI x3) (nI x4) (nI x5)) 0 = nI x0 := rfl
  have e1 : (rw6 (nI x0) (nI x1) (nI x2) (nI x3) (nI x4) (nI x5)) 1 = nI x1 := rfl
  have e2 : (rw6 (nI x0) (nI x1) (nI x2) (nI x3) (nI x4) (nI x5)) 2 = nI x2 := rfl
  generalize rw6 (nI x0) (nI x1) (nI x2) (nI x3) (nI x4) (nI x5) = x at *
  have c0 := ct_nI e0 (by omega)
  have c1 := ct_nI e1 (by omega)
  have c2 := ct_nI e2 (by omega)
  exact ⟨⟨by rw [c0]; exact e0, by omega⟩, ⟨by rw [c1]; exact e1, by omega⟩, ⟨by rw [c2]; exact e2, by omega⟩⟩
/-! what is taken already -/
theorem takenF {p c m j : Nat} {g : Nat → Nat → Int32} {x y : Int32} (h : Tb μ p c m g) (hj : j < c) (h0 : ¬ μ.1 45 4 = 0) : ∀ (d z i : Nat), i + d = m → d < z → F_X0_failIfTaken_3 p (nI j) x y z (nI i) μ = some μ := by
  have hm := h.n_le
  intro d
  induction d with
  | zero =>
    intro z i hi hz
    obtain ⟨z, rfl⟩ : ∃ q, z = q + 1 := ⟨z - 1, by omega⟩
    rw [F_X0_failIfTaken_3, h.2.1, if_pos (nI_le (by omega) (by omega))]
  | succ d ih =>
    intro z i hi hz
    obtain ⟨z, rfl⟩ : ∃ q, z = q + 1 := ⟨z - 1, by omega⟩
    rw [F_X0_failIfTaken_3, h.2.1, if_neg (nI_ge (by omega) (by omega))]
    refine be_ (x2_get h (by omega) hj) ?_
    have : ((if g i j = x then ((F_X0_fail (3 : Int32) y μ).bind fun o12 => some o12) else (some μ)) : Option Mm) = some μ := by
      by_cases e : g i j = x
      · rw [if_pos e, x0_failF h0]; rfl
      · rw [if_neg e]
    refine be_ this ?_
    rw [nI_1]
    exact ih z (i + 1) (by omega) (by omega)
theorem x0_taken {p c m j y : Nat} {g : Nat → Nat → Int32} {x : Int32} (h : Tb μ p c m g) (hj : j < c) (h0 : μ.1 45 4 = 0) (hp : p ≠ 45 ∧ p + 1 ≠ 45) : Op (F_X0_failIfTaken p (nI j) x (nI y) μ) (fun μ' => ((∀ r, r < m → g r j ≠ x) → μ' = μ) ∧ ((¬ ∀ r, r < m → g r j ≠ x) → Er 3 y μ' ∧ K34 μ μ')) := by
  have hm := h.n_le
  have key : ∀ (d z i : Nat), i + d = m → d < z → (∀ r, r < i → g r j ≠ x) → Op (F_X0_failIfTaken_3 p (nI j) x (nI y) z (nI i) μ) (fun μ' => ((∀ r, r < m → g r j ≠ x) → μ' = μ) ∧ ((¬ ∀ r, r < m → g r j ≠ x) → Er 3 y μ' ∧ K34 μ μ')) := by
    intro d
    induction d with
    | zero =>
      intro z i hi hz hq
      obtain ⟨z, rfl⟩ : ∃ q, z = q + 1 := ⟨z - 1, by omega⟩
      rw [F_X0_failIfTaken_3, h.2.1, if_pos (nI_le (by omega) (by omega))]
      exact op_r ⟨fun _ => rfl, fun w => absurd (fun r hr => hq r (by omega)) w⟩
    | succ d ih =>
      intro z i hi hz hq
      obtain ⟨z, rfl⟩ : ∃ q, z = q + 1 := ⟨z - 1, by omega⟩
      rw [F_X0_failIfTaken_3, h.2.1, if_neg (nI_ge (by omega) (by omega))]
      refine op_eb (x2_get h (by omega) hj) ?_
      rw [nI_1]
      by_cases e : g i j = x
      · rw [if_pos e]
        refine op_b (op_mb (x0_fail0 (k := 3) (o := y) h0) (fun m1 w => op_r ?_))
        have e4 : ¬ m1.1 45 4 = 0 := by rw [w.1.1]; exact nI_ne0 (by decide) (by decide)
        refine op_e (takenF (h.fs w.2.1 hp.1 hp.2) hj e4 d z (i + 1) (by omega) (by omega)) ⟨fun w2 => absurd e (w2 i (by omega)), fun _ => w⟩
      · rw [if_neg e]
        exact op_br (ih z (i + 1) (by omega) (by omega) (fun r hr => by
          by_cases e2 : r = i
          · rw [e2]; exact e
          · exact hq r (by omega)))
  unfold F_X0_failIfTaken
  exact op_b (op_m (key m qFuel 0 (by omega) (by unfold qFuel; omega) (fun r hr => absurd hr (Nat.not_lt_zero r))) (fun m1 w => op_r w))
end LLO

