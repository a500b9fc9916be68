/-! ===== the lines of leases and options ===== -/
section LLO
variable {f : Nat → Int32} {n t a k o : Nat} {s s' : Nat → Int32} {q : Int32} {b b' μ μ' μc μm : Mm}
def E_l : E6 := fun a b c d e g μ => (F_X1_addLease 47 a b c d e g μ).bind fun o29 => some o29.2
def K_l (m : Mm) : Option Mm := (aI m 297 (3 : Int32)).bind fun x14 => (sI m 297 (3 : Int32) (x14 + (1 : Int32))).bind fun m16 => some m16
def K_o (m : Mm) : Option Mm := (aI m 297 (4 : Int32)).bind fun x14 => (sI m 297 (4 : Int32) (x14 + (1 : Int32))).bind fun m16 => some m16
theorem leC_eq {x : Int32} : leC x μ = tcC 999 99 1 36 E_l x μ := rfl
theorem ml_eq {p1 : Int32} : F_X4_leaseLine p1 μ = (F_X4_isRoom (nI 3) (nI 8) p1 μ).bind fun o2 => if o2.1 = 0 then some o2.2 else ((some (uI o2.2 295 19 (1 : Int32))).bind fun m7 => (aI m7 297 (3 : Int32)).bind fun x9 => (F_X4_tradeFields ((158 : Int32) + ((6 : Int32) * x9)) (1 : Int32) m7).bind K_l) := rfl
theorem mo_eq {p1 : Int32} : F_X4_optionLine p1 μ = (F_X4_isRoom (nI 4) (nI 6) p1 μ).bind fun o2 => if o2.1 = 0 then some o2.2 else ((some (uI o2.2 295 19 (1 : Int32))).bind fun m7 => (aI m7 297 (4 : Int32)).bind fun x9 => (F_X4_tradeFields ((206 : Int32) + ((6 : Int32) * x9)) (0 : Int32) m7).bind K_o) := rfl
theorem mx_Kl (h : MX f n k o b μ) : Op (K_l μ) (MX f n k o b) := op_eb (mx_get (j := 3) (by decide)) (op_mb (mx_put (j := 3) h (by decide)) (fun m w => op_r w))
theorem mx_Ko (h : MX f n k o b μ) : Op (K_o μ) (MX f n k o b) := op_eb (mx_get (j := 4) (by decide)) (op_mb (mx_put (j := 4) h (by decide)) (fun m w => op_r w))
theorem fx_El {x0 x1 x2 x3 x4 x5 : Int32} (h : FX f n k o b μ) : Op (E_l x0 x1 x2 x3 x4 x5 μ) (FX f n k o b) := op_mb (fx_lea h) (fun m q => op_r q)
theorem gc_El {x0 x1 x2 x3 x4 x5 : Int32} (h : GC f n t s b μ) (R : Rok s) (hc : ct s 3 < 8) : Op (E_l x0 x1 x2 x3 x4 x5 μ) (GC f n t (rw6S s (158 + 6 * ct s 3) 3 x0 x1 x2 x3 x4 x5) b) := by
  refine op_mb (tb6_row (tq := 59) h.2.2.1.2.2.2.1 (by rw [show ln (59 + 1) = 54 by decide +kernel]; omega)) (fun z w => op_r ?_)
  refine h.tab w.2 ⟨by decide, by unfold LSg; omega, by unfold LSg; omega⟩ (h.2.2.1.row6 w.2 (Or.inl ⟨rfl, rfl, rfl⟩) R.1.2.2.2.1.2 R.1.2.2.2.2.1.2 ⟨fun _ => hc, fun z => absurd z (by decide)⟩ R.1.2.2.2.1.1 ⟨R.1.1.2, R.1.2.1.1.2, R.1.2.2.1.2⟩ w.1)
theorem m_23l (h : GM f n a s q b μ) {p1 : Int32} : F_X4_tradeFields_23 p1 1 qFuel 0 μ = some μ := by
  show F_X4_tradeFields_23 p1 1 (9999 + 1) 0 μ = some μ
  rw [F_X4_tradeFields_23]
  refine be_ (mx_get (j := 4) (by decide)) ?_
  by_cases e : μ.1 297 4 ≤ 0
  · rw [if_pos e]
  · rw [if_neg e, if_neg n10]
theorem row_l {x0 x1 x2 x3 x4 x5 : Nat} (R : Rok s) (h0 : x0 < ct s 2) (h1 : x1 < ct s 1) (h2 : x2 < ct s 0) : Row0 s (rw6 (nI x0) (nI x1) (nI x2) (nI x3) (nI x4) (nI x5)) := by
  have r2 := R.1.2.2.1.2
  have r1 := R.1.2.1.1.2
  have r0 := R.1.1.2
  have e0 : (rw6 (nI x0) (nI x1) (nI x2) (nI x3) (nI x4) (nI x5)) 0 = nI x0 := rfl
  have e1 : (rw6 (nI x0) (nI x1) (nI x2) (nI x3) (nI x4) (nI x5)) 1 = nI x1 := rfl
  have e2 : (rw6 (nI x0) (nI x1) (nI x2) (nI x3) (nI x4) (nI x5)) 2 = nI x2 := rfl
  generalize rw6 (nI x0) (nI x1) (nI x2) (nI x3) (nI x4) (nI x5) = x at *
  have c0 := ct_nI e0 (by omega)
  have c1 := ct_nI e1 (by omega)
  have c2 := ct_nI e2 (by omega)
  exact ⟨⟨by rw [c0]; exact e0, by omega⟩, ⟨by rw [c1]; exact e1, by omega⟩, ⟨by rw [c2]; exact e2, by omega⟩⟩
theorem gm_fin {B c : Nat} {x0 x1 x2 x3 x4 x5 : Int32} (hc : c < 58) (hB1 : 158 ≤ B) (h : GM f n a (upd (upd (upd (upd (upd (upd s (B + 0) x0) (B + 1) x1) (B + 2) x2) (B + 3) x3) (B + 4) x4) (B + 5) x5) q b μ) : Op ((aI μ 297 (nI c)).bind fun x14 => (sI μ 297 (nI c) (x14 + (1 : Int32))).bind fun m16 => some m16) (GM f n a (rw6S s B c x0 x1 x2 x3 x4 x5) q b) := by
  refine op_eb (gm_get h (j := c) (by omega)) ?_
  rw [pk_un (by omega), pk_un (by omega), pk_un (by omega), pk_un (by omega), pk_un (by omega), pk_un (by omega)]
  exact op_mb (gm_put (j := c) h (by omega)) (fun m w => op_r w)
theorem l_lease (hB : BY f n) (C : GC f n t s b μc) (M : GM f n (te f n t) s (qf s) b' μm) (R : Rok s) (htn : t < n) : Op2 (F_X0_readLease μc) (F_X4_leaseLine (nI t) μm) (LRs f n t b b') := by
  have h2 := R.1.2.2.1
  have h3 := R.1.2.2.2.1
  have h210 := h2.2
  have h38 := h3.2
  have hte := (te_le (f := f) C.1.2.1).2.2 htn
  have hsk : te f n t ≤ skp f n (te f n t) := ru_ge
  rw [ml_eq, le_eq]
  refine row2 (qt := 59) (wh := 3) (c := ct s 3) (most := 8) hB C M C.2.2.1.2.2.2.1.2.1 h3.1 (by decide) h38 (by decide) (fun μ1 hlt C1 => ?_) (fun k o μ1 μ2 X Y => ?_)
  · show Op2 (leA μ1) (if (1 : Int32) = 0 then _ else _) _
    rw [if_neg n10]
    refine o2_r rfl ?_
    have M1 := gm_19 (v := 1) M
    generalize uI μm 295 19 1 = m7 at *
    refine o2_r (gm_get M1 (j := 3) (by decide)) ?_
    rw [h3.1, show (158 : Int32) + 6 * nI (ct s 3) = nI (158 + 6 * ct s 3) from ix2 158 6 _, tfA_l]
    unfold leA tfA
    refine o2_r (gm_get M1 (j := 2) (by decide)) ?_
    rw [C1.2.2.1.2.2.1.2.1, h2.1]
    refine num2 hB C1 M1 rfl (fun v μ2 μ3 t2 a2 v1 v2 C2 M2 ht2 hl2 _ => ?_) (fun k o w μ2 μ3 X Y => ?_)
    · obtain ⟨x0, rfl, -, hx0⟩ := i32_rp (lo := 0) v1 v2 (by decide) (by omega)
      refine o2_rb (x := leC (nI x0) μ2) (y := sI μ3 297 (nI (158 + 6 * ct s 3) + 0) (nI x0)) (gm_put' (j := 0) rfl rfl (by omega) M2) (fun m3 M3 => o2_r (m_23l M3) ?_)
      rw [leC_eq]
      refine l_trade (B := 158 + 6 * ct s 3) (h3 := 999) (h4 := 99) (l5 := 1) (h5 := 36) hB C2 M3 ht2 R (by omega) rfl (by omega) (by omega) (by decide) (fun k o a0 a1 a2 a3 a4 a5 m X => fx_El X) (fun k o m Y => mx_Kl Y) (fun x1 x2 x3 x4 x5 μ4 μ5 t3 a3 hx1 hx2 hx3 hx4 hx5 C3 M4 ht3 hl3 => ?_)
      have R' := rok_row6 (B := 158 + 6 * ct s 3) (c := 3) (a0 := nI x0) (a1 := nI x1) (a2 := nI x2) (a3 := nI x3) (a4 := nI x4) (a5 := nI x5) R (Or.inl ⟨rfl, rfl⟩) ⟨fun _ => hlt, fun z => absurd z (by decide)⟩ (fun _ => ⟨row_l R hx0 hx1 hx2, Bn.mk (v := x3) rfl hx3 (by decide), Bn.mk (v := x4) rfl hx4 (by decide)⟩) (fun z => absurd z (by decide))
      refine o2_of (gc_El C3 R hlt) (gm_fin (c := 3) (by decide) (by omega) M4) (fun z1 z2 Z1 Z2 => Or.inl ⟨t3, a3, _, Z1, ?_, ht3, R', by omega⟩)
      have eq : qf (rw6S s (158 + 6 * ct s 3) 3 (nI x0) (nI x1) (nI x2) (nI x3) (nI x4) (nI x5)) = 1 := by
        unfold qf
        rw [ct_eq (rw6S_n (by decide) (by omega)), if_neg (by omega)]
      rw [eq]
      exact Z2
    · exact o2_of (fx_leC X) (mx_tf0 rfl (by omega) (fun m Y => mx_Kl Y) Y) (fun _ _ X Y => lrX X Y)
  · exact o2_of (fx_leA X) (op_t rfl (op_r Y)) (fun _ _ X Y => lrX X Y)
/-! what is taken already -/
theorem takenF {p c m j : Nat} {g : Nat → Nat → Int32} {x y : Int32} (h : Tb μ p c m g) (hj : j < c) (h0 : ¬ μ.1 45 4 = 0) : ∀ (d z i : Nat), i + d = m → d < z → F_X0_failIfTaken_3 p (nI j) x y z (nI i) μ = some μ := by
  have hm := h.n_le
  intro d
  induction d with
  | zero =>
    intro z i hi hz
    obtain ⟨z, rfl⟩ : ∃ q, z = q + 1 := ⟨z - 1, by omega⟩
    rw [F_X0_failIfTaken_3, h.2.1, if_pos (nI_le (by omega) (by omega))]
  | succ d ih =>
    intro z i hi hz
    obtain ⟨z, rfl⟩ : ∃ q, z = q + 1 := ⟨z - 1, by omega⟩
    rw [F_X0_failIfTaken_3, h.2.1, if_neg (nI_ge (by omega) (by omega))]
    refine be_ (x2_get h (by omega) hj) ?_
    have : ((if g i j = x then ((F_X0_fail (3 : Int32) y μ).bind fun o12 => some o12) else (some μ)) : Option Mm) = some μ := by
      by_cases e : g i j = x
      · rw [if_pos e, x0_failF h0]; rfl
      · rw [if_neg e]
    refine be_ this ?_
    rw [nI_1]
    exact ih z (i + 1) (by omega) (by omega)
theorem x0_taken {p c m j y : Nat} {g : Nat → Nat → Int32} {x : Int32} (h : Tb μ p c m g) (hj : j < c) (h0 : μ.1 45 4 = 0) (hp : p ≠ 45 ∧ p + 1 ≠ 45) : Op (F_X0_failIfTaken p (nI j) x (nI y) μ) (fun μ' => ((∀ r, r < m → g r j ≠ x) → μ' = μ) ∧ ((¬ ∀ r, r < m → g r j ≠ x) → Er 3 y μ' ∧ K34 μ μ')) := by
  have hm := h.n_le
  have key : ∀ (d z i : Nat), i + d = m → d < z → (∀ r, r < i → g r j ≠ x) → Op (F_X0_failIfTaken_3 p (nI j) x (nI y) z (nI i) μ) (fun μ' => ((∀ r, r < m → g r j ≠ x) → μ' = μ) ∧ ((¬ ∀ r, r < m → g r j ≠ x) → Er 3 y μ' ∧ K34 μ μ')) := by
    intro d
    induction d with
    | zero =>
      intro z i hi hz hq
      obtain ⟨z, rfl⟩ : ∃ q, z = q + 1 := ⟨z - 1, by omega⟩
      rw [F_X0_failIfTaken_3, h.2.1, if_pos (nI_le (by omega) (by omega))]
      exact op_r ⟨fun _ => rfl, fun w => absurd (fun r hr => hq r (by omega)) w⟩
    | succ d ih =>
      intro z i hi hz hq
      obtain ⟨z, rfl⟩ : ∃ q, z = q + 1 := ⟨z - 1, by omega⟩
      rw [F_X0_failIfTaken_3, h.2.1, if_neg (nI_ge (by omega) (by omega))]
      refine op_eb (x2_get h (by omega) hj) ?_
      rw [nI_1]
      by_cases e : g i j = x
      · rw [if_pos e]
        refine op_b (op_mb (x0_fail0 (k := 3) (o := y) h0) (fun m1 w => op_r ?_))
        have e4 : ¬ m1.1 45 4 = 0 := by rw [w.1.1]; exact nI_ne0 (by decide) (by decide)
        refine op_e (takenF (h.fs w.2.1 hp.1 hp.2) hj e4 d z (i + 1) (by omega) (by omega)) ⟨fun w2 => absurd e (w2 i (by omega)), fun _ => w⟩
      · rw [if_neg e]
        exact op_br (ih z (i + 1) (by omega) (by omega) (fun r hr => by
          by_cases e2 : r = i
          · rw [e2]; exact e
          · exact hq r (by omega)))
  unfold F_X0_failIfTaken
  exact op_b (op_m (key m qFuel 0 (by omega) (by unfold qFuel; omega) (fun r hr => absurd hr (Nat.not_lt_zero r))) (fun m1 w => op_r w))
end LLO
