/-! ===== the reference's claims and river as text ===== -/
section MFC
variable {μ μ' : Mm}
theorem m_fcL {N : Nat} {f : Nat → Nat → Int32} {t : Nat → Int32} (hF : CF N f) : ∀ (d c m : Nat) (μ : Mm), c + d = N → d < m → RT μ (clN f t c) → μ.1 296 56 = nI N → (∀ c k, c < N → k < 8 → μ.1 296 (242 + 8 * c + k) = f c k) → Op (F_X4_formatClaims_12 m (nI c) μ) (fun μ' => RT μ' (clN f t N) ∧ KT μ μ') := by
  have hN := hF.1
  intro d
  induction d with
  | zero =>
    intro c m μ hc hm h h56 hs
    obtain ⟨m, rfl⟩ : ∃ z, m = z + 1 := ⟨m - 1, by omega⟩
    obtain rfl : c = N := by omega
    rw [F_X4_formatClaims_12]
    refine op_eb (mg (k := 56) rfl (by decide)) ?_
    rw [h56, if_pos (Int32.le_refl _)]
    exact op_r ⟨h, KT.rf⟩
  | succ d ih =>
    intro c m μ hc hm h h56 hs
    obtain ⟨m, rfl⟩ : ∃ z, m = z + 1 := ⟨m - 1, by omega⟩
    have hl := clN_le (t := t) hF c (by omega)
    obtain ⟨f0, f1, f4, f5⟩ := hF.2 c (by omega)
    have d1 := dg_1 f1.2
    have d4 := dg_3 f4.2
    have d5 := dg_3 f5.2
    have e1 := f1.2
    have e4 := f4.2
    have e5 := f5.2
    have e0 := f0.2
    rw [F_X4_formatClaims_12]
    refine op_eb (mg (k := 56) rfl (by decide)) ?_
    rw [h56, if_neg (nI_ge (by omega) (by omega))]
    have first : Op (if nI c ≤ 0 then (some μ) else ((F_X4_says (32 : Int32) μ).bind fun o15 => some o15)) (fun μ1 => RT μ1 (if 0 < c then tC 32 (clN f t c) else clN f t c) ∧ KT μ μ1) := by
      by_cases ec : 0 < c
      · rw [if_neg (show ¬ nI c ≤ (0 : Int32) from nI_ge (a := 0) ec (by omega)), if_pos ec]
        exact op_mb (m_says (v := 32) h (by omega)) (fun m1 w => op_r w)
      · rw [if_pos (show nI c ≤ (0 : Int32) from nI_le (b := 0) (by omega) (by decide)), if_neg ec]
        exact op_r ⟨h, KT.rf⟩
    refine op_mb first (fun μ1 w1 => ?_)
    obtain ⟨r1, k1⟩ := w1
    have hx1 : (if 0 < c then tC 32 (clN f t c) else clN f t c).1 ≤ (clN f t c).1 + 1 := by
      split
      · exact Nat.le_refl _
      · omega
    have hd : clN f t (c + 1) = tI (ct (f c) 4) (tC 47 (tI (ct (f c) 5) (tC 58 (tI (ct (f c) 1) (tC (ltr (ct (f c) 0)) (if 0 < c then tC 32 (clN f t c) else clN f t c)))))) := rfl
    generalize (if 0 < c then tC 32 (clN f t c) else clN f t c) = x at *
    have at1 : ∀ {ν : Mm}, KT μ ν → ∀ {k : Nat}, k < 8 → μ.1 296 (242 + 8 * c + k) = f c k → F_X4_claimOf (nI c) (nI k) ν = some (f c k) := fun {ν} kk {k} hk e => (m_cO (by omega) hk).trans (congrArg some (by rw [(kk.1.1 296 (by decide)).1]; exact e))
    have c0 : ∀ {ν : Mm}, KT μ ν → F_X4_claimOf (nI c) 0 ν = some (nI (ct (f c) 0)) := fun {ν} kk => (show F_X4_claimOf (nI c) 0 ν = _ from at1 (k := 0) kk (by decide) (hs c 0 (by omega) (by decide))).trans (congrArg some f0.1)
    have c1 : ∀ {ν : Mm}, KT μ ν → F_X4_claimOf (nI c) 1 ν = some (nI (ct (f c) 1)) := fun {ν} kk => (show F_X4_claimOf (nI c) 1 ν = _ from at1 (k := 1) kk (by decide) (hs c 1 (by omega) (by decide))).trans (congrArg some f1.1)
    have c4 : ∀ {ν : Mm}, KT μ ν → F_X4_claimOf (nI c) 4 ν = some (nI (ct (f c) 4)) := fun {ν} kk => (show F_X4_claimOf (nI c) 4 ν = _ from at1 (k := 4) kk (by decide) (hs c 4 (by omega) (by decide))).trans (congrArg some f4.1)
    have c5 : ∀ {ν : Mm}, KT μ ν → F_X4_claimOf (nI c) 5 ν = some (nI (ct (f c) 5)) := fun {ν} kk => (show F_X4_claimOf (nI c) 5 ν = _ from at1 (k := 5) kk (by decide) (hs c 5 (by omega) (by decide))).trans (congrArg some f5.1)
    refine op_eb (c0 k1) (op_eb (a := nI (ltr (ct (f c) 0))) ?_ ?_)
    · generalize ct (f c) 0 = K at *
      rcases (show K = 0 ∨ K = 1 ∨ K = 2 by omega) with rfl | rfl | rfl
      · rfl
      · exact (if_neg (by decide)).trans (be_ (c0 k1) rfl)
      · exact (if_neg (by decide)).trans (be_ (c0 k1) rfl)
    · refine op_mb (m_says r1 (by omega)) (fun μ2 w2 => ?_)
      have k2 := k1.tr w2.2
      refine op_eb (c1 k2) (op_mb (m_saysN (by omega) w2.1 (show x.1 + 1 + dg _ ≤ 400 by omega)) (fun μ3 w3 => ?_))
      have k3 := k2.tr w3.2
      refine op_mb (m_says (v := 58) w3.1 (show x.1 + 1 + dg _ < 400 by omega)) (fun μ4 w4 => ?_)
      have k4 := k3.tr w4.2
      refine op_eb (c5 k4) (op_mb (m_saysN (by omega) w4.1 (show x.1 + 1 + dg _ + 1 + dg _ ≤ 400 by omega)) (fun μ5 w5 => ?_))
      have k5 := k4.tr w5.2
      refine op_mb (m_says (v := 47) w5.1 (show x.1 + 1 + dg _ + 1 + dg _ < 400 by omega)) (fun μ6 w6 => ?_)
      have k6 := k5.tr w6.2
      refine op_eb (c4 k6) (op_mb (m_saysN (by omega) w6.1 (show x.1 + 1 + dg _ + 1 + dg _ + 1 + dg _ ≤ 400 by omega)) (fun μ7 w7 => ?_))
      have k7 := k6.tr w7.2
      rw [nI_1]
      have e296 := (k7.1.1 296 (by decide)).1
      refine op_m (ih (c + 1) m μ7 (by omega) (by omega) (by rw [hd]; exact w7.1) (by rw [e296]; exact h56) (fun c k hc hk => by rw [e296]; exact hs c k hc hk)) (fun μ' z => ⟨z.1, k7.tr z.2⟩)
theorem m_frL {N : Nat} {g : Nat → Nat} {t : Nat → Int32} (hN : N ≤ 6) (hg : ∀ c, c < N → g c < 2 ^ 30) : ∀ (d c m : Nat) (μ : Mm), c + d = N → d < m → RT μ (rvN g t c) → μ.1 296 0 = nI N → (∀ c, c < N → μ.1 296 (394 + 5 * c + 2) = nI (g c)) → Op (F_X4_formatRiver_12 m (nI c) μ) (fun μ' => RT μ' (rvN g t N) ∧ KT μ μ') := by
  intro d
  induction d with
  | zero =>
    intro c m μ hc hm h h0 hs
    obtain ⟨m, rfl⟩ : ∃ z, m = z + 1 := ⟨m - 1, by omega⟩
    obtain rfl : c = N := by omega
    rw [F_X4_formatRiver_12]
    refine op_eb (mg (k := 0) rfl (by decide)) ?_
    rw [h0, if_pos (Int32.le_refl _)]
    exact op_r ⟨h, KT.rf⟩
  | succ d ih =>
    intro c m μ hc hm h h0 hs
    obtain ⟨m, rfl⟩ : ∃ z, m = z + 1 := ⟨m - 1, by omega⟩
    have hl := rvN_le (t := t) hg c (by omega)
    have hgc := hg c (by omega)
    have d10 := dg_10 hgc
    rw [F_X4_formatRiver_12]
    refine op_eb (mg (k := 0) rfl (by decide)) ?_
    rw [h0, if_neg (nI_ge (by omega) (by omega))]
    have first : Op (if nI c ≤ 0 then (some μ) else ((F_X4_says (62 : Int32) μ).bind fun o15 => some o15)) (fun μ1 => RT μ1 (if 0 < c then tC 62 (rvN g t c) else rvN g t c) ∧ KT μ μ1) := by
      by_cases ec : 0 < c
      · rw [if_neg (show ¬ nI c ≤ (0 : Int32) from nI_ge (a := 0) ec (by omega)), if_pos ec]
        exact op_mb (m_says (v := 62) h (by omega)) (fun m1 w => op_r w)
      · rw [if_pos (show nI c ≤ (0 : Int32) from nI_le (b := 0) (by omega) (by decide)), if_neg ec]
        exact op_r ⟨h, KT.rf⟩
    refine op_mb first (fun μ1 w1 => ?_)
    obtain ⟨r1, k1⟩ := w1
    have hx1 : (if 0 < c then tC 62 (rvN g t c) else rvN g t c).1 ≤ (rvN g t c).1 + 1 := by
      split
      · exact Nat.le_refl _
      · omega
    have hd : rvN g t (c + 1) = tI (g c) (if 0 < c then tC 62 (rvN g t c) else rvN g t c) := rfl
    generalize (if 0 < c then tC 62 (rvN g t c) else rvN g t c) = x at *
    have e1 := (k1.1.1 296 (by decide)).1
    have hv : μ1.1 296 (394 + 5 * c + 2) = nI (g c) := by rw [e1]; exact hs c (by omega)
    refine op_eb (a := nI (g c)) ((show F_X4_gaugeOf (nI c) 2 μ1 = some (μ1.1 296 (394 + 5 * c + 2)) from m_gO (k := 2) (by omega) (by decide)).trans (congrArg some hv)) ?_
    refine op_mb (m_saysN hgc r1 (by omega)) (fun μ2 w2 => ?_)
    have k2 := k1.tr w2.2
    rw [nI_1]
    have e296 := (k2.1.1 296 (by decide)).1
    exact op_m (ih (c + 1) m μ2 (by omega) (by omega) (by rw [hd]; exact w2.1) (by rw [e296]; exact h0) (fun c hc => by rw [e296]; exact hs c hc)) (fun μ' z => ⟨z.1, k2.tr z.2⟩)
/-- both texts are one -/
def TxR (μ : Mm) : Prop := ∃ x : Tx2, (∀ k, k < x.1 → ∃ b, b < 128 ∧ x.2 k = nI b) ∧ (TB μ x.1 x.2 ∧ (RT μ x ∧ 16 ≤ μ.2.2.2.1))
theorem TxR.ke (h : TxR μ) (k : KeX μ μ') : TxR μ' := by
  obtain ⟨x, h1, ⟨a1, a2, a3, a4, a5, a6⟩, ⟨b1, b2, b3⟩, h4⟩ := h
  obtain ⟨⟨k1, k2⟩, k3, k4⟩ := k
  refine ⟨x, h1, ⟨?_, ?_, ?_, ?_, ?_, ?_⟩, ⟨k4.trans b1, b2, fun j hj => by rw [k2]; exact b3 j hj⟩, by rw [k3]; exact h4⟩
  · rw [k1]; exact a1
  · rw [k1]; exact a2
  · rw [k3]; exact a3
  · rw [k3]; exact a4
  · rw [k3]; exact a5
  · rw [k3]; exact a6
theorem tC_b {x : Tx2} {c : Nat} (h : ∀ k, k < x.1 → ∃ b, b < 128 ∧ x.2 k = nI b) (hc : c < 128) : ∀ k, k < (tC c x).1 → ∃ b, b < 128 ∧ (tC c x).2 k = nI b := by
  intro k hk
  show ∃ b, b < 128 ∧ upd x.2 x.1 (nI c) k = nI b
  unfold upd
  by_cases e : k = x.1
  · rw [if_pos e]; exact ⟨c, hc, rfl⟩
  · rw [if_neg e]
    have hk : k < x.1 + 1 := hk
    exact h k (by omega)
theorem tI_b {x : Tx2} {v : Nat} (h : ∀ k, k < x.1 → ∃ b, b < 128 ∧ x.2 k = nI b) : ∀ k, k < (tI v x).1 → ∃ b, b < 128 ∧ (tI v x).2 k = nI b := by
  intro k hk
  show ∃ b, b < 128 ∧ pt x.2 v (dg v) (x.1 + dg v) k = nI b
  unfold pt
  by_cases e : x.1 + dg v - dg v ≤ k ∧ k < x.1 + dg v
  · rw [if_pos e]; exact ⟨_, by have := Nat.mod_lt (v / 10 ^ (x.1 + dg v - 1 - k)) (show 0 < 10 by decide); omega, rfl⟩
  · rw [if_neg e]
    have hk : k < x.1 + dg v := hk
    exact h k (by omega)
theorem clN_b {f : Nat → Nat → Int32} {t : Nat → Int32} : ∀ c, ∀ k, k < (clN f t c).1 → ∃ b, b < 128 ∧ (clN f t c).2 k = nI b := by
  intro c
  induction c with
  | zero => intro k hk; exact absurd hk (Nat.not_lt_zero k)
  | succ c ih =>
    show ∀ k, k < (clX f c (clN f t c)).1 → _
    unfold clX
    refine tI_b (tC_b (tI_b (tC_b (tI_b (tC_b ?_ ltr_b)) (by decide))) (by decide))
    by_cases e : 0 < c
    · rw [if_pos e]; exact tC_b ih (by decide)
    · rw [if_neg e]; exact ih
theorem rvN_b {g : Nat → Nat} {t : Nat → Int32} : ∀ c, ∀ k, k < (rvN g t c).1 → ∃ b, b < 128 ∧ (rvN g t c).2 k = nI b := by
  intro c
  induction c with
  | zero => intro k hk; exact absurd hk (Nat.not_lt_zero k)
  | succ c ih =>
    show ∀ k, k < (rvX g c (rvN g t c)).1 → _
    unfold rvX
    refine tI_b ?_
    by_cases e : 0 < c
    · rw [if_pos e]; exact tC_b ih (by decide)
    · rw [if_neg e]; exact ih
end MFC
