/-! ===== the two texts side by side ===== -/
section TXC
variable {μ μ' μ1 : Mm} {k : Nat}
def Stt (a : Nat) : Prop := a = 293 ∨ (a = 295 ∨ a = 310)
theorem Cor.tt (h : Cor k μ) (e1 : ∀ a, ¬ Stt a → μ'.1 a = μ.1 a) (e2 : ∀ a, ¬ Stt a → μ'.2.1 a = μ.2.1 a) (h5 : ∀ j, j ≠ 0 → j ≠ 29 → μ'.1 295 j = μ.1 295 j) : Cor k μ' := by
  have hF : Fs Stt μ (μ'.1, (μ'.2.1, μ.2.2)) := ⟨fun a ha => ⟨e1 a ha, e2 a ha⟩, rfl⟩
  have h5' : ∀ j, j ≠ 0 → j ≠ 29 → (μ'.1, (μ'.2.1, μ.2.2)).1 295 j = μ.1 295 j := h5
  have back : Cor k (μ'.1, (μ'.2.1, μ.2.2)) → Cor k μ' := fun z => z
  refine back ?_
  generalize ((μ'.1, (μ'.2.1, μ.2.2)) : Mm) = ν at hF h5'
  obtain ⟨⟨h1, h2, h3, h4, h6⟩, hk, hf, hp, hs⟩ := h
  have n : ∀ a, (a < 293 ∨ (a = 294 ∨ ((296 ≤ a ∧ a < 310) ∨ 310 < a))) → ¬ Stt a := fun a ha z => by unfold Stt at z; omega
  refine ⟨⟨?_, rfl, rfl, ?_, h6⟩, fun b hb' => ?_, ⟨?_, ?_, ?_⟩, hp.fs hF (h5' 8 (by decide) (by decide)) (fun a ha => n a (by omega)), hs.fs hF (fun a ha => n a (by omega))⟩
  · rw [(hF.1 296 (n _ (by omega))).1, (hF.1 300 (n _ (by omega))).2]
    exact SV.fs h1 hF (fun a x y => n a (by omega))
  · rw [(hF.1 296 (n _ (by omega))).1]; exact h4
  · have := kd_all b (kd1_lt hb') hb'
    exact (hk b hb').fs hF (fun a x y => n a (by omega))
  · rw [h5' 22 (by decide) (by decide)]; exact hf.1
  · rw [h5' 24 (by decide) (by decide)]; exact hf.2.1
  · rw [h5' 26 (by decide) (by decide)]; exact hf.2.2
theorem RdR.tt (h : RdR μ) (e1 : ∀ a, ¬ Stt a → μ'.1 a = μ.1 a) (h5 : ∀ j, j ≠ 0 → j ≠ 29 → μ'.1 295 j = μ.1 295 j) : RdR μ' := by
  obtain ⟨n, h1, h2, h3, h4, h6, h7⟩ := h
  have n' : ∀ a, (a < 293 ∨ (296 ≤ a ∧ a < 310)) → ¬ Stt a := fun a ha z => by unfold Stt at z; omega
  refine ⟨n, h1, ?_, (h5 13 (by decide) (by decide)).trans h3, fun i hi => ?_, ?_, ?_⟩
  · rw [e1 45 (n' _ (by omega))]; exact h2
  · rw [e1 46 (n' _ (by omega)), e1 306 (n' _ (by omega))]; exact h4 i hi
  · rw [e1 45 (n' _ (by omega)), h5 16 (by decide) (by decide)]; exact h6
  · rw [e1 45 (n' _ (by omega)), h5 17 (by decide) (by decide)]; exact h7
/-- behind the class' text and the reference's -/
theorem tx_end {x : Tx2} {m2 μ2 : Mm} (h : Cor k μ) (hR : RdR μ) (hb : ∀ k, k < x.1 → ∃ b, b < 128 ∧ x.2 k = nI b) (hT : TB μ1 x.1 x.2) (hG : GR μ μ1) (hc : 16 ≤ μ1.2.2.2.1) (e2 : m2 = uI (uI μ1 295 0 0) 295 29 0) (r2 : RT μ2 x) (k2 : KT m2 μ2) : μ2.1 295 0 = 0 ∧ (Cor k μ2 ∧ (RdR μ2 ∧ TxR μ2)) := by
  have f2 : Fs (fun a => a = 295) μ1 m2 := by rw [e2]; exact (Fs.uI (S := fun a => a = 295) rfl).tr (Fs.uI rfl)
  have v2 : ∀ j, m2.1 295 j = if j = 29 then 0 else if j = 0 then 0 else μ1.1 295 j := fun j => by rw [e2, uI_eq, uI_eq]
  have F : Fs (fun a => a = 295 ∨ a = 310) μ1 μ2 := (f2.mo (fun a e => Or.inl e)).tr k2.1
  have c1 : ∀ a, ¬ Stt a → μ2.1 a = μ.1 a := fun a ha => ((F.1 a (by unfold Stt at ha; omega)).1).trans (hG.1 a (by unfold Stt at ha; omega))
  have c2 : ∀ a, ¬ Stt a → μ2.2.1 a = μ.2.1 a := fun a ha => ((F.1 a (by unfold Stt at ha; omega)).2).trans (congrFun hG.2 a)
  have c5 : ∀ j, j ≠ 0 → j ≠ 29 → μ2.1 295 j = μ.1 295 j := fun j j0 j29 => by
    rw [k2.2 j j29, v2, if_neg j29, if_neg j0, hG.1 295 (by decide)]
  refine ⟨?_, h.tt c1 c2 c5, hR.tt c1 c5, x, hb, ?_, r2, by rw [F.2]; exact hc⟩
  · rw [k2.2 0 (by decide), v2]; rfl
  · obtain ⟨a1, a2, a3, a4, a5, a6⟩ := hT
    refine ⟨?_, ?_, ?_, ?_, ?_, ?_⟩
    · rw [(F.1 293 (by decide)).1]; exact a1
    · rw [(F.1 293 (by decide)).1]; exact a2
    · rw [F.2]; exact a3
    · rw [F.2]; exact a4
    · rw [F.2]; exact a5
    · rw [F.2]; exact a6
theorem a_fmtC (h : Cor k μ) (hR : RdR μ) (hx : TxR μ) : ∃ n0 t, (TB μ n0 t ∧ (n0 ≤ 1000 ∧ 16 ≤ μ.2.2.2.1)) ∧ ((Tb μ 17 8 (ct (μ.1 296) 56) (fun c k => μ.1 296 (242 + 8 * c + k)) ∧ CF (ct (μ.1 296) 56) (fun c k => μ.1 296 (242 + 8 * c + k))) ∧ ∀ o μ1, FmP (ct (μ.1 296) 56) (fun c k => μ.1 296 (242 + 8 * c + k)) t μ o μ1 → ∃ w μ2, o = some (.int w) ∧ (F_X4_formatClaims μ1 = some (w, μ2) ∧ (μ2.1 295 0 = 0 ∧ (Cor k μ2 ∧ (RdR μ2 ∧ TxR μ2))))) := by
  obtain ⟨x, hb, hT, hRT, h16⟩ := hx
  have ho := h.1.2.2.2.1
  have hD := ho.2.1
  have hCF : CF (ct (μ.1 296) 56) (fun c k => μ.1 296 (242 + 8 * c + k)) := ⟨hD.2.1.2, fun c hc => hD.2.2.2.2.2.2.2.2.2.2 c hc⟩
  refine ⟨x.1, x.2, ⟨hT, by have := hRT.2.1; omega, h16⟩, ⟨h.1.1.clm, hCF⟩, fun o μ1 hP => ?_⟩
  obtain ⟨rfl, p2, p3, p4⟩ := hP
  have e296 : (uI (uI μ1 295 0 0) 295 29 0).1 296 = μ.1 296 := by rw [uI_ne (by decide), uI_ne (by decide), p3.1 296 (by decide)]
  obtain ⟨μ2, q1, q2, q3⟩ := m_fcL (t := x.2) hCF (ct (μ.1 296) 56) 0 qFuel (uI (uI μ1 295 0 0) 295 29 0) (by omega) (by have := hD.2.1.2; unfold qFuel; omega) ⟨by rw [uI_eq]; rfl, Nat.zero_le 400, fun k hk => absurd hk (Nat.not_lt_zero k)⟩ (by rw [e296]; exact hD.2.1.1) (fun c k _ _ => by rw [e296])
  refine ⟨_, μ2, rfl, ?_, tx_end h hR (clN_b _) p2 p3 (by omega) rfl q2 q3⟩
  unfold F_X4_formatClaims
  refine be_ rfl (be_ rfl (be_ q1 ?_))
  rw [q2.1]
theorem a_fmtR (h : Cor k μ) (hR : RdR μ) (hx : TxR μ) : ∃ n0 t, (TB μ n0 t ∧ (n0 ≤ 1000 ∧ 16 ≤ μ.2.2.2.1)) ∧ ((ct (μ.1 296) 0 ≤ 6 ∧ (Tb μ 2 3 (ct (μ.1 296) 0) (fun r k => μ.1 296 (8 + 6 * k + r)) ∧ ((∀ c, c < ct (μ.1 296) 0 → ct (μ.1 296) (394 + 5 * c + 2) < 2 ^ 30) ∧ ∀ μ2 : Mm, μ2.1 19 = μ.1 19 → μ2.1 20 = μ.1 20 → ∀ c, c < ct (μ.1 296) 0 → F_X2_get 19 (nI c) (nI 2) μ2 = some (nI (ct (μ.1 296) (394 + 5 * c + 2)))))) ∧ ∀ o μ1, RvP (ct (μ.1 296) 0) (fun c => ct (μ.1 296) (394 + 5 * c + 2)) t μ o μ1 → ∃ w μ2, o = some (.int w) ∧ (F_X4_formatRiver μ1 = some (w, μ2) ∧ (μ2.1 295 0 = 0 ∧ (Cor k μ2 ∧ (RdR μ2 ∧ TxR μ2))))) := by
  obtain ⟨x, hb, hT, hRT, h16⟩ := hx
  have ho := h.1.2.2.2.1
  have hD := ho.2.1
  have h0 := ho.1.1.1
  have hgg := hD.2.2.2.2.2.2.2.2.2.1
  have h57 := hD.2.2.2.2.2.2.2.1
  have hG := h.1.1.gau
  refine ⟨x.1, x.2, ⟨hT, by have := hRT.2.1; omega, h16⟩, ⟨h0.2, h.1.1.rch, fun c hc => (hgg c hc).2, fun μ2 e19 e20 c hc => ?_⟩, fun o μ1 hP => ?_⟩
  · have hG2 := hG.keep (μ' := μ2) e19 e20
    by_cases e : μ.1 296 57 = 0
    · rw [if_pos e] at hG2
      rw [x2_getO hG2 (Or.inr (nI_le (Nat.zero_le c) (by have := h0.2; omega)))]
      have z := h57 e c 2 hc (by decide)
      rw [ct_0 z]
      rfl
    · rw [if_neg e] at hG2
      exact (x2_get (k := 2) hG2 hc (by decide)).trans (congrArg some (hgg c hc).1)
  · obtain ⟨rfl, p2, p3, p4⟩ := hP
    have e296 : (uI (uI μ1 295 0 0) 295 29 0).1 296 = μ.1 296 := by rw [uI_ne (by decide), uI_ne (by decide), p3.1 296 (by decide)]
    obtain ⟨μ2, q1, q2, q3⟩ := m_frL (t := x.2) (g := fun c => ct (μ.1 296) (394 + 5 * c + 2)) h0.2 (fun c hc => (hgg c hc).2) (ct (μ.1 296) 0) 0 qFuel (uI (uI μ1 295 0 0) 295 29 0) (by omega) (by have := h0.2; unfold qFuel; omega) ⟨by rw [uI_eq]; rfl, Nat.zero_le 400, fun k hk => absurd hk (Nat.not_lt_zero k)⟩ (by rw [e296]; exact h0.1) (fun c hc => by rw [e296]; exact (hgg c hc).1)
    refine ⟨_, μ2, rfl, ?_, tx_end h hR (rvN_b _) p2 p3 (by omega) rfl q2 q3⟩
    unfold F_X4_formatRiver
    refine be_ rfl (be_ rfl (be_ q1 ?_))
    rw [q2.1]
theorem q_fByte (hx : TxR μ) (p : Int32) : ∃ n t, (TB μ n t ∧ (n ≤ 1000 ∧ ∀ k, k < n → ∃ b, b < 128 ∧ t k = nI b)) ∧ F_X4_formattedByte p μ = some (fbV n t p, uI μ 295 0 0) := by
  obtain ⟨x, hb, hT, ⟨r1, r2, r3⟩, h16⟩ := hx
  refine ⟨x.1, x.2, ⟨hT, by omega, hb⟩, ?_⟩
  have e29 : (uI μ 295 0 0).1 295 29 = nI x.1 := by rw [uI_eq]; exact (if_neg (by decide)).trans r1
  unfold F_X4_formattedByte
  refine be_ rfl (be_ m_inR ?_)
  rw [e29]
  unfold fbV
  by_cases e : ¬ p < 0 ∧ ¬ nI x.1 - 1 < p
  · rw [if_pos e, if_neg n10]
    obtain ⟨w, rfl, w1, w2⟩ := i32_rp (v := p) (lo := 0) (c := x.1) e.1 (Int32.not_lt.mp e.2) (by decide) (by omega)
    rw [if_neg e.1, if_pos (nI_lt w2 (by omega)), nI_clamp (by omega)]
    exact be_ ((aI_ok (k := w) rfl (by rw [ln310]; omega)).trans (congrArg some (by rw [uI_ne (by decide)]; exact r3 w w2))) rfl
  · rw [if_neg e, if_pos rfl]
    by_cases e1 : p < 0
    · rw [if_pos e1]
    · rw [if_neg e1, if_neg (fun z => e ⟨e1, ?_⟩)]
      obtain ⟨w, hw, rfl⟩ := i32_pos (p := p) e1
      have hlt : w < x.1 := (nI_ltn (by omega) hw).mp z
      rw [nI_sub1 (by omega)]
      exact nI_nlt (by omega) (by omega)
end TXC
