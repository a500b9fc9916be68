/-! ===== append, truncate, what the reader says ===== -/
theorem sh_c (w : BitVec 32) (c : Nat) (hc : c ≤ 24) : (w >>> c).signExtend 8 = (w.sshiftRight c).signExtend 8 := by
  apply BitVec.eq_of_getLsbD_eq
  intro i hi
  rw [BitVec.getLsbD_signExtend, BitVec.getLsbD_signExtend, if_pos (by omega), if_pos (by omega), BitVec.getLsbD_ushiftRight, BitVec.getLsbD_sshiftRight, if_pos (by omega)]
  simp only [show decide (32 ≤ i) = false from decide_eq_false (by omega), Bool.not_false, Bool.true_and]
theorem sh_24 (w : Int32) : Int32.toInt8 ((Int32.toUInt32 w >>> (Int32.toUInt32 24 &&& Int32.toUInt32 31)).toInt32) = Int32.toInt8 (w >>> (24 &&& 31)) := Int8.toBitVec_inj.1 (sh_c w.toBitVec 24 (by decide))
theorem sh_16 (w : Int32) : Int32.toInt8 ((Int32.toUInt32 w >>> (Int32.toUInt32 16 &&& Int32.toUInt32 31)).toInt32) = Int32.toInt8 (w >>> (16 &&& 31)) := Int8.toBitVec_inj.1 (sh_c w.toBitVec 16 (by decide))
theorem sh_8 (w : Int32) : Int32.toInt8 ((Int32.toUInt32 w >>> (Int32.toUInt32 8 &&& Int32.toUInt32 31)).toInt32) = Int32.toInt8 (w >>> (8 &&& 31)) := Int8.toBitVec_inj.1 (sh_c w.toBitVec 8 (by decide))
theorem sh_0 (w : Int32) : Int32.toInt8 ((Int32.toUInt32 w >>> (Int32.toUInt32 0 &&& Int32.toUInt32 31)).toInt32) = Int32.toInt8 (w >>> (0 &&& 31)) := Int8.toBitVec_inj.1 (sh_c w.toBitVec 0 (by decide))
section APP
variable {μ ν μ' b : Mm} {n k : Nat}
def vS (i : Nat) : Int32 := [24, 16, 8, 0, -8].getD i 0
def wB (w : Int32) (i : Nat) : Int32 := (w >>> (vS i &&& 31)).toInt8.toInt32
theorem vS_s : ∀ i, i < 4 → vS i + (-8) = vS (i + 1) ∧ ¬ vS i < 0 := by decide
theorem wB_c {w : Int32} {i : Nat} (h : i < 4) : vp_nar .byte (Int8.toInt32 (Int32.toInt8 ((Int32.toUInt32 w >>> (Int32.toUInt32 (vS i) &&& Int32.toUInt32 31)).toInt32))) = wB w i := by
  rw [vp_nar_byte, Int8.toInt8_toInt32]
  rcases (show i = 0 ∨ i = 1 ∨ i = 2 ∨ i = 3 by omega) with rfl | rfl | rfl | rfl
  · exact congrArg Int8.toInt32 (sh_24 w)
  · exact congrArg Int8.toInt32 (sh_16 w)
  · exact congrArg Int8.toInt32 (sh_8 w)
  · exact congrArg Int8.toInt32 (sh_0 w)
theorem wB_by (w : Int32) (i : Nat) : By (wB w i) := by
  unfold By wB
  rw [Int8.toInt8_toInt32]
theorem c_wordL {w : Int32} (hn : n + 4 ≤ 900) : ∀ (d m i : Nat) (μ : Mm), i + d = 4 → d < m → μ.1 45 2 = nI (n + i) → Op (F_X0_addWord_3 w m (vS i) μ) (fun μ' => μ'.1 45 2 = nI (n + 4) ∧ ((∀ j, j ≠ 2 → μ'.1 45 j = μ.1 45 j) ∧ ((∀ j, μ'.1 46 j = if n + i ≤ j ∧ j < n + 4 then wB w (j - n) else μ.1 46 j) ∧ Fs (fun a => a = 45 ∨ a = 46) μ μ'))) := by
  intro d
  induction d with
  | zero =>
    intro m i μ hi hm h2
    obtain ⟨m, rfl⟩ : ∃ z, m = z + 1 := ⟨m - 1, by omega⟩
    obtain rfl : i = 4 := by omega
    rw [F_X0_addWord_3, if_pos (show vS 4 < 0 by decide)]
    exact op_r ⟨h2, fun _ _ => rfl, fun j => (if_neg (by omega)).symm, Fs.rf⟩
  | succ d ih =>
    intro m i μ hi hm h2
    obtain ⟨m, rfl⟩ : ∃ z, m = z + 1 := ⟨m - 1, by omega⟩
    have hv := vS_s i (by omega)
    rw [F_X0_addWord_3, if_neg hv.2, h2, if_neg (show ¬ (900 : Int32) ≤ nI (n + i) from nI_ge (b := 900) (by omega) (by decide))]
    refine op_eb (sB_ok (k := n + i) rfl (by rw [ln46]; omega)) (op_br ?_)
    rw [wB_c (by omega), hv.1]
    have e2 : (uI μ 46 (n + i) (wB w i)).1 45 2 + 1 = nI (n + (i + 1)) := by rw [uI_ne (by decide), h2]; exact nI_1 (n + i)
    rw [e2]
    refine op_m (ih m (i + 1) _ (by omega) (by omega) (by rw [uI_eq]; rfl)) (fun μ' z => ⟨z.1, fun j hj => ?_, fun j => ?_, ((Fs.uI (Or.inr rfl)).tr (Fs.uI (Or.inl rfl))).tr z.2.2.2⟩)
    · rw [z.2.1 j hj, uI_eq]
      exact (if_neg hj).trans (by rw [uI_ne (by decide)])
    · rw [z.2.2.1 j]
      by_cases e : j = n + i
      · rw [if_neg (by omega), if_pos (by omega), uI_ne (by decide), uI_eq]
        show (if j = n + i then wB w i else _) = _
        rw [if_pos e, show j - n = i by omega]
      · by_cases e2 : n + (i + 1) ≤ j ∧ j < n + 4
        · rw [if_pos e2, if_pos (by omega)]
        · rw [if_neg e2, if_neg (by omega), uI_ne (by decide), uI_eq]
          exact if_neg e
theorem c_word {w : Int32} (hn : n + 4 ≤ 900) (h2 : μ.1 45 2 = nI n) : Op (F_X0_addWord w μ) (fun μ' => μ'.1 45 2 = nI (n + 4) ∧ ((∀ j, j ≠ 2 → μ'.1 45 j = μ.1 45 j) ∧ ((∀ j, μ'.1 46 j = if n ≤ j ∧ j < n + 4 then wB w (j - n) else μ.1 46 j) ∧ Fs (fun a => a = 45 ∨ a = 46) μ μ'))) := by
  unfold F_X0_addWord
  exact op_mb (c_wordL (w := w) hn 4 qFuel 0 μ (by decide) (by decide) h2) (fun m z => op_r z)
def w5 (p1 p2 p3 p4 p5 : Int32) (q : Nat) : Int32 := [p1, p2, p3, p4, p5].getD q 0
theorem c_app {p1 p2 p3 p4 p5 : Int32} (hn : n + 20 ≤ 900) (h2 : μ.1 45 2 = nI n) : Op (F_X3_append p1 p2 p3 p4 p5 μ) (fun o => o.1 = nI (n + 20) ∧ (o.2.1 45 2 = nI (n + 20) ∧ ((∀ j, j ≠ 2 → o.2.1 45 j = μ.1 45 j) ∧ ((∀ j, o.2.1 46 j = if n ≤ j ∧ j < n + 20 then wB (w5 p1 p2 p3 p4 p5 ((j - n) / 4)) ((j - n) % 4) else μ.1 46 j) ∧ Fs (fun a => a = 45 ∨ a = 46) μ o.2)))) := by
  unfold F_X3_append
  refine op_t (by rw [h2]; show nI n + nI 20 ≤ nI 900; rw [nI_add]; exact nI_le hn (by decide)) ?_
  refine op_mb (c_word (w := p1) (by omega) h2) (fun m1 z1 => op_mb (c_word (w := p2) (n := n + 4) (by omega) z1.1) (fun m2 z2 => op_mb (c_word (w := p3) (n := n + 4 + 4) (by omega) z2.1) (fun m3 z3 => op_mb (c_word (w := p4) (n := n + 4 + 4 + 4) (by omega) z3.1) (fun m4 z4 => op_mb (c_word (w := p5) (n := n + 4 + 4 + 4 + 4) (by omega) z4.1) (fun m5 z5 => op_r ⟨z5.1, z5.1, fun j hj => ?_, fun j => ?_, (((z1.2.2.2.tr z2.2.2.2).tr z3.2.2.2).tr z4.2.2.2).tr z5.2.2.2⟩)))))
  · rw [z5.2.1 j hj, z4.2.1 j hj, z3.2.1 j hj, z2.2.1 j hj, z1.2.1 j hj]
  · show m5.1 46 j = _
    rw [z5.2.2.1 j]
    by_cases e5 : n + 4 + 4 + 4 + 4 ≤ j ∧ j < n + 4 + 4 + 4 + 4 + 4
    · rw [if_pos e5, if_pos (by omega), show (j - n) / 4 = 4 by omega, show (j - n) % 4 = j - (n + 4 + 4 + 4 + 4) by omega]
      rfl
    · rw [if_neg e5, z4.2.2.1 j]
      by_cases e4 : n + 4 + 4 + 4 ≤ j ∧ j < n + 4 + 4 + 4 + 4
      · rw [if_pos e4, if_pos (by omega), show (j - n) / 4 = 3 by omega, show (j - n) % 4 = j - (n + 4 + 4 + 4) by omega]
        rfl
      · rw [if_neg e4, z3.2.2.1 j]
        by_cases e3 : n + 4 + 4 ≤ j ∧ j < n + 4 + 4 + 4
        · rw [if_pos e3, if_pos (by omega), show (j - n) / 4 = 2 by omega, show (j - n) % 4 = j - (n + 4 + 4) by omega]
          rfl
        · rw [if_neg e3, z2.2.2.1 j]
          by_cases e2 : n + 4 ≤ j ∧ j < n + 4 + 4
          · rw [if_pos e2, if_pos (by omega), show (j - n) / 4 = 1 by omega, show (j - n) % 4 = j - (n + 4) by omega]
            rfl
          · rw [if_neg e2, z1.2.2.1 j]
            by_cases e1 : n ≤ j ∧ j < n + 4
            · rw [if_pos e1, if_pos (by omega), show (j - n) / 4 = 0 by omega, show (j - n) % 4 = j - n by omega]
              rfl
            · rw [if_neg e1, if_neg (by omega)]
theorem vS_m : ∀ j, j < 20 → (24 : Int32) - ((8 : Int32) * (nI j - nI j / (4 : Int32) * (4 : Int32))) = vS (j % 4) := by decide
theorem w5_m {u1 u2 u3 u4 u5 : Int32} {j : Nat} (h : j < 20) : (if (4 : Int32) ≤ nI j then (if (8 : Int32) ≤ nI j then (if (12 : Int32) ≤ nI j then (if (16 : Int32) ≤ nI j then (some u5) else (some u4)) else (some u3)) else (some u2)) else (some u1)) = some (w5 u1 u2 u3 u4 u5 (j / 4)) := by
  have le : ∀ c, c ≤ j → nI c ≤ nI j := fun c hc => nI_le hc (by omega)
  have ge : ∀ c, j < c → c < 30 → ¬ nI c ≤ nI j := fun c hc h3 => nI_ge hc (by omega)
  rcases (show j / 4 = 0 ∨ j / 4 = 1 ∨ j / 4 = 2 ∨ j / 4 = 3 ∨ j / 4 = 4 by omega) with e | e | e | e | e
  · rw [e]; exact if_neg (ge 4 (by omega) (by decide))
  · rw [e]; exact (if_pos (le 4 (by omega))).trans (if_neg (ge 8 (by omega) (by decide)))
  · rw [e]; exact (if_pos (le 4 (by omega))).trans ((if_pos (le 8 (by omega))).trans (if_neg (ge 12 (by omega) (by decide))))
  · rw [e]; exact (if_pos (le 4 (by omega))).trans ((if_pos (le 8 (by omega))).trans ((if_pos (le 12 (by omega))).trans (if_neg (ge 16 (by omega) (by decide)))))
  · rw [e]; exact (if_pos (le 4 (by omega))).trans ((if_pos (le 8 (by omega))).trans ((if_pos (le 12 (by omega))).trans (if_pos (le 16 (by omega)))))
theorem m_appL {u1 u2 u3 u4 u5 : Int32} (hn : n + 20 ≤ 900) : ∀ (d m i : Nat) (μ : Mm), i + d = 20 → d < m → μ.1 295 13 = nI (n + i) → Op (F_X4_append_23 u1 u2 u3 u4 u5 m (nI i) μ) (fun μ' => μ'.1 295 13 = nI (n + 20) ∧ ((∀ j, j ≠ 13 → μ'.1 295 j = μ.1 295 j) ∧ ((∀ j, μ'.1 306 j = if n + i ≤ j ∧ j < n + 20 then wB (w5 u1 u2 u3 u4 u5 ((j - n) / 4)) ((j - n) % 4) else μ.1 306 j) ∧ Fs (fun a => a = 295 ∨ a = 306) μ μ'))) := by
  intro d
  induction d with
  | zero =>
    intro m i μ hi hm h2
    obtain ⟨m, rfl⟩ : ∃ z, m = z + 1 := ⟨m - 1, by omega⟩
    obtain rfl : i = 20 := by omega
    rw [F_X4_append_23, if_pos (show (20 : Int32) ≤ nI 20 by decide)]
    exact op_r ⟨h2, fun _ _ => rfl, fun j => (if_neg (by omega)).symm, Fs.rf⟩
  | succ d ih =>
    intro m i μ hi hm h2
    obtain ⟨m, rfl⟩ : ∃ z, m = z + 1 := ⟨m - 1, by omega⟩
    rw [F_X4_append_23, if_neg (show ¬ (20 : Int32) ≤ nI i from nI_ge (b := 20) (by omega) (by decide)), w5_m (by omega)]
    refine op_br ?_
    rw [h2, vS_m i (by omega)]
    refine op_eb (sB_ok (k := n + i) rfl (by rw [ln306]; omega)) (op_br ?_)
    have eb : vp_nar .byte (Int8.toInt32 (Int32.toInt8 (w5 u1 u2 u3 u4 u5 (i / 4) >>> (vS (i % 4) &&& 31)))) = wB (w5 u1 u2 u3 u4 u5 (i / 4)) (i % 4) := by
      rw [vp_nar_byte, Int8.toInt8_toInt32]
      rfl
    rw [eb]
    have e2 : (uI μ 306 (n + i) (wB (w5 u1 u2 u3 u4 u5 (i / 4)) (i % 4))).1 295 13 + 1 = nI (n + (i + 1)) := by rw [uI_ne (by decide), h2]; exact nI_1 (n + i)
    rw [e2, nI_1]
    refine op_m (ih m (i + 1) _ (by omega) (by omega) (by rw [uI_eq]; rfl)) (fun μ' z => ⟨z.1, fun j hj => ?_, fun j => ?_, ((Fs.uI (Or.inr rfl)).tr (Fs.uI (Or.inl rfl))).tr z.2.2.2⟩)
    · rw [z.2.1 j hj, uI_eq]
      exact (if_neg hj).trans (by rw [uI_ne (by decide)])
    · rw [z.2.2.1 j]
      by_cases e : j = n + i
      · rw [if_neg (by omega), if_pos (by omega), uI_ne (by decide), uI_eq]
        show (if j = n + i then _ else _) = _
        rw [if_pos e, show j - n = i by omega]
      · by_cases e2 : n + (i + 1) ≤ j ∧ j < n + 20
        · rw [if_pos e2, if_pos (by omega)]
        · rw [if_neg e2, if_neg (by omega), uI_ne (by decide), uI_eq]
          exact if_neg e
theorem RdR.ke (h : RdR μ) (k : KeR μ μ') : RdR μ' := by
  obtain ⟨n, h1, h2, h3, h4, h5, h6⟩ := h
  obtain ⟨k1, k2, k3⟩ := k
  refine ⟨n, h1, ?_, (k3 13 (by omega)).trans h3, fun i hi => ?_, ?_, ?_⟩
  · rw [k1 45 (by omega)]; exact h2
  · rw [k1 46 (by omega), k1 306 (by omega)]; exact h4 i hi
  · rw [k1 45 (by omega), k3 16 (by omega)]; exact h5
  · rw [k1 45 (by omega), k3 17 (by omega)]; exact h6
theorem KeX.ke (k : KeR μ μ') : KeX μ μ' := ⟨⟨k.1 293 (by omega), k.1 310 (by omega)⟩, k.2.1, k.2.2 29 (by omega)⟩
theorem a_append (h : Cor k μ) (hR : RdR μ) (p1 p2 p3 p4 p5 : Int32) : ∃ v μ1 μ2, F_X3_append p1 p2 p3 p4 p5 μ = some (v, μ1) ∧ (F_X4_append p1 p2 p3 p4 p5 μ1 = some (v, μ2) ∧ (μ2.1 295 0 = 0 ∧ (Cor k μ2 ∧ (RdR μ2 ∧ KeX μ μ2)))) := by
  obtain ⟨n, h1, h2, h3, h4, h5, h6⟩ := hR
  by_cases e : n + 20 ≤ 900
  · obtain ⟨oc, c1, c2, c3, c4, c5, c6⟩ := c_app (p1 := p1) (p2 := p2) (p3 := p3) (p4 := p4) (p5 := p5) e h2
    have e295 : oc.2.1 295 = μ.1 295 := (c6.1 295 (by decide)).1
    have g13 : (uI oc.2 295 0 0).1 295 13 = nI n := by rw [uI_eq]; exact (if_neg (by decide)).trans ((congrFun e295 13).trans h3)
    obtain ⟨om, m1, m2, m3, m4, m5⟩ := m_appL (u1 := p1) (u2 := p2) (u3 := p3) (u4 := p4) (u5 := p5) e 20 qFuel 0 (uI oc.2 295 0 0) (by decide) (by decide) g13
    have j295 : ∀ j, j ≠ 13 → j ≠ 0 → om.1 295 j = μ.1 295 j := fun j j1 j0 => by
      rw [m3 j j1, uI_eq]
      exact (if_neg j0).trans (congrFun e295 j)
    have FM : Fs (fun a => a = 295 ∨ a = 306) oc.2 om := (Fs.uI (Or.inl rfl)).tr m5
    have FT : Fs (fun a => (45 ≤ a ∧ a < 69) ∨ (a = 295 ∨ (a = 297 ∨ a = 306))) μ om := (c6.mo (fun a e => by omega)).tr (FM.mo (fun a e => by omega))
    have e45 : om.1 45 = oc.2.1 45 := (FM.1 45 (by decide)).1
    have e46 : om.1 46 = oc.2.1 46 := (FM.1 46 (by decide)).1
    have KF : Fs (fun a => a = 45 ∨ (a = 46 ∨ (a = 295 ∨ a = 306))) μ om := (c6.mo (fun a e => by omega)).tr (FM.mo (fun a e => by omega))
    refine ⟨nI (n + 20), oc.2, om, c1.trans (by rw [← c2]), ?_, ?_, h.rd FT (fun j hj => j295 j (by omega) (by omega)) ((h.2.1 47 kd_47).fs KF (fun a x y => by omega)), ⟨n + 20, e, ?_, m2, fun i hi => ?_, ?_, ?_⟩, ⟨⟨(KF.1 293 (by decide)).1, (KF.1 310 (by decide)).1⟩, KF.2, j295 29 (by decide) (by decide)⟩⟩
    · unfold F_X4_append
      refine be_ rfl ((if_pos (show (uI oc.2 295 0 0).1 295 13 + 20 ≤ 900 from ?_)).trans (be_ m1 ?_))
      · rw [g13]
        show nI n + nI 20 ≤ nI 900
        rw [nI_add]
        exact nI_le e (by decide)
      · rw [m2]
    · rw [m3 0 (by decide), uI_eq]; rfl
    · rw [e45]; exact c3
    · have q1 : om.1 46 i = if n ≤ i ∧ i < n + 20 then wB (w5 p1 p2 p3 p4 p5 ((i - n) / 4)) ((i - n) % 4) else μ.1 46 i := by rw [e46]; exact c5 i
      have q2 : om.1 306 i = if n ≤ i ∧ i < n + 20 then wB (w5 p1 p2 p3 p4 p5 ((i - n) / 4)) ((i - n) % 4) else μ.1 306 i := by
        rw [m4 i, uI_ne (by decide), (c6.1 306 (by decide)).1]
        rfl
      rw [q1, q2]
      by_cases e2 : n ≤ i ∧ i < n + 20
      · rw [if_pos e2, if_pos e2]
        exact ⟨wB_by _ _, rfl⟩
      · rw [if_neg e2, if_neg e2]
        exact h4 i (by omega)
    · rw [e45, c4 3 (by decide), h5, j295 16 (by decide) (by decide)]
    · rw [e45, c4 4 (by decide), h6, j295 17 (by decide) (by decide)]
  · have no : ¬ nI n + 20 ≤ 900 := by
      show ¬ nI n + nI 20 ≤ nI 900
      rw [nI_add]
      exact nI_ge (by omega) (by omega)
    refine ⟨-1, μ, uI μ 295 0 0, if_neg (by rw [h2]; exact no), ?_, by rw [uI_eq]; rfl, h.th, RdR.ke ⟨n, h1, h2, h3, h4, h5, h6⟩ KeR.th, KeX.ke KeR.th⟩
    unfold F_X4_append
    exact be_ rfl (if_neg (show ¬ (uI μ 295 0 0).1 295 13 + 20 ≤ 900 from by
      rw [uI_eq]
      show ¬ μ.1 295 13 + 20 ≤ 900
      rw [h3]
      exact no))
theorem a_truncate (h : Cor k μ) (hR : RdR μ) (p : Int32) : ∃ v μ1 μ2, F_X3_truncate p μ = some (v, μ1) ∧ (F_X4_truncate p μ1 = some (v, μ2) ∧ (μ2.1 295 0 = 0 ∧ (Cor k μ2 ∧ (RdR μ2 ∧ KeX μ μ2)))) := by
  obtain ⟨n, h1, h2, h3, h4, h5, h6⟩ := hR
  have g13 : (uI μ 295 0 0).1 295 13 = nI n := by rw [uI_eq]; exact (if_neg (by decide)).trans h3
  by_cases e : p < 0
  · refine ⟨0, μ, uI μ 295 0 0, if_pos e, be_ rfl (if_pos e), by rw [uI_eq]; rfl, h.th, RdR.ke ⟨n, h1, h2, h3, h4, h5, h6⟩ KeR.th, KeX.ke KeR.th⟩
  · obtain ⟨q, q1, rfl⟩ := i32_pos (p := p) e
    by_cases e2 : q ≤ n
    · have le : nI q ≤ nI n := nI_le e2 (by omega)
      have g13' : (uI (uI μ 45 2 (nI q)) 295 0 0).1 295 13 = nI n := by rw [uI_eq]; exact (if_neg (by decide)).trans ((congrFun (uI_ne (by decide)) 13).trans h3)
      have v295 : ∀ j, (uI (uI (uI μ 45 2 (nI q)) 295 0 0) 295 13 (nI q)).1 295 j = if j = 13 then nI q else if j = 0 then 0 else μ.1 295 j := fun j => by rw [uI_eq, uI_eq, uI_ne (by decide)]
      have v45 : ∀ j, (uI (uI (uI μ 45 2 (nI q)) 295 0 0) 295 13 (nI q)).1 45 j = if j = 2 then nI q else μ.1 45 j := fun j => by rw [uI_ne (by decide), uI_ne (by decide), uI_eq]
      have KF : Fs (fun a => a = 45 ∨ a = 295) μ (uI (uI (uI μ 45 2 (nI q)) 295 0 0) 295 13 (nI q)) := ((Fs.uI (Or.inl rfl)).tr (Fs.uI (Or.inr rfl))).tr (Fs.uI (Or.inr rfl))
      have j295 : ∀ j, j ≠ 13 → j ≠ 0 → (uI (uI (uI μ 45 2 (nI q)) 295 0 0) 295 13 (nI q)).1 295 j = μ.1 295 j := fun j j1 j0 => by rw [v295, if_neg j1, if_neg j0]
      refine ⟨1, uI μ 45 2 (nI q), uI (uI (uI μ 45 2 (nI q)) 295 0 0) 295 13 (nI q), ?_, ?_, by rw [v295]; rfl, h.rd (KF.mo (fun a e => by omega)) (fun j hj => j295 j (by omega) (by omega)) ((h.2.1 47 kd_47).fs KF (fun a x y => by omega)), ⟨q, by omega, by rw [v45]; rfl, by rw [v295]; rfl, fun i hi => ?_, ?_, ?_⟩, ⟨⟨(KF.1 293 (by decide)).1, (KF.1 310 (by decide)).1⟩, KF.2, j295 29 (by decide) (by decide)⟩⟩
      · unfold F_X3_truncate
        exact (if_neg e).trans ((if_pos (by rw [h2]; exact le)).trans rfl)
      · unfold F_X4_truncate
        exact be_ rfl ((if_neg e).trans ((if_pos (show nI q ≤ (uI (uI μ 45 2 (nI q)) 295 0 0).1 295 13 by rw [g13']; exact le)).trans rfl))
      · rw [(KF.1 46 (by decide)).1, (KF.1 306 (by decide)).1]
        exact h4 i (by omega)
      · rw [v45, j295 16 (by decide) (by decide)]; exact h5
      · rw [v45, j295 17 (by decide) (by decide)]; exact h6
    · have nle : ¬ nI q ≤ nI n := nI_ge (by omega) q1
      refine ⟨0, μ, uI μ 295 0 0, (if_neg e).trans (if_neg (by rw [h2]; exact nle)), ?_, by rw [uI_eq]; rfl, h.th, RdR.ke ⟨n, h1, h2, h3, h4, h5, h6⟩ KeR.th, KeX.ke KeR.th⟩
      unfold F_X4_truncate
      exact be_ rfl ((if_neg e).trans (if_neg (show ¬ nI q ≤ (uI μ 295 0 0).1 295 13 by rw [g13]; exact nle)))
theorem q_errOff (hR : RdR μ) : ∃ v, F_X3_errorOffset μ = some v ∧ F_X4_errorOffset μ = some (v, uI μ 295 0 0) := by
  obtain ⟨n, h1, h2, h3, h4, h5, h6⟩ := hR
  refine ⟨μ.1 45 3, rfl, be_ rfl ?_⟩
  rw [h5, uI_eq]
  rfl
theorem q_errKind (hR : RdR μ) : ∃ v, F_X3_errorKind μ = some v ∧ F_X4_errorKind μ = some (v, uI μ 295 0 0) := by
  obtain ⟨n, h1, h2, h3, h4, h5, h6⟩ := hR
  refine ⟨μ.1 45 4, rfl, be_ rfl ?_⟩
  rw [h6, uI_eq]
  rfl
end APP
