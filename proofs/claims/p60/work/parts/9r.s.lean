/-! ===== append, truncate, what the reader says ===== -/
theorem sh_c (w : BitVec 32) (c : Nat) (hc : c ≤ 24) : (w >>> c).signExtend 8 = (w.sshiftRight c).signExtend 8 := by
  apply BitVec.eq_of_getLsbD_eq
  intro i hi
  rw [BitVec.getLsbD_signExtend, BitVec.getLsbD_signExtend, if_pos (by omega), if_pos (by omega), BitVec.getLsbD_ushiftRight, BitVec.getLsbD_sshiftRight, if_pos (by omega)]
  simp only [show decide (32 ≤ i) = false from decide_eq_false (by omega), Bool.not_false, Bool.true_and]
theorem sh_24 (w : Int32) : Int32.toInt8 ((Int32.toUInt32 w >>> (Int32.toUInt32 24 &&& Int32.toUInt32 31)).toInt32) = Int32.toInt8 (w >>> (24 &&& 31)) := Int8.toBitVec_inj.1 (sh_c w.toBitVec 24 (by decide))
theorem sh_16 (w : Int32) : Int32.toInt8 ((Int32.toUInt32 w >>> (Int32.toUInt32 16 &&& Int32.toUInt32 31)).toInt32) = Int32.toInt8 (w >>> (16 &&& 31)) := Int8.toBitVec_inj.1 (sh_c w.toBitVec 16 (by decide))
theorem sh_8 (w : Int32) : Int32.toInt8 ((Int32.toUInt32 w >>> (Int32.toUInt32 8 &&& Int32.toUInt32 31)).toInt32) = Int32.toInt8 (w >>> (8 &&& 31)) := Int8.toBitVec_inj.1 (sh_c w.toBitVec 8 (by decide))
theorem sh_0 (w : Int32) : Int32.toInt8 ((Int32.toUInt32 w >>> (Int32.toUInt32 0 &&& Int32.toUInt32 31)).toInt32) = Int32.toInt8 (w >>> (0 &&& 31)) := Int8.toBitVec_inj.1 (sh_c w.toBitVec 0 (by decide))
section APP
variable {μ ν μ' b : Mm} {n k : Nat}
def vS (i : Nat) : Int32 := [24, 16, 8, 0, -8].getD i 0
def wB (w : Int32) (i : Nat) : Int32 := (w >>> (vS i &&& 31)).toInt8.toInt32
theorem vS_s : ∀ i, i < 4 → vS i + (-8) = vS (i + 1) ∧ ¬ vS i < 0 := by decide
theorem wB_c {w : Int32} {i : Nat} (h : i < 4) : vp_nar .byte (Int8.toInt32 (Int32.toInt8 ((Int32.toUInt32 w >>> (Int32.toUInt32 (vS i) &&& Int32.toUInt32 31)).toInt32))) = wB w i := by
  rw [vp_nar_byte, Int8.toInt8_toInt32]
  rcases (show i = 0 ∨ i = 1 ∨ i = 2 ∨ i = 3 by omega) with rfl | rfl | rfl | rfl
  · exact congrArg Int8.toInt32 (sh_24 w)
  · exact congrArg Int8.toInt32 (sh_16 w)
  · exact congrArg Int8.toInt32 (sh_8 w)
  · exact congrArg Int8.toInt32 (sh_0 w)
theorem wB_by (w : Int32) (i : Nat) : By (wB w i) := by
  unfold By wB
  rw [Int8.toInt8_toInt32]
theorem c_wordL {w : Int32} (hn : n + 4 ≤ 900) : ∀ (d m i : Nat) (μ : Mm), i + d = 4 → d < m → μ.1 45 2 = nI (n + i) → Op (F_X0_addWord_3 w m (vS i) μ) (fun μ' => μ'.1 45 2 = nI (n + 4) ∧ ((∀ j, j ≠ 2 → μ'.1 45 j = μ.1 45 j) ∧ ((∀ j, μ'.1 46 j = if n + i ≤ j ∧ j < n + 4 then wB w (j - n) else μ.1 46 j) ∧ Fs (fun a => a = 45 ∨ a = 46) μ μ'))) := by
  intro d
  induction d with
  | zero =>
    intro m i μ hi hm h2
    obtain ⟨m, rfl⟩ : ∃ z, m = z + 1 := ⟨m - 1, by omega⟩
    obtain rfl : i = 4 := by omega
    rw [F_X0_addWord_3, if_pos (show vS 4 < 0 by decide)]
    exact op_r ⟨h2, fun _ _ => rfl, fun j => (if_neg (by omega)).symm, Fs.rf⟩
  | succ d ih =>
    intro m i μ hi hm h2
    obtain ⟨m, rfl⟩ : ∃ z, m = z + 1 := ⟨m - 1, by omega⟩
    have hv := vS_s i (by omega)
    rw [F_X0_addWord_3, if_neg hv.2, h2, if_neg (show ¬ (900 : Int32) ≤ nI (n + i) from nI_ge (b := 900) (by omega) (by decide))]
    refine op_eb (sB_ok (k := n + i) rfl (by rw [ln46]; omega)) (op_br ?_)
    rw [wB_c (by omega), hv.1]
    have e2 : (uI μ 46 (n + i) (wB w i)).1 45 2 + 1 = nI (n + (i + 1)) := by rw [uI_ne (by decide), h2]; exact nI_1 (n + i)
    rw [e2]
    refine op_m (ih m (i + 1) _ (by omega) (by omega) (by rw [uI_eq]; rfl)) (fun μ' z => ⟨z.1, fun j hj => ?_, fun j => ?_, ((Fs.uI (Or.inr rfl)).tr (Fs.uI (Or.inl rfl))).tr z.2.2.2⟩)
    · rw [z.2.1 j hj, uI_eq]
      exact (if_neg hj).trans (by rw [uI_ne (by decide)])
    · rw [z.2.2.1 j]
      by_cases e : j = n + i
      · rw [if_neg (by omega), if_pos (by omega), uI_ne (by decide), uI_eq]
        show (if j = n + i then wB w i else _) = _
        rw [if_pos e, show j - n = i by omega]
      · by_cases e2 : n + (i + 1) ≤ j ∧ j < n + 4
        · rw [if_pos e2, if_pos (by omega)]
        · rw [if_neg e2, if_neg (by omega), uI_ne (by decide), uI_eq]
          exact if_neg e
theorem c_word {w : Int32} (hn : n + 4 ≤ 900) (h2 : μ.1 45 2 = nI n) : Op (F_X0_addWord w μ) (fun μ' => μ'.1 45 2 = nI (n + 4) ∧ ((∀ j, j ≠ 2 → μ'.1 45 j = μ.1 45 j) ∧ ((∀ j, μ'.1 46 j = if n ≤ j ∧ j < n + 4 then wB w (j - n) else μ.1 46 j) ∧ Fs (fun a => a = 45 ∨ a = 46) μ μ'))) := by
  unfold F_X0_addWord
  exact op_mb (c_wordL (w := w) hn 4 qFuel 0 μ (by decide) (by decide) h2) (fun m z => op_r z)
def w5 (p1 p2 p3 p4 p5 : Int32) (q : Nat) : Int32 := [p1, p2, p3, p4, p5].getD q 0
theorem c_app {p1 p2 p3 p4 p5 : Int32} (hn : n + 20 ≤ 900) (h2 : μ.1 45 2 = nI n) : Op (F_X3_append p1 p2 p3 p4 p5 μ) (fun o => o.1 = nI (n + 20) ∧ (o.2.1 45 2 = nI (n + 20) ∧ ((∀ j, j ≠ 2 → o.2.1 45 j = μ.1 45 j) ∧ ((∀ j, o.2.1 46 j = if n ≤ j ∧ j < n + 20 then wB (w5 p1 p2 p3 p4 p5 ((j - n) / 4)) ((j - n) % 4) else μ.1 46 j) ∧ Fs (fun a => a = 45 ∨ a = 46) μ o.2)))) := by
  unfold F_X3_append
  refine op_t (by rw [h2]; show nI n + nI 20 ≤ nI 900; rw [nI_add]; exact nI_le hn (by decide)) ?_
  refine op_mb (c_word (w := p1) (by omega) h2) (fun m1 z1 => op_mb (c_word (w := p2) (n := n + 4) (by omega) z1.1) (fun m2 z2 => op_mb (c_word (w := p3) (n := n + 4 + 4) (by omega) z2.1) (fun m3 z3 => op_mb (c_word (w := p4) (n := n + 4 + 4 + 4) (by omega) z3.1) (fun m4 z4 => op_mb (c_word (w := p5) (n := n + 4 + 4 + 4 + 4) (by omega) z4.1) (fun m5 z5 => op_r ⟨z5.1, z5.1, fun j hj => ?_, fun j => ?_, (((z1.2.2.2.tr z2.2.2.2).tr z3.2.2.2).tr z4.2.2.2).tr z5.2.2.2⟩)))))
  · rw [z5.2.1 j hj, z4.2.1 j hj, z3.2.1 j hj, z2.2.1 j hj, z1.2.1 j hj]
  · show m5.1 46 j = _
    rw [z5.2.2.1 j]
    by_cases e5 : n + 4 + 4 + 4 + 4 ≤ j ∧ j < n + 4 + 4 + 4 + 4 + 4
    · rw [if_pos e5, if_pos (by omega), show (j - n) / 4 = 4 by omega, show (j - n) % 4 = j - (n + 4 + 4 + 4 + 4) by omega]
      rfl
    · rw [if_neg e5, z4.2.2.1 j]
      by_cases e4 : n + 4 + 4 + 4 ≤ j ∧ j < n + 4 + 4 + 4 + 4
      · rw [if_pos e4, if_pos (by omega), show (j - n) / 4 = 3 by omega, show (j - n) % 4 = j - (n + 4 + 4 + 4) by omega]
        rfl
      · rw [if_neg e4, z3.2.2.1 j]
        by_cases e3 : n + 4 + 4 ≤ j ∧ j < n + 4 + 4 + 4
        · rw [if_pos e3, if_pos (by omega), show (j - n) / 4 = 2 by omega, show (j - n) % 4 = j - (n + 4 + 4) by omega]
          rfl
        · rw [if_neg e3, z2.2.2.1 j]
          by_cases e2 : n + 4 ≤ j ∧ j < n + 4 + 4
          · rw [if_pos e2, if_pos (by omega), show (j - n) / 4 = 1 by omega, show (j - n) % 4 = j - (n + 4) by omega]
            rfl
          · rw [if_neg e2, z1.2.2.1 j]
            by_cases e1 : n ≤ j ∧ j < n + 4
            · rw [if_pos e1, if_pos (by omega), show (j - n) / 4 = 0 by omega, show (j - n) % 4 = j - n by omega]
              rfl
            · rw [if_neg e1, if_neg (by omega)]
theorem vS_m : ∀ j, j < 20 → (24 : Int32) - ((8 : Int32) * (nI j - nI j / (4 : Int32) * (4 : Int32))) = vS (j % 4) := by decide
theorem w5_m {u1 u2 u3 u4 u5 : Int32} {j : Nat} (h : j < 20) : (if (4 : Int32) ≤ nI j then (if (8 : Int32) ≤ nI j then (if (12 : Int32) ≤ nI j then (if (16 : Int32) ≤ nI j then (some u5) else (some u4)) else (some u3)) else (some u2)) else (some u1)) = some (w5 u1 u2 u3 u4 u5 (j / 4)) := by
  have le : ∀ c, c ≤ j → nI c ≤ nI j := fun c hc => nI_le hc (by omega)
  have ge : ∀ c, j < c → c < 30 → ¬ nI c ≤ nI j := fun c hc h3 => nI_ge hc (by omega)
  rcases (show j / 4 = 0 ∨ j / 4 = 1 ∨ j / 4 = 2 ∨ j / 4 = 3 ∨ j / 4 = 4 by omega) with e | e | e | e | e
  · rw [e]; exact if_neg (ge 4 (by omega) (by decide))
  · rw [e]; exact (if_pos (le 4 (by omega))).trans (if_neg (ge 8 (by omega) (by decide)))
  · rw [e]; exact (if_pos (le 4 (by omega))).trans ((if_pos (le 8 (by omega))).trans (if_neg (ge 12 (by omega) (by decide))))
  · rw [e]; exact (if_pos (le 4 (by omega))).trans ((if_pos (le 8 (by omega))).trans ((if_pos (le 12 (by omega))).trans (if_neg (ge 16 (by omega) (by decide)))))
  · rw [e]; exact (if_pos (le 4 (by omega))).trans ((if_pos (le 8 (by omega))).trans ((if_pos (le 12 (by omega))).trans (if_pos (le 16 (by omega)))))
end APP

