/-! ===== the class' tokens ===== -/
def Tx (f : Nat → Int32) (n : Nat) (μ : Mm) : Prop := μ.1 45 2 = nI n ∧ ∀ k, k < n → μ.1 46 k = f k
def CL (f : Nat → Int32) (n t : Nat) (μ : Mm) : Prop := Tx f n μ ∧ (t ≤ n ∧ (skp f n t = t ∧ (μ.1 45 5 = nI (tk f n t) ∧ (μ.1 45 6 = nI t ∧ μ.1 45 7 = nI (te f n t)))))
/-- a move of the token -/
def K45 (μ μ' : Mm) : Prop := Fs (fun a => a = 45) μ μ' ∧ ∀ j, j < 5 → μ'.1 45 j = μ.1 45 j
theorem K45.rf {μ : Mm} : K45 μ μ := ⟨Fs.rf, fun _ _ => rfl⟩
theorem K45.tr {μ μ1 μ2 : Mm} (h : K45 μ μ1) (h2 : K45 μ1 μ2) : K45 μ μ2 := ⟨h.1.tr h2.1, fun j hj => (h2.2 j hj).trans (h.2 j hj)⟩
theorem K45.u {μ : Mm} {j : Nat} {v : Int32} (h : 5 ≤ j) : K45 μ (uI μ 45 j v) := ⟨Fs.uI rfl, fun i hi => by rw [uI_eq]; exact if_neg (by omega)⟩
theorem Tx.k {f : Nat → Int32} {n : Nat} {μ μ' : Mm} (h : Tx f n μ) (k : K45 μ μ') : Tx f n μ' := ⟨(k.2 2 (by decide)).trans h.1, fun i hi => by rw [(k.1.1 46 (by decide)).1]; exact h.2 i hi⟩
theorem Tx.fs {f : Nat → Int32} {n : Nat} {S : Nat → Prop} {μ μ' : Mm} (h : Tx f n μ) (k : Fs S μ μ') (h1 : ¬ S 45) (h2 : ¬ S 46) : Tx f n μ' := ⟨(congrFun (k.1 45 h1).1 2).trans h.1, fun i hi => by rw [(k.1 46 h2).1]; exact h.2 i hi⟩
theorem CL.fs {f : Nat → Int32} {n t : Nat} {S : Nat → Prop} {μ μ' : Mm} (h : CL f n t μ) (k : Fs S μ μ') (h1 : ¬ S 45) (h2 : ¬ S 46) : CL f n t μ' := by
  obtain ⟨a1, a2, a3, a4, a5, a6⟩ := h
  refine ⟨a1.fs k h1 h2, a2, a3, ?_⟩
  rw [(k.1 45 h1).1]
  exact ⟨a4, a5, a6⟩
theorem ln46 : ln 46 = 900 := by decide +kernel
section CTOK
variable {f : Nat → Int32} {n t e : Nat} {μ : Mm}
theorem x0_bla (x : Int32) : F_X0_isBlank x μ = some (if blaB x = true then 1 else 0) := by
  unfold F_X0_isBlank blaB
  by_cases e1 : x = 32
  · rw [if_pos e1, if_pos (decide_eq_true (Or.inl e1))]
  · rw [if_neg e1]
    by_cases e2 : x = 9
    · rw [if_pos e2, if_pos (decide_eq_true (Or.inr (Or.inl e2)))]
    · rw [if_neg e2]
      by_cases e3 : x = 10
      · rw [if_pos e3, if_pos (decide_eq_true (Or.inr (Or.inr e3)))]
      · rw [if_neg e3, if_neg (fun z => (of_decide_eq_true z).elim e1 (fun y => y.elim e2 e3))]
theorem x0_let (x : Int32) : F_X0_isLetter x μ = some (if letB x = true then 1 else 0) := by
  unfold F_X0_isLetter letB
  by_cases e1 : x < 97
  · rw [if_pos e1, if_neg (fun z => (of_decide_eq_true z).1 e1)]
  · rw [if_neg e1]
    by_cases e2 : 122 < x
    · rw [if_pos e2, if_neg (fun z => (of_decide_eq_true z).2 e2)]
    · rw [if_neg e2, if_pos (decide_eq_true ⟨e1, e2⟩)]
theorem x0_dig (x : Int32) : F_X0_isDigit x μ = some (if digB x = true then 1 else 0) := by
  unfold F_X0_isDigit digB
  by_cases e1 : x < 48
  · rw [if_pos e1, if_neg (fun z => (of_decide_eq_true z).1 e1)]
  · rw [if_neg e1]
    by_cases e2 : 57 < x
    · rw [if_pos e2, if_neg (fun z => (of_decide_eq_true z).2 e2)]
    · rw [if_neg e2, if_pos (decide_eq_true ⟨e1, e2⟩)]
theorem tx_at (h : Tx f n μ) (hn : n ≤ 900) {k : Nat} (hk : k < n) : aI μ 46 (nI k) = some (f k) := (aI_ok rfl (by rw [ln46]; omega)).trans (congrArg some (h.2 k hk))
theorem x0_skL (h : Tx f n μ) (hn : n ≤ 900) : ∀ (d m a : Nat), a + d = n → d < m → F_X0_nextToken_5 μ m (nI a) = some (nI (skp f n a)) := by
  intro d
  induction d with
  | zero =>
    intro m a ha hm
    obtain ⟨m, rfl⟩ : ∃ z, m = z + 1 := ⟨m - 1, by omega⟩
    unfold skp
    rw [F_X0_nextToken_5, h.1, if_pos (nI_le (by omega) (by omega)), ru_o (by omega)]
  | succ d ih =>
    intro m a ha hm
    obtain ⟨m, rfl⟩ : ∃ z, m = z + 1 := ⟨m - 1, by omega⟩
    unfold skp at ih ⊢
    rw [F_X0_nextToken_5, h.1, if_neg (nI_ge (by omega) (by omega)), ru_s (by omega)]
    refine be_ (tx_at h hn (by omega)) (be_ (x0_bla _) ?_)
    by_cases e1 : blaB (f a) = true
    · rw [if_pos e1, if_neg n10, if_pos e1, nI_1]
      exact ih m (a + 1) (by omega) (by omega)
    · rw [if_neg e1, if_pos rfl, if_neg e1]
theorem x0_digL (hn : n ≤ 900) : ∀ (d m a : Nat) (μ : Mm), Tx f n μ → a + d = n → d < m → μ.1 45 7 = nI a → Op (F_X0_nextToken_130 m μ) (fun μ' => μ'.1 45 7 = nI (ru digB f n a) ∧ (K45 μ μ' ∧ ∀ j, j ≠ 7 → μ'.1 45 j = μ.1 45 j)) := by
  intro d
  induction d with
  | zero =>
    intro m a μ h ha hm h7
    obtain ⟨m, rfl⟩ : ∃ z, m = z + 1 := ⟨m - 1, by omega⟩
    rw [F_X0_nextToken_130, h.1, h7, if_pos (nI_le (by omega) (by omega)), ru_o (by omega)]
    exact op_r ⟨h7, K45.rf, fun _ _ => rfl⟩
  | succ d ih =>
    intro m a μ h ha hm h7
    obtain ⟨m, rfl⟩ : ∃ z, m = z + 1 := ⟨m - 1, by omega⟩
    rw [F_X0_nextToken_130, h.1, h7, if_neg (nI_ge (by omega) (by omega)), ru_s (by omega)]
    refine op_eb (tx_at h hn (by omega)) (op_eb (x0_dig _) ?_)
    by_cases e1 : digB (f a) = true
    · rw [if_pos e1, if_pos e1, nI_1]
      refine op_f n10 (op_br ?_)
      have k : K45 μ (uI μ 45 7 (nI (a + 1))) := K45.u (by decide)
      refine op_m (ih m (a + 1) _ (h.k k) (by omega) (by omega) (by rw [uI_eq]; rfl)) (fun μ' z => ⟨z.1, k.tr z.2.1, fun j hj => (z.2.2 j hj).trans (by rw [uI_eq]; exact if_neg hj)⟩)
    · rw [if_neg e1, if_neg e1]
      exact op_t rfl (op_r ⟨h7, K45.rf, fun _ _ => rfl⟩)
theorem x0_letL (hn : n ≤ 900) : ∀ (d m a : Nat) (μ : Mm), Tx f n μ → a + d = n → d < m → μ.1 45 7 = nI a → Op (F_X0_nextToken_74 m μ) (fun μ' => μ'.1 45 7 = nI (ru letB f n a) ∧ (K45 μ μ' ∧ ∀ j, j ≠ 7 → μ'.1 45 j = μ.1 45 j)) := by
  intro d
  induction d with
  | zero =>
    intro m a μ h ha hm h7
    obtain ⟨m, rfl⟩ : ∃ z, m = z + 1 := ⟨m - 1, by omega⟩
    rw [F_X0_nextToken_74, h.1, h7, if_pos (nI_le (by omega) (by omega)), ru_o (by omega)]
    exact op_r ⟨h7, K45.rf, fun _ _ => rfl⟩
  | succ d ih =>
    intro m a μ h ha hm h7
    obtain ⟨m, rfl⟩ : ∃ z, m = z + 1 := ⟨m - 1, by omega⟩
    rw [F_X0_nextToken_74, h.1, h7, if_neg (nI_ge (by omega) (by omega)), ru_s (by omega)]
    refine op_eb (tx_at h hn (by omega)) (op_eb (x0_let _) ?_)
    by_cases e1 : letB (f a) = true
    · rw [if_pos e1, if_pos e1, nI_1]
      refine op_f n10 (op_br ?_)
      have k : K45 μ (uI μ 45 7 (nI (a + 1))) := K45.u (by decide)
      refine op_m (ih m (a + 1) _ (h.k k) (by omega) (by omega) (by rw [uI_eq]; rfl)) (fun μ' z => ⟨z.1, k.tr z.2.1, fun j hj => (z.2.2 j hj).trans (by rw [uI_eq]; exact if_neg hj)⟩)
    · rw [if_neg e1, if_neg e1]
      exact op_t rfl (op_r ⟨h7, K45.rf, fun _ _ => rfl⟩)
theorem x0_next (hn : n ≤ 900) (h : Tx f n μ) (h7 : μ.1 45 7 = nI e) (he : e ≤ n) : Op (F_X0_nextToken μ) (fun μ' => CL f n (skp f n e) μ' ∧ K45 μ μ') := by
  have hsk := x0_skL h hn (n - e) qFuel e (by omega) (by unfold qFuel; omega)
  have hb : e ≤ skp f n e ∧ (skp f n e ≤ n ∧ (skp f n e < n → ¬ blaB (f (skp f n e)) = true)) := ru_b he
  have hid : skp f n (skp f n e) = skp f n e := ru_idem
  generalize skp f n e = t at *
  unfold F_X0_nextToken
  rw [h7]
  refine op_eb hsk (op_br (op_br ?_))
  generalize hm15 : uI (uI μ 45 6 (nI t)) 45 7 (nI t) = m15
  have k15 : K45 μ m15 := by rw [← hm15]; exact (K45.u (by decide)).tr (K45.u (by decide))
  have t15 := h.k k15
  have v6 : m15.1 45 6 = nI t := by rw [← hm15, uI_eq]; refine (if_neg (by decide)).trans ?_; rw [uI_eq]; rfl
  have v7 : m15.1 45 7 = nI t := by rw [← hm15, uI_eq]; rfl
  rw [t15.1]
  by_cases e0 : t < n
  · refine op_t (nI_lt e0 (by omega)) (op_eb (tx_at t15 hn e0) (op_eb (x0_let _) ?_))
    by_cases e1 : letB (f t) = true
    · rw [if_pos e1]
      have htk : tk f n t = 1 := tk1.mpr ⟨e0, e1⟩
      refine op_f n10 (op_br (op_b (op_m (x0_letL hn (n - t) qFuel t _ (t15.k (K45.u (by decide))) (by omega) (by unfold qFuel; omega) (by rw [uI_eq]; exact (if_neg (by decide)).trans v7)) (fun μ' w => op_r ?_))))
      obtain ⟨w1, w2, w3⟩ := w
      have kk := (k15.tr (K45.u (j := 5) (v := 1) (by decide))).tr w2
      refine ⟨⟨h.k kk, hb.2.1, hid, ?_, ?_, ?_⟩, kk⟩
      · rw [w3 5 (by decide), uI_eq, htk]; rfl
      · rw [w3 6 (by decide), uI_eq]; exact (if_neg (by decide)).trans v6
      · rw [w1, te_let htk]
    · rw [if_neg e1]
      refine op_t rfl (op_eb (tx_at t15 hn e0) (op_eb (x0_dig _) ?_))
      by_cases e2 : digB (f t) = true
      · rw [if_pos e2]
        have htk : tk f n t = 2 := tk2.mpr ⟨e0, e2⟩
        refine op_f n10 (op_br (op_b (op_m (x0_digL hn (n - t) qFuel t _ (t15.k (K45.u (by decide))) (by omega) (by unfold qFuel; omega) (by rw [uI_eq]; exact (if_neg (by decide)).trans v7)) (fun μ' w => op_r ?_))))
        obtain ⟨w1, w2, w3⟩ := w
        have kk := (k15.tr (K45.u (j := 5) (v := 2) (by decide))).tr w2
        refine ⟨⟨h.k kk, hb.2.1, hid, ?_, ?_, ?_⟩, kk⟩
        · rw [w3 5 (by decide), uI_eq, htk]; rfl
        · rw [w3 6 (by decide), uI_eq]; exact (if_neg (by decide)).trans v6
        · rw [w1, te_dig htk]
      · rw [if_neg e2]
        refine op_t rfl (op_eb (tx_at t15 hn e0) ?_)
        have fin : ∀ {q : Nat}, tk f n t = q → Op ((some (uI m15 45 5 (nI q))).bind fun m41 => (some (uI m41 45 7 ((m41.1 45 7) + (1 : Int32)))).bind fun m43 => some m43) (fun μ' => CL f n t μ' ∧ K45 μ μ') := fun {q} hq => by
          refine op_br (op_br (op_r ?_))
          have kk := (k15.tr (K45.u (j := 5) (v := nI q) (by decide))).tr (K45.u (j := 7) (v := (uI m15 45 5 (nI q)).1 45 7 + 1) (by decide))
          refine ⟨⟨h.k kk, hb.2.1, hid, ?_, ?_, ?_⟩, kk⟩
          · rw [uI_eq]; refine (if_neg (by decide)).trans ?_; rw [uI_eq, hq]; rfl
          · rw [uI_eq]; refine (if_neg (by decide)).trans ?_; rw [uI_eq]; exact (if_neg (by decide)).trans v6
          · rw [uI_eq]
            show (uI m15 45 5 (nI q)).1 45 7 + 1 = _
            rw [uI_eq]
            show m15.1 45 7 + 1 = _
            rw [v7, nI_1]
            unfold te
            rw [if_neg (by omega), if_neg e1, if_neg e2]
        have hq : tk f n t = if f t = 59 then 3 else 4 := by
          unfold tk
          rw [if_neg (by omega), if_neg e1, if_neg e2]
        by_cases e3 : f t = 59
        · rw [if_pos e3] at hq ⊢
          exact op_br (fin hq)
        · rw [if_neg e3] at hq ⊢
          exact op_br (fin hq)
  · have htn : t = n := by omega
    refine op_f (nI_nlt (by omega) (by omega)) (op_br (op_r ?_))
    have kk := k15.tr (K45.u (j := 5) (v := 0) (by decide))
    refine ⟨⟨h.k kk, hb.2.1, hid, ?_, ?_, ?_⟩, kk⟩
    · rw [uI_eq]
      unfold tk
      rw [if_pos (by omega)]
      rfl
    · rw [uI_eq]; exact (if_neg (by decide)).trans v6
    · rw [uI_eq]
      unfold te
      rw [if_pos (by omega)]
      exact (if_neg (by decide)).trans v7
theorem CL.next (hn : n ≤ 900) (h : CL f n t μ) : Op (F_X0_nextToken μ) (fun μ' => CL f n (skp f n (te f n t)) μ' ∧ K45 μ μ') := x0_next hn h.1 h.2.2.2.2.2 (te_le h.2.1).2.1
end CTOK

