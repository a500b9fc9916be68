/-! ===== the reference's records ===== -/
section MREC
variable {μ : Mm} {s : Nat → Int32} {g : Nat → Int64} {c : Nat} {S : Nat → Sh}
/-- a row's first part falls out -/
def dnI (f : Nat → Int32) (w n : Nat) : Nat → Int32 := fun j => if j < n then f (j + w) else f j
def dnL (f : Nat → Int64) (w n : Nat) : Nat → Int64 := fun j => if j < n then f (j + w) else f j
theorem m_rec13 {f : Nat → Int32} : ∀ (d m : Nat) (n : Nat) (μ : Mm), n + d = 3647 → d < m → μ.1 299 = dnI f 521 n → Op (F_X4_record_13 m (nI (521 + n)) μ) (fun μ' => μ'.1 299 = dnI f 521 3647 ∧ Fs (fun a => a = 299) μ μ') := by
  intro d
  induction d with
  | zero =>
    intro m n μ hn hm e
    obtain ⟨m, rfl⟩ : ∃ z, m = z + 1 := ⟨m - 1, by omega⟩
    obtain rfl : n = 3647 := by omega
    rw [F_X4_record_13]
    exact op_t (show (4168 : Int32) ≤ nI (521 + 3647) by decide) (op_r ⟨e, Fs.rf⟩)
  | succ d ih =>
    intro m n μ hn hm e
    obtain ⟨m, rfl⟩ : ∃ z, m = z + 1 := ⟨m - 1, by omega⟩
    rw [F_X4_record_13]
    refine op_f (show ¬ (4168 : Int32) ≤ nI (521 + n) from nI_ge (b := 4168) (by omega) (by decide)) ?_
    refine op_eb (aI_ok (k := 521 + n) rfl (by rw [ln299]; omega)) (op_eb (sI_ok (k := n) (show nI (521 + n) - nI 521 = nI n by rw [pk_sub (by omega), show 521 + n - 521 = n by omega]) (by rw [ln299]; omega)) ?_)
    rw [nI_1, show 521 + n + 1 = 521 + (n + 1) by omega]
    refine op_m (ih m (n + 1) _ (by omega) (by omega) ?_) (fun μ' z => ⟨z.1, Fs.tr (Fs.uI (S := fun a => a = 299) rfl) z.2⟩)
    rw [uI_eq, e]
    funext j
    show (if j = n then dnI f 521 n (521 + n) else dnI f 521 n j) = dnI f 521 (n + 1) j
    unfold dnI
    by_cases e1 : j = n
    · rw [if_pos e1, if_neg (by omega), if_pos (by omega), e1, Nat.add_comm]
    · rw [if_neg e1]
      by_cases e2 : j < n
      · rw [if_pos e2, if_pos (by omega)]
      · rw [if_neg e2, if_neg (by omega)]
theorem ln302' : ln 302 = 120 := ln302
theorem m_rec45 {f : Nat → Int64} : ∀ (d m : Nat) (n : Nat) (μ : Mm), n + d = 105 → d < m → μ.2.1 302 = dnL f 15 n → Op (F_X4_record_45 m (nI (15 + n)) μ) (fun μ' => μ'.2.1 302 = dnL f 15 105 ∧ Fs (fun a => a = 302) μ μ') := by
  intro d
  induction d with
  | zero =>
    intro m n μ hn hm e
    obtain ⟨m, rfl⟩ : ∃ z, m = z + 1 := ⟨m - 1, by omega⟩
    obtain rfl : n = 105 := by omega
    rw [F_X4_record_45]
    exact op_t (show (120 : Int32) ≤ nI (15 + 105) by decide) (op_r ⟨e, Fs.rf⟩)
  | succ d ih =>
    intro m n μ hn hm e
    obtain ⟨m, rfl⟩ : ∃ z, m = z + 1 := ⟨m - 1, by omega⟩
    rw [F_X4_record_45]
    refine op_f (show ¬ (120 : Int32) ≤ nI (15 + n) from nI_ge (b := 120) (by omega) (by decide)) ?_
    refine op_eb (aL_ok (k := 15 + n) rfl (by rw [ln302]; omega)) (op_eb (sL_ok (k := n) (show nI (15 + n) - nI 15 = nI n by rw [pk_sub (by omega), show 15 + n - 15 = n by omega]) (by rw [ln302]; omega)) ?_)
    rw [nI_1, show 15 + n + 1 = 15 + (n + 1) by omega]
    refine op_m (ih m (n + 1) _ (by omega) (by omega) ?_) (fun μ' z => ⟨z.1, Fs.tr (Fs.uL (S := fun a => a = 302) rfl) z.2⟩)
    rw [uL_eq, e]
    funext j
    show (if j = n then dnL f 15 n (15 + n) else dnL f 15 n j) = dnL f 15 (n + 1) j
    unfold dnL
    by_cases e1 : j = n
    · rw [if_pos e1, if_neg (by omega), if_pos (by omega), e1, Nat.add_comm]
    · rw [if_neg e1]
      by_cases e2 : j < n
      · rw [if_pos e2, if_pos (by omega)]
      · rw [if_neg e2, if_neg (by omega)]
def R299 (a : Nat) : Prop := a = 295 ∨ (a = 299 ∨ a = 302)
theorem PM.fs {Q : Nat → Prop} {μ μ' : Mm} (h : PM μ c S) (hF : Fs Q μ μ') (h5 : μ'.1 295 8 = μ.1 295 8) (h1 : ¬ Q 299) (h2 : ¬ Q 302) : PM μ' c S := by
  obtain ⟨a, b, d⟩ := h
  refine ⟨h5.trans a, b, fun i hi => ?_⟩
  unfold hr hl
  rw [(hF.1 299 h1).1, (hF.1 302 h2).2]
  exact d i hi
theorem m_rec1 (h : PM μ c S) (hc : c < 8) (h1 : μ.1 296 = s) (h2 : μ.2.1 300 = g) : Op ((F_X4_record_84 qFuel (0 : Int32) μ).bind fun o34 => (F_X4_record_120 qFuel (0 : Int32) o34).bind fun o43 => (some (uI o43 295 8 ((o43.1 295 8) + (1 : Int32)))).bind fun m45 => some m45) (fun μ' => PM μ' (c + 1) (fun i => if i = c then (s, g) else S i) ∧ (Fs R299 μ μ' ∧ ∀ j, j ≠ 8 → μ'.1 295 j = μ.1 295 j)) := by
  obtain ⟨a, b, d⟩ := h
  refine op_mb (cpLoop (loop := F_X4_record_84) (src := 296) (dst := 299) (N := 521) (a := 521 * c) (ix := fun v => v) (jx := fun μ v => 521 * (μ.1 295 8) + v) (by decide) (by decide) (fun m v μ => by rw [F_X4_record_84]; rfl) (off := 0) (fun k _ => by rw [Nat.zero_add]) (by rw [ln296]; decide) (by rw [ln299]; omega) (R := fun m => m.1 295 8 = nI c) (fun μ k hr _ => by rw [hr]; show nI 521 * nI c + nI k = _; rw [pk_mul, nI_add]) (fun m k v hr => by rw [uI_ne (by decide)]; exact hr) (f := μ.1 296) (f0 := μ.1 299) 521 qFuel 0 μ (by decide) (by decide) a rfl cpT_0.symm) (fun m1 w1 => ?_)
  refine op_mb (cpLoopL (loop := F_X4_record_120) (src := 300) (dst := 302) (N := 15) (a := 15 * c) (ix := fun v => v) (jx := fun μ v => 15 * (μ.1 295 8) + v) (by decide) (by decide) (fun m v μ => by rw [F_X4_record_120]; rfl) (off := 0) (fun k _ => by rw [Nat.zero_add]) (by rw [ln300]; decide) (by rw [ln302]; omega) (R := fun m => m.1 295 8 = nI c) (fun μ k hr _ => by rw [hr]; show nI 15 * nI c + nI k = _; rw [pk_mul, nI_add]) (fun m k v hr => hr) (f := μ.2.1 300) (f0 := μ.2.1 302) 15 qFuel 0 m1 (by decide) (by decide) w1.2.1 (w1.2.2.1 300 (by decide)).2 ((w1.2.2.1 302 (by decide)).2.trans cpTL_0.symm)) (fun m2 w2 => op_br (op_r ?_))
  have e299 : (uI m2 295 8 (m2.1 295 8 + 1)).1 299 = cpT (μ.1 299) (fun i => μ.1 296 (0 + i)) (521 * c) 521 := by rw [uI_ne (by decide), (w2.2.2.1 299 (by decide)).1, w1.1]
  have e302 : (uI m2 295 8 (m2.1 295 8 + 1)).2.1 302 = cpTL (μ.2.1 302) (fun i => μ.2.1 300 (0 + i)) (15 * c) 15 := w2.1
  refine ⟨⟨?_, by omega, fun i hi => ?_⟩, ((w1.2.2.mo (fun a e => Or.inr (Or.inl e))).tr (w2.2.2.mo (fun a e => Or.inr (Or.inr e)))).tr (Fs.uI (Or.inl rfl)), fun j hj => ?_⟩
  · rw [uI_eq]
    show m2.1 295 8 + 1 = _
    rw [w2.2.1, nI_1]
  · unfold hr hl
    rw [e299, e302]
    by_cases e : i = c
    · rw [e]
      simp only [if_true]
      refine ⟨fun j hj => ?_, fun k hk => ?_⟩
      · show cpT (μ.1 299) (fun i => μ.1 296 (0 + i)) (521 * c) 521 (521 * c + j) = s j
        unfold cpT
        rw [if_pos (by omega), ← h1]
        show μ.1 296 (0 + (521 * c + j - 521 * c)) = _
        rw [show 0 + (521 * c + j - 521 * c) = j by omega]
      · show cpTL (μ.2.1 302) (fun i => μ.2.1 300 (0 + i)) (15 * c) 15 (15 * c + k) = g k
        unfold cpTL
        rw [if_pos (by omega), ← h2]
        show μ.2.1 300 (0 + (15 * c + k - 15 * c)) = _
        rw [show 0 + (15 * c + k - 15 * c) = k by omega]
    · simp only [if_neg e]
      obtain ⟨d1, d2⟩ := d i (by omega)
      refine ⟨fun j hj => ?_, fun k hk => ?_⟩
      · show cpT (μ.1 299) (fun i => μ.1 296 (0 + i)) (521 * c) 521 (521 * i + j) = (S i).1 j
        unfold cpT
        rw [if_neg (by omega)]
        exact d1 j hj
      · show cpTL (μ.2.1 302) (fun i => μ.2.1 300 (0 + i)) (15 * c) 15 (15 * i + k) = (S i).2 k
        unfold cpTL
        rw [if_neg (by omega)]
        exact d2 k hk
  · rw [uI_eq]
    refine (if_neg hj).trans ?_
    rw [(w2.2.2.1 295 (by decide)).1, (w1.2.2.1 295 (by decide)).1]
theorem m_record (h : PM μ c S) (h1 : μ.1 296 = s) (h2 : μ.2.1 300 = g) : Op (F_X4_record μ) (fun μ' => PM μ' (pC c) (pS c S (s, g)) ∧ (Fs R299 μ μ' ∧ ∀ j, j ≠ 8 → μ'.1 295 j = μ.1 295 j)) := by
  obtain ⟨a, b, d⟩ := id h
  unfold F_X4_record
  by_cases e : c < 8
  · refine op_eb (if_neg (by rw [a]; exact fun z => by have := nI_inj (b := 8) (by omega) (by decide) z; omega)) ?_
    refine op_m (m_rec1 h e h1 h2) (fun μ' w => ⟨?_, w.2⟩)
    have e1 : pC c = c + 1 := if_pos e
    have : pS c S (s, g) = fun i => if i = c then (s, g) else S i := by
      funext i
      unfold pS
      rw [if_pos e]
    rw [e1, this]
    exact w.1
  · obtain rfl : c = 8 := by omega
    refine op_mb (Q := fun m => PM m 7 (fun i => S (i + 1)) ∧ (Fs R299 μ m ∧ ∀ j, j ≠ 8 → m.1 295 j = μ.1 295 j)) ?_ (fun m w => ?_)
    · refine op_t (by rw [a]; rfl) ?_
      refine op_mb (m_rec13 (f := μ.1 299) 3647 qFuel 0 μ (by decide) (by decide) (by funext j; unfold dnI; rw [if_neg (Nat.not_lt_zero j)])) (fun m1 w1 => ?_)
      refine op_mb (m_rec45 (f := μ.2.1 302) 105 qFuel 0 m1 (by decide) (by decide) (by rw [(w1.2.1 302 (by decide)).2]; funext j; unfold dnL; rw [if_neg (Nat.not_lt_zero j)])) (fun m2 w2 => op_br (op_r ?_))
      have e8 : m2.1 295 8 = nI 8 := by rw [(w2.2.1 295 (by decide)).1, (w1.2.1 295 (by decide)).1]; exact a
      refine ⟨⟨?_, by decide, fun i hi => ?_⟩, ((w1.2.mo (fun a e => Or.inr (Or.inl e))).tr (w2.2.mo (fun a e => Or.inr (Or.inr e)))).tr (Fs.uI (Or.inl rfl)), fun j hj => ?_⟩
      · rw [uI_eq]
        show m2.1 295 8 - 1 = _
        rw [e8]
        rfl
      · obtain ⟨d1, d2⟩ := d (i + 1) (by omega)
        refine ⟨fun j hj => ?_, fun k hk => ?_⟩
        · show (uI m2 295 8 (m2.1 295 8 - 1)).1 299 (521 * i + j) = (S (i + 1)).1 j
          rw [uI_ne (by decide), (w2.2.1 299 (by decide)).1, w1.1]
          unfold dnI
          rw [if_pos (by omega), ← d1 j hj]
          unfold hr
          rw [show 521 * i + j + 521 = 521 * (i + 1) + j by omega]
        · show m2.2.1 302 (15 * i + k) = (S (i + 1)).2 k
          rw [w2.1]
          unfold dnL
          rw [if_pos (by omega), ← d2 k hk]
          unfold hl
          rw [show 15 * i + k + 15 = 15 * (i + 1) + k by omega]
      · rw [uI_eq]
        refine (if_neg hj).trans ?_
        rw [(w2.2.1 295 (by decide)).1, (w1.2.1 295 (by decide)).1]
    · have n : ∀ a, a ≠ 295 → a ≠ 299 → a ≠ 302 → ¬ R299 a := fun a x y z q => by unfold R299 at q; omega
      refine op_m (m_rec1 (s := s) (g := g) w.1 (by decide) ((w.2.1.1 296 (n _ (by decide) (by decide) (by decide))).1.trans h1) ((w.2.1.1 300 (n _ (by decide) (by decide) (by decide))).2.trans h2)) (fun μ' z => ⟨?_, w.2.1.tr z.2.1, fun j hj => (z.2.2 j hj).trans (w.2.2 j hj)⟩)
      have e1 : pC 8 = 7 + 1 := by decide
      rw [e1]
      have e2 : ∀ i, i < 7 + 1 → pS 8 S (s, g) i = if i = 7 then (s, g) else S (i + 1) := fun i hi => by
        unfold pS
        rw [if_neg (by decide)]
        by_cases e7 : i = 7
        · rw [if_pos e7, if_neg (by omega)]
        · rw [if_neg e7, if_pos (by omega)]
      obtain ⟨z1, z2, z3⟩ := z.1
      exact ⟨z1, z2, fun i hi => by rw [e2 i hi]; exact z3 i hi⟩
end MREC
