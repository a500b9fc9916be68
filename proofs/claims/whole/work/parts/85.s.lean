/-! ===== undo, restore ===== -/
section UND
variable {μ μ' : Mm} {c c' k : Nat} {S : Nat → Sh}
theorem PC.less {Q : Nat → Prop} {p : Nat → Nat} (h : PC μ c p S) (hF : Fs Q μ μ') (h70 : ¬ Q 70) (hb : ∀ a, 71 ≤ a → a < 248 → ¬ Q a) (h5' : μ'.1 0 5 = nI c') (hc : c' ≤ c) : PC μ' c' p S := by
  obtain ⟨h1, h2, h3, h4, h5⟩ := h
  refine ⟨h5', by omega, fun i hi => ⟨(congrFun (hF.1 70 h70).1 i).trans (h3 i hi).1, (h3 i hi).2.1, (h3 i hi).2.2.fs hF (fun a a1 a2 => ?_)⟩, h4, fun i hi => SV.fs (h5 i (by omega)) hF (fun a a1 a2 => ?_)⟩
  · have := pool_lo (h3 i hi).2.1
    exact hb a (by omega) (by omega)
  · have := pool_lo (h3 i (by omega)).2.1
    exact hb a (by omega) (by omega)
theorem PM.less {Q : Nat → Prop} (h : PM μ c S) (hF : Fs Q μ μ') (h5 : μ'.1 295 8 = nI c') (hc : c' ≤ c) (h1 : ¬ Q 299) (h2 : ¬ Q 302) : PM μ' c' S := by
  obtain ⟨a, b, d⟩ := h
  refine ⟨h5, by omega, fun i hi => ?_⟩
  unfold hr hl
  rw [(hF.1 299 h1).1, (hF.1 302 h2).2]
  exact d i (by omega)
/-- as cpLoop, the place read depends on the memory -/
theorem cpLoopM {loop : Nat → Int32 → Mm → Option Mm} {src dst N : Nat} {ix : Mm → Int32 → Int32} (hn : N < 2 ^ 30) (hne : src ≠ dst)
  (step : ∀ m v μ, loop (m + 1) v μ = if nI N ≤ v then some μ else (aI μ src (ix μ v)).bind fun x => (sI μ dst v x).bind fun m3 => loop m (v + 1) m3)
  {off : Nat} {R : Mm → Prop} (hix : ∀ μ k, R μ → k < N → ix μ (nI k) = nI (off + k)) (hs : off + N ≤ ln src) (hd : N ≤ ln dst) (hR : ∀ μ k v, R μ → R (uI μ dst k v))
  {f f0 : Nat → Int32} : ∀ (d m k : Nat) (μ : Mm), k + d = N → d < m → R μ → μ.1 src = f → μ.1 dst = cpT f0 (fun i => f (off + i)) 0 k → Op (loop m (nI k) μ) (fun μ' => μ'.1 dst = cpT f0 (fun i => f (off + i)) 0 N ∧ (R μ' ∧ Fs (fun b => b = dst) μ μ')) := by
  intro d
  induction d with
  | zero =>
    intro m k μ hk hm hr e1 e2
    obtain ⟨m, rfl⟩ : ∃ z, m = z + 1 := ⟨m - 1, by omega⟩
    rw [step, if_pos (nI_le (by omega) (by omega))]
    obtain rfl : k = N := by omega
    exact op_r ⟨e2, hr, Fs.rf⟩
  | succ d ih =>
    intro m k μ hk hm hr e1 e2
    obtain ⟨m, rfl⟩ : ∃ z, m = z + 1 := ⟨m - 1, by omega⟩
    rw [step, if_neg (nI_ge (by omega) (by omega))]
    refine op_eb (aI_ok (k := off + k) (hix μ k hr (by omega)) (by omega)) ?_
    refine op_eb (sI_ok (k := k) rfl (by omega)) ?_
    rw [nI_1]
    refine op_m (ih m (k + 1) _ (by omega) (by omega) (hR μ _ _ hr) ?_ ?_) (fun μ' z => ⟨z.1, z.2.1, Fs.tr (Fs.uI (S := fun b => b = dst) rfl) z.2.2⟩)
    · rw [uI_ne hne]; exact e1
    · rw [uI_eq, e1, e2]
      have := cpT_s (f0 := f0) (f := fun i => f (off + i)) (a := 0) (n := k)
      rw [Nat.zero_add] at this
      exact this
theorem cpLoopLM {loop : Nat → Int32 → Mm → Option Mm} {src dst N : Nat} {ix : Mm → Int32 → Int32} (hn : N < 2 ^ 30) (hne : src ≠ dst)
  (step : ∀ m v μ, loop (m + 1) v μ = if nI N ≤ v then some μ else (aL μ src (ix μ v)).bind fun x => (sL μ dst v x).bind fun m3 => loop m (v + 1) m3)
  {off : Nat} {R : Mm → Prop} (hix : ∀ μ k, R μ → k < N → ix μ (nI k) = nI (off + k)) (hs : off + N ≤ ln src) (hd : N ≤ ln dst) (hR : ∀ μ k v, R μ → R (uL μ dst k v))
  {f f0 : Nat → Int64} : ∀ (d m k : Nat) (μ : Mm), k + d = N → d < m → R μ → μ.2.1 src = f → μ.2.1 dst = cpTL f0 (fun i => f (off + i)) 0 k → Op (loop m (nI k) μ) (fun μ' => μ'.2.1 dst = cpTL f0 (fun i => f (off + i)) 0 N ∧ (R μ' ∧ Fs (fun b => b = dst) μ μ')) := by
  intro d
  induction d with
  | zero =>
    intro m k μ hk hm hr e1 e2
    obtain ⟨m, rfl⟩ : ∃ z, m = z + 1 := ⟨m - 1, by omega⟩
    rw [step, if_pos (nI_le (by omega) (by omega))]
    obtain rfl : k = N := by omega
    exact op_r ⟨e2, hr, Fs.rf⟩
  | succ d ih =>
    intro m k μ hk hm hr e1 e2
    obtain ⟨m, rfl⟩ : ∃ z, m = z + 1 := ⟨m - 1, by omega⟩
    rw [step, if_neg (nI_ge (by omega) (by omega))]
    refine op_eb (aL_ok (k := off + k) (hix μ k hr (by omega)) (by omega)) ?_
    refine op_eb (sL_ok (k := k) rfl (by omega)) ?_
    rw [nI_1]
    refine op_m (ih m (k + 1) _ (by omega) (by omega) (hR μ _ _ hr) ?_ ?_) (fun μ' z => ⟨z.1, z.2.1, Fs.tr (Fs.uL (S := fun b => b = dst) rfl) z.2.2⟩)
    · rw [uL_ne hne]; exact e1
    · rw [uL_eq, e1, e2]
      have := cpTL_s (f0 := f0) (f := fun i => f (off + i)) (a := 0) (n := k)
      rw [Nat.zero_add] at this
      exact this
theorem cpT_at {f0 f : Nat → Int32} {n j : Nat} (h : j < n) : cpT f0 f 0 n j = f j := by
  unfold cpT
  rw [if_pos (by omega), Nat.sub_zero]
theorem cpTL_at {f0 f : Nat → Int64} {n j : Nat} (h : j < n) : cpTL f0 f 0 n j = f j := by
  unfold cpTL
  rw [if_pos (by omega), Nat.sub_zero]
theorem ln247 : ln 247 = 2 := by decide +kernel
theorem ln292 : ln 292 = 2 := by decide +kernel
theorem a_undo (h : Cor k μ) (hk : k < 512) : ∃ v μ1 μ2, F_X3_undo μ = some (v, μ1) ∧ (F_X4_undo μ1 = some (v, μ2) ∧ PA k μ μ2) := by
  obtain ⟨c, p, S, q1, q2, q3⟩ := h.2.2.2.1
  obtain ⟨h1, h2, h3, h4, h5⟩ := id q1
  have m8 := q2.1
  by_cases e : c = 0
  · refine ⟨-1, μ, uI μ 295 0 0, ?_, ?_, PA.th h hk 0⟩
    · unfold F_X3_undo
      rw [if_pos (by rw [h1, e]; decide)]
    · unfold F_X4_undo
      refine (if_pos ?_)
      rw [uI_eq]
      exact m8.trans (by rw [e]; rfl)
  · obtain ⟨c, rfl⟩ : ∃ z, c = z + 1 := ⟨c - 1, by omega⟩
    obtain ⟨e1, e2, e3⟩ := h3 c (by omega)
    have hlo := pool_lo e2
    have fu : Fs (fun a => a = 0) μ (uI μ 0 5 (nI c)) := Fs.uI rfl
    have hNV := h5 c (by omega)
    obtain ⟨ma, a1, a2, a3⟩ := x1_copy (μ := uI μ 0 5 (nI c)) (SV.fs hNV fu (fun a a1 a2 => by omega)) kd1 (pool_kd e2) (by omega) ((h.2.1 1 kd1).fs fu (fun a a1 a2 => by omega))
    have F1 : Fs (fun a => a = 0 ∨ Blk 1 a) μ ma := (fu.mo (fun a e => Or.inl e)).tr (a3.mo (fun a e => Or.inr e))
    have c0 : ma.1 0 5 = nI c := by
      rw [(a3.1 0 (by unfold Blk; omega)).1, uI_eq]
      rfl
    have q1' := q1.less (c' := c) F1 (by unfold Blk; omega) (fun a x y => by unfold Blk; omega) c0 (by omega)
    have a295 : ma.1 295 = μ.1 295 := (F1.1 295 (by unfold Blk; omega)).1
    -- the reference
    generalize hm5 : uI (uI ma 295 0 0) 295 8 (nI c) = m5
    have f5 : Fs (fun a => a = 295) ma m5 := by
      rw [← hm5]
      exact (Fs.uI (S := fun a => a = 295) rfl).tr (Fs.uI rfl)
    have v5 : m5.1 295 8 = nI c := by rw [← hm5, uI_eq]; rfl
    have k5 : ∀ j, j ≠ 0 → (j ≠ 8 → m5.1 295 j = ma.1 295 j) := fun j j0 j8 => by
      rw [← hm5, uI_eq]
      refine (if_neg j8).trans ?_
      rw [uI_eq]
      exact if_neg j0
    have g299 : m5.1 299 = μ.1 299 := (f5.1 299 (by decide)).1.trans (F1.1 299 (by unfold Blk; omega)).1
    have g302 : m5.2.1 302 = μ.2.1 302 := (f5.1 302 (by decide)).2.trans (F1.1 302 (by unfold Blk; omega)).2
    obtain ⟨m6, b1, b2, b3, b4⟩ := cpLoopM (loop := F_X4_undo_26) (src := 299) (dst := 296) (N := 521) (ix := fun μ v => 521 * (μ.1 295 8) + v) (by decide) (by decide) (fun m v μ => by rw [F_X4_undo_26]; rfl) (off := 521 * c) (R := fun m => m.1 295 8 = nI c) (fun μ k hr _ => by rw [hr]; show nI 521 * nI c + nI k = _; rw [pk_mul, nI_add]) (by rw [ln299]; omega) (by rw [ln296]; decide) (fun m k v hr => by rw [uI_ne (by decide)]; exact hr) (f := μ.1 299) (f0 := m5.1 296) 521 qFuel 0 m5 (by decide) (by decide) v5 g299 cpT_0.symm
    obtain ⟨m7, d1, d2, d3, d4⟩ := cpLoopLM (loop := F_X4_undo_62) (src := 302) (dst := 300) (N := 15) (ix := fun μ v => 15 * (μ.1 295 8) + v) (by decide) (by decide) (fun m v μ => by rw [F_X4_undo_62]; rfl) (off := 15 * c) (R := fun m => m.1 295 8 = nI c) (fun μ k hr _ => by rw [hr]; show nI 15 * nI c + nI k = _; rw [pk_mul, nI_add]) (by rw [ln302]; omega) (by rw [ln300]; decide) (fun m k v hr => hr) (f := μ.2.1 302) (f0 := m6.2.1 300) 15 qFuel 0 m6 (by decide) (by decide) b3 ((b4.1 302 (by decide)).2.trans g302) cpTL_0.symm
    obtain ⟨s1, s2⟩ := q2.2.2 c (by omega)
    have F7 : Fs (fun a => a = 295 ∨ (a = 296 ∨ a = 300)) ma m7 := ((f5.mo (fun a e => Or.inl e)).tr (b4.mo (fun a e => Or.inr (Or.inl e)))).tr (d4.mo (fun a e => Or.inr (Or.inr e)))
    have FA : Fs AS μ m7 := (F1.mo (fun a e => by unfold Blk at e; unfold AS; omega)).tr (F7.mo (fun a e => by unfold AS; omega))
    have FB : Fs (fun a => (a = 0 ∨ Blk 1 a) ∨ (a = 295 ∨ (a = 296 ∨ a = 300))) μ m7 := (F1.mo (fun a e => Or.inl e)).tr (F7.mo (fun a e => Or.inr e))
    have e295 : m7.1 295 = m5.1 295 := (d4.1 295 (by decide)).1.trans (b4.1 295 (by decide)).1
    have K : K5 μ m7 := fun j j0 j8 => by rw [e295, k5 j j0 j8, a295]
    have E : E5 (S c).1 (m7.1 296) := fun j hj => by
      rw [(d4.1 296 (by decide)).1, b2, cpT_at hj]
      exact s1 j hj
    have Gg : ∀ j, j < 15 → m7.2.1 300 j = (S c).2 j := fun j hj => by
      rw [d2, cpTL_at hj]
      exact s2 j hj
    have N7 : NV m7 1 (S c).1 (S c).2 := SV.fs a2 F7 (fun a a1 a2 => by omega)
    have hO := q3 c (by omega)
    refine ⟨nI c, ma, m7, ?_, ?_, h.act hk FA K (N7.e5 kd1 hO E Gg) ((hO.e5 E).mono (by omega)) ⟨c, p, S, q1'.less F7 (by omega) (fun a x y => by omega) (by rw [(F7.1 0 (by omega)).1]; exact c0) (Nat.le_refl c), q2.less (c' := c) FB (by rw [e295]; exact v5) (by omega) (by unfold Blk; omega) (by unfold Blk; omega), fun i hi => (q3 i (by omega)).mono (by omega)⟩, FA, K⟩
    · unfold F_X3_undo
      rw [h1, if_neg (show ¬ nI (c + 1) ≤ 0 from nI_nle (by omega) (by omega)), if_pos (show nI (c + 1) ≤ (8 : Int32) from nI_le (b := 8) h2 (by decide)), show nI (c + 1) - 1 = nI c from nI_pred c]
      refine be_ rfl (be_ (aR_ok (k := c) ?_ (by rw [ln70]; omega) ?_ (pool_kd e2)) (be_ a1 ?_))
      · rw [uI_eq]; rfl
      · rw [uI_ne (by decide)]; exact e1
      · rw [c0]
    · unfold F_X4_undo
      refine be_ rfl ?_
      have q8 : (uI ma 295 0 0).1 295 8 = nI (c + 1) := by
        rw [uI_eq]
        refine (if_neg (by decide)).trans ?_
        rw [a295, m8]
      rw [q8, if_neg (nI_ne0 (by omega) (by omega)), show nI (c + 1) - 1 = nI c from nI_pred c]
      refine be_ rfl ?_
      rw [hm5]
      refine be_ b1 (be_ d1 ?_)
      rw [e295, v5]
theorem nI_le0 {n : Nat} (h : nI n ≤ 0) (hn : n < 2 ^ 31) : n = 0 := by
  rcases Nat.eq_zero_or_pos n with e | e
  · exact e
  · exact absurd h (nI_nle (by omega) hn)
end UND
