/-! ===== what is free ===== -/
section FREE
variable {μ ν : Mm} {s : Nat → Int32} {g : Nat → Int64} {T : Nat}
def fSp (s : Nat → Int32) (q : Nat) : Nat := ct (fun _ => sumF (comN s) (q + 1)) 0 - ct s (14 + q)
theorem m_les2 {a b : Int32} : F_X4_lesser a b ν = some (if b ≤ a then b else a) := by
  unfold F_X4_lesser
  split <;> rfl
theorem m_freeA (hs : ν.1 296 = s) (ho : Ok T s) (ht : ν.1 295 0 = 0) {k : Nat} (hk : k < ct s 0) : ∀ (d m i : Nat), i + d = k → d < m → F_X4_free_26 (nI k) ν m (sumF (comN s) i) 999 (nI i) = F_X4_free_26 (nI k) ν (m - d) (sumF (comN s) k) 999 (nI k) := by
  have h0 := ho.1.1.1
  have h06 := h0.2
  intro d
  induction d with
  | zero =>
    intro m i hi hm
    rw [show i = k by omega, Nat.sub_zero]
  | succ d ih =>
    intro m i hi hm
    obtain ⟨m, rfl⟩ : ∃ z, m = z + 1 := ⟨m - 1, by omega⟩
    rw [F_X4_free_26]
    refine be_ (mg (k := 0) rfl (by decide)) ?_
    rw [hs, h0.1, if_neg (nI_ge (by omega) (by omega)), if_pos ht]
    refine be_ ((m_com (by rw [hs]; exact ho.1.1.vt) (by omega)).trans (congrArg some (by rw [hs]))) (be_ (if_pos (nI_lt (by omega) (by omega))) ?_)
    rw [nI_1, show m + 1 - (d + 1) = m - d by omega]
    exact ih m (i + 1) (by omega) (by omega)
theorem m_freeB (hs : ν.1 296 = s) (ho : Ok T s) (hf : Flw s) (ht : ν.1 295 0 = 0) {k : Nat} : ∀ (d m i L : Nat) (v : Int32), i + d = ct s 0 → d < m → k ≤ i → L ≤ 999 → (v = nI L ∨ (v < 0 ∧ L = 0)) → ∃ o, F_X4_free_26 (nI k) ν m (sumF (comN s) i) v (nI i) = some o ∧ (o = nI (lspN (fSp s) i d L) ∨ (o < 0 ∧ lspN (fSp s) i d L = 0)) := by
  have h0 := ho.1.1.1
  have h06 := h0.2
  intro d
  induction d with
  | zero =>
    intro m i L v hi hm hk hL hv
    obtain ⟨m, rfl⟩ : ∃ z, m = z + 1 := ⟨m - 1, by omega⟩
    refine ⟨v, ?_, hv⟩
    rw [F_X4_free_26]
    refine be_ (mg (k := 0) rfl (by decide)) ?_
    rw [hs, h0.1, if_pos (nI_le (by omega) (by omega))]
  | succ d ih =>
    intro m i L v hi hm hk hL hv
    obtain ⟨m, rfl⟩ : ∃ z, m = z + 1 := ⟨m - 1, by omega⟩
    obtain ⟨f1, f2⟩ := hf i (by omega)
    obtain ⟨m1, m2⟩ := ho.1.1.2.2.2.2.1 i (by omega)
    have hlo : (if fSp s i < L then fSp s i else L) ≤ 999 := by split <;> omega
    have key : ∃ v', (if sumF (comN s) i + comN s i - s (14 + i) ≤ v then sumF (comN s) i + comN s i - s (14 + i) else v) = v' ∧ (v' = nI (if fSp s i < L then fSp s i else L) ∨ (v' < 0 ∧ (if fSp s i < L then fSp s i else L) = 0)) := by
      refine ⟨_, rfl, ?_⟩
      rw [show sumF (comN s) i + comN s i = sumF (comN s) (i + 1) from rfl, f1, m1]
      have hsp : fSp s i = ct (fun _ => sumF (comN s) (i + 1)) 0 - ct s (14 + i) := rfl
      generalize ct (fun _ => sumF (comN s) (i + 1)) 0 = F at *
      by_cases e : ct s (14 + i) ≤ F
      · rw [pk_sub e, hsp]
        rcases hv with rfl | ⟨v1, v2⟩
        · refine Or.inl ?_
          by_cases e2 : F - ct s (14 + i) ≤ L
          · rw [if_pos (nI_le e2 (by omega))]
            by_cases e3 : F - ct s (14 + i) < L
            · rw [if_pos e3]
            · rw [if_neg e3, show F - ct s (14 + i) = L by omega]
          · rw [if_neg (nI_ge (by omega) (by omega)), if_neg (by omega)]
        · refine Or.inr ?_
          rw [if_neg (fun z => absurd (Int32.lt_of_le_of_lt z v1) (nI_pos (by omega)))]
          exact ⟨v1, by rw [v2]; split <;> omega⟩
      · have hneg := pk_sneg (a := F) (b := ct s (14 + i)) (by omega) (by omega)
        have hz : (if fSp s i < L then fSp s i else L) = 0 := by
          rw [hsp, show F - ct s (14 + i) = 0 by omega]
          split <;> omega
        refine Or.inr ⟨?_, hz⟩
        by_cases e2 : nI F - nI (ct s (14 + i)) ≤ v
        · rw [if_pos e2]; exact hneg
        · rw [if_neg e2]
          exact Int32.lt_trans (Int32.not_le.mp e2) hneg
    obtain ⟨v', w1, w2⟩ := key
    obtain ⟨o, o1, o2⟩ := ih m (i + 1) (if fSp s i < L then fSp s i else L) v' (by omega) (by omega) (by omega) hlo w2
    refine ⟨o, ?_, o2⟩
    rw [F_X4_free_26]
    refine be_ (mg (k := 0) rfl (by decide)) ?_
    rw [hs, h0.1, if_neg (nI_ge (by omega) (by omega)), if_pos ht]
    refine be_ ((m_com (by rw [hs]; exact ho.1.1.vt) (by omega)).trans (congrArg some (by rw [hs]))) (be_ (a := v') ?_ ?_)
    · rw [if_neg (nI_nlt hk (by omega))]
      refine be_ (mg (k := 14 + i) (nI_add 14 i) (by omega)) ?_
      rw [hs]
      refine be_ m_les2 ?_
      rw [w1]
    · rw [nI_1]
      exact o1
theorem f_free (h : Bo T μ s g) (hk : KB μ 23) (p : Int32) : FI M1 (F_X3_free p μ) (F_X4_free p) μ := by
  have ho := h.2.2.2.1
  have hfw := ho.flw h.2.2.2.2
  have h0 := ho.1.1.1
  have h06 := h0.2
  rcases isR_c h p with ⟨k, h1, rfl, h3, h4⟩ | ⟨h3, h4⟩
  · obtain ⟨m1, a1, a2, a3⟩ := x1_copy h.1 kd23 kd1 (by decide) hk
    obtain ⟨m2, b1, b2, b3⟩ := x1_open a2 kd23 ho.1.1.vt
    have hF := a3.tr b3
    have hb1 := h.fs hF
    have ls := x1_lsp (μ := m2) (b := 23) (s := s) (F := fun q => ct (fun _ => sumF (comN s) (q + 1)) 0) (q := k) (to := ct s 0) (l := 999) b2.gau b2.rch (by omega) (Nat.le_refl _) (Nat.le_refl _) (fun q hq => by
      obtain ⟨f1, f2⟩ := hfw q hq
      exact ⟨f1, f2⟩) (fun q hq => ⟨(ho.1.1.2.2.2.2.1 q hq).1, by have := (ho.1.1.2.2.2.2.1 q hq).2; omega⟩) (by decide)
    have hm : ∃ o, F_X4_free_26 (nI k) (uI m2 295 0 0) qFuel 0 999 0 = some o ∧ (o = nI (lspN (fSp s) k (ct s 0 - k) 999) ∨ (o < 0 ∧ lspN (fSp s) k (ct s 0 - k) 999 = 0)) := by
      have hs : (uI m2 295 0 0).1 296 = s := th296.trans hb1.2.1
      have ht : (uI m2 295 0 0).1 295 0 = 0 := by rw [uI_eq]; rfl
      have e := m_freeA hs ho ht h1 k qFuel 0 (by omega) (by unfold qFuel; omega)
      obtain ⟨o, o1, o2⟩ := m_freeB hs ho hfw ht (k := k) (ct s 0 - k) (qFuel - k) k 999 999 (by omega) (by unfold qFuel; omega) (Nat.le_refl _) (by decide) (Or.inl rfl)
      exact ⟨o, e.trans o1, o2⟩
    obtain ⟨o, o1, o2⟩ := hm
    have hl := lspN_lel (sp := fSp s) (ct s 0 - k) k 999
    refine ⟨0, 0, nI (lspN (fSp s) k (ct s 0 - k) 999), nI (lspN (fSp s) k (ct s 0 - k) 999), m2, uI m2 295 0 0, ?_, ?_, by decide, by rw [uI_eq]; rfl, fun _ => rfl, ?_⟩
    · refine be_ h3 ((if_pos rfl).trans (be_ a1 (be_ b1 ?_)))
      rw [show m2.1 41 2 = nI (ct s 0) from b2.gau.2.1]
      exact be_ ls rfl
    · refine be_ (isR_y hb1 h1) ?_
      rw [if_neg (show ¬ (1 : Int32) = 0 by decide)]
      refine be_ rfl (be_ rfl (be_ o1 ?_))
      have e0 : (uI m2 295 0 0).1 295 0 = 0 := by rw [uI_eq]; rfl
      rw [if_neg (by rw [e0]; decide)]
      rcases o2 with rfl | ⟨o2, o3⟩
      · rw [if_pos (nI_pos' (by omega))]
      · rw [if_neg (Int32.not_le.mpr o2), o3]
        rfl
    · exact KQ.of h.2.1 h.2.2.1 (hF.mo (fun a e => Or.inl e)) b2.kb (fun j _ => by rw [th296, hb1.2.1]) (fun k _ => by rw [th300, hb1.2.2.1]) (fun j a b c => by rw [uI_eq]; exact if_neg a) (Fs.uI (Or.inr (Or.inl rfl)))
  · refine ⟨1, 1, 0, 0, μ, uI μ 295 0 (nI 1), be_ h3 rfl, ?_, by decide, by rw [uI_eq]; rfl, fun e => absurd e (by decide), KQ.th hk⟩
    refine be_ h4 ?_
    rw [if_pos (show (0 : Int32) = 0 from rfl)]
    have e1 : (uI μ 295 0 1).1 295 0 = 1 := by rw [uI_eq]; rfl
    have hz : ∃ o, F_X4_free_26 p (uI μ 295 0 1) qFuel 0 999 0 = some o := by
      show ∃ o, F_X4_free_26 p (uI μ 295 0 1) (9999 + 1) 0 999 0 = some o
      rw [F_X4_free_26, show aI (uI μ 295 0 1) 296 0 = some ((uI μ 295 0 1).1 296 0) from mg (k := 0) rfl (by decide)]
      show ∃ o, (if (uI μ 295 0 1).1 296 0 ≤ 0 then some 999 else if (uI μ 295 0 1).1 295 0 = 0 then _ else some 999) = some o
      by_cases e : (uI μ 295 0 1).1 296 0 ≤ 0
      · rw [if_pos e]; exact ⟨_, rfl⟩
      · rw [if_neg e, e1, if_neg (by decide)]; exact ⟨_, rfl⟩
    obtain ⟨o, o1⟩ := hz
    refine be_ rfl (be_ rfl (be_ o1 ?_))
    rw [if_pos (by rw [e1]; decide)]
    rfl
end FREE
