/-! ===== numbers are set ===== -/
section SETN
variable {μ : Mm} {s s' : Nat → Int32} {g g' : Nat → Int64} {k T : Nat}
theorem NV.mk2 {b : Nat} (h : SV μ b (LSo s) (OSo s) (if s 57 = 0 then 0 else ct s 0) (fun q k => s (394 + 5 * q + k)) (fun r => s (58 + 10 * r + 9)) s' g') (h3 : ct s 3 ≤ 8) (h4 : ct s 4 ≤ 6) (h0 : ct s 0 ≤ 6) (h2 : ct s 2 ≤ 10)
  (hs : ∀ j, (j < 5 ∨ (j = 57 ∨ ((158 ≤ j ∧ j < 242) ∨ ((394 ≤ j ∧ j < 424) ∨ (58 ≤ j ∧ (j < 158 ∧ (j - 58) % 10 = 9)))))) → s' j = s j) : NV μ b s' g' := by
  have e3 : ct s' 3 = ct s 3 := ct_eq (hs 3 (by omega))
  have e4 : ct s' 4 = ct s 4 := ct_eq (hs 4 (by omega))
  have eL : LSo s' = LSo s := by
    show rwT s' 158 0 (ct s' 3) = rwT s 158 0 (ct s 3)
    rw [e3]
    exact rwT_eq _ _ (fun r k _ hr hk => hs _ (by omega))
  have eO : OSo s' = OSo s := by
    show rwT s' 206 0 (ct s' 4) = rwT s 206 0 (ct s 4)
    rw [e4]
    exact rwT_eq _ _ (fun r k _ hr hk => hs _ (by omega))
  unfold NV
  rw [eL, eO, hs 57 (by omega), ct_eq (hs 0 (by omega))]
  have h1 := SV.gc (G' := fun q k => s' (394 + 5 * q + k)) h (fun q k hq hk => by
    have hq' : q < ct s 0 := by
      by_cases e : s 57 = 0
      · rw [if_pos e] at hq; omega
      · rw [if_neg e] at hq; exact hq
    exact (hs _ (by omega)).symm)
  exact h1.cuc (cu' := fun r => s' (58 + 10 * r + 9)) (fun r hr => by
    rw [ct_eq (hs 2 (by omega))] at hr
    exact hs _ (by omega))
theorem Ok.stat (h : Ok T s) (hs : ∀ j, ¬ ((14 ≤ j ∧ j < 20) ∨ (58 ≤ j ∧ (j < 158 ∧ ((j - 58) % 10 = 0 ∨ ((j - 58) % 10 = 2 ∨ (j - 58) % 10 = 6))))) → s' j = s j)
  (hm : ∀ q, q < ct s 0 → Bn s' (14 + q) 999) (hr : ∀ r, r < ct s 2 → (s' (58 + 10 * r + 0) = nI (ct s' (58 + 10 * r + 0)) ∧ ct s' (58 + 10 * r + 0) < ct s 1) ∧ (Bn s' (58 + 10 * r + 6) 100 ∧ Bn s' (58 + 10 * r + 2) 99)) (hd : Dst s') : Ok T s' := by
  have v : ∀ j, ¬ ((14 ≤ j ∧ j < 20) ∨ (58 ≤ j ∧ (j < 158 ∧ ((j - 58) % 10 = 0 ∨ ((j - 58) % 10 = 2 ∨ (j - 58) % 10 = 6))))) → s' j = s j := hs
  obtain ⟨⟨r, d, l, o, c3, c4, c6, c8, c36, c48⟩, ⟨d1, d2, d3, d4, d5, d6, d7, d8, d9, d10, d11⟩, ht⟩ := h
  obtain ⟨a0, a1, a2, a3, a4, a5⟩ := id r
  have h06 := a0.2
  have h15 := a1.2
  have h210 := a2.2
  have e0 : ct s' 0 = ct s 0 := ct_eq (v 0 (by omega))
  have e1 : ct s' 1 = ct s 1 := ct_eq (v 1 (by omega))
  have e2 : ct s' 2 = ct s 2 := ct_eq (v 2 (by omega))
  have e4 : ct s' 4 = ct s 4 := ct_eq (v 4 (by omega))
  have e3 : ct s' 3 = ct s 3 := ct_eq (v 3 (by omega))
  have e5 : ct s' 5 = ct s 5 := ct_eq (v 5 (by omega))
  have e6 : ct s' 6 = ct s 6 := ct_eq (v 6 (by omega))
  have e56 : ct s' 56 = ct s 56 := ct_eq (v 56 (by omega))
  have h38 := c3.2
  have h46 := c4.2
  have eL : LSo s' = LSo s := by
    show rwT s' 158 0 (ct s' 3) = rwT s 158 0 (ct s 3)
    rw [e3]
    exact rwT_eq _ _ (fun r k _ hr hk => v _ (by omega))
  have eO : OSo s' = OSo s := by
    show rwT s' 206 0 (ct s' 4) = rwT s 206 0 (ct s 4)
    rw [e4]
    exact rwT_eq _ _ (fun r k _ hr hk => v _ (by omega))
  have row : ∀ x, Row0 s x → Row0 s' x := fun x hx => hx.sta (v 0 (by omega)) (v 1 (by omega)) (v 2 (by omega))
  refine ⟨⟨⟨a0.eq (v 0 (by omega)), a1.eq (v 1 (by omega)), a2.eq (v 2 (by omega)), ?_, ?_, ?_⟩, hd, ?_, ?_, c3.eq (v 3 (by omega)), c4.eq (v 4 (by omega)), c6.eq (v 6 (by omega)), fun q hq => (c8 q hq).eq (v _ (by omega)), fun k hk => (c36 k hk).eq (v _ (by omega)), fun k hk => (c48 k hk).eq (v _ (by omega))⟩, ⟨d1.eq (v 424 (by omega)), ?_, ?_, ?_, ?_, ?_, ?_, ?_, ?_, ?_, ?_⟩, by rw [e5]; exact ht⟩
  · unfold Vt at a3 ⊢
    rw [ct_eq (v 7 (by omega)), v 7 (by omega), e5, v 5 (by omega)]
    exact a3
  · rw [e0]; exact hm
  · rw [e2]
    intro r hr'
    obtain ⟨f0, f1, f5, f3, f4, f6, f2⟩ := a5 r hr'
    obtain ⟨n0, n6, n2⟩ := hr r hr'
    have w1 := v (58 + 10 * r + 1) (by omega)
    have w5 := v (58 + 10 * r + 5) (by omega)
    unfold Rf
    rw [e1, e0, ct_eq w1, ct_eq w5, w1, w5]
    exact ⟨n0, f1, f5, f3.eq (v _ (by omega)), f4.eq (v _ (by omega)), n6, n2⟩
  · rw [eL]
    exact fun x hx => ⟨row x (l x hx).1, (l x hx).2⟩
  · rw [eO]
    exact fun x hx => ⟨row x (o x hx).1, (o x hx).2⟩
  · rw [e56, v 56 (by omega)]; exact d2
  · intro a ha
    rw [e6, ct_eq (v (26 + a) (by omega)), v (26 + a) (by omega)]
    exact d3 a ha
  · intro q hq
    rw [ct_eq (v (20 + q) (by omega)), v (20 + q) (by omega)]
    exact d4 q hq
  · have hb : bsum s' = bsum s := by
      unfold bsum
      rw [ct_eq (v 26 (by omega)), ct_eq (v 27 (by omega)), ct_eq (v 28 (by omega)), ct_eq (v 29 (by omega)), ct_eq (v 30 (by omega))]
    have hr2 : rsum s' ≤ rsum s := sumN_le _ (fun q hq => by rw [ct_eq (v (20 + q) (by omega))]; exact Nat.le_refl _)
    rw [hb, e5]
    omega
  · intro r hr'
    rw [e5, ct_eq (v (58 + 10 * r + 7) (by omega)), v (58 + 10 * r + 7) (by omega)]
    exact d6 r hr'
  · rw [v 57 (by omega)]; exact d7
  · rw [v 57 (by omega), e0]
    intro z q k hq hk
    rw [v _ (by omega)]
    exact d8 z q k hq hk
  · rw [v 57 (by omega), v 56 (by omega)]; exact d9
  · rw [e0]
    intro q hq
    rw [ct_eq (v (394 + 5 * q + 2) (by omega)), v (394 + 5 * q + 2) (by omega)]
    exact d10 q hq
  · rw [e56]
    intro c hc
    have h19 := d2.2
    obtain ⟨k0, k1, k4, k5⟩ := d11 c hc
    exact ⟨k0.eq (v _ (by omega)), k1.eq (v _ (by omega)), k4.eq (v _ (by omega)), k5.eq (v _ (by omega))⟩
end SETN
