/-! ===== a lease is laid ===== -/
section LSE
variable {μ ν : Mm} {s s' : Nat → Int32} {g : Nat → Int64} {k T : Nat}
theorem Ok.lea (h : Ok T s) (hs : ∀ j, j < 521 → (j ≠ 3 → (¬ (158 ≤ j ∧ j < 206) → s' j = s j))) (h3 : Bn s' 3 8) (hL : LRows s (LSo s')) : Ok T s' := by
  have v : ∀ j, (j < 521 ∧ (j ≠ 3 ∧ ¬ (158 ≤ j ∧ j < 206))) → s' j = s j := fun j hj => hs j hj.1 hj.2.1 hj.2.2
  obtain ⟨h1, ⟨d1, d2, d3, d4, d5, d6, d7, d8, d9, d10, d11⟩, ht⟩ := h
  have h06 := h1.1.1.2
  have hv := h1.1.vt
  have e5 : ct s' 5 = ct s 5 := ct_eq (v 5 (by omega))
  have e0 : ct s' 0 = ct s 0 := ct_eq (v 0 (by omega))
  have e56 : ct s' 56 = ct s 56 := ct_eq (v 56 (by omega))
  have e6 : ct s' 6 = ct s 6 := ct_eq (v 6 (by omega))
  refine ⟨h1.of (fun j hj => v j (by unfold KS at hj; omega)) ⟨by rw [e5, v 5 (by omega)]; exact hv.1, by rw [e5]; exact hv.2.1⟩ h3 hL, ⟨d1.eq (v _ (by omega)), ?_, ?_, ?_, ?_, ?_, ?_, ?_, ?_, ?_, ?_⟩, by rw [e5]; exact ht⟩
  · rw [e56, v 56 (by omega)]; exact d2
  · intro a ha
    rw [e6, ct_eq (v (26 + a) (by omega)), v (26 + a) (by omega)]
    exact d3 a ha
  · intro q hq
    rw [ct_eq (v (20 + q) (by omega)), v (20 + q) (by omega)]
    exact d4 q hq
  · have hb : bsum s' = bsum s := by
      unfold bsum
      rw [ct_eq (v 26 (by omega)), ct_eq (v 27 (by omega)), ct_eq (v 28 (by omega)), ct_eq (v 29 (by omega)), ct_eq (v 30 (by omega))]
    have hr2 : rsum s' ≤ rsum s := sumN_le _ (fun q hq => by rw [ct_eq (v (20 + q) (by omega))]; exact Nat.le_refl _)
    rw [hb, e5]
    omega
  · intro r hr'
    rw [e5, ct_eq (v (58 + 10 * r + 7) (by omega)), v (58 + 10 * r + 7) (by omega)]
    exact d6 r hr'
  · rw [v 57 (by omega)]; exact d7
  · rw [v 57 (by omega), e0]
    intro z q k hq hk
    rw [v _ (by omega)]
    exact d8 z q k hq hk
  · rw [v 57 (by omega), v 56 (by omega)]; exact d9
  · rw [e0]
    intro q hq
    rw [ct_eq (v (394 + 5 * q + 2) (by omega)), v (394 + 5 * q + 2) (by omega)]
    exact d10 q hq
  · rw [e56]
    intro c hc
    have h19 := d2.2
    obtain ⟨k0, k1, k4, k5⟩ := d11 c hc
    exact ⟨k0.eq (v _ (by omega)), k1.eq (v _ (by omega)), k4.eq (v _ (by omega)), k5.eq (v _ (by omega))⟩
theorem NV.leaO {b : Nat} {LS : List (Nat → Int32)} (h : SV μ b LS (OSo s) (if s 57 = 0 then 0 else ct s 0) (fun q k => s (394 + 5 * q + k)) (fun r => s (58 + 10 * r + 9)) s g) (hb : kd b = 1) (ho : Stc s) (hs : ∀ j, j < 521 → (j ≠ 3 → (¬ (158 ≤ j ∧ j < 206) → s' j = s j))) (hL : LSo s' = LS) : NV μ b s' g := by
  have v : ∀ j, (j < 521 ∧ (j ≠ 3 ∧ ¬ (158 ≤ j ∧ j < 206))) → s' j = s j := fun j hj => hs j hj.1 hj.2.1 hj.2.2
  have h06 := ho.1.1.2
  have h46 := ho.2.2.2.2.2.1.2
  have h210 := ho.1.2.2.1.2
  have eO : OSo s' = OSo s := by
    show rwT s' 206 0 (ct s' 4) = rwT s 206 0 (ct s 4)
    rw [ct_eq (v 4 (by omega))]
    exact rwT_eq _ _ (fun r k _ hr hk => v _ (by omega))
  unfold NV
  rw [hL, eO, v 57 (by omega), ct_eq (v 0 (by omega))]
  have h1 := (SV.congr9 h (SV.cnt h hb) (s' := s') (fun j hj _ => by
    obtain ⟨v1, v2, v3, v4, v5, v6⟩ := hj
    exact v j (by omega))).gc (G' := fun q k => s' (394 + 5 * q + k)) (fun q k hq hk => by
    have hq' : q < ct s 0 := by
      by_cases e : s 57 = 0
      · rw [if_pos e] at hq; omega
      · rw [if_neg e] at hq; exact hq
    exact (v _ (by omega)).symm)
  exact h1.cuc (cu' := fun r => s' (58 + 10 * r + 9)) (fun r hr => by
    rw [ct_eq (v 2 (by omega))] at hr
    exact v _ (by omega))
/-- a row more -/
def leS (s : Nat → Int32) (n : Nat) (row : Nat → Int32) : Nat → Int32 := upd (roS s n row 6) 3 (nI (n + 1))
theorem leS_n {n j : Nat} {row : Nat → Int32} (hn : n < 8) (h1 : j ≠ 3) (h2 : ¬ (158 ≤ j ∧ j < 206)) : leS s n row j = s j := by
  unfold leS
  rw [pk_un h1]
  unfold roS
  rw [if_neg (by omega)]
theorem leS_L {row : Nat → Int32} (h3 : Bn s 3 8) (hn : ct s 3 < 8) (hc : Can row) : LSo (leS s (ct s 3) row) = LSo s ++ [row] := by
  have e3 : ct (leS s (ct s 3) row) 3 = ct s 3 + 1 := ct_nI (by unfold leS; rw [pk_us]) (by omega)
  have hl : (LSo s).length = ct s 3 := rwT_len _ _
  show rwT (leS s (ct s 3) row) 158 0 (ct (leS s (ct s 3) row) 3) = _
  rw [e3, show ct s 3 + 1 = (LSo s ++ [row]).length by rw [List.length_append, hl, List.length_singleton]]
  refine rwT_of (fun x hx => ?_) (fun r k hr hk => ?_)
  · rcases List.mem_append.mp hx with hx | hx
    · exact rwT_can _ _ x hx
    · rw [List.mem_singleton] at hx
      rw [hx]
      exact hc
  · rw [List.length_append, hl, List.length_singleton] at hr
    rw [lf_app2, hl]
    unfold leS
    rw [pk_un (by omega)]
    unfold roS
    by_cases e : r < ct s 3
    · rw [if_pos e, if_neg (by omega)]
      exact ((rwT_lf e hk).trans (by rw [Nat.zero_add])).symm
    · obtain rfl : r = ct s 3 := by omega
      rw [if_neg e, if_pos (by omega), Nat.sub_self, show 158 + 6 * ct s 3 + k - (158 + 6 * ct s 3) = k by omega]
      rfl
end LSE
