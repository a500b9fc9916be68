/-! ===== a release ===== -/
section REL
variable {μ : Mm} {s : Nat → Int32} {g : Nat → Int64} {k T : Nat}
def reL (s : Nat → Int32) (a r : Nat) (v : Int32) : Nat → Int32 := upd (upd (upd s (26 + a) (s (26 + a) - v)) (20 + r) (s (20 + r) + v)) 55 (s 55 + v)
theorem reL_n {a r j : Nat} {v : Int32} (h1 : j ≠ 26 + a) (h2 : j ≠ 20 + r) (h3 : j ≠ 55) : reL s a r v j = s j := by
  unfold reL
  rw [pk_un h3, pk_un h2, pk_un h1]
theorem sumN_up {f f' : Nat → Nat} {r v : Nat} : ∀ n, (∀ i, i < n → f' i ≤ f i + (if i = r then v else 0)) → sumN f' n ≤ sumN f n + (if r < n then v else 0) := by
  intro n
  induction n with
  | zero => intro _; rw [sumN]; exact Nat.zero_le _
  | succ n ih =>
    intro h
    have h1 := ih (fun i hi => h i (by omega))
    have h2 := h n (by omega)
    rw [sumN, sumN]
    by_cases e : n = r
    · rw [if_pos e] at h2
      rw [if_neg (by omega)] at h1
      rw [if_pos (by omega)]
      omega
    · rw [if_neg e] at h2
      by_cases e2 : r < n
      · rw [if_pos e2] at h1
        rw [if_pos (by omega)]
        omega
      · rw [if_neg e2] at h1
        rw [if_neg (by omega)]
        omega
theorem Ok.rel (h : Ok T s) (hT : T ≤ 20000) {a r v : Nat} (ha : a < 5) (hr : r < 6) (hv : v ≤ ct s (26 + a)) : Ok T (reL s a r (nI v)) := by
  obtain ⟨h1, ⟨d1, d2, d3, d4, d5, d6, d7, d8, d9, d10, d11⟩, ht⟩ := h
  have h06 := h1.1.1.2
  have hvt := h1.1.vt
  have hbs : ∀ a, a < 5 → ct s (26 + a) ≤ bsum s := by
    intro a ha
    unfold bsum
    rcases (show a = 0 ∨ a = 1 ∨ a = 2 ∨ a = 3 ∨ a = 4 by omega) with rfl | rfl | rfl | rfl | rfl <;> (simp only [Nat.reduceAdd]; omega)
  have hba := hbs a ha
  have hrs : ct s (20 + r) ≤ rsum s := by
    have key : ∀ n, r < n → ct s (20 + r) ≤ sumN (fun q => ct s (20 + q)) n := by
      intro n
      induction n with
      | zero => intro h; omega
      | succ n ih =>
        intro h
        rw [sumN]
        by_cases e : r = n
        · rw [e]; omega
        · have := ih (by omega); omega
    exact key 6 hr
  have e : ∀ j, (j ≠ 26 + a ∧ (j ≠ 20 + r ∧ j ≠ 55)) → reL s a r (nI v) j = s j := fun j hj => reL_n hj.1 hj.2.1 hj.2.2
  have ea : reL s a r (nI v) (26 + a) = nI (ct s (26 + a) - v) := by
    unfold reL
    rw [pk_un (by omega), pk_un (by omega), pk_us, (d3 a ha).1, pk_sub hv]
  have er : reL s a r (nI v) (20 + r) = nI (ct s (20 + r) + v) := by
    unfold reL
    rw [pk_un (by omega), pk_us, d4 r hr, nI_add]
  have ca : ct (reL s a r (nI v)) (26 + a) = ct s (26 + a) - v := ct_nI ea (by omega)
  have cr : ct (reL s a r (nI v)) (20 + r) = ct s (20 + r) + v := ct_nI er (by omega)
  have e5 : ct (reL s a r (nI v)) 5 = ct s 5 := ct_eq (e 5 (by omega))
  have e0 : ct (reL s a r (nI v)) 0 = ct s 0 := ct_eq (e 0 (by omega))
  have e56 : ct (reL s a r (nI v)) 56 = ct s 56 := ct_eq (e 56 (by omega))
  have e6 : ct (reL s a r (nI v)) 6 = ct s 6 := ct_eq (e 6 (by omega))
  have h38 := h1.2.2.2.2.1.2
  have eL : LSo (reL s a r (nI v)) = LSo s := by
    show rwT (reL s a r (nI v)) 158 0 (ct (reL s a r (nI v)) 3) = rwT s 158 0 (ct s 3)
    rw [ct_eq (e 3 (by omega))]
    exact rwT_eq _ _ (fun r k _ hr hk => e _ (by omega))
  refine ⟨h1.of (fun j hj => e j (by unfold KS at hj; omega)) ⟨by rw [e5, e 5 (by omega)]; exact hvt.1, by rw [e5]; exact hvt.2.1⟩ (h1.2.2.2.2.1.eq (e 3 (by omega))) (by rw [eL]; exact h1.2.2.1), ⟨d1.eq (e _ (by omega)), ?_, ?_, ?_, ?_, ?_, ?_, ?_, ?_, ?_, ?_⟩, by rw [e5]; exact ht⟩
  · rw [e56, e 56 (by omega)]; exact d2
  · intro q hq
    rw [e6]
    by_cases eq : q = a
    · rw [eq, ca]
      exact ⟨ea, Nat.le_trans (Nat.mul_le_mul_right _ (Nat.sub_le _ _)) (d3 a ha).2⟩
    · rw [ct_eq (e (26 + q) (by omega)), e (26 + q) (by omega)]
      exact d3 q hq
  · intro q hq
    by_cases eq : q = r
    · rw [eq, cr]; exact er
    · rw [ct_eq (e (20 + q) (by omega)), e (20 + q) (by omega)]
      exact d4 q hq
  · have hb : bsum (reL s a r (nI v)) + v ≤ bsum s := by
      unfold bsum
      rcases (show a = 0 ∨ a = 1 ∨ a = 2 ∨ a = 3 ∨ a = 4 by omega) with rfl | rfl | rfl | rfl | rfl
      · simp only [Nat.add_zero] at ca hv
        rw [ca, ct_eq (e 27 (by omega)), ct_eq (e 28 (by omega)), ct_eq (e 29 (by omega)), ct_eq (e 30 (by omega))]; omega
      · simp only [Nat.reduceAdd] at ca hv
        rw [ca, ct_eq (e 26 (by omega)), ct_eq (e 28 (by omega)), ct_eq (e 29 (by omega)), ct_eq (e 30 (by omega))]; omega
      · simp only [Nat.reduceAdd] at ca hv
        rw [ca, ct_eq (e 26 (by omega)), ct_eq (e 27 (by omega)), ct_eq (e 29 (by omega)), ct_eq (e 30 (by omega))]; omega
      · simp only [Nat.reduceAdd] at ca hv
        rw [ca, ct_eq (e 26 (by omega)), ct_eq (e 27 (by omega)), ct_eq (e 28 (by omega)), ct_eq (e 30 (by omega))]; omega
      · simp only [Nat.reduceAdd] at ca hv
        rw [ca, ct_eq (e 26 (by omega)), ct_eq (e 27 (by omega)), ct_eq (e 28 (by omega)), ct_eq (e 29 (by omega))]; omega
    have hr2 : rsum (reL s a r (nI v)) ≤ rsum s + v := by
      have := sumN_up (f := fun q => ct s (20 + q)) (f' := fun q => ct (reL s a r (nI v)) (20 + q)) (r := r) (v := v) 6 (fun i hi => by
        by_cases eq : i = r
        · rw [if_pos eq, eq, cr]; exact Nat.le_refl _
        · rw [if_neg eq, ct_eq (e (20 + i) (by omega))]; exact Nat.le_refl _)
      rw [if_pos hr] at this
      exact this
    rw [e5]
    omega
  · intro q hq
    rw [e5, ct_eq (e (58 + 10 * q + 7) (by omega)), e (58 + 10 * q + 7) (by omega)]
    exact d6 q hq
  · rw [e 57 (by omega)]; exact d7
  · rw [e 57 (by omega), e0]
    intro z q k hq hk
    rw [e _ (by omega)]
    exact d8 z q k hq hk
  · rw [e 57 (by omega), e 56 (by omega)]; exact d9
  · rw [e0]
    intro q hq
    rw [ct_eq (e (394 + 5 * q + 2) (by omega)), e (394 + 5 * q + 2) (by omega)]
    exact d10 q hq
  · rw [e56]
    intro c hc
    have h19 := d2.2
    obtain ⟨k0, k1, k4, k5⟩ := d11 c hc
    exact ⟨k0.eq (e _ (by omega)), k1.eq (e _ (by omega)), k4.eq (e _ (by omega)), k5.eq (e _ (by omega))⟩
end REL
