/-! ===== a month keeps what is sure, in one ===== -/
def KS (j : Nat) : Prop := j < 3 ∨ (j = 4 ∨ (j = 6 ∨ (j = 7 ∨ ((8 ≤ j ∧ j < 20) ∨ ((36 ≤ j ∧ j < 53) ∨ ((58 ≤ j ∧ (j < 158 ∧ (j - 58) % 10 < 7)) ∨ (206 ≤ j ∧ j < 242)))))))
theorem Stc.of {s s' : Nat → Int32} (h : Stc s) (hs : ∀ j, KS j → s' j = s j) (h5 : s' 5 = nI (ct s' 5) ∧ ct s' 5 < 2 ^ 30) (h3 : Bn s' 3 8) (hL : LRows s (LSo s')) : Stc s' := by
  have v : ∀ j, (j < 3 ∨ (j = 4 ∨ (j = 6 ∨ (j = 7 ∨ ((8 ≤ j ∧ j < 20) ∨ ((36 ≤ j ∧ j < 53) ∨ ((58 ≤ j ∧ (j < 158 ∧ (j - 58) % 10 < 7)) ∨ (206 ≤ j ∧ j < 242)))))))) → s' j = s j := hs
  obtain ⟨r, d, l, o, c3, c4, c6, c8, c36, c48⟩ := h
  obtain ⟨a0, a1, a2, a3, a4, a5⟩ := id r
  have h06 := a0.2
  have h15 := a1.2
  have h210 := a2.2
  have e0 : ct s' 0 = ct s 0 := ct_eq (v 0 (by omega))
  have e1 : ct s' 1 = ct s 1 := ct_eq (v 1 (by omega))
  have e2 : ct s' 2 = ct s 2 := ct_eq (v 2 (by omega))
  have e4 : ct s' 4 = ct s 4 := ct_eq (v 4 (by omega))
  have row : ∀ x, Row0 s x → Row0 s' x := fun x hx => hx.sta (v 0 (by omega)) (v 1 (by omega)) (v 2 (by omega))
  have hO : OSo s' = OSo s := by
    show rwT s' 206 0 (ct s' 4) = rwT s 206 0 (ct s 4)
    rw [e4]
    have := c4.2
    exact rwT_eq _ _ (fun r k _ hr hk => v _ (by omega))
  refine ⟨⟨a0.eq (v 0 (by omega)), a1.eq (v 1 (by omega)), a2.eq (v 2 (by omega)), ?_, ?_, ?_⟩, ?_, ?_, ?_, h3, c4.eq (v 4 (by omega)), c6.eq (v 6 (by omega)), fun q hq => (c8 q hq).eq (v _ (by omega)), fun k hk => (c36 k hk).eq (v _ (by omega)), fun k hk => (c48 k hk).eq (v _ (by omega))⟩
  · unfold Vt at a3 ⊢
    rw [ct_eq (v 7 (by omega)), v 7 (by omega)]
    exact ⟨h5.1, h5.2, a3.2.2⟩
  · rw [e0]
    exact fun q hq => (a4 q hq).eq (v _ (by omega))
  · rw [e2]
    intro r hr
    have q := a5 r hr
    unfold Rf at q ⊢
    have w0 := v (58 + 10 * r + 0) (by omega)
    have w1 := v (58 + 10 * r + 1) (by omega)
    have w5 := v (58 + 10 * r + 5) (by omega)
    rw [ct_eq w0, ct_eq w1, ct_eq w5, w0, w1, w5, e0, e1]
    exact ⟨q.1, q.2.1, q.2.2.1, q.2.2.2.1.eq (v _ (by omega)), q.2.2.2.2.1.eq (v _ (by omega)), q.2.2.2.2.2.1.eq (v _ (by omega)), q.2.2.2.2.2.2.eq (v _ (by omega))⟩
  · intro a b ha hb e
    rw [e2] at ha hb
    rw [v _ (by omega), v _ (by omega)] at e
    exact d a b ha hb e
  · exact fun x hx => ⟨row x (hL x hx).1, (hL x hx).2⟩
  · rw [hO]
    exact fun x hx => ⟨row x (o x hx).1, (o x hx).2⟩
set_option maxHeartbeats 1000000 in
theorem Ok.month {κ s fl cut : Nat → Int32} {X : List (Nat → Int32)} {g : Nat → Int64} {T : Nat} (h : Ok T s) (hT : T ≤ 20000) (hX : Xtr κ s X) (ht : Try κ s) : Ok (T + 1) (fiS (mstM κ X s g fl cut) (decL (LSo s))) := by
  have hm := h.mon hT
  obtain ⟨i1, i2, i3, i4⟩ := mstM_facts (g := g) (fl := fl) (cut := cut) hm hX ht
  obtain ⟨i5, i6⟩ := mstM_more (g := g) (fl := fl) (cut := cut) hm hX ht
  generalize mstM κ X s g fl cut = M at *
  obtain ⟨h1, h2, h3⟩ := h
  obtain ⟨d1, d2, d3, d4, d5, d6, d7, d8, d9, d10, d11⟩ := h2
  obtain ⟨r, d, l, o, c3, c4, c6, c8, c36, c48⟩ := id h1
  have h06 := r.1.2
  have h15 := r.2.1.2
  have h210 := r.2.2.1.2
  have ht5 := r.vt
  have n0 : ct M.1 0 = ct s 0 := ct_eq (i2 0 Sta0)
  have n1 : ct M.1 1 = ct s 1 := ct_eq (i2 1 Sta1)
  have n2 : ct M.1 2 = ct s 2 := ct_eq (i2 2 Sta2)
  have hD : (decL (LSo s)).length ≤ 8 := by
    have := decL_len (LSo s)
    rw [show (LSo s).length = ct s 3 from rwT_len _ _] at this
    have := c3.2
    omega
  have hcl := i1.2.2.2
  have v : ∀ j, (j < 521 ∧ (j ≠ 3 ∧ (¬ (158 ≤ j ∧ j < 206) ∧ (¬ (58 ≤ j ∧ j < 158 ∧ (j - 58) % 10 = 9) ∧ (j ≠ 57 ∧ ¬ (394 ≤ j ∧ j < 424 ∧ (j - 394) % 5 = 2)))))) → fiS M (decL (LSo s)) j = finC M j := fun j hj => fiS_vis hD (by omega) (by omega) (by omega) hj.1 hj.2.1 hj.2.2.1 hj.2.2.2.1 hj.2.2.2.2.1 hj.2.2.2.2.2
  have f : ∀ j, j < 424 → finC M j = _ := fun j hj => finC_lo hj (by omega) (by omega)
  have p : ∀ j, ((j < 424 ∧ (j ≠ 3 ∧ (¬ (158 ≤ j ∧ j < 206) ∧ (¬ (58 ≤ j ∧ j < 158 ∧ (j - 58) % 10 = 9) ∧ (j ≠ 57 ∧ ¬ (394 ≤ j ∧ j < 424 ∧ (j - 394) % 5 = 2)))))) ∧ (j ≠ 5 ∧ (¬ (20 ≤ j ∧ j < 31) ∧ j ≠ 54))) → fiS M (decL (LSo s)) j = M.1 j := fun j hj => by
    rw [v j (by omega), f j (by omega), if_neg (by omega), if_neg (by omega), if_neg (by omega), if_neg (by omega)]
  have e3 : fiS M (decL (LSo s)) 3 = nI (decL (LSo s)).length := fiS_3
  have c3' : ct (fiS M (decL (LSo s))) 3 = (decL (LSo s)).length := ct_nI e3 (by omega)
  have eL : LSo (fiS M (decL (LSo s))) = decL (LSo s) := by
    show rwT (fiS M (decL (LSo s))) 158 0 (ct (fiS M (decL (LSo s))) 3) = decL (LSo s)
    rw [c3']
    exact rwT_of (decL_can _ (fun row hr => rwT_can _ _ row hr)) (fun r k hr hk => fiS_lea hD (by omega) (by omega) hr hk)
  have e5 : fiS M (decL (LSo s)) 5 = nI (ct s 5 + 1) := by
    rw [v 5 (by omega), f 5 (by omega), if_pos rfl, i2 5 Sta5, ht5.1, nI_1]
  have c5 : ct (fiS M (decL (LSo s))) 5 = ct s 5 + 1 := ct_nI e5 (by omega)
  have e6 : fiS M (decL (LSo s)) 6 = s 6 := (p 6 (by omega)).trans (i2 6 (Or.inl (by decide)))
  have c6' : ct (fiS M (decL (LSo s))) 6 = ct s 6 := ct_eq e6
  have c6m : ct M.1 6 = ct s 6 := ct_eq (i2 6 (Or.inl (by decide)))
  have e0 : ct (fiS M (decL (LSo s))) 0 = ct s 0 := ct_eq ((p 0 (by omega)).trans (i2 0 Sta0))
  have e56 : ct (fiS M (decL (LSo s))) 56 = ct M.1 56 := ct_eq (p 56 (by omega))
  obtain ⟨g1, g2, g3⟩ := i4
  have hbs : ∀ a, a < 5 → ct s (26 + a) ≤ bsum s := by
    intro a ha
    unfold bsum
    rcases (show a = 0 ∨ a = 1 ∨ a = 2 ∨ a = 3 ∨ a = 4 by omega) with rfl | rfl | rfl | rfl | rfl <;> (simp only [Nat.reduceAdd]; omega)
  have bank : ∀ a, a < 5 → fiS M (decL (LSo s)) (26 + a) = nI (ct (fiS M (decL (LSo s))) (26 + a)) ∧ (ct (fiS M (decL (LSo s))) (26 + a) * ct s 6 ≤ 1898100 ∧ ct (fiS M (decL (LSo s))) (26 + a) ≤ ct M.1 (26 + a)) := by
    intro a ha
    obtain ⟨z1, z2⟩ := g1 a ha
    have := hbs a ha
    by_cases e : a < ct s 1
    · have hle := loss_le (b := ct M.1 (26 + a)) c6.2
      have eb : fiS M (decL (LSo s)) (26 + a) = nI (ct M.1 (26 + a) - (ct M.1 (26 + a) * ct s 6 + 99) / 100) := by
        rw [v _ (by omega), f _ (by omega), if_neg (by omega), if_neg (by omega), if_pos (by omega)]
        unfold lossN
        rw [c6m]
        rw [z1]
        rw [show ct M.1 (26 + a) = ct M.1 (26 + a) from rfl, ← z1, z1, pk_sub hle]
      have cb : ct (fiS M (decL (LSo s))) (26 + a) = ct M.1 (26 + a) - (ct M.1 (26 + a) * ct s 6 + 99) / 100 := ct_nI eb (by omega)
      rw [cb]
      exact ⟨eb, loss_bd c6.2 (d3 a ha).2 (by omega), Nat.sub_le _ _⟩
    · have eb : fiS M (decL (LSo s)) (26 + a) = s (26 + a) := by
        rw [v _ (by omega), f _ (by omega), if_neg (by omega), if_neg (by omega), if_neg (by omega), if_neg (by omega)]
        exact i6 a (by omega) ha
      rw [ct_eq eb, eb, ct_eq (i6 a (by omega) ha)]
      exact ⟨(d3 a ha).1, (d3 a ha).2, Nat.le_refl _⟩
  have rel : ∀ q, q < 6 → fiS M (decL (LSo s)) (20 + q) = nI (ct (fiS M (decL (LSo s))) (20 + q)) ∧ ct (fiS M (decL (LSo s))) (20 + q) ≤ ct s (20 + q) := by
    intro q hq
    by_cases e : q < ct s 0
    · have eb : fiS M (decL (LSo s)) (20 + q) = nI 0 := by
        rw [v _ (by omega), f _ (by omega), if_neg (by omega), if_pos (by omega)]
        rfl
      rw [ct_nI eb (by decide)]
      exact ⟨eb, Nat.zero_le _⟩
    · have eb : fiS M (decL (LSo s)) (20 + q) = s (20 + q) := by
        rw [v _ (by omega), f _ (by omega), if_neg (by omega), if_neg (by omega), if_neg (by omega), if_neg (by omega)]
        exact i2 _ (Or.inl (by omega))
      rw [ct_eq eb, eb]
      exact ⟨d4 q hq, Nat.le_refl _⟩
  refine ⟨h1.of (fun j hj => ?_) ⟨by rw [c5]; exact e5, by omega⟩ ⟨by rw [c3']; exact e3, by omega⟩ (by rw [eL]; intro row hr; obtain ⟨r0, q1, rfl⟩ := decL_mem hr; exact (l r0 q1).dec), ⟨?_, ?_, ?_, ?_, ?_, ?_, Or.inr fiS_57, ?_, ?_, ?_, ?_⟩, by omega⟩
  · unfold KS at hj
    rw [p j (by omega)]
    exact i2 j (by unfold Sta; omega)
  · have e : fiS M (decL (LSo s)) 424 = nI (if ct s 424 < 24 then ct s 424 + 1 else 24) := by
      unfold fiS reS
      rw [pk_us, ct_eq (enS_n (j := 424) hD (by omega) (by omega) (by omega) (by omega) (by omega) (by omega) (by omega) (by omega) (by omega)), ct_eq (i2 424 (by unfold Sta; omega))]
    have hlt : (if ct s 424 < 24 then ct s 424 + 1 else 24) ≤ 24 := by split <;> omega
    have c := ct_nI e (by omega)
    exact ⟨by rw [c]; exact e, by rw [c]; exact hlt⟩
  · rw [e56, p 56 (by omega)]
    exact ⟨i1.2.2.1, by omega⟩
  · intro a ha
    rw [c6']
    exact ⟨(bank a ha).1, (bank a ha).2.1⟩
  · exact fun q hq => (rel q hq).1
  · rw [c5]
    have hr : rsum (fiS M (decL (LSo s))) ≤ rsum s := sumN_le _ (fun q hq => (rel q hq).2)
    have hb : bsum (fiS M (decL (LSo s))) ≤ bsum M.1 := by
      have b0 := (bank 0 (by decide)).2.2
      have b1 := (bank 1 (by decide)).2.2
      have b2 := (bank 2 (by decide)).2.2
      have b3 := (bank 3 (by decide)).2.2
      have b4 := (bank 4 (by decide)).2.2
      simp only [Nat.reduceAdd] at b0 b1 b2 b3 b4
      unfold bsum
      omega
    omega
  · intro q hq
    obtain ⟨z1, z2⟩ := g3 q hq
    have := (d6 q hq).2
    have e := p (58 + 10 * q + 7) (by omega)
    rw [ct_eq e, e, c5]
    exact ⟨z1, by omega⟩
  · intro e
    rw [fiS_57] at e
    exact absurd e (by decide)
  · intro e
    rw [fiS_57] at e
    exact absurd e (by decide)
  · intro q hq
    rw [e0] at hq
    have e := fiS_gau (M := M) (D := decL (LSo s)) (q := q) (by omega) (by omega)
    obtain ⟨y1, y2⟩ := i1.2.1 q (by omega)
    have c : ct (fiS M (decL (LSo s))) (394 + 5 * q + 2) = ct M.2.2.1 q := by unfold ct; rw [e]
    rw [c, e]
    exact ⟨y1, y2⟩
  · intro c hc
    rw [e56] at hc
    obtain ⟨k0, k1, k4, k5⟩ := i5 c hc
    exact ⟨k0.eq (p _ (by omega)), k1.eq (p _ (by omega)), k4.eq (p _ (by omega)), k5.eq (p _ (by omega))⟩

