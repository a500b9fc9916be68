/-! ===== a right's row ===== -/
def rgS0 (s : Nat → Int32) (A : Nat) (R : Nat → Int32) : Nat → Int32 := fun j => if A ≤ j ∧ j < A + 7 then R (j - A) else s j
def rw7 (a0 a1 a2 a3 a4 a5 a6 : Int32) : Nat → Int32 := fun k => if k = 0 then a0 else if k = 1 then a1 else if k = 2 then a2 else if k = 3 then a3 else if k = 4 then a4 else if k = 5 then a5 else a6
theorem rgS0_n {s R : Nat → Int32} {A j : Nat} (h : ¬ (A ≤ j ∧ j < A + 7)) : rgS0 s A R j = s j := if_neg h
theorem rgS0_y {s R : Nat → Int32} {A i : Nat} (h : i < 7) : rgS0 s A R (A + i) = R i := by
  unfold rgS0
  rw [if_pos (by omega), show A + i - A = i by omega]
theorem rgS0_put {s R : Nat → Int32} {A i : Nat} {v : Int32} (h : i < 7) : upd (rgS0 s A R) (A + i) v = rgS0 s A (upd R i v) := by
  funext j
  unfold upd rgS0
  by_cases e : j = A + i
  · rw [if_pos e, if_pos (by omega)]
    show v = if j - A = i then v else R (j - A)
    rw [if_pos (by omega)]
  · rw [if_neg e]
    by_cases e2 : A ≤ j ∧ j < A + 7
    · rw [if_pos e2, if_pos e2]
      show R (j - A) = if j - A = i then v else R (j - A)
      rw [if_neg (by omega)]
    · rw [if_neg e2, if_neg e2]
theorem rgS0_id {s : Nat → Int32} {A : Nat} : rgS0 s A (fun i => s (A + i)) = s := by
  funext j
  unfold rgS0
  by_cases e : A ≤ j ∧ j < A + 7
  · rw [if_pos e]
    show s (A + (j - A)) = s j
    rw [show A + (j - A) = j by omega]
  · rw [if_neg e]
theorem rgS0_eq {s R R' : Nat → Int32} {A : Nat} (h : ∀ i, i < 7 → R i = R' i) : rgS0 s A R = rgS0 s A R' := by
  funext j
  unfold rgS0
  by_cases e : A ≤ j ∧ j < A + 7
  · rw [if_pos e, if_pos e, h _ (by omega)]
  · rw [if_neg e, if_neg e]
section RROW
variable {f : Nat → Int32} {n t a k o : Nat} {s s' : Nat → Int32} {q : Int32} {b b' μ μ' μc μm : Mm}
def rgS (s R : Nat → Int32) : Nat → Int32 := upd (rgS0 s (58 + 10 * ct s 2) R) 2 (s 2 + 1)
theorem rgS_n {R : Nat → Int32} {j : Nat} (h1 : j ≠ 2) (h2 : ¬ (58 + 10 * ct s 2 ≤ j ∧ j < 58 + 10 * ct s 2 + 7)) : rgS s R j = s j := by
  unfold rgS
  rw [pk_un h1, rgS0_n h2]
theorem rgS_y {R : Nat → Int32} {i : Nat} (h : i < 7) : rgS s R (58 + 10 * ct s 2 + i) = R i := by
  unfold rgS
  rw [pk_un (by omega), rgS0_y h]
theorem rgS_2 {R : Nat → Int32} : rgS s R 2 = s 2 + 1 := by unfold rgS; rw [pk_us]
theorem gc_rgH {a0 a1 a2 a3 a4 a5 a6 : Int32} (h : GC f n t s b μ) (R : Rok s) (hc : ct s 2 < 10) : Op (rgH a0 a1 a2 a3 a4 a5 a6 μ) (GC f n t (rgS s (rw7 a0 a1 a2 a3 a4 a5 a6)) b) := by
  have hz := R.2.2.2.2.2
  obtain ⟨h1, h2, h3, h4, h5, h6, h7, h8, h9⟩ := h.2.2.1
  have ev : ∀ j, (j ≠ 2 ∧ ¬ (58 + 10 * ct s 2 ≤ j ∧ j < 58 + 10 * ct s 2 + 7)) → rgS s (rw7 a0 a1 a2 a3 a4 a5 a6) j = s j := fun j hj => rgS_n hj.1 hj.2
  have c2 : ct (rgS s (rw7 a0 a1 a2 a3 a4 a5 a6)) 2 = ct s 2 + 1 := by
    refine ct_nI (n := ct s 2 + 1) ?_ (by omega)
    rw [rgS_2, R.1.2.2.1.1, nI_1]
  have r06 := R.1.1.2
  have r15 := R.1.2.1.1.2
  have r38 := R.1.2.2.2.1.2
  have r46 := R.1.2.2.2.2.1.2
  unfold rgH
  refine op_mb (x2_add h3 (by rw [show ln (55 + 1) = 100 by decide +kernel]; omega)) (fun z w => ?_)
  obtain ⟨w1, w2, w3⟩ := w
  rw [w1]
  refine op_eb (x2_put (k := 0) w2 (Nat.lt_succ_self _) (by decide)) ?_
  have t0 := w2.set (r := ct s 2) (k := 0) (v := a0) (Nat.lt_succ_self _) (by decide)
  refine op_eb (x2_put (k := 1) t0 (Nat.lt_succ_self _) (by decide)) ?_
  have t1 := t0.set (r := ct s 2) (k := 1) (v := a1) (Nat.lt_succ_self _) (by decide)
  refine op_eb (x2_put (k := 2) t1 (Nat.lt_succ_self _) (by decide)) ?_
  have t2 := t1.set (r := ct s 2) (k := 2) (v := a2) (Nat.lt_succ_self _) (by decide)
  refine op_eb (x2_put (k := 3) t2 (Nat.lt_succ_self _) (by decide)) ?_
  have t3 := t2.set (r := ct s 2) (k := 3) (v := a3) (Nat.lt_succ_self _) (by decide)
  refine op_eb (x2_put (k := 4) t3 (Nat.lt_succ_self _) (by decide)) ?_
  have t4 := t3.set (r := ct s 2) (k := 4) (v := a4) (Nat.lt_succ_self _) (by decide)
  refine op_eb (x2_put (k := 5) t4 (Nat.lt_succ_self _) (by decide)) ?_
  have t5 := t4.set (r := ct s 2) (k := 5) (v := a5) (Nat.lt_succ_self _) (by decide)
  refine op_eb (x2_put (k := 6) t5 (Nat.lt_succ_self _) (by decide)) (op_r ?_)
  have t6 := t5.set (r := ct s 2) (k := 6) (v := a6) (Nat.lt_succ_self _) (by decide)
  have fr : Fs (fun a => a = 55 ∨ a = 55 + 1) μ _ := ((((((w3.tr (Fs.uI (k := ct s 2 * 10 + 0) (v := a0) (Or.inr rfl))).tr (Fs.uI (k := ct s 2 * 10 + 1) (v := a1) (Or.inr rfl))).tr (Fs.uI (k := ct s 2 * 10 + 2) (v := a2) (Or.inr rfl))).tr (Fs.uI (k := ct s 2 * 10 + 3) (v := a3) (Or.inr rfl))).tr (Fs.uI (k := ct s 2 * 10 + 4) (v := a4) (Or.inr rfl))).tr (Fs.uI (k := ct s 2 * 10 + 5) (v := a5) (Or.inr rfl))).tr (Fs.uI (k := ct s 2 * 10 + 6) (v := a6) (Or.inr rfl))
  have n : ∀ a, (a < 55 ∨ 57 ≤ a) → ¬ (a = 55 ∨ a = 55 + 1) := fun a ha => by omega
  refine h.tab fr ⟨by decide, by unfold LSg; omega, by unfold LSg; omega⟩ ⟨?_, ?_, ?_, ?_, ?_, ?_, ?_, ?_, ?_⟩
  · rw [ct_eq (ev 0 (by omega))]
    exact (h1.fs fr (n _ (by omega)) (n _ (by omega))).congr (fun r k hr hk => (ev _ (by omega)).symm)
  · rw [ct_eq (ev 1 (by omega))]
    exact (h2.fs fr (n _ (by omega)) (n _ (by omega))).congr (fun r k hr hk => (ev _ (by omega)).symm)
  · rw [c2]
    refine t6.congr (fun r k hr hk => ?_)
    unfold up2
    by_cases e : r = ct s 2
    · rw [e]
      by_cases e7 : k < 7
      · rw [rgS_y e7]
        unfold rw7
        rcases (show k = 0 ∨ k = 1 ∨ k = 2 ∨ k = 3 ∨ k = 4 ∨ k = 5 ∨ k = 6 by omega) with rfl | rfl | rfl | rfl | rfl | rfl | rfl <;> simp
      · rw [if_neg (by omega), if_neg (by omega), if_neg (by omega), if_neg (by omega), if_neg (by omega), if_neg (by omega), if_neg (by omega), ev _ (by omega)]
        show (if ct s 2 = ct s 2 then (0 : Int32) else s (58 + 10 * ct s 2 + k)) = _
        rw [if_pos rfl]
        exact (hz _ (by omega) (by omega)).symm
    · rw [if_neg (by omega), if_neg (by omega), if_neg (by omega), if_neg (by omega), if_neg (by omega), if_neg (by omega), if_neg (by omega), ev _ (by omega)]
      exact if_neg e
  · rw [ct_eq (ev 3 (by omega))]
    exact (h4.fs fr (n _ (by omega)) (n _ (by omega))).congr (fun r k hr hk => (ev _ (by omega)).symm)
  · rw [ct_eq (ev 4 (by omega))]
    exact (h5.fs fr (n _ (by omega)) (n _ (by omega))).congr (fun r k hr hk => (ev _ (by omega)).symm)
  · rw [(fr.1 50 (n _ (by omega))).1]
    exact fun k hk => (h6 k hk).trans (ev _ (by omega)).symm
  · rw [(fr.1 51 (n _ (by omega))).1, ct_eq (ev 7 (by omega))]
    exact fun k hk hk7 => (h7 k hk hk7).trans (ev _ (by omega)).symm
  · rw [(fr.1 47 (n _ (by omega))).1, ev 7 (by omega)]; exact h8
  · rw [(fr.1 47 (n _ (by omega))).1, ev 6 (by omega)]; exact h9
theorem rok_right {a0 a1 a2 a3 a4 a5 a6 : Nat} (R : Rok s) (hc : ct s 2 < 10) (h0 : a0 < ct s 1) (h15 : a1 ≤ a5) (h5 : a5 < ct s 0) (h2 : a2 ≤ 99) (h3 : a3 ≤ 999) (h4 : a4 ≤ 90) (h6 : a6 ≤ 100) (hd : ∀ r, r < ct s 2 → s (58 + 10 * r + 2) ≠ nI a2) : Rok (rgS s (rw7 (nI a0) (nI a1) (nI a2) (nI a3) (nI a4) (nI a5) (nI a6))) := by
  obtain ⟨⟨r0, ⟨r1, r1'⟩, r2, r3, r4, r6, r7, r7'⟩, ⟨r8, r14, r36, r48⟩, ⟨rr, rd⟩, rl, ro, rz⟩ := id R
  generalize hS : rgS s (rw7 (nI a0) (nI a1) (nI a2) (nI a3) (nI a4) (nI a5) (nI a6)) = S
  have ev : ∀ j, (j ≠ 2 ∧ ¬ (58 + 10 * ct s 2 ≤ j ∧ j < 58 + 10 * ct s 2 + 7)) → S j = s j := fun j hj => by rw [← hS]; exact rgS_n hj.1 hj.2
  have ey : ∀ i, i < 7 → S (58 + 10 * ct s 2 + i) = rw7 (nI a0) (nI a1) (nI a2) (nI a3) (nI a4) (nI a5) (nI a6) i := fun i hi => by rw [← hS]; exact rgS_y hi
  have e2 : S 2 = nI (ct s 2 + 1) := by rw [← hS, rgS_2, r2.1, nI_1]
  have c2 : ct S 2 = ct s 2 + 1 := ct_nI e2 (by omega)
  have h06 := r0.2
  have h38 := r3.2
  have h46 := r4.2
  have h5' := r1.2
  have c0 : ct S 0 = ct s 0 := ct_eq (ev 0 (by omega))
  have c1 : ct S 1 = ct s 1 := ct_eq (ev 1 (by omega))
  have c3 : ct S 3 = ct s 3 := ct_eq (ev 3 (by omega))
  have c4 : ct S 4 = ct s 4 := ct_eq (ev 4 (by omega))
  refine R.up (r0.eq (ev 0 (by omega))) (by omega) (r1.eq (ev 1 (by omega))) (by omega) (Or.inr c1) (Bn.mk e2 (by omega) (by decide)) (by omega) (r3.eq (ev 3 (by omega))) (r4.eq (ev 4 (by omega))) (r6.eq (ev 6 (by omega))) (r7.eq (ev 7 (by omega))) (by rw [ct_eq (ev 7 (by omega))]; exact r7') (fun q hq => (r8 q hq).eq (ev _ (by omega))) (fun q hq => (r14 q hq).eq (ev _ (by omega))) (fun k hk => (r36 k hk).eq (ev _ (by omega))) (fun k hk => (r48 k hk).eq (ev _ (by omega))) (fun r k hr hk => ev _ (by omega)) (fun r q1 q2 => ?_) (fun u v hu hv q => ?_) (fun l k hl hk => ev _ (by omega)) (fun l q1 q2 => by omega) (fun l k hl hk => ev _ (by omega)) (fun l q1 q2 => by omega) (fun j hj hz => ?_)
  · obtain rfl : r = ct s 2 := by omega
    have y0 : S (58 + 10 * ct s 2 + 0) = nI a0 := ey 0 (by decide)
    have y1 : S (58 + 10 * ct s 2 + 1) = nI a1 := ey 1 (by decide)
    have y5 : S (58 + 10 * ct s 2 + 5) = nI a5 := ey 5 (by decide)
    have d0 := ct_nI y0 (by omega)
    have d1 := ct_nI y1 (by omega)
    have d5 := ct_nI y5 (by omega)
    exact ⟨⟨by rw [d0]; exact y0, by omega⟩, ⟨by rw [d1]; exact y1, by omega⟩, ⟨by rw [d5]; exact y5, by omega⟩, Bn.mk (ey 3 (by decide)) h3 (by decide), Bn.mk (ey 4 (by decide)) h4 (by decide), Bn.mk (ey 6 (by decide)) h6 (by decide), Bn.mk (ey 2 (by decide)) h2 (by decide)⟩
  · have y2 : S (58 + 10 * ct s 2 + 2) = nI a2 := ey 2 (by decide)
    rw [c2] at hu hv
    by_cases eu : u = ct s 2
    · by_cases ew : v = ct s 2
      · omega
      · exfalso
        rw [eu, y2, ev _ (by omega)] at q
        exact hd v (by omega) q.symm
    · by_cases ew : v = ct s 2
      · exfalso
        rw [ew, y2, ev _ (by omega)] at q
        exact hd u (by omega) q
      · rw [ev _ (by omega), ev _ (by omega)] at q
        exact rd u v (by omega) (by omega) q
  · rw [c2] at hz
    rw [ev j (by omega)]
    exact rz j hj (by omega)
/-! the reference's row, number by number -/
end RROW

