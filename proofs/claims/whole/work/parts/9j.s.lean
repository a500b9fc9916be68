/-! ===== a right's row ===== -/
def rgS0 (s : Nat → Int32) (A : Nat) (R : Nat → Int32) : Nat → Int32 := fun j => if A ≤ j ∧ j < A + 7 then R (j - A) else s j
def rw7 (a0 a1 a2 a3 a4 a5 a6 : Int32) : Nat → Int32 := fun k => if k = 0 then a0 else if k = 1 then a1 else if k = 2 then a2 else if k = 3 then a3 else if k = 4 then a4 else if k = 5 then a5 else a6
theorem rgS0_n {s R : Nat → Int32} {A j : Nat} (h : ¬ (A ≤ j ∧ j < A + 7)) : rgS0 s A R j = s j := if_neg h
theorem rgS0_y {s R : Nat → Int32} {A i : Nat} (h : i < 7) : rgS0 s A R (A + i) = R i := by
  unfold rgS0
  rw [if_pos (by omega), show A + i - A = i by omega]
theorem rgS0_put {s R : Nat → Int32} {A i : Nat} {v : Int32} (h : i < 7) : upd (rgS0 s A R) (A + i) v = rgS0 s A (upd R i v) := by
  funext j
  unfold upd rgS0
  by_cases e : j = A + i
  · rw [if_pos e, if_pos (by omega)]
    show v = if j - A = i then v else R (j - A)
    rw [if_pos (by omega)]
  · rw [if_neg e]
    by_cases e2 : A ≤ j ∧ j < A + 7
    · rw [if_pos e2, if_pos e2]
      show R (j - A) = if j - A = i then v else R (j - A)
      rw [if_neg (by omega)]
    · rw [if_neg e2, if_neg e2]
theorem rgS0_id {s : Nat → Int32} {A : Nat} : rgS0 s A (fun i => s (A + i)) = s := by
  funext j
  unfold rgS0
  by_cases e : A ≤ j ∧ j < A + 7
  · rw [if_pos e]
    show s (A + (j - A)) = s j
    rw [show A + (j - A) = j by omega]
  · rw [if_neg e]
theorem rgS0_eq {s R R' : Nat → Int32} {A : Nat} (h : ∀ i, i < 7 → R i = R' i) : rgS0 s A R = rgS0 s A R' := by
  funext j
  unfold rgS0
  by_cases e : A ≤ j ∧ j < A + 7
  · rw [if_pos e, if_pos e, h _ (by omega)]
  · rw [if_neg e, if_neg e]
section RROW
variable {f : Nat → Int32} {n t a k o : Nat} {s s' : Nat → Int32} {q : Int32} {b b' μ μ' μc μm : Mm}
def rgS (s R : Nat → Int32) : Nat → Int32 := upd (rgS0 s (58 + 10 * ct s 2) R) 2 (s 2 + 1)
theorem rgS_n {R : Nat → Int32} {j : Nat} (h1 : j ≠ 2) (h2 : ¬ (58 + 10 * ct s 2 ≤ j ∧ j < 58 + 10 * ct s 2 + 7)) : rgS s R j = s j := by
  unfold rgS
  rw [pk_un h1, rgS0_n h2]
theorem rgS_y {R : Nat → Int32} {i : Nat} (h : i < 7) : rgS s R (58 + 10 * ct s 2 + i) = R i := by
  unfold rgS
  rw [pk_un (by omega), rgS0_y h]
theorem rgS_2 {R : Nat → Int32} : rgS s R 2 = s 2 + 1 := by unfold rgS; rw [pk_us]
theorem gc_rgH {a0 a1 a2 a3 a4 a5 a6 : Int32} (h : GC f n t s b μ) (R : Rok s) (hc : ct s 2 < 10) : Op (rgH a0 a1 a2 a3 a4 a5 a6 μ) (GC f n t (rgS s (rw7 a0 a1 a2 a3 a4 a5 a6)) b) := by
  have hz := R.2.2.2.2.2
  obtain ⟨h1, h2, h3, h4, h5, h6, h7, h8, h9⟩ := h.2.2.1
  have ev : ∀ j, (j ≠ 2 ∧ ¬ (58 + 10 * ct s 2 ≤ j ∧ j < 58 + 10 * ct s 2 + 7)) → rgS s (rw7 a0 a1 a2 a3 a4 a5 a6) j = s j := fun j hj => rgS_n hj.1 hj.2
  have c2 : ct (rgS s (rw7 a0 a1 a2 a3 a4 a5 a6)) 2 = ct s 2 + 1 := by
    refine ct_nI (n := ct s 2 + 1) ?_ (by omega)
    rw [rgS_2, R.1.2.2.1.1, nI_1]
  have r06 := R.1.1.2
  have r15 := R.1.2.1.1.2
  have r38 := R.1.2.2.2.1.2
  have r46 := R.1.2.2.2.2.1.2
  unfold rgH
  refine op_mb (x2_add h3 (by rw [show ln (55 + 1) = 100 by decide +kernel]; omega)) (fun z w => ?_)
  obtain ⟨w1, w2, w3⟩ := w
  rw [w1]
  refine op_eb (x2_put (k := 0) w2 (Nat.lt_succ_self _) (by decide)) ?_
  have t0 := w2.set (r := ct s 2) (k := 0) (v := a0) (Nat.lt_succ_self _) (by decide)
  refine op_eb (x2_put (k := 1) t0 (Nat.lt_succ_self _) (by decide)) ?_
  have t1 := t0.set (r := ct s 2) (k := 1) (v := a1) (Nat.lt_succ_self _) (by decide)
  refine op_eb (x2_put (k := 2) t1 (Nat.lt_succ_self _) (by decide)) ?_
  have t2 := t1.set (r := ct s 2) (k := 2) (v := a2) (Nat.lt_succ_self _) (by decide)
  refine op_eb (x2_put (k := 3) t2 (Nat.lt_succ_self _) (by decide)) ?_
  have t3 := t2.set (r := ct s 2) (k := 3) (v := a3) (Nat.lt_succ_self _) (by decide)
  refine op_eb (x2_put (k := 4) t3 (Nat.lt_succ_self _) (by decide)) ?_
  have t4 := t3.set (r := ct s 2) (k := 4) (v := a4) (Nat.lt_succ_self _) (by decide)
  refine op_eb (x2_put (k := 5) t4 (Nat.lt_succ_self _) (by decide)) ?_
  have t5 := t4.set (r := ct s 2) (k := 5) (v := a5) (Nat.lt_succ_self _) (by decide)
  refine op_eb (x2_put (k := 6) t5 (Nat.lt_succ_self _) (by decide)) (op_r ?_)
  have t6 := t5.set (r := ct s 2) (k := 6) (v := a6) (Nat.lt_succ_self _) (by decide)
  have fr : Fs (fun a => a = 55 ∨ a = 55 + 1) μ _ := ((((((w3.tr (Fs.uI (k := ct s 2 * 10 + 0) (v := a0) (Or.inr rfl))).tr (Fs.uI (k := ct s 2 * 10 + 1) (v := a1) (Or.inr rfl))).tr (Fs.uI (k := ct s 2 * 10 + 2) (v := a2) (Or.inr rfl))).tr (Fs.uI (k := ct s 2 * 10 + 3) (v := a3) (Or.inr rfl))).tr (Fs.uI (k := ct s 2 * 10 + 4) (v := a4) (Or.inr rfl))).tr (Fs.uI (k := ct s 2 * 10 + 5) (v := a5) (Or.inr rfl))).tr (Fs.uI (k := ct s 2 * 10 + 6) (v := a6) (Or.inr rfl))
  have n : ∀ a, (a < 55 ∨ 57 ≤ a) → ¬ (a = 55 ∨ a = 55 + 1) := fun a ha => by omega
  refine h.tab fr ⟨by decide, by unfold LSg; omega, by unfold LSg; omega⟩ ⟨?_, ?_, ?_, ?_, ?_, ?_, ?_, ?_, ?_⟩
  · rw [ct_eq (ev 0 (by omega))]
    exact (h1.fs fr (n _ (by omega)) (n _ (by omega))).congr (fun r k hr hk => (ev _ (by omega)).symm)
  · rw [ct_eq (ev 1 (by omega))]
    exact (h2.fs fr (n _ (by omega)) (n _ (by omega))).congr (fun r k hr hk => (ev _ (by omega)).symm)
  · rw [c2]
    refine t6.congr (fun r k hr hk => ?_)
    unfold up2
    by_cases e : r = ct s 2
    · rw [e]
      by_cases e7 : k < 7
      · rw [rgS_y e7]
        unfold rw7
        rcases (show k = 0 ∨ k = 1 ∨ k = 2 ∨ k = 3 ∨ k = 4 ∨ k = 5 ∨ k = 6 by omega) with rfl | rfl | rfl | rfl | rfl | rfl | rfl <;> simp
      · rw [if_neg (by omega), if_neg (by omega), if_neg (by omega), if_neg (by omega), if_neg (by omega), if_neg (by omega), if_neg (by omega), ev _ (by omega)]
        show (if ct s 2 = ct s 2 then (0 : Int32) else s (58 + 10 * ct s 2 + k)) = _
        rw [if_pos rfl]
        exact (hz _ (by omega) (by omega)).symm
    · rw [if_neg (by omega), if_neg (by omega), if_neg (by omega), if_neg (by omega), if_neg (by omega), if_neg (by omega), if_neg (by omega), ev _ (by omega)]
      exact if_neg e
  · rw [ct_eq (ev 3 (by omega))]
    exact (h4.fs fr (n _ (by omega)) (n _ (by omega))).congr (fun r k hr hk => (ev _ (by omega)).symm)
  · rw [ct_eq (ev 4 (by omega))]
    exact (h5.fs fr (n _ (by omega)) (n _ (by omega))).congr (fun r k hr hk => (ev _ (by omega)).symm)
  · rw [(fr.1 50 (n _ (by omega))).1]
    exact fun k hk => (h6 k hk).trans (ev _ (by omega)).symm
  · rw [(fr.1 51 (n _ (by omega))).1, ct_eq (ev 7 (by omega))]
    exact fun k hk hk7 => (h7 k hk hk7).trans (ev _ (by omega)).symm
  · rw [(fr.1 47 (n _ (by omega))).1, ev 7 (by omega)]; exact h8
  · rw [(fr.1 47 (n _ (by omega))).1, ev 6 (by omega)]; exact h9
theorem rok_right {a0 a1 a2 a3 a4 a5 a6 : Nat} (R : Rok s) (hc : ct s 2 < 10) (h0 : a0 < ct s 1) (h15 : a1 ≤ a5) (h5 : a5 < ct s 0) (h2 : a2 ≤ 99) (h3 : a3 ≤ 999) (h4 : a4 ≤ 90) (h6 : a6 ≤ 100) (hd : ∀ r, r < ct s 2 → s (58 + 10 * r + 2) ≠ nI a2) : Rok (rgS s (rw7 (nI a0) (nI a1) (nI a2) (nI a3) (nI a4) (nI a5) (nI a6))) := by
  obtain ⟨⟨r0, ⟨r1, r1'⟩, r2, r3, r4, r6, r7, r7'⟩, ⟨r8, r14, r36, r48⟩, ⟨rr, rd⟩, rl, ro, rz⟩ := id R
  generalize hS : rgS s (rw7 (nI a0) (nI a1) (nI a2) (nI a3) (nI a4) (nI a5) (nI a6)) = S
  have ev : ∀ j, (j ≠ 2 ∧ ¬ (58 + 10 * ct s 2 ≤ j ∧ j < 58 + 10 * ct s 2 + 7)) → S j = s j := fun j hj => by rw [← hS]; exact rgS_n hj.1 hj.2
  have ey : ∀ i, i < 7 → S (58 + 10 * ct s 2 + i) = rw7 (nI a0) (nI a1) (nI a2) (nI a3) (nI a4) (nI a5) (nI a6) i := fun i hi => by rw [← hS]; exact rgS_y hi
  have e2 : S 2 = nI (ct s 2 + 1) := by rw [← hS, rgS_2, r2.1, nI_1]
  have c2 : ct S 2 = ct s 2 + 1 := ct_nI e2 (by omega)
  have h06 := r0.2
  have h38 := r3.2
  have h46 := r4.2
  have h5' := r1.2
  have c0 : ct S 0 = ct s 0 := ct_eq (ev 0 (by omega))
  have c1 : ct S 1 = ct s 1 := ct_eq (ev 1 (by omega))
  have c3 : ct S 3 = ct s 3 := ct_eq (ev 3 (by omega))
  have c4 : ct S 4 = ct s 4 := ct_eq (ev 4 (by omega))
  refine R.up (r0.eq (ev 0 (by omega))) (by omega) (r1.eq (ev 1 (by omega))) (by omega) (Or.inr c1) (Bn.mk e2 (by omega) (by decide)) (by omega) (r3.eq (ev 3 (by omega))) (r4.eq (ev 4 (by omega))) (r6.eq (ev 6 (by omega))) (r7.eq (ev 7 (by omega))) (by rw [ct_eq (ev 7 (by omega))]; exact r7') (fun q hq => (r8 q hq).eq (ev _ (by omega))) (fun q hq => (r14 q hq).eq (ev _ (by omega))) (fun k hk => (r36 k hk).eq (ev _ (by omega))) (fun k hk => (r48 k hk).eq (ev _ (by omega))) (fun r k hr hk => ev _ (by omega)) (fun r q1 q2 => ?_) (fun u v hu hv q => ?_) (fun l k hl hk => ev _ (by omega)) (fun l q1 q2 => by omega) (fun l k hl hk => ev _ (by omega)) (fun l q1 q2 => by omega) (fun j hj hz => ?_)
  · obtain rfl : r = ct s 2 := by omega
    have y0 : S (58 + 10 * ct s 2 + 0) = nI a0 := ey 0 (by decide)
    have y1 : S (58 + 10 * ct s 2 + 1) = nI a1 := ey 1 (by decide)
    have y5 : S (58 + 10 * ct s 2 + 5) = nI a5 := ey 5 (by decide)
    have d0 := ct_nI y0 (by omega)
    have d1 := ct_nI y1 (by omega)
    have d5 := ct_nI y5 (by omega)
    exact ⟨⟨by rw [d0]; exact y0, by omega⟩, ⟨by rw [d1]; exact y1, by omega⟩, ⟨by rw [d5]; exact y5, by omega⟩, Bn.mk (ey 3 (by decide)) h3 (by decide), Bn.mk (ey 4 (by decide)) h4 (by decide), Bn.mk (ey 6 (by decide)) h6 (by decide), Bn.mk (ey 2 (by decide)) h2 (by decide)⟩
  · have y2 : S (58 + 10 * ct s 2 + 2) = nI a2 := ey 2 (by decide)
    rw [c2] at hu hv
    by_cases eu : u = ct s 2
    · by_cases ew : v = ct s 2
      · omega
      · exfalso
        rw [eu, y2, ev _ (by omega)] at q
        exact hd v (by omega) q.symm
    · by_cases ew : v = ct s 2
      · exfalso
        rw [ew, y2, ev _ (by omega)] at q
        exact hd u (by omega) q
      · rw [ev _ (by omega), ev _ (by omega)] at q
        exact rd u v (by omega) (by omega) q
  · rw [c2] at hz
    rw [ev j (by omega)]
    exact rz j hj (by omega)
/-! the reference's row, number by number -/
theorem gm_putR {R : Nat → Int32} {A i : Nat} {v : Int32} (h : GM f n a (rgS0 s A R) q b μ) (hi : i < 7) (hA : A + i < 521) : Op (sI μ 297 (nI (A + i)) v) (fun μ' => GM f n a (rgS0 s A (upd R i v)) q b μ') := by
  have := gm_put (j := A + i) (v := v) h hA
  rw [rgS0_put hi] at this
  exact this
theorem gm_mgH {R : Nat → Int32} (hA : ct s 2 < 10) (h : GM f n a (rgS0 s (58 + 10 * ct s 2) R) q b μ) : Op (mgH μ) (GM f n a (rgS s R) q b) := by
  refine op_eb (gm_get h (j := 2) (by decide)) ?_
  rw [rgS0_n (by omega)]
  exact op_mb (gm_put (j := 2) h (by decide)) (fun m w => op_r w)
theorem mx_put2 {j : Nat} {v : Int32} (h : MX f n k o b μ) (hj : j < 521) (h2 : j ≠ 2) : Op (sI μ 297 (nI j) v) (fun μ' => MX f n k o b μ' ∧ μ'.1 297 2 = μ.1 297 2) := by
  obtain ⟨m, e, w⟩ := mx_put (v := v) h hj
  refine op_e e ⟨w, ?_⟩
  rw [sI_ok (k := j) rfl (by rw [ln297]; exact hj)] at e
  cases e
  rw [uI_eq]
  exact if_neg (fun z => h2 z.symm)
theorem mx_mgB1 {r : Nat} {v : Int32} (hB : BY f n) (hr : r < 10) (h : MX f n k o b μ) (h2 : μ.1 297 2 = nI r) : Op (mgB1 (nI r) (v, μ)) (MX f n k o b) := by
  refine op_eb (show F_X4_rightAt (nI r) 1 μ = some (nI (58 + 10 * r + 1)) from m_rt) ?_
  exact op_mb (mx_put2 h (by omega) (by omega)) (fun m w => mx_mgC hB hr w.1 (w.2.trans h2))
theorem mx_mgB {r : Nat} (hB : BY f n) (hr : r < 10) (h : MX f n k o b μ) (h2 : μ.1 297 2 = nI r) : Op (mgB (nI r) μ) (MX f n k o b) := op_eb ((m_reachHere (mx_get (j := 0) (by decide))).trans (mx_num h)) (mx_mgB1 hB hr h h2)
def mgC2 (r : Nat) (a1 : Int32) (z : Int32 × Mm) : Option Mm := (F_X4_priorityHere_10 z.1 qFuel (0 : Int32) z.2).bind fun o24 => (sI o24 297 (nI (58 + 10 * r + 2)) z.1).bind (mgE (nI r) a1)
theorem mgC_eq {r : Nat} {a1 : Int32} : mgC (nI r) a1 μ = (F_X4_number (1 : Int32) (99 : Int32) μ).bind (mgC2 r a1) := by
  unfold mgC
  rw [show F_X4_rightAt (nI r) 2 μ = some (nI (58 + 10 * r + 2)) from m_rt]
  unfold F_X4_priorityHere mgC2
  simp only [Option.bind_assoc, Option.bind_some]
theorem m_pri {c y : Nat} {u : Int32} {s1 : Nat → Int32} (h : GM f n a s1 q b μ) (h2 : s1 2 = nI c) (hc : c ≤ 10) (h18 : μ.1 295 18 = nI y) : ∀ (d m i : Nat), i + d = c → d < m → (∀ r, r < i → s1 (58 + 10 * r + 2) ≠ u) → Op (F_X4_priorityHere_10 u m (nI i) μ) (fun μ' => ((∀ r, r < c → s1 (58 + 10 * r + 2) ≠ u) → μ' = μ) ∧ ((¬ ∀ r, r < c → s1 (58 + 10 * r + 2) ≠ u) → MX f n 3 y b μ' ∧ μ'.1 297 = s1)) := by
  intro d
  induction d with
  | zero =>
    intro m i hi hm hq
    obtain ⟨m, rfl⟩ : ∃ z, m = z + 1 := ⟨m - 1, by omega⟩
    rw [F_X4_priorityHere_10]
    refine op_eb (gm_get h (j := 2) (by decide)) ?_
    rw [h2, if_pos (nI_le (by omega) (by omega))]
    exact op_r ⟨fun _ => rfl, fun w => absurd (fun r hr => hq r (by omega)) w⟩
  | succ d ih =>
    intro m i hi hm hq
    obtain ⟨m, rfl⟩ : ∃ z, m = z + 1 := ⟨m - 1, by omega⟩
    rw [F_X4_priorityHere_10]
    refine op_eb (gm_get h (j := 2) (by decide)) ?_
    rw [h2, if_neg (nI_ge (by omega) (by omega))]
    refine op_eb (show F_X4_rightAt (nI i) 2 μ = some (nI (58 + 10 * i + 2)) from m_rt) (op_eb (gm_get h (j := 58 + 10 * i + 2) (by omega)) ?_)
    rw [nI_1, h18]
    by_cases e : s1 (58 + 10 * i + 2) = u
    · rw [if_pos e]
      obtain ⟨m1, e1, w1⟩ := gm_fail (k := 3) (o := y) h ⟨by decide, by decide⟩
      obtain ⟨m2, e2, w2⟩ := m_fail0 (k := 3) (o := y) h.2.2.1.1
      have : m2 = m1 := by rw [e1] at e2; cases e2; rfl
      subst this
      have e297 : m2.1 297 = s1 := (w2.2.1.1 297 (by decide)).1.trans h.2.2.2.1
      refine op_b (op_eb e1 (op_r ?_))
      refine op_e (mx_pri w1 (by rw [e297]; exact h2) hc d m (i + 1) (by omega) (by omega)) ⟨fun w3 => absurd e (w3 i (by omega)), fun _ => ⟨w1, e297⟩⟩
    · rw [if_neg e]
      exact op_br (ih m (i + 1) (by omega) (by omega) (fun r hr => by
        by_cases e2 : r = i
        · rw [e2]; exact e
        · exact hq r (by omega)))
end RROW
