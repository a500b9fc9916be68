/-! ===== a month, as the law sees it ===== -/
theorem srv_g1 {its r acc reach w price c : Nat} {st : Sg} (h : Cst st (c + 1)) (ha : Ars st r acc reach w) {q : Nat} (hq : q < 6) : (srv its r acc reach w price st).1 (394 + 5 * q + 1) = st.1 (394 + 5 * q + 1) := by
  obtain ⟨a1, a2, a3, a4⟩ := ha
  have h15 := h.1.2.1.2
  have h210 := h.1.2.2.1.2
  have hf := (h.1.2.2.2.2.2 r a1).1.2
  have h19 := h.2.2.2
  refine (srvS_gau (its := its) (w := w) (reach := reach) (by omega) (by omega) (by omega) (by omega) hq (k := 1) (by decide)).trans ?_
  rw [if_neg (by omega), if_neg (by omega)]
/-- what the law finds behind a month -/
def MoOk (s s' : Nat → Int32) (all : Int32) : Prop := ∃ (Fw : Nat → Nat → Int32) (ri : Nat → Nat),
  (s' 57 = 1 ∧ (s' 5 = s 5 + 1 ∧ (ct s' 0 = ct s 0 ∧ ct s' 56 ≤ 19))) ∧ ((∀ q, q < ct s 0 → s' (394 + 5 * q + 1) = sumF (comN s) (q + 1) ∧ (Fw 0 q = sumF (comN s) (q + 1) ∧ s' (394 + 5 * q + 2) = Fw (ct s' 56) q)) ∧ (all = sumF (fun c => s' (242 + 8 * c + 5)) (ct s' 56) ∧
  ∀ c, c < ct s' 56 → FitC s' (cRow s' c) (Fw c) (Fw (c + 1)) ∧ (s' (242 + 8 * c + 1) = nI (ri c) ∧ (ri c < ct s' 2 ∧ (¬ s' (58 + 10 * ri c + 2) < 0 ∧ (0 < c → ¬ s' (58 + 10 * ri c + 2) < s' (58 + 10 * ri (c - 1) + 2)))))))
theorem ev_mo {T : Nat} {st : Sg} (h : Ok T st.1) (hT : T ≤ 20000) : MoOk st.1 (ev (-1) st).1 (evS (-1) st) := by
  have hm := h.mon hT
  obtain ⟨h1, h2, h3, h4, h5, h6, h7, h8⟩ := id hm.1
  have h06 := h1.1.2
  have h15 := h1.2.1.2
  have h210 := h1.2.2.1.2
  obtain ⟨b1, b2, b3, b4, b5, b6, b7, b8⟩ := bgn_ok (g := st.2.1) (fl := st.2.2.1) (cut := st.2.2.2) hm.1
  have C := clA_chn (sil := silP (-1)) b2 b1 b5 b6 b3 h4 b4 (ct st.1 2) (by omega)
  have G1 := clA_ind (P := fun x => ∀ q, q < 6 → x.1 (394 + 5 * q + 1) = (bgn (OSo st.1) st.1 st.2.1 st.2.2.1 st.2.2.2).1 (394 + 5 * q + 1)) (LS := LSo st.1) (OS := OSo st.1) (sil := silP (-1)) (st0 := bgn (OSo st.1) st.1 st.2.1 st.2.2.1 st.2.2.2) (fun its r acc reach w price c x hc ha hp q hq => (srv_g1 hc ha hq).trans (hp q hq)) (fun x r hp => hp) b2 b1 b5 b6 b3 h4 b4 (fun _ _ => rfl) (ct st.1 2) (by omega)
  obtain ⟨I, hsta⟩ := mst_facts (sil := silP (-1)) (g := st.2.1) (fl := st.2.2.1) (cut := st.2.2.2) hm.1
  have C : Chn (layS st.1) (layF st.1 st.2.2.1) (ct st.1 2) (mst (LSo st.1) (OSo st.1) (silP (-1)) st.1 st.2.1 st.2.2.1 st.2.2.2) := C
  have G1 : ∀ q, q < 6 → (mst (LSo st.1) (OSo st.1) (silP (-1)) st.1 st.2.1 st.2.2.1 st.2.2.2).1 (394 + 5 * q + 1) = layS st.1 (394 + 5 * q + 1) := G1
  show MoOk st.1 (fiS (mst (LSo st.1) (OSo st.1) (silP (-1)) st.1 st.2.1 st.2.2.1 st.2.2.2) (decL (LSo st.1))) (sumM (mst (LSo st.1) (OSo st.1) (silP (-1)) st.1 st.2.1 st.2.2.1 st.2.2.2))
  generalize mst (LSo st.1) (OSo st.1) (silP (-1)) st.1 st.2.1 st.2.2.1 st.2.2.2 = M at C G1 I hsta ⊢
  have n0 : ct M.1 0 = ct st.1 0 := ct_eq (hsta 0 Sta0)
  have n1 : ct M.1 1 = ct st.1 1 := ct_eq (hsta 1 Sta1)
  have n2 : ct M.1 2 = ct st.1 2 := ct_eq (hsta 2 Sta2)
  have hD : (decL (LSo st.1)).length ≤ 8 := by
    have := decL_len (LSo st.1)
    rw [show (LSo st.1).length = ct st.1 3 from rwT_len _ _] at this
    have := hm.2.1.2
    omega
  have h19 : ct M.1 56 ≤ 19 := by
    have := I.1.2.2.2
    omega
  have vis : ∀ j, (j < 521 ∧ (j ≠ 3 ∧ (¬ (158 ≤ j ∧ j < 206) ∧ (¬ (58 ≤ j ∧ j < 158 ∧ (j - 58) % 10 = 9) ∧ (j ≠ 57 ∧ ¬ (394 ≤ j ∧ j < 424 ∧ (j - 394) % 5 = 2)))))) → fiS M (decL (LSo st.1)) j = finC M j := fun j hj => fiS_vis hD (by omega) (by omega) (by omega) hj.1 hj.2.1 hj.2.2.1 hj.2.2.2.1 hj.2.2.2.2.1 hj.2.2.2.2.2
  have fM : ∀ j, (j < 424 ∧ (j ≠ 5 ∧ (¬ (20 ≤ j ∧ j < 31) ∧ j ≠ 54))) → finC M j = M.1 j := fun j hj => by
    rw [finC_lo hj.1 (by omega) (by omega), if_neg hj.2.1, if_neg (by omega), if_neg (by omega), if_neg hj.2.2.2]
  have e56 : ct (fiS M (decL (LSo st.1))) 56 = ct M.1 56 := ct_eq ((vis 56 (by omega)).trans (fM 56 (by omega)))
  have e5 : fiS M (decL (LSo st.1)) 5 = st.1 5 + 1 := by
    rw [vis 5 (by omega), finC_lo (by decide) (by omega) (by omega), if_pos rfl, hsta 5 Sta5]
  have stL : ∀ j, ((j < 20 ∧ (j ≠ 3 ∧ j ≠ 5)) ∨ (58 ≤ j ∧ (j < 158 ∧ (j - 58) % 10 < 7))) → fiS M (decL (LSo st.1)) j = layS st.1 j := fun j hj => by
    rw [vis j (by omega), fM j (by omega)]
    exact C.1 j (by unfold Sta; omega)
  have e0 : ct (fiS M (decL (LSo st.1))) 0 = ct (layS st.1) 0 := ct_eq (stL 0 (by omega))
  have e2 : ct (fiS M (decL (LSo st.1))) 2 = ct (layS st.1) 2 := ct_eq (stL 2 (by omega))
  have l0 : ct (layS st.1) 0 = ct st.1 0 := ct_eq (layS_sta h06 0 Sta0)
  have l2 : ct (layS st.1) 2 = ct st.1 2 := ct_eq (layS_sta h06 2 Sta2)
  have row : ∀ c k, c < 19 → k < 8 → fiS M (decL (LSo st.1)) (242 + 8 * c + k) = M.1 (242 + 8 * c + k) := fun c k hc hk => by
    rw [vis _ (by omega), fM _ (by omega)]
  obtain ⟨-, Fw, ri, f0, f1, f2⟩ := C
  refine ⟨Fw, ri, ⟨fiS_57, e5, by rw [e0, l0], by rw [e56]; exact h19⟩, fun q hq => ⟨?_, ?_, ?_⟩, ?_, fun c hc => ?_⟩
  · rw [vis _ (by omega), fM _ (by omega), G1 q (by omega), layS_g hq (by decide), if_neg (by decide), if_pos rfl]
  · rw [f0]
    exact if_pos hq
  · rw [fiS_gau (by omega) (by omega), e56, f1]
  · rw [e56]
    exact sumF_congr _ (fun c hc => (row c 5 (by omega) (by decide)).symm)
  · rw [e56] at hc
    obtain ⟨a1, a2, a3, a4, a5⟩ := f2 c hc
    have hri : ri c < ct st.1 2 := by omega
    have pr : ∀ r, r < ct st.1 2 → fiS M (decL (LSo st.1)) (58 + 10 * r + 2) = layS st.1 (58 + 10 * r + 2) := fun r hr => stL _ (by omega)
    refine ⟨(a1.congr (R' := cRow (fiS M (decL (LSo st.1))) c) (fun k hk => row c k (by omega) hk)).fit e0 e2 (fun q hq => ct_eq (stL _ (by omega))) (fun r k hr hk => ct_eq (stL _ (by omega))) (by omega) (by omega), (row c 1 (by omega) (by decide)).trans a2, by omega, ?_, fun hc0 => ?_⟩
    · rw [pr _ hri]
      have := (b1.2.2.2.2.2 (ri c) (by omega)).2.2.2.2.2.2
      have e : layS st.1 (58 + 10 * ri c + 2) = nI (ct (layS st.1) (58 + 10 * ri c + 2)) := this.1
      have e2' : ct (layS st.1) (58 + 10 * ri c + 2) ≤ 99 := this.2
      rw [e]
      exact nI_pos (by omega)
    · obtain ⟨-, -, c3, -, -⟩ := f2 (c - 1) (by omega)
      rw [pr _ hri, pr _ (by omega)]
      intro z
      have := rk_of_lt (s := layS st.1) (a := ri c) (b := ri (c - 1)) (by omega) z
      have := a5 hc0
      omega
