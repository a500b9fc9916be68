/-! ===== the reference: a month ===== -/
theorem srv_CRt {its r acc reach w price c : Nat} {st : Sg} (h : Cst st (c + 1)) (ha : Ars st r acc reach w) (hC : CRt st.1) : CRt (srv its r acc reach w price st).1 := by
  intro q hq
  rw [srv_56 h ha] at hq
  have h2 := h.1.2.2.1.2
  have hr := ha.1
  have e := srv_row (its := its) (price := price) h ha (q := q) (k := 1) (by omega) (by decide)
  by_cases e2 : q = ct st.1 56
  · rw [if_pos e2] at e
    have e' : (srv its r acc reach w price st).1 (242 + 8 * q + 1) = nI r := e
    rw [ct_nI e' (by omega)]
    exact ⟨e', by omega⟩
  · rw [if_neg e2] at e
    rw [ct_eq e, e]
    exact hC q (by omega)
def mstM (κ : Nat → Int32) (X : List (Nat → Int32)) (s : Nat → Int32) (g : Nat → Int64) (fl cut : Nat → Int32) : Sg := clG (mC κ (LSo s ++ X) (OSo s)) (ct s 2) (bgn (OSo s) s g fl cut)
/-- what a month asks of the reference's numbers -/
def Mon (s : Nat → Int32) : Prop := Mok s (LSo s) (OSo s) ∧ (Bn s 3 8 ∧ (Bn s 4 6 ∧ (Bn s 424 24 ∧ ∀ r, r < 10 → s (58 + 10 * r + 7) = nI (ct s (58 + 10 * r + 7)) ∧ ct s (58 + 10 * r + 7) < 2 ^ 30)))
section MST
variable {κ s fl cut : Nat → Int32} {X : List (Nat → Int32)} {g : Nat → Int64}
theorem Mon.bg (h : Mon s) : Bg (bgn (OSo s) s g fl cut) ∧ (∀ j, Sta j → (bgn (OSo s) s g fl cut).1 j = s j) := by
  obtain ⟨b1, b2, b3, b4, b5, b6, b7, b8⟩ := bgn_ok (g := g) (fl := fl) (cut := cut) h.1
  exact ⟨⟨b2, b1, b5, b6⟩, layS_sta h.1.1.1.2⟩
theorem Mon.lx (h : Mon s) (hX : Xtr κ s X) : LRows s (LSo s ++ X) ∧ (LSo s ++ X).length ≤ 9 := by
  refine ⟨fun row hr => (List.mem_append.mp hr).elim (h.1.2.2.1 row) (hX.rows row), ?_⟩
  have := hX.len
  have := h.2.1.2
  rw [List.length_append, show (LSo s).length = ct s 3 from rwT_len _ _]
  omega
theorem mstM_facts (h : Mon s) (hX : Xtr κ s X) (ht : Try κ s) : Cst (mstM κ X s g fl cut) 0 ∧ ((∀ j, Sta j → (mstM κ X s g fl cut).1 j = s j) ∧ (CRt (mstM κ X s g fl cut).1 ∧ Gro s (mstM κ X s g fl cut))) := by
  obtain ⟨hb, h0⟩ := h.bg (g := g) (fl := fl) (cut := cut)
  obtain ⟨hLX, hlen⟩ := h.lx hX
  obtain ⟨h1, h2, h3, h4, h5, h6, h7, h8⟩ := id h.1
  have hO := h5
  have hK := mC_keep (s0 := (bgn (OSo s) s g fl cut).1) ht hLX hO h0
  have e2 : ct (bgn (OSo s) s g fl cut).1 2 = ct s 2 := ct_eq (h0 2 Sta2)
  have h06 := h1.1.2
  have e : ∀ j, (j < 53 ∨ (58 ≤ j ∧ j < 158)) → (bgn (OSo s) s g fl cut).1 j = s j := fun j hj => layS_n h06 (by omega) (by omega)
  have e56 : ct (bgn (OSo s) s g fl cut).1 56 = 0 := ct_nI (hb.2.2.2.trans nI_0.symm) (by decide)
  obtain ⟨i1, i2⟩ := clG_inv hb hlen hK (ct s 2) (by omega)
  refine ⟨i1.less (Nat.zero_le _), fun j hj => (i2 j hj).trans (h0 j hj), ?_, ?_⟩
  · refine clG_ind (P := fun st => CRt st.1) hb hlen hK (fun r st c hr hc hs hp => mC_ind (P := fun st => CRt st.1) (fun its r acc reach w price c st hc ha hp => srv_CRt hc ha hp) (fun st r hp => hp) ht hLX hO (by omega) (fun j hj => (hs j hj).trans (h0 j hj)) hc hp) (fun c hc => ?_) (ct s 2) (by omega)
    rw [e56] at hc
    omega
  · have hs : (∀ a, a < 5 → ct s (26 + a) < 2 ^ 29) ∧ ∀ r, r < 10 → ct s (58 + 10 * r + 7) < 2 ^ 30 := ⟨fun a ha => (h7.2 a ha).2.2, fun r hr => (h.2.2.2.2 r hr).2⟩
    refine clG_ind (P := Gro s) hb hlen hK (fun r st c hr hc hs2 hp => mC_ind (P := Gro s) (fun its r acc reach w price c st hc ha hp => srv_gro hs hc ha hp) (fun st r hp => hp) ht hLX hO (by omega) (fun j hj => (hs2 j hj).trans (h0 j hj)) hc hp) ⟨fun a ha => ?_, ?_, fun r hr => ?_⟩ (ct s 2) (by omega)
    · have := e (26 + a) (by omega)
      rw [ct_eq this, this]
      exact ⟨(h7.2 a ha).1, by omega⟩
    · unfold bsum
      rw [ct_eq (e 26 (by omega)), ct_eq (e 27 (by omega)), ct_eq (e 28 (by omega)), ct_eq (e 29 (by omega)), ct_eq (e 30 (by omega))]
      omega
    · have := e (58 + 10 * r + 7) (by omega)
      rw [ct_eq this, this]
      exact ⟨(h.2.2.2.2 r hr).1, by omega⟩
/-- no right is tried: the month of the class, with the further lease -/
theorem mstM_mst (h : Mon s) (hX : Xtr κ s X) (ht : ∀ r, r < ct s 2 → nI r ≠ κ 22) : mstM κ X s g fl cut = mst (LSo s ++ X) (OSo s) (silP (κ 26)) s g fl cut := by
  obtain ⟨hb, h0⟩ := h.bg (g := g) (fl := fl) (cut := cut)
  obtain ⟨hLX, hlen⟩ := h.lx hX
  have hO := h.1.2.2.2.2.1
  have hK := mC_keep (s0 := (bgn (OSo s) s g fl cut).1) (Or.inl ht) hLX hO h0
  have e2 : ct (bgn (OSo s) s g fl cut).1 2 = ct s 2 := ct_eq (h0 2 Sta2)
  unfold mstM mst
  rw [← clG_clA]
  refine clG_congr hb hlen hK (fun r st hr => ?_) (ct s 2) (by omega)
  unfold mC clS silP
  by_cases e : nI r = κ 26
  · rw [if_pos e, if_pos (decide_eq_true e)]
  · rw [if_neg e, if_neg (ht r (by omega)), if_neg (by rw [decide_eq_true_eq]; exact e)]
end MST
def en3 (M : Sg) (D : List (Nat → Int32)) : Nat → Int32 := upd (lcS (cutS M.1 M.2.2.2 (ct M.1 2)) D) 3 (nI D.length)
def enS (M : Sg) (D : List (Nat → Int32)) : Nat → Int32 := upd (upd (flS (bkS (en3 M D) (ct M.1 1)) M.2.2.1 (ct M.1 0)) 5 (M.1 5 + 1)) 57 1
def reS (t : Nat → Int32) (a1 a2 a3 : Int32) : Nat → Int32 := upd (upd (upd (upd (upd (shS t 428) 425 (t 5 - 1)) 426 a1) 427 a2) 428 a3) 424 (nI (if ct t 424 < 24 then ct t 424 + 1 else 24))
theorem en3_n {M : Sg} {D : List (Nat → Int32)} {j : Nat} (hD : D.length ≤ 8) (hn : ct M.1 2 ≤ 10) (h1 : j ≠ 3) (h2 : ¬ (158 ≤ j ∧ j < 206)) (h3 : ¬ (58 ≤ j ∧ j < 158 ∧ (j - 58) % 10 = 9)) : en3 M D j = M.1 j := by
  unfold en3
  rw [pk_un h1]
  unfold lcS
  rw [if_neg (by omega)]
  unfold cutS
  by_cases e : 58 ≤ j ∧ j < 58 + 10 * ct M.1 2 ∧ (j - 58) % 10 = 9
  · rw [if_pos e]
    exact absurd e (by omega)
  · rw [if_neg e]
theorem m_ends {μ : Mm} {M : Sg} {s : Nat → Int32} (h : μ.1 296 = cutS M.1 M.2.2.2 (ct M.1 2)) (h2 : μ.1 307 = M.2.2.1) (hn : ct M.1 2 ≤ 10) (hs : ∀ j, Sta j → M.1 j = s j) (h3 : Bn s 3 8) (h0 : Bn s 0 6) (h1 : Bn s 1 5) (h6 : Bn s 6 50) (hB : ∀ a, a < ct s 1 → M.1 (26 + a) = nI (ct M.1 (26 + a)) ∧ ct M.1 (26 + a) * ct s 6 + 99 < 2 ^ 31) : Op (F_X4_endsMonth μ) (fun μ' => μ'.1 296 = enS M (decL (LSo s)) ∧ Fs F296 μ μ') := by
  have h38 := h3.2
  have h15 := h1.2
  have h06 := h0.2
  have c : ∀ j, ¬ (58 ≤ j ∧ j < 158) → cutS M.1 M.2.2.2 (ct M.1 2) j = M.1 j := fun j hj => by
    unfold cutS
    rw [if_neg (by omega)]
  have e3 : ct (cutS M.1 M.2.2.2 (ct M.1 2)) 3 = ct s 3 := ct_eq ((c 3 (by omega)).trans (hs 3 (Or.inl (by decide))))
  have hl0 : μ.1 296 = lcS (cutS M.1 M.2.2.2 (ct M.1 2)) [] := by
    rw [h]
    funext j
    unfold lcS
    rw [if_neg (by rw [List.length_nil]; omega)]
  have hLS : rwT (cutS M.1 M.2.2.2 (ct M.1 2)) 158 0 (ct s 3) = LSo s := rwT_eq _ _ (fun r k _ hr hk => (c _ (by omega)).trans (hs _ (StaL (by omega))))
  have hD : (decL (LSo s)).length ≤ 8 := by
    have := decL_len (LSo s)
    rw [show (LSo s).length = ct s 3 from rwT_len _ _] at this
    omega
  unfold F_X4_endsMonth
  refine op_mb (m_4 (s := cutS M.1 M.2.2.2 (ct M.1 2)) (h3.eq ((c 3 (by omega)).trans (hs 3 (Or.inl (by decide))))) (ct s 3) qFuel 0 [] μ (by omega) (by unfold qFuel; omega) (Nat.le_refl 0) hl0) (fun o w => ?_)
  rw [List.nil_append, hLS] at w
  obtain ⟨w1, w2, w3⟩ := w
  rw [w1]
  refine op_mb (ms (k := 3) rfl (by decide)) (fun m2 v2 => ?_)
  have q2 : m2.1 296 = bkS (en3 M (decL (LSo s))) 0 := by
    rw [v2.1, w2, bkS0]
    rfl
  have n3 : ∀ j, j ≠ 3 → ¬ (158 ≤ j ∧ j < 206) → ¬ (58 ≤ j ∧ j < 158 ∧ (j - 58) % 10 = 9) → en3 M (decL (LSo s)) j = M.1 j := fun j a b d => en3_n hD hn a b d
  have f1 : en3 M (decL (LSo s)) 1 = s 1 := (n3 1 (by omega) (by omega) (by omega)).trans (hs 1 Sta1)
  have f6 : en3 M (decL (LSo s)) 6 = s 6 := (n3 6 (by omega) (by omega) (by omega)).trans (hs 6 (Or.inl (by decide)))
  have f0 : en3 M (decL (LSo s)) 0 = s 0 := (n3 0 (by omega) (by omega) (by omega)).trans (hs 0 Sta0)
  refine op_mb (m_103 (s := en3 M (decL (LSo s))) (h1.eq f1) (h6.eq f6) (fun a ha => ?_) (ct s 1) qFuel 0 m2 (by rw [ct_eq f1]; omega) (by unfold qFuel; omega) q2) (fun m3 v3 => ?_)
  · rw [ct_eq f1] at ha
    have fa := n3 (26 + a) (by omega) (by omega) (by omega)
    rw [ct_eq fa, ct_eq f6, fa]
    exact hB a ha
  have g0 : bkS (en3 M (decL (LSo s))) (ct s 1) 0 = s 0 := by
    unfold bkS
    rw [if_neg (by omega), if_neg (by omega)]
    exact f0
  have v31 := v3.1
  rw [ct_eq f1] at v31
  have fr := (w3.tr v2.2).tr v3.2
  refine op_mb (m_169 (s := bkS (en3 M (decL (LSo s))) (ct s 1)) (fl := M.2.2.1) (h0.eq g0) (ct s 0) qFuel 0 m3 (by rw [ct_eq g0]; omega) (by unfold qFuel; omega) ?_ ((fr.1 307 (by decide)).1.trans h2)) (fun m4 v4 => ?_)
  · rw [v31]
    funext j
    unfold flS
    rw [if_neg (by omega), if_neg (by omega)]
  have v41 := v4.1
  rw [ct_eq g0] at v41
  have e5 : m4.1 296 5 = M.1 5 := by
    rw [v41]
    unfold flS
    rw [if_neg (by omega), if_neg (by omega)]
    unfold bkS
    rw [if_neg (by omega), if_neg (by omega)]
    exact n3 5 (by omega) (by omega) (by omega)
  refine op_eb (mg (k := 5) rfl (by decide)) ?_
  rw [e5]
  refine op_mb (ms (k := 5) rfl (by decide)) (fun m5 v5 => ?_)
  refine op_mb (ms (k := 57) rfl (by decide)) (fun m6 v6 => op_r ⟨?_, (((fr.tr v4.2).tr v5.2).tr v6.2)⟩)
  rw [v6.1, v5.1, v41]
  unfold enS
  rw [ct_eq (hs 0 Sta0), ct_eq (hs 1 Sta1)]
