/-! ===== the reference: a month ===== -/
theorem srv_CRt {its r acc reach w price c : Nat} {st : Sg} (h : Cst st (c + 1)) (ha : Ars st r acc reach w) (hC : CRt st.1) : CRt (srv its r acc reach w price st).1 := by
  intro q hq
  rw [srv_56 h ha] at hq
  have h2 := h.1.2.2.1.2
  have hr := ha.1
  have e := srv_row (its := its) (price := price) h ha (q := q) (k := 1) (by omega) (by decide)
  by_cases e2 : q = ct st.1 56
  · rw [if_pos e2] at e
    have e' : (srv its r acc reach w price st).1 (242 + 8 * q + 1) = nI r := e
    rw [ct_nI e' (by omega)]
    exact ⟨e', by omega⟩
  · rw [if_neg e2] at e
    rw [ct_eq e, e]
    exact hC q (by omega)
def mstM (κ : Nat → Int32) (X : List (Nat → Int32)) (s : Nat → Int32) (g : Nat → Int64) (fl cut : Nat → Int32) : Sg := clG (mC κ (LSo s ++ X) (OSo s)) (ct s 2) (bgn (OSo s) s g fl cut)
/-- what a month asks of the reference's numbers -/
def Mon (s : Nat → Int32) : Prop := Mok s (LSo s) (OSo s) ∧ (Bn s 3 8 ∧ (Bn s 4 6 ∧ (Bn s 424 24 ∧ ∀ r, r < 10 → s (58 + 10 * r + 7) = nI (ct s (58 + 10 * r + 7)) ∧ ct s (58 + 10 * r + 7) < 2 ^ 30)))
section MST
variable {κ s fl cut : Nat → Int32} {X : List (Nat → Int32)} {g : Nat → Int64}
theorem Mon.bg (h : Mon s) : Bg (bgn (OSo s) s g fl cut) ∧ (∀ j, Sta j → (bgn (OSo s) s g fl cut).1 j = s j) := by
  obtain ⟨b1, b2, b3, b4, b5, b6, b7, b8⟩ := bgn_ok (g := g) (fl := fl) (cut := cut) h.1
  exact ⟨⟨b2, b1, b5, b6⟩, layS_sta h.1.1.1.2⟩
theorem Mon.lx (h : Mon s) (hX : Xtr κ s X) : LRows s (LSo s ++ X) ∧ (LSo s ++ X).length ≤ 9 := by
  refine ⟨fun row hr => (List.mem_append.mp hr).elim (h.1.2.2.1 row) (hX.rows row), ?_⟩
  have := hX.len
  have := h.2.1.2
  rw [List.length_append, show (LSo s).length = ct s 3 from rwT_len _ _]
  omega
theorem mstM_facts (h : Mon s) (hX : Xtr κ s X) (ht : Try κ s) : Cst (mstM κ X s g fl cut) 0 ∧ ((∀ j, Sta j → (mstM κ X s g fl cut).1 j = s j) ∧ (CRt (mstM κ X s g fl cut).1 ∧ Gro s (mstM κ X s g fl cut))) := by
  obtain ⟨hb, h0⟩ := h.bg (g := g) (fl := fl) (cut := cut)
  obtain ⟨hLX, hlen⟩ := h.lx hX
  obtain ⟨h1, h2, h3, h4, h5, h6, h7, h8⟩ := id h.1
  have hO := h5
  have hK := mC_keep (s0 := (bgn (OSo s) s g fl cut).1) ht hLX hO h0
  have e2 : ct (bgn (OSo s) s g fl cut).1 2 = ct s 2 := ct_eq (h0 2 Sta2)
  have h06 := h1.1.2
  have e : ∀ j, (j < 53 ∨ (58 ≤ j ∧ j < 158)) → (bgn (OSo s) s g fl cut).1 j = s j := fun j hj => layS_n h06 (by omega) (by omega)
  have e56 : ct (bgn (OSo s) s g fl cut).1 56 = 0 := ct_nI (hb.2.2.2.trans nI_0.symm) (by decide)
  obtain ⟨i1, i2⟩ := clG_inv hb hlen hK (ct s 2) (by omega)
  refine ⟨i1.less (Nat.zero_le _), fun j hj => (i2 j hj).trans (h0 j hj), ?_, ?_⟩
  · refine clG_ind (P := fun st => CRt st.1) hb hlen hK (fun r st c hr hc hs hp => mC_ind (P := fun st => CRt st.1) (fun its r acc reach w price c st hc ha hp => srv_CRt hc ha hp) (fun st r hp => hp) ht hLX hO (by omega) (fun j hj => (hs j hj).trans (h0 j hj)) hc hp) (fun c hc => ?_) (ct s 2) (by omega)
    rw [e56] at hc
    omega
  · have hs : (∀ a, a < 5 → ct s (26 + a) < 2 ^ 29) ∧ ∀ r, r < 10 → ct s (58 + 10 * r + 7) < 2 ^ 30 := ⟨fun a ha => (h7.2 a ha).2.2, fun r hr => (h.2.2.2.2 r hr).2⟩
    refine clG_ind (P := Gro s) hb hlen hK (fun r st c hr hc hs2 hp => mC_ind (P := Gro s) (fun its r acc reach w price c st hc ha hp => srv_gro hs hc ha hp) (fun st r hp => hp) ht hLX hO (by omega) (fun j hj => (hs2 j hj).trans (h0 j hj)) hc hp) ⟨fun a ha => ?_, ?_, fun r hr => ?_⟩ (ct s 2) (by omega)
    · have := e (26 + a) (by omega)
      rw [ct_eq this, this]
      exact ⟨(h7.2 a ha).1, by omega⟩
    · unfold bsum
      rw [ct_eq (e 26 (by omega)), ct_eq (e 27 (by omega)), ct_eq (e 28 (by omega)), ct_eq (e 29 (by omega)), ct_eq (e 30 (by omega))]
      omega
    · have := e (58 + 10 * r + 7) (by omega)
      rw [ct_eq this, this]
      exact ⟨(h.2.2.2.2 r hr).1, by omega⟩
/-- no right is tried: the month of the class, with the further lease -/
theorem mstM_mst (h : Mon s) (hX : Xtr κ s X) (ht : ∀ r, r < ct s 2 → nI r ≠ κ 22) : mstM κ X s g fl cut = mst (LSo s ++ X) (OSo s) (silP (κ 26)) s g fl cut := by
  obtain ⟨hb, h0⟩ := h.bg (g := g) (fl := fl) (cut := cut)
  obtain ⟨hLX, hlen⟩ := h.lx hX
  have hO := h.1.2.2.2.2.1
  have hK := mC_keep (s0 := (bgn (OSo s) s g fl cut).1) (Or.inl ht) hLX hO h0
  have e2 : ct (bgn (OSo s) s g fl cut).1 2 = ct s 2 := ct_eq (h0 2 Sta2)
  unfold mstM mst
  rw [← clG_clA]
  refine clG_congr hb hlen hK (fun r st hr => ?_) (ct s 2) (by omega)
  unfold mC clS silP
  by_cases e : nI r = κ 26
  · rw [if_pos e, if_pos (decide_eq_true e)]
  · rw [if_neg e, if_neg (ht r (by omega)), if_neg (by rw [decide_eq_true_eq]; exact e)]
end MST
def en3 (M : Sg) (D : List (Nat → Int32)) : Nat → Int32 := upd (lcS (cutS M.1 M.2.2.2 (ct M.1 2)) D) 3 (nI D.length)
def enS (M : Sg) (D : List (Nat → Int32)) : Nat → Int32 := upd (upd (flS (bkS (en3 M D) (ct M.1 1)) M.2.2.1 (ct M.1 0)) 5 (M.1 5 + 1)) 57 1
def reS (t : Nat → Int32) (a1 a2 a3 : Int32) : Nat → Int32 := upd (upd (upd (upd (upd (shS t 428) 425 (t 5 - 1)) 426 a1) 427 a2) 428 a3) 424 (nI (if ct t 424 < 24 then ct t 424 + 1 else 24))
theorem en3_n {M : Sg} {D : List (Nat → Int32)} {j : Nat} (hD : D.length ≤ 8) (hn : ct M.1 2 ≤ 10) (h1 : j ≠ 3) (h2 : ¬ (158 ≤ j ∧ j < 206)) (h3 : ¬ (58 ≤ j ∧ j < 158 ∧ (j - 58) % 10 = 9)) : en3 M D j = M.1 j := by
  unfold en3
  rw [pk_un h1]
  unfold lcS
  rw [if_neg (by omega)]
  unfold cutS
  by_cases e : 58 ≤ j ∧ j < 58 + 10 * ct M.1 2 ∧ (j - 58) % 10 = 9
  · rw [if_pos e]
    exact absurd e (by omega)
  · rw [if_neg e]
