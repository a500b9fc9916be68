/-! ===== a month keeps what is sure ===== -/
theorem loss_le {b L : Nat} (hL : L ≤ 50) : (b * L + 99) / 100 ≤ b := by
  have : b * L ≤ b * 50 := Nat.mul_le_mul_left _ hL
  omega
theorem y_le (y : Nat) (hy : y ≤ 100) : (200 - y) * y ≤ 10000 := by
  have key : ∀ y, y < 101 → (200 - y) * y ≤ 10000 := by decide
  exact key y (by omega)
theorem loss_bd {b c L : Nat} (hL : L ≤ 50) (hb : b * L ≤ 1898100) (hc : c ≤ b + 18981) : (c - (c * L + 99) / 100) * L ≤ 1898100 := by
  have h1 : c * L ≤ b * L + 18981 * L := by rw [← Nat.add_mul]; exact Nat.mul_le_mul_right _ hc
  have h2 : c * L ≤ 18981 * (100 + L) := by rw [Nat.mul_add]; omega
  have h3 : c * L ≤ (c * L + 99) / 100 * 100 := by omega
  generalize hl : (c * L + 99) / 100 = l at h3 ⊢
  generalize hp : c * L = p at h2 h3
  rw [Nat.sub_mul, hp]
  have h4 : p * L ≤ l * 100 * L := Nat.mul_le_mul_right _ h3
  have h5 : l * 100 * L = 100 * (l * L) := by rw [Nat.mul_comm l 100, Nat.mul_assoc]
  obtain ⟨y, hy, hy2⟩ : ∃ y, L + y = 100 ∧ 100 + L = 200 - y := ⟨100 - L, by omega, by omega⟩
  have h6 : p * y ≤ 18981 * (100 + L) * y := Nat.mul_le_mul_right _ h2
  have h7 : (100 + L) * y ≤ 10000 := by rw [hy2]; exact y_le y (by omega)
  have h8 : 18981 * (100 + L) * y = 18981 * ((100 + L) * y) := Nat.mul_assoc _ _ _
  have h9 : p * L + p * y = p * 100 := by rw [← Nat.mul_add, hy]
  omega
theorem decL_mem : ∀ {L : List (Nat → Int32)} {row : Nat → Int32}, row ∈ decL L → ∃ r0, r0 ∈ L ∧ row = decR r0 := by
  intro L
  induction L with
  | nil => intro row h; cases h
  | cons a L ih =>
    intro row h
    rw [decL] at h
    by_cases e : 0 < a 5 + (-1)
    · rw [if_pos e] at h
      rcases List.mem_cons.mp h with rfl | h
      · exact ⟨a, List.mem_cons_self, rfl⟩
      · obtain ⟨r0, h1, h2⟩ := ih h
        exact ⟨r0, List.mem_cons_of_mem _ h1, h2⟩
    · rw [if_neg e] at h
      obtain ⟨r0, h1, h2⟩ := ih h
      exact ⟨r0, List.mem_cons_of_mem _ h1, h2⟩
theorem LRow.dec {s row : Nat → Int32} (h : LRow s row) : LRow s (decR row) := h
section IND2
variable {r : Nat} {P : Sg → Prop}
theorem clL_ind2 (hP : ∀ its acc reach w price c st, its ≤ 2 → Cst st (c + 1) → Ars st r acc reach w → P st → P (srv its r acc reach w price st)) : ∀ (L : List (Nat → Int32)) (st : Sg) (left c : Nat), Cst st (c + cntR r L) → r < ct st.1 2 → LRows st.1 L → left ≤ 999 → P st → P (clL r L (st, left)).1 := by
  intro L
  induction L with
  | nil => intro st left c h _ _ _ hp; exact hp
  | cons row L ih =>
    intro st left c h hr hL hl hp
    have hrow := hL row List.mem_cons_self
    rw [clL]
    by_cases e : ct row 0 = r
    · rw [if_pos e]
      rw [cntR, if_pos e] at h
      have h' : Cst st ((c + cntR r L) + 1) := h.less (by omega)
      have hv : (if left < ct row 3 then left else ct row 3) ≤ left := by split <;> omega
      have ha : Ars st r (ct row 1) (ct row 2) (wout st.1 r (if left < ct row 3 then left else ct row 3)) := ⟨hr, hrow.1.2.1.2, hrow.1.2.2.2, wout_le (by omega)⟩
      obtain ⟨k1, k2⟩ := h'.srv (its := 1) (price := ct row 4) ha
      exact ih _ _ c k1 (by rw [ct_eq (k2 2 Sta2)]; exact hr) (LRows.sta (fun row' hr' => hL row' (List.mem_cons_of_mem _ hr')) k2) (by show left - _ ≤ 999; omega) (hP _ _ _ _ _ _ st (by decide) h' ha hp)
    · rw [if_neg e]
      rw [cntR, if_neg e, Nat.zero_add] at h
      exact ih st left c h hr (fun row' hr' => hL row' (List.mem_cons_of_mem _ hr')) hl hp
theorem clE_ind2 (hP : ∀ its acc reach w price c st, its ≤ 2 → Cst st (c + 1) → Ars st r acc reach w → P st → P (srv its r acc reach w price st)) {OS : List (Nat → Int32)} {st : Sg} {left c : Nat} (h : Cst st (c + 1)) (hr : r < ct st.1 2) (hO : ORows st.1 OS) (hl : left ≤ 999) (hp : P st) : P (clE OS r (st, left)) := by
  unfold clE
  show P ((oby st.1 r OS).elim (srv 0 r (ct st.1 (58 + 10 * r + 0)) (ct st.1 (58 + 10 * r + 1)) left 0 st) (fun row => srv 2 r (ct row 1) (ct row 2) (wout st.1 r left) (ct row 5) st))
  have hf := h.1.2.2.2.2.2 r hr
  cases e : oby st.1 r OS with
  | none => exact hP _ _ _ _ _ _ st (by decide) h ⟨hr, hf.1.2, Nat.lt_of_le_of_lt hf.2.1.2 hf.2.2.1.2, hl⟩ hp
  | some row =>
    have hrow := hO row (oby_mem e).1
    exact hP _ _ _ _ _ _ st (by decide) h ⟨hr, hrow.1.2.1.2, hrow.1.2.2.2, wout_le hl⟩ hp
theorem clR_ind2 (hP : ∀ its acc reach w price c st, its ≤ 2 → Cst st (c + 1) → Ars st r acc reach w → P st → P (srv its r acc reach w price st)) {LS OS : List (Nat → Int32)} {st : Sg} {c : Nat} (h : Cst st (c + 1 + cntR r LS)) (hr : r < ct st.1 2) (hL : LRows st.1 LS) (hO : ORows st.1 OS) (hp : P (cut0 st r)) : P (clR LS OS r st) := by
  have hf := h.1.2.2.2.2.2 r hr
  have h3 := hf.2.2.2.1.2
  obtain ⟨k1, k2, k3⟩ := clL_keep LS (cut0 st r) (ct st.1 (58 + 10 * r + 3)) (c + 1) h hr hL h3
  have p1 := clL_ind2 hP LS (cut0 st r) (ct st.1 (58 + 10 * r + 3)) (c + 1) h hr hL h3 hp
  have e2 : ct (clL r LS (cut0 st r, ct st.1 (58 + 10 * r + 3))).1.1 2 = ct st.1 2 := ct_eq (k2 2 Sta2)
  unfold clR
  generalize clL r LS (cut0 st r, ct st.1 (58 + 10 * r + 3)) = p at *
  obtain ⟨q, left⟩ := p
  have hO' : ORows q.1 OS := hO.sta k2
  have hle : left ≤ 999 := Nat.le_trans k3 h3
  exact clE_ind2 hP k1 (by rw [e2]; exact hr) hO' hle p1
end IND2
section MCI2
variable {κ s : Nat → Int32} {LX : List (Nat → Int32)}
theorem mC_ind2 {P : Sg → Prop} (hP : ∀ its r acc reach w price c st, its ≤ 2 → Cst st (c + 1) → Ars st r acc reach w → P st → P (srv its r acc reach w price st)) (hcut : ∀ st r, P st → P (cut0 st r)) {st : Sg} {r c : Nat} (ht : Try κ s) (hL : LRows s LX) (hO : ORows s (OSo s)) (hr : r < ct s 2) (hs : ∀ j, Sta j → st.1 j = s j) (hc : Cst st (c + 1 + cntR r LX)) (hp : P st) : P (mC κ LX (OSo s) r st) := by
  have e2 : ct st.1 2 = ct s 2 := ct_eq (hs 2 Sta2)
  have hf := hc.1.2.2.2.2.2 r (by omega)
  unfold mC
  by_cases e26 : nI r = κ 26
  · rw [if_pos e26]
    exact hcut st r hp
  rw [if_neg e26]
  by_cases e22 : nI r = κ 22
  · rw [if_pos e22]
    obtain ⟨t1, t2⟩ := ht.resolve_left (fun z => z r hr e22)
    exact hP 1 r _ _ _ 0 (c + cntR r LX) (cut0 st r) (by decide) (hc.less (by omega)) ⟨by show r < ct st.1 2; omega, hf.1.2, by show ct κ 23 < ct st.1 0; rw [ct_eq (hs 0 Sta0)]; exact t2, wout_le hf.2.2.2.1.2⟩ (hcut st r hp)
  rw [if_neg e22]
  exact (clR_ind2 (r := r) (P := P) (fun its acc reach w price c st => hP its r acc reach w price c st) hc (by omega) (hL.sta hs) (hO.sta hs) (hcut st r hp))
end MCI2
section OKM
variable {κ s fl cut : Nat → Int32} {X : List (Nat → Int32)} {g : Nat → Int64}
theorem mstM_more (h : Mon s) (hX : Xtr κ s X) (ht : Try κ s) : ClAll (mstM κ X s g fl cut) ∧ ∀ a, ct s 1 ≤ a → a < 5 → (mstM κ X s g fl cut).1 (26 + a) = s (26 + a) := by
  obtain ⟨hb, h0⟩ := h.bg (g := g) (fl := fl) (cut := cut)
  obtain ⟨hLX, hlen⟩ := h.lx hX
  obtain ⟨h1, h2, h3, h4, h5, h6, h7, h8⟩ := id h.1
  have hO := h5
  have hK := mC_keep (s0 := (bgn (OSo s) s g fl cut).1) ht hLX hO h0
  have e2 : ct (bgn (OSo s) s g fl cut).1 2 = ct s 2 := ct_eq (h0 2 Sta2)
  have h06 := h1.1.2
  have e56 : ct (bgn (OSo s) s g fl cut).1 56 = 0 := ct_nI (hb.2.2.2.trans nI_0.symm) (by decide)
  refine ⟨?_, fun a ha ha5 => ?_⟩
  · refine clG_ind (P := ClAll) hb hlen hK (fun r st c hr hc hs hp => ?_) (fun c hc => ?_) (ct s 2) (by omega)
    · refine (mC_ind2 (P := ClAll) (fun its r acc reach w price c st hi hc ha hp => srv_ClAll hi hc ha hp) (fun st r hp => hp) ht hLX hO (by omega) (fun j hj => (hs j hj).trans (h0 j hj)) hc hp)
    · rw [e56] at hc
      omega
  · have := clG_ind (P := fun st => ct st.1 1 = ct s 1 ∧ st.1 (26 + a) = s (26 + a)) hb hlen hK (fun r st c hr hc hs hp => mC_ind (P := fun st => ct st.1 1 = ct s 1 ∧ st.1 (26 + a) = s (26 + a)) (fun its r acc reach w price c st hc ha' hp => ⟨(ct_eq ((Cst.srv (its := its) (price := price) hc ha').2 1 Sta1)).trans hp.1, (srv_bkN hc ha' (by omega) ha5).trans hp.2⟩) (fun st r hp => hp) ht hLX hO (by omega) (fun j hj => (hs j hj).trans (h0 j hj)) hc hp) ⟨ct_eq (h0 1 Sta1), layS_n h06 (by omega) (by omega)⟩ (ct s 2) (by omega)
    exact this.2
end OKM

