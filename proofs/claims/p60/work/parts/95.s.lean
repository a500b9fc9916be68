/-! ===== the reference's signs and words ===== -/
def BY (f : Nat → Int32) (n : Nat) : Prop := n ≤ 900 ∧ ∀ k, k < n → By (f k)
def bt (f : Nat → Int32) (n k : Nat) : Int32 := if k < n then f k &&& 255 else -1
def wL (w : Nat) : Nat := qLen.getD w 0
def wC (w i : Nat) : Int32 := (qByt.getD w []).getD i 0
theorem wC_rg : ∀ w, w < 10 → (4 ≤ wL w ∧ wL w ≤ 8) ∧ ∀ i, i < wL w → 0 ≤ wC w i ∧ wC w i < 128 := by decide +kernel
def wdB (f : Nat → Int32) (n t w : Nat) : Bool := decide (ru letB f n t = t + wL w ∧ ∀ i, i < wL w → f (t + i) = wC w i)
theorem strAt_ok {w i : Nat} (h : i < wL w) (hw : w < 10) : strAt w (nI i) = some (wC w i) := by
  have := (wC_rg w hw).1.2
  have e : inb (nI i) (qLen.getD w 0) = true := inb_nI h (by show wL w ≤ 5000; omega)
  unfold strAt
  rw [if_pos e, nI_clamp (by omega)]
  rfl
section MTOK
variable {f : Nat → Int32} {n t a w : Nat} {μ : Mm}
theorem x0_isW28 (h : CL f n t μ) (hn : n ≤ 900) (hw : w < 10) (ht : t + wL w ≤ n) : ∀ (d m i : Nat), i + d = wL w → d < m → (∀ j, j < i → f (t + j) = wC w j) → ∃ r, F_X0_isWord_28 w μ m (nI i) = some r ∧ ((r = 1 ∧ ∀ j, j < wL w → f (t + j) = wC w j) ∨ (r = 0 ∧ ¬ ∀ j, j < wL w → f (t + j) = wC w j)) := by
  have hl := (wC_rg w hw).1
  obtain ⟨h1, h2, h3, h4, h5, h6⟩ := id h
  intro d
  induction d with
  | zero =>
    intro m i hi hm hj
    obtain ⟨m, rfl⟩ : ∃ z, m = z + 1 := ⟨m - 1, by omega⟩
    rw [F_X0_isWord_28, show strLen w = nI (wL w) from rfl, if_pos (nI_le (by omega) (by omega))]
    exact ⟨1, rfl, Or.inl ⟨rfl, fun j hj2 => hj j (by omega)⟩⟩
  | succ d ih =>
    intro m i hi hm hj
    obtain ⟨m, rfl⟩ : ∃ z, m = z + 1 := ⟨m - 1, by omega⟩
    rw [F_X0_isWord_28, show strLen w = nI (wL w) from rfl, if_neg (nI_ge (by omega) (by omega)), h1.1, h5, nI_add, if_neg (nI_ge (by omega) (by omega)), tx_at h1 hn (show t + i < n by omega)]
    by_cases e : f (t + i) = wC w i
    · obtain ⟨r, r1, r2⟩ := ih m (i + 1) (by omega) (by omega) (fun j hj2 => by
        by_cases e2 : j = i
        · rw [e2]; exact e
        · exact hj j (by omega))
      refine ⟨r, be_ rfl (be_ (strAt_ok (by omega) hw) ((if_pos e).trans ?_)), r2⟩
      rw [nI_1]
      exact r1
    · exact ⟨0, be_ rfl (be_ (strAt_ok (by omega) hw) (if_neg e)), Or.inr ⟨rfl, fun z => e (z i (by omega))⟩⟩
theorem x0_isW (h : CL f n t μ) (hn : n ≤ 900) (hw : w < 10) : F_X0_isWord w μ = some (if wdB f n t w = true then 1 else 0) := by
  have hl := (wC_rg w hw).1
  obtain ⟨h1, h2, h3, h4, h5, h6⟩ := id h
  have htk := tk_le (f := f) (n := n) (t := t)
  have hte := te_le (f := f) h2
  unfold F_X0_isWord
  rw [h4, h5, h6, pk_sub hte.1, show strLen w = nI (wL w) from rfl]
  by_cases e1 : tk f n t = 1
  · rw [if_pos (by rw [e1]; rfl), te_let e1]
    have hb := ru_b (P := letB) (f := f) h2
    by_cases e2 : ru letB f n t - t = wL w
    · rw [if_pos (by rw [e2])]
      obtain ⟨r, r1, r2⟩ := x0_isW28 h hn hw (by omega) (wL w) qFuel 0 (by omega) (by unfold qFuel; omega) (fun j hj => absurd hj (Nat.not_lt_zero j))
      refine r1.trans (congrArg some ?_)
      rcases r2 with ⟨rfl, z⟩ | ⟨rfl, z⟩
      · exact (if_pos (decide_eq_true ⟨by omega, z⟩)).symm
      · exact (if_neg (fun y => z (of_decide_eq_true y).2)).symm
    · rw [if_neg (fun z => e2 (nI_inj (by omega) (by omega) z)), if_neg (fun y => e2 (by have := (of_decide_eq_true y).1; omega))]
  · rw [if_neg (show ¬ nI (tk f n t) = (1 : Int32) from fun z => e1 (nI_inj (b := 1) (by omega) (by decide) z)), if_neg (fun y => by
      have z := (of_decide_eq_true y).1
      rw [ru_nolet e1] at z
      omega)]
theorem bt_eq (hB : BY f n) {k : Nat} {c : Int32} (hc : 0 ≤ c) (h8 : c < 128) : bt f n k = c ↔ k < n ∧ f k = c := by
  unfold bt
  by_cases e : k < n
  · rw [if_pos e, by_eq (hB.2 k e) hc h8]
    exact ⟨fun z => ⟨e, z⟩, fun z => z.2⟩
  · rw [if_neg e]
    refine ⟨fun z => ?_, fun z => absurd z.1 e⟩
    rw [← z] at hc
    exact absurd hc (by decide)
theorem bt_in (hB : BY f n) {k : Nat} {lo hi : Int32} (hlo : 0 ≤ lo) (hhi : hi < 128) : (¬ bt f n k < lo ∧ ¬ hi < bt f n k) ↔ k < n ∧ (¬ f k < lo ∧ ¬ hi < f k) := by
  unfold bt
  by_cases e : k < n
  · rw [if_pos e, by_in (hB.2 k e) hlo hhi]
    exact ⟨fun z => ⟨e, z⟩, fun z => z.2⟩
  · rw [if_neg e]
    exact ⟨fun z => absurd (Int32.lt_of_lt_of_le (by decide) hlo) z.1, fun z => absurd z.1 e⟩
end MTOK

