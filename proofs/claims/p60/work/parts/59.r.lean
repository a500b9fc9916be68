/-! ===== in thought ===== -/
theorem kd23 : kd 23 = 1 := by decide +kernel
theorem ev_ks {T : Nat} {st : Sg} {p : Int32} (h : Ok T st.1) (hT : T ≤ 20000) {j : Nat} (hj : KS j) : (ev p st).1 j = st.1 j := by
  have hm := h.mon hT
  have h0 := hm.1.1.1.2
  have h1 := hm.1.1.2.1.2
  have h2 := hm.1.1.2.2.1.2
  obtain ⟨I, hsta⟩ := mst_facts (sil := silP p) (g := st.2.1) (fl := st.2.2.1) (cut := st.2.2.2) hm.1
  have n0 := ct_eq (hsta 0 Sta0)
  have n1 := ct_eq (hsta 1 Sta1)
  have n2 := ct_eq (hsta 2 Sta2)
  have hD : (decL (LSo st.1)).length ≤ 8 := by
    have := decL_len (LSo st.1)
    rw [show (LSo st.1).length = ct st.1 3 from rwT_len _ _] at this
    have := hm.2.1.2
    omega
  unfold KS at hj
  show fiS (mst (LSo st.1) (OSo st.1) (silP p) st.1 st.2.1 st.2.2.1 st.2.2.2) (decL (LSo st.1)) j = st.1 j
  rw [fiS_vis hD (by omega) (by omega) (by omega) (by omega) (by omega) (by omega) (by omega) (by omega) (by omega), finC_lo (by omega) (by omega) (by omega), if_neg (by omega), if_neg (by omega), if_neg (by omega), if_neg (by omega)]
  exact hsta j (by unfold Sta; omega)
theorem evn_ks {j : Nat} (hj : KS j) : ∀ (n T : Nat) (st : Sg), Ok T st.1 → T + n ≤ 20000 → (evn n st).1 j = st.1 j ∧ Ok (T + n) (evn n st).1 := by
  intro n
  induction n with
  | zero => intro T st h _; exact ⟨rfl, h⟩
  | succ n ih =>
    intro T st h hT
    obtain ⟨i1, i2⟩ := ih (T + 1) (ev (-1) st) (h.ev (by omega)) (by omega)
    exact ⟨i1.trans (ev_ks h (by omega) hj), by rw [show T + (n + 1) = T + 1 + n by omega]; exact i2⟩
theorem tb3 {α β γ δ : Type} {x : Option α} {f : α → Option β} {t : α → Option γ} {h : β × γ → δ} : (x.bind fun a => (f a).bind fun b => (t a).bind fun c => some (h (b, c))) = (x.bind fun a => (f a).bind fun b => (t a).bind fun c => some (b, c)).bind fun q => some (h q) := by
  cases x with
  | none => rfl
  | some a =>
    show ((f a).bind fun b => (t a).bind fun c => some (h (b, c))) = ((f a).bind fun b => (t a).bind fun c => some (b, c)).bind fun q => some (h q)
    cases f a with
    | none => rfl
    | some b =>
      show ((t a).bind fun c => some (h (b, c))) = ((t a).bind fun c => some (b, c)).bind fun q => some (h q)
      cases t a <;> rfl
section THOUGHT
variable {μ : Mm} {s : Nat → Int32} {g : Nat → Int64} {T : Nat}
theorem blk1 {μ μ' : Mm} (hF : Fs (Blk 23) μ μ') : ∀ a, (a < 23 ∨ 45 ≤ a) → μ'.1 a = μ.1 a ∧ μ'.2.1 a = μ.2.1 a := fun a ha => hF.1 a (by unfold Blk; omega)
def M13 : List (Nat × Nat) := [(0, 0), (1, 1), (3, 2)]
end THOUGHT

