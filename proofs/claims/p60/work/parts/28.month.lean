/-! ===== which rights are cut, and the least priority of one ===== -/
def exC (s : Nat → Int32) (r n : Nat) : Prop := ∃ c, c < n ∧ (s (242 + 8 * c + 1) = nI r ∧ s (242 + 8 * c + 5) < s (242 + 8 * c + 4))
def cutI (st : Sg) (r : Nat) : Prop := (¬ st.2.2.2 r = 0) ↔ exC st.1 r (ct st.1 56)
def noC (st : Sg) (r : Nat) : Prop := ∀ c, c < ct st.1 56 → st.1 (242 + 8 * c + 1) ≠ nI r
def calN (s : Nat → Int32) : Nat → Int32
  | 0 => -1
  | c + 1 => if s (242 + 8 * c + 5) < s (242 + 8 * c + 4) ∧ (calN s c = -1 ∨ s (58 + 10 * ct s (242 + 8 * c + 1) + 2) < calN s c) then s (58 + 10 * ct s (242 + 8 * c + 1) + 2) else calN s c
def calI (st : Sg) (r : Nat) (v : Int32) : Prop := calN st.1 (ct st.1 56) = if v = -1 ∧ ¬ st.2.2.2 r = 0 then st.1 (58 + 10 * r + 2) else v
theorem calN_eq {s s' : Nat → Int32} {n : Nat} (hp : ∀ r, r < 10 → s' (58 + 10 * r + 2) = s (58 + 10 * r + 2)) (hc : ∀ c, c < n → (∀ k, k < 8 → s' (242 + 8 * c + k) = s (242 + 8 * c + k)) ∧ ct s (242 + 8 * c + 1) < 10) : calN s' n = calN s n := by
  induction n with
  | zero => rfl
  | succ n ih =>
    have h1 := (hc n (by omega)).1
    rw [calN, calN, ih (fun c h => hc c (by omega)), h1 5 (by decide), h1 4 (by decide), ct_eq (h1 1 (by decide)), hp _ (hc n (by omega)).2]
/-- claims so far name rights -/
def ClR (st : Sg) : Prop := ∀ c, c < ct st.1 56 → ct st.1 (242 + 8 * c + 1) < 10
section SRVC
variable {its r acc reach w price c : Nat} {st : Sg}
theorem srv_row (h : Cst st (c + 1)) (ha : Ars st r acc reach w) {q k : Nat} (hq : q ≤ ct st.1 56) (hk : k < 8) : (srv its r acc reach w price st).1 (242 + 8 * q + k) = if q = ct st.1 56 then rowF (nI its) (nI r) (nI acc) (nI reach) (nI w) (nI (gotO its r reach w st)) (nI (bkO its r reach w st)) (nI (backO its r reach w st)) k else st.1 (242 + 8 * q + k) := by
  obtain ⟨a0, a1, a2, a3, a4, a5⟩ := id h.1
  have hf := a5 r ha.1
  have := hf.1.2
  have := a1.2
  have := a2.2
  have := ha.1
  have := ha.2.1
  have := h.b56.2
  exact srvS_clm (by omega) (by omega) (by omega) hq (by omega) hk
theorem srv_56 (h : Cst st (c + 1)) (ha : Ars st r acc reach w) : ct (srv its r acc reach w price st).1 56 = ct st.1 56 + 1 := (srv_keep (its := its) (price := price) h.1 h.2.1 ha h.b56).2.2.2.2
theorem got_le : gotO its r reach w st ≤ w := dn_le _ w
theorem nI_lt_iff {a b : Nat} (ha : a < 2 ^ 31) (hb : b < 2 ^ 31) : nI a < nI b ↔ a < b := nI_ltI ha hb
theorem srv_ClR (h : Cst st (c + 1)) (ha : Ars st r acc reach w) (hC : ClR st) : ClR (srv its r acc reach w price st) := by
  intro q hq
  rw [srv_56 h ha] at hq
  have h2 := h.1.2.2.1.2
  have e := srv_row (its := its) (price := price) (q := q) (k := 1) h ha (by omega) (by decide)
  by_cases e2 : q = ct st.1 56
  · rw [if_pos e2] at e
    show ((srv its r acc reach w price st).1 (242 + 8 * q + 1)).toNatClampNeg < 10
    rw [e]
    show (nI r).toNatClampNeg < 10
    have := ha.1
    rw [nI_clamp (by omega)]
    omega
  · rw [if_neg e2] at e
    rw [ct_eq e]
    exact hC q (by omega)
theorem srv_noC (h : Cst st (c + 1)) (ha : Ars st r acc reach w) {r' : Nat} (hr : r' ≠ r) (hr' : r' < 10) (hC : noC st r') : noC (srv its r acc reach w price st) r' := by
  intro q hq
  rw [srv_56 h ha] at hq
  have h2 := h.1.2.2.1.2
  have h3 := ha.1
  have e := srv_row (its := its) (price := price) (q := q) (k := 1) h ha (by omega) (by decide)
  by_cases e2 : q = ct st.1 56
  · rw [if_pos e2] at e
    rw [e]
    exact fun z => hr (nI_inj (by omega) (by omega) z).symm
  · rw [if_neg e2] at e
    rw [e]
    exact hC q (by omega)
theorem srv_exC (h : Cst st (c + 1)) (ha : Ars st r acc reach w) {r' : Nat} (hr' : r' < 10) : exC (srv its r acc reach w price st).1 r' (ct st.1 56 + 1) ↔ exC st.1 r' (ct st.1 56) ∨ (r' = r ∧ gotO its r reach w st < w) := by
  have h2 := h.1.2.2.1.2
  have h3 := ha.1
  have h4 := ha.2.2.2
  have hg := got_le (its := its) (r := r) (reach := reach) (w := w) (st := st)
  have row := fun q k (hq : q ≤ ct st.1 56) (hk : k < 8) => srv_row (its := its) (price := price) (q := q) (k := k) h ha hq hk
  constructor
  · rintro ⟨q, hq, e1, e2⟩
    rw [row q 1 (by omega) (by decide)] at e1
    rw [row q 5 (by omega) (by decide), row q 4 (by omega) (by decide)] at e2
    by_cases e : q = ct st.1 56
    · rw [if_pos e] at e1
      rw [if_pos e, if_pos e] at e2
      refine Or.inr ⟨nI_inj (by omega) (by omega) e1.symm, ?_⟩
      exact (nI_lt_iff (by omega) (by omega)).mp e2
    · rw [if_neg e] at e1
      rw [if_neg e, if_neg e] at e2
      exact Or.inl ⟨q, by omega, e1, e2⟩
  · rintro (⟨q, hq, e1, e2⟩ | ⟨rfl, hlt⟩)
    · refine ⟨q, by omega, ?_, ?_⟩
      · rw [row q 1 (by omega) (by decide), if_neg (by omega)]; exact e1
      · rw [row q 5 (by omega) (by decide), row q 4 (by omega) (by decide), if_neg (by omega), if_neg (by omega)]; exact e2
    · refine ⟨ct st.1 56, by omega, ?_, ?_⟩
      · rw [row _ 1 (Nat.le_refl _) (by decide), if_pos rfl]; rfl
      · rw [row _ 5 (Nat.le_refl _) (by decide), row _ 4 (Nat.le_refl _) (by decide), if_pos rfl, if_pos rfl]
        exact (nI_lt_iff (by omega) (by omega)).mpr hlt
theorem srv_cut {r' : Nat} : (¬ (srv its r acc reach w price st).2.2.2 r' = 0) ↔ (¬ st.2.2.2 r' = 0) ∨ (r' = r ∧ gotO its r reach w st < w) := by
  show (¬ upd st.2.2.2 r (if ¬ st.2.2.2 r = 0 ∨ gotO its r reach w st < w then 1 else 0) r' = 0) ↔ _
  unfold upd
  by_cases e : r' = r
  · subst e
    rw [if_pos rfl]
    by_cases e2 : ¬ st.2.2.2 r' = 0 ∨ gotO its r' reach w st < w
    · rw [if_pos e2]
      exact ⟨fun _ => e2.elim Or.inl (fun z => Or.inr ⟨rfl, z⟩), fun _ => by decide⟩
    · rw [if_neg e2]
      exact ⟨fun z => absurd rfl z, fun z => absurd (z.elim Or.inl (fun y => Or.inr y.2)) e2⟩
  · rw [if_neg e]
    exact ⟨Or.inl, fun z => z.elim id (fun y => absurd y.1 e)⟩
theorem srv_cutI (h : Cst st (c + 1)) (ha : Ars st r acc reach w) {r' : Nat} (hr' : r' < 10) (hC : cutI st r') : cutI (srv its r acc reach w price st) r' := by
  unfold cutI at hC ⊢
  rw [srv_56 h ha, srv_exC h ha hr', srv_cut, hC]
theorem srv_calI (h : Cst st (c + 1)) (ha : Ars st r acc reach w) (hR : ClR st) {v : Int32} (hv : v = -1 ∨ ¬ st.1 (58 + 10 * r + 2) < v) (hC : calI st r v) : calI (srv its r acc reach w price st) r v := by
  have h2 := h.1.2.2.1.2
  have h3 := ha.1
  have h4 := ha.2.2.2
  have hf := (h.1.2.2.2.2.2 r h3).2.2.2.2.2.2
  have hg := got_le (its := its) (r := r) (reach := reach) (w := w) (st := st)
  have row := fun q k (hq : q ≤ ct st.1 56) (hk : k < 8) => srv_row (its := its) (price := price) (q := q) (k := k) h ha hq hk
  have hs := (srv_keep (its := its) (price := price) h.1 h.2.1 ha h.b56).1
  have hp : ∀ q, q < 10 → (srv its r acc reach w price st).1 (58 + 10 * q + 2) = st.1 (58 + 10 * q + 2) := fun q hq => hs _ (StaR hq (by decide))
  unfold calI at hC ⊢
  rw [srv_56 h ha, calN]
  have eo : calN (srv its r acc reach w price st).1 (ct st.1 56) = calN st.1 (ct st.1 56) := calN_eq hp (fun q hq => ⟨fun k hk => by rw [row q k (by omega) hk, if_neg (by omega)], hR q hq⟩)
  have e1 : ct (srv its r acc reach w price st).1 (242 + 8 * ct st.1 56 + 1) = r := by
    show ((srv its r acc reach w price st).1 (242 + 8 * ct st.1 56 + 1)).toNatClampNeg = r
    rw [row _ 1 (Nat.le_refl _) (by decide), if_pos rfl]
    exact nI_clamp (by omega)
  rw [eo, e1, hp r (by omega), row _ 5 (Nat.le_refl _) (by decide), row _ 4 (Nat.le_refl _) (by decide), if_pos rfl, if_pos rfl, hC]
  have el : (rowF (nI its) (nI r) (nI acc) (nI reach) (nI w) (nI (gotO its r reach w st)) (nI (bkO its r reach w st)) (nI (backO its r reach w st)) 5 < rowF (nI its) (nI r) (nI acc) (nI reach) (nI w) (nI (gotO its r reach w st)) (nI (bkO its r reach w st)) (nI (backO its r reach w st)) 4) ↔ gotO its r reach w st < w := nI_lt_iff (by omega) (by omega)
  simp only [el]
  have hc2 := srv_cut (its := its) (r := r) (acc := acc) (reach := reach) (w := w) (price := price) (st := st) (r' := r)
  have hp1 : ¬ st.1 (58 + 10 * r + 2) = -1 := by
    rw [hf.1]
    intro z
    have := nI_pos' (n := ct st.1 (58 + 10 * r + 2)) (by have := hf.2; omega)
    rw [z] at this
    exact absurd this (by decide)
  have hpp : ¬ st.1 (58 + 10 * r + 2) < st.1 (58 + 10 * r + 2) := Int32.lt_irrefl
  by_cases ev : v = -1
  · subst ev
    by_cases ec : st.2.2.2 r = 0
    · by_cases eg : gotO its r reach w st < w
      · have : ¬ (srv its r acc reach w price st).2.2.2 r = 0 := hc2.mpr (Or.inr ⟨rfl, eg⟩)
        simp [ec, eg, this]
      · have : (srv its r acc reach w price st).2.2.2 r = 0 := by
          by_cases z : (srv its r acc reach w price st).2.2.2 r = 0
          · exact z
          · rcases hc2.mp z with y | y
            · exact absurd ec y
            · exact absurd y.2 eg
        simp [ec, eg, this]
    · have : ¬ (srv its r acc reach w price st).2.2.2 r = 0 := hc2.mpr (Or.inl ec)
      simp [ec, this, hp1, hpp]
  · have hv2 := hv.resolve_left ev
    simp [ev, hv2]
end SRVC
section CUTS
variable {μ : Mm} {b : Nat} {LS OS : List (Nat → Int32)} {n0 ng : Nat} {G : Nat → Nat → Int32} {cu : Nat → Int32} {s : Nat → Int32} {g : Nat → Int64}
theorem x1_cutL (h : SV μ b LS OS ng G cu s g) {r : Nat} : ∀ (d m i : Nat), i + d = ct s 56 → d < m → (¬ exC s r i) → Op (F_X1_isCut_2 b (nI r) μ m (nI i)) (fun z => (z = 1 ∧ exC s r (ct s 56)) ∨ (z = 0 ∧ ¬ exC s r (ct s 56))) := by
  have hn := h.clm.n_le
  intro d
  induction d with
  | zero =>
    intro m i hi hm hx
    obtain ⟨m, rfl⟩ : ∃ q, m = q + 1 := ⟨m - 1, by omega⟩
    rw [F_X1_isCut_2, h.clm.2.1, if_pos (nI_le (by omega) (by omega))]
    exact op_r (Or.inr ⟨rfl, by rw [← hi]; exact hx⟩)
  | succ d ih =>
    intro m i hi hm hx
    obtain ⟨m, rfl⟩ : ∃ q, m = q + 1 := ⟨m - 1, by omega⟩
    have nx : ∀ c, ¬ (s (242 + 8 * i + 1) = nI r ∧ s (242 + 8 * i + 5) < s (242 + 8 * i + 4)) → c = i + 1 → ¬ exC s r c := by
      rintro c hn rfl ⟨q, hq, e⟩
      by_cases eq : q = i
      · subst eq; exact hn e
      · exact hx ⟨q, by omega, e⟩
    rw [F_X1_isCut_2, h.clm.2.1, if_neg (nI_ge (by omega) (by omega))]
    refine op_eb (x2_get (k := 1) h.clm (by omega) (by decide)) ?_
    refine op_i (fun e1 => ?_) (fun e1 => ?_)
    · refine op_eb (x2_get (k := 5) h.clm (by omega) (by decide)) (op_eb (x2_get (k := 4) h.clm (by omega) (by decide)) ?_)
      refine op_i (fun e2 => ?_) (fun e2 => ?_)
      · rw [nI_1]
        exact ih m (i + 1) (by omega) (by omega) (nx _ (fun z => absurd e2 (Int32.not_le.mpr z.2)) rfl)
      · exact op_r (Or.inl ⟨rfl, i, by omega, e1, Int32.not_le.mp e2⟩)
    · rw [nI_1]
      exact ih m (i + 1) (by omega) (by omega) (nx _ (fun z => e1 z.1) rfl)
theorem x1_cut (h : SV μ b LS OS ng G cu s g) {r : Nat} : Op (F_X1_isCut b (nI r) μ) (fun z => (z = 1 ∧ exC s r (ct s 56)) ∨ (z = 0 ∧ ¬ exC s r (ct s 56))) := by
  have hn := h.clm.n_le
  exact x1_cutL h (ct s 56) qFuel 0 (by omega) (by unfold qFuel; omega) (fun ⟨q, hq, _⟩ => absurd hq (Nat.not_lt_zero q))
theorem x1_obyL (h : SV μ b LS OS ng G cu s g) (hb : kd b = 1) (hv : Vt s) {r : Nat} (hr : r < 10) (hO : ∀ row, row ∈ OS → row 0 = nI (ct row 0) ∧ ct row 0 < 10) : ∀ (d m i : Nat), i + d = OS.length → d < m → Op (F_X1_exercisedOptionOf_2 b (nI r) μ m (nI i)) (fun z => (z = -1 ∧ oby s r (OS.drop i) = none) ∨ ∃ o, o < OS.length ∧ (z = nI o ∧ oby s r (OS.drop i) = some (rowAt OS o))) := by
  have hn := (h.lea_le hb).2.1
  intro d
  induction d with
  | zero =>
    intro m i hi hm
    obtain ⟨m, rfl⟩ : ∃ q, m = q + 1 := ⟨m - 1, by omega⟩
    rw [F_X1_exercisedOptionOf_2, h.opt.2.1, if_pos (nI_le (by omega) (by omega)), List.drop_eq_nil_of_le (by omega)]
    exact op_r (Or.inl ⟨rfl, rfl⟩)
  | succ d ih =>
    intro m i hi hm
    obtain ⟨m, rfl⟩ : ∃ q, m = q + 1 := ⟨m - 1, by omega⟩
    have hlt : i < OS.length := by omega
    obtain ⟨o1, o2⟩ := hO _ (rowAt_mem hlt)
    have eo : oby s r (OS.drop i) = if ct (rowAt OS i) 0 = r ∧ yrP s (ct s 5 / 12) < rowAt OS i 3 then some (rowAt OS i) else oby s r (OS.drop (i + 1)) := by
      rw [drop_row hlt]
      rfl
    have g0 : F_X2_get (b + 14) (nI i) 0 μ = some (nI (ct (rowAt OS i) 0)) := (x2_get (k := 0) h.opt hlt (by decide)).trans (congrArg some (show lf OS i 0 = nI (ct (rowAt OS i) 0) from o1))
    have gx : F_X1_isExercised b (nI i) (μ.1 b 14) μ = some (if yrP s (ct s 5 / 12) < rowAt OS i 3 then 1 else 0) := by
      rw [h.sca.2.1, hv.1]
      exact x1_exe h hb hv hlt (by have := hv.2.1; omega)
    rw [F_X1_exercisedOptionOf_2, h.opt.2.1, if_neg (nI_ge hlt (by omega)), nI_1]
    by_cases e1 : ct (rowAt OS i) 0 = r
    · by_cases e2 : yrP s (ct s 5 / 12) < rowAt OS i 3
      · rw [eo, if_pos ⟨e1, e2⟩]
        exact op_eb g0 (op_t (congrArg nI e1) (op_eb (gx.trans (congrArg some (if_pos e2))) (op_f (c := (1 : Int32) = 0) (by decide) (op_r (Or.inr ⟨i, hlt, rfl, rfl⟩)))))
      · rw [eo, if_neg (show ¬ (ct (rowAt OS i) 0 = r ∧ yrP s (ct s 5 / 12) < rowAt OS i 3) from fun z => e2 z.2)]
        exact op_eb g0 (op_t (congrArg nI e1) (op_eb (gx.trans (congrArg some (if_neg e2))) (op_t (c := (0 : Int32) = 0) rfl (ih m (i + 1) (by omega) (by omega)))))
    · rw [eo, if_neg (show ¬ (ct (rowAt OS i) 0 = r ∧ yrP s (ct s 5 / 12) < rowAt OS i 3) from fun z => e1 z.1)]
      exact op_eb g0 (op_f (fun z => e1 (nI_inj (by omega) (by omega) z)) (ih m (i + 1) (by omega) (by omega)))
theorem x1_oby (h : SV μ b LS OS ng G cu s g) (hb : kd b = 1) (hv : Vt s) {r : Nat} (hr : r < 10) (hO : ∀ row, row ∈ OS → row 0 = nI (ct row 0) ∧ ct row 0 < 10) : Op (F_X1_exercisedOptionOf b (nI r) μ) (fun z => (z = -1 ∧ oby s r OS = none) ∨ ∃ o, o < OS.length ∧ (z = nI o ∧ oby s r OS = some (rowAt OS o))) := by
  have hn := (h.lea_le hb).2.1
  exact x1_obyL h hb hv hr hO OS.length qFuel 0 (by omega) (by unfold qFuel; omega)
end CUTS

