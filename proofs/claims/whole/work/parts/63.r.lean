/-! ===== gains; the sets of rights ===== -/
section SETS
variable {μ ν : Mm} {s : Nat → Int32} {g : Nat → Int64} {T : Nat}
theorem m_gainL {u : Int32} {R A old : Nat → Int32} {n : Nat} (hn : n ≤ 10) : ∀ (d m v : Nat) (ν : Mm), v + d = n → d < m → ν.1 296 2 = nI n → (∀ r, r < n → F_X4_rightOf (nI r) 7 ν = some (R r)) → (∀ r, r < n → ν.1 298 (58 + 10 * r + 7) = A r) → ν.1 309 = (fun j => if j < v then (if u = 0 then R j - A j - old j else R j - A j) else old j) → Op (F_X4_laysGains_11 u m (nI v) ν) (fun o => o.1 309 = (fun j => if j < n then (if u = 0 then R j - A j - old j else R j - A j) else old j) ∧ Fs (fun a => a = 309) ν o) := by
  have ln309 : ln 309 = 10 := by decide +kernel
  intro d
  induction d with
  | zero =>
    intro m v ν hv hm e2 hR hA e9
    obtain ⟨m, rfl⟩ : ∃ z, m = z + 1 := ⟨m - 1, by omega⟩
    rw [F_X4_laysGains_11]
    refine op_eb (mg (k := 2) rfl (by decide)) ?_
    rw [e2, if_pos (nI_le (by omega) (by omega))]
    obtain rfl : v = n := by omega
    exact op_r ⟨e9, Fs.rf⟩
  | succ d ih =>
    intro m v ν hv hm e2 hR hA e9
    obtain ⟨m, rfl⟩ : ∃ z, m = z + 1 := ⟨m - 1, by omega⟩
    rw [F_X4_laysGains_11]
    refine op_eb (mg (k := 2) rfl (by decide)) ?_
    rw [e2, if_neg (nI_ge (by omega) (by omega))]
    refine op_eb (hR v (by omega)) (op_eb (show F_X4_rightAt (nI v) 7 ν = some (nI (58 + 10 * v + 7)) from m_rt) (op_eb (aI_ok (k := 58 + 10 * v + 7) rfl (by rw [ln298]; omega)) ?_))
    rw [hA v (by omega)]
    refine op_eb (a := if u = 0 then R v - A v - old v else R v - A v) ?_ ?_
    · by_cases e : u = 0
      · rw [if_pos e, if_pos e]
        refine be_ (aI_ok (k := v) rfl (by rw [ln309]; omega)) ?_
        rw [e9]
        simp only [Nat.lt_irrefl, if_false]
      · rw [if_neg e, if_neg e]
    · refine op_eb (sI_ok (k := v) rfl (by rw [ln309]; omega)) ?_
      rw [nI_1]
      refine op_m (ih m (v + 1) _ (by omega) (by omega) (by rw [uI_ne (by decide)]; exact e2) (fun r hr => ?_) (fun r hr => by rw [uI_ne (by decide)]; exact hA r hr) ?_) (fun o z => ⟨z.1, Fs.tr (Fs.uI (S := fun a => a = 309) rfl) z.2⟩)
      · have q := (show F_X4_rightOf (nI r) 7 ν = some (ν.1 296 (58 + 10 * r + 7)) from m_rO (k := 7) (by omega) (by decide)).symm.trans (hR r hr)
        refine (m_rO (k := 7) (by omega) (by decide)).trans ?_
        rw [uI_ne (by decide)]
        exact q
      · rw [uI_eq, e9]
        funext j
        show (if j = v then (if u = 0 then R v - A v - old v else R v - A v) else (if j < v then (if u = 0 then R j - A j - old j else R j - A j) else old j)) = (if j < v + 1 then (if u = 0 then R j - A j - old j else R j - A j) else old j)
        by_cases e : j = v
        · rw [if_pos e, if_pos (show j < v + 1 by omega), e]
        · rw [if_neg e]
          by_cases e3 : j < v
          · rw [if_pos e3, if_pos (show j < v + 1 by omega)]
          · rw [if_neg e3, if_neg (show ¬ j < v + 1 by omega)]
/-- gains of the next month in thought -/
theorem m_gains {u : Int32} {κ : Nat → Int32} {X : List (Nat → Int32)} {st : Sg} (h : MV ν st) (hκ : ν.1 295 = κ) (ho : Ok T st.1) (hT : T ≤ 19900) (hX : Xtr κ st.1 X) (h22 : κ 22 = -1) : Op (F_X4_laysGains u ν) (fun o => (∀ r, r < ct st.1 2 → o.1 309 r = if u = 0 then (gM (κ 26) X st).1 (58 + 10 * r + 7) - st.1 (58 + 10 * r + 7) - ν.1 309 r else (gM (κ 26) X st).1 (58 + 10 * r + 7) - st.1 (58 + 10 * r + 7)) ∧ (E5 st.1 (o.1 296) ∧ ((∀ k, k < 15 → o.2.1 300 k = st.2.1 k) ∧ Fs (fun a => (Fm a ∨ (a = 298 ∨ a = 301)) ∨ a = 309) ν o))) := by
  have h2 := ho.1.1.2.2.1
  have h210 := h2.2
  unfold F_X4_laysGains
  refine op_mb (m_putsAside ν) (fun m1 w1 => ?_)
  have mv : MV m1 st := ⟨(w1.2.2.1 296 (by decide)).1.trans h.1, (w1.2.2.1 300 (by decide)).2.trans h.2.1, (w1.2.2.1 307 (by decide)).1.trans h.2.2.1, (w1.2.2.1 308 (by decide)).1.trans h.2.2.2⟩
  refine op_mb (m_got mv ((w1.2.2.1 295 (by decide)).1.trans hκ) ho hT hX h22) (fun m2 w2 => ?_)
  obtain ⟨z1, z2, z3, z4⟩ := w2
  have e298 : m2.1 298 = m1.1 298 := (z4.1 298 (by unfold Fm; decide)).1
  have e309 : m2.1 309 = ν.1 309 := (z4.1 309 (by unfold Fm; decide)).1.trans (w1.2.2.1 309 (by decide)).1
  refine op_mb (m_gainL (u := u) (R := fun r => (gM (κ 26) X st).1 (58 + 10 * r + 7)) (A := fun r => st.1 (58 + 10 * r + 7)) (old := ν.1 309) (n := ct st.1 2) h210 (ct st.1 2) qFuel 0 m2 (by omega) (by unfold qFuel; omega) (by rw [z2.1, z3]) z1 (fun r hr => ?_) ?_) (fun m3 w3 => ?_)
  · rw [e298, w1.1, al5_e _ (by omega), h.1]
  · rw [e309]
    funext j
    rw [if_neg (Nat.not_lt_zero j)]
  refine op_mb (m_takesBack m3) (fun m4 w4 => op_r ⟨fun r hr => ?_, fun j hj => ?_, fun k hk => ?_, ?_⟩)
  · rw [(w4.2.2.1 309 (by decide)).1, w3.1]
    exact if_pos hr
  · rw [w4.1, al5_e j hj, (w3.2.1 298 (by decide)).1, e298, w1.1, al5_e j hj, h.1]
  · rw [w4.2.1, al15_e hk, (w3.2.1 301 (by decide)).2, (z4.1 301 (by unfold Fm; decide)).2, w1.2.1, al15_e hk, h.2.1]
  · exact (((w1.2.2.mo (fun a e => Or.inl (Or.inr e))).tr (z4.mo (fun a e => Or.inl (Or.inl e)))).tr (w3.2.mo (fun a e => Or.inr e))).tr (w4.2.2.mo (fun a e => Or.inl (Or.inl (by unfold Fm; omega))))
theorem m_parted {u : Int32} {k n : Nat} (hn : n ≤ 10) (hk : k < 10) (h2 : μ.1 296 2 = nI n) {b : Nat → Bool} (hb : ∀ r, r < n → b r = decide (r ≠ k ∧ ¬ μ.1 309 r * u ≤ 0)) : F_X4_parted (nI k) u μ = some (bset b n 0 0) := by
  have ln309 : ln 309 = 10 := by decide +kernel
  have key : ∀ (d m i : Nat) (v : Int32), i + d = n → d < m → F_X4_parted_5 (nI k) u μ m v (nI i) = some (bset b d i v) := by
    intro d
    induction d with
    | zero =>
      intro m i v hi hm
      obtain ⟨m, rfl⟩ : ∃ z, m = z + 1 := ⟨m - 1, by omega⟩
      rw [F_X4_parted_5]
      refine be_ (mg (k := 2) rfl (by decide)) ?_
      rw [h2, if_pos (nI_le (by omega) (by omega))]
      rfl
    | succ d ih =>
      intro m i v hi hm
      obtain ⟨m, rfl⟩ : ∃ z, m = z + 1 := ⟨m - 1, by omega⟩
      rw [F_X4_parted_5, bset]
      refine be_ (mg (k := 2) rfl (by decide)) ?_
      rw [h2, if_neg (nI_ge (by omega) (by omega))]
      refine be_ (a := if b i = true then (1 : Int32) <<< (nI i &&& 31) else 0) ?_ ?_
      · rw [hb i (by omega)]
        by_cases e : i = k
        · rw [if_pos (by rw [e]), if_neg (by rw [decide_eq_true_eq]; exact fun z => z.1 e)]
        · rw [if_neg (fun z => e (nI_inj (by omega) (by omega) z))]
          refine be_ (aI_ok (k := i) rfl (by rw [ln309]; omega)) ?_
          by_cases e2 : μ.1 309 i * u ≤ 0
          · rw [if_pos e2, if_neg (by rw [decide_eq_true_eq]; exact fun z => z.2 e2)]
          · rw [if_neg e2, if_pos (by rw [decide_eq_true_eq]; exact ⟨e, e2⟩)]
      · rw [nI_1]
        have : (v ||| if b i = true then (1 : Int32) <<< (nI i &&& 31) else 0) = if b i = true then v ||| (1 : Int32) <<< (nI i &&& 31) else v := by
          by_cases e : b i = true
          · rw [if_pos e, if_pos e]
          · rw [if_neg e, if_neg e, Int32.or_zero]
        rw [this]
        exact ih m (i + 1) _ (by omega) (by omega)
  unfold F_X4_parted
  exact be_ (key n qFuel 0 0 (by omega) (by unfold qFuel; omega)) rfl
theorem x3_keep {n : Nat} {U : Nat → Int32} (hU : ∀ r, r < n → F_X2_get 31 (nI r) 7 μ = some (U r)) (hz : ∀ r, n ≤ r → r < 10 → F_X2_get 31 (nI r) 7 μ = some 0) : Op (F_X3_keepUsualGot μ) (fun o => (∀ r, r < n → r < 10 → o.1 69 r = U r) ∧ Fs (fun a => a = 69) μ o) := by
  have ln69 : ln 69 = 10 := by decide +kernel
  have key : ∀ (d m i : Nat) (ν : Mm), i + d = 10 → d < m → Fs (fun a => a = 69) μ ν → (∀ r, r < i → r < n → ν.1 69 r = U r) → Op (F_X3_keepUsualGot_2 m (nI i) ν) (fun o => (∀ r, r < n → r < 10 → o.1 69 r = U r) ∧ Fs (fun a => a = 69) μ o) := by
    intro d
    induction d with
    | zero =>
      intro m i ν hi hm hF hq
      obtain ⟨m, rfl⟩ : ∃ z, m = z + 1 := ⟨m - 1, by omega⟩
      obtain rfl : i = 10 := by omega
      rw [F_X3_keepUsualGot_2]
      exact op_t (show (10 : Int32) ≤ nI 10 by decide) (op_r ⟨fun r h1 h2 => hq r h2 h1, hF⟩)
    | succ d ih =>
      intro m i ν hi hm hF hq
      obtain ⟨m, rfl⟩ : ∃ z, m = z + 1 := ⟨m - 1, by omega⟩
      rw [F_X3_keepUsualGot_2]
      refine op_f (show ¬ (10 : Int32) ≤ nI i from nI_ge (b := 10) (by omega) (by decide)) ?_
      have hg : F_X2_get 31 (nI i) 7 ν = F_X2_get 31 (nI i) 7 μ := by
        unfold F_X2_get aI
        rw [(hF.1 31 (by decide)).1, (hF.1 (31 + 1) (by decide)).1]
      obtain ⟨x, hx, hx2⟩ : ∃ x, F_X2_get 31 (nI i) 7 μ = some x ∧ (i < n → x = U i) := by
        by_cases e : i < n
        · exact ⟨_, hU i e, fun _ => rfl⟩
        · exact ⟨_, hz i (by omega) (by omega), fun z => absurd z e⟩
      refine op_eb (hg.trans hx) (op_eb (sI_ok (k := i) rfl (by rw [ln69]; omega)) ?_)
      rw [nI_1]
      refine ih m (i + 1) _ (by omega) (by omega) (hF.tr (Fs.uI rfl)) (fun r h1 h2 => ?_)
      rw [uI_eq]
      by_cases e : r = i
      · rw [e]
        exact (if_pos rfl).trans (hx2 (e ▸ h2))
      · exact (if_neg e).trans (hq r (by omega) h2)
  unfold F_X3_keepUsualGot
  exact op_b (op_m (key 10 qFuel 0 μ (by decide) (by decide) Fs.rf (fun r h _ => absurd h (Nat.not_lt_zero r))) (fun o z => op_r z))
end SETS
