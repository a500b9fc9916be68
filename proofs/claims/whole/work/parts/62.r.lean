/-! ===== who gets more or less as one is tried ===== -/
theorem op_all {ι α : Type} {x : Option α} {C : ι → Prop} {P : ι → α → Prop} (i0 : ι) (h0 : C i0) (h : ∀ i, C i → Op x (P i)) : Op x (fun a => ∀ i, C i → P i a) := by
  obtain ⟨a, e, _⟩ := h i0 h0
  refine ⟨a, e, fun i hi => ?_⟩
  obtain ⟨a', e', hp⟩ := h i hi
  rw [e] at e'
  cases e'
  exact hp
def bset (b : Nat → Bool) : Nat → Nat → Int32 → Int32
  | 0, _, v => v
  | d + 1, i, v => bset b d (i + 1) (if b i = true then v ||| ((1 : Int32) <<< (nI i &&& 31)) else v)
theorem bset_congr {b b' : Nat → Bool} : ∀ d i v, (∀ j, i ≤ j → j < i + d → b j = b' j) → bset b d i v = bset b' d i v := by
  intro d
  induction d with
  | zero => intro i v _; rfl
  | succ d ih =>
    intro i v h
    rw [bset, bset, h i (Nat.le_refl i) (by omega)]
    exact ih (i + 1) _ (fun j h1 h2 => h j (by omega) (by omega))
def gM (p : Int32) (X : List (Nat → Int32)) (st : Sg) : Sg := mst (LSo st.1 ++ X) (OSo st.1) (silP p) st.1 st.2.1 st.2.2.1 st.2.2.2
section GAIN
variable {μ ν : Mm} {s : Nat → Int32} {g : Nat → Int64} {T : Nat}
theorem SV.e5 {b : Nat} {LS OS : List (Nat → Int32)} {ng : Nat} {G : Nat → Nat → Int32} {cu s' : Nat → Int32} {g' : Nat → Int64} (h : SV μ b LS OS ng G cu s g) (hb : kd b = 1) (he : E5 s s') (hg : ∀ k, k < 15 → g' k = g k) : SV μ b LS OS ng G cu s' g' := by
  obtain ⟨t1, t2, t3, t4, t5, t6, t7, t8, t9, t10, t11, t12, t13⟩ := h.congr9 (h.cnt hb) (s' := s') (fun j hj _ => he j hj.1)
  exact ⟨t1, t2, t3, t4, t5, t6, t7, t8, t9, t10, fun k hk => (t11 k hk).trans (hg k (by omega)).symm, fun k hk => (t12 k hk).trans (hg _ (by omega)).symm, t13⟩
theorem mok_x {κ : Nat → Int32} {X : List (Nat → Int32)} (h : Mon s) (hX : Xtr κ s X) : Mok s (LSo s ++ X) (OSo s) := by
  obtain ⟨a, b⟩ := h.lx hX
  obtain ⟨h1, h2, h3, h4, h5, h6, h7, h8⟩ := h.1
  exact ⟨h1, h2, a, b, h5, h6, h7, h8⟩
/-- what a month, with a further lease or a silent right, brings -/
theorem gM_got {κ : Nat → Int32} {X : List (Nat → Int32)} {p : Int32} {st : Sg} (ho : Ok T st.1) (hT : T ≤ 19900) (hX : Xtr κ st.1 X) {r : Nat} (hr : r < 10) : ∃ a, (gM p X st).1 (58 + 10 * r + 7) = nI a ∧ a < 2 ^ 30 := by
  have hm := ho.mon (by omega)
  have gro := mst_gro (sil := silP p) (g := st.2.1) (fl := st.2.2.1) (cut := st.2.2.2) (mok_x hm hX) hm.2.2.2.2
  obtain ⟨I, -⟩ := mst_facts (sil := silP p) (g := st.2.1) (fl := st.2.2.1) (cut := st.2.2.2) (mok_x hm hX)
  have hcl := I.1.2.2.2
  obtain ⟨z1, z2⟩ := gro.2.2 r hr
  have := (ho.2.1.2.2.2.2.2.1 r hr).2
  have := ho.2.2
  exact ⟨_, z1, by omega⟩
theorem x1_got {κ : Nat → Int32} {X : List (Nat → Int32)} {p : Int32} {st : Sg} {ng : Nat} {G : Nat → Nat → Int32} {cu : Nat → Int32} (h : SV μ 23 (LSo st.1 ++ X) (OSo st.1) ng G cu st.1 st.2.1) (ho : Ok T st.1) (hT : T ≤ 19900) (hX : Xtr κ st.1 X) : Op (F_X1_runMonth 23 p μ) (fun o => (∀ r, r < ct st.1 2 → F_X2_get 31 (nI r) 7 o.2 = some ((gM p X st).1 (58 + 10 * r + 7))) ∧ ((∀ r, ct st.1 2 ≤ r → r < 10 → F_X2_get 31 (nI r) 7 o.2 = some 0) ∧ (KB o.2 23 ∧ Fs (Blk 23) μ o.2))) := by
  have hm := ho.mon (by omega)
  have hmx := mok_x hm hX
  obtain ⟨I, hsta⟩ := mst_facts (sil := silP p) (g := st.2.1) (fl := st.2.2.1) (cut := st.2.2.2) hmx
  have n0 := ct_eq (hsta 0 Sta0)
  have n1 := ct_eq (hsta 1 Sta1)
  have h0 := hmx.1.1.2
  have h1 := hmx.1.2.1.2
  have h2 := hmx.1.2.2.1.2
  have f : ∀ j, (j < 424 ∧ (j ≠ 5 ∧ (¬ (20 ≤ j ∧ j < 31) ∧ j ≠ 54))) → finC (gM p X st) j = (gM p X st).1 j := fun j hj => by
    show finC (mst (LSo st.1 ++ X) (OSo st.1) (silP p) st.1 st.2.1 st.2.2.1 st.2.2.2) j = _
    rw [finC_lo hj.1 (by omega) (by omega), if_neg hj.2.1, if_neg (by omega), if_neg (by omega), if_neg hj.2.2.2]
    rfl
  have e2 : ct (finC (gM p X st)) 2 = ct st.1 2 := (ct_eq (f 2 (by omega))).trans (ct_eq (hsta 2 Sta2))
  refine op_m (x1_month h kd23 hmx hm.2.2.2.2 p st.2.2.1 st.2.2.2) (fun o w => ⟨fun r hr => ?_, fun r hr hr2 => ?_, w.2.1.kb, w.2.2⟩)
  · refine (x2_get (t := 31) (k := 7) w.2.1.rgt (show r < ct (finC (gM p X st)) 2 by rw [e2]; exact hr) (by decide)).trans (congrArg some ?_)
    rw [if_neg (by decide)]
    exact f _ (by omega)
  · exact x2_getO (t := 31) (k := 7) w.2.1.rgt (Or.inr (show nI (ct (finC (gM p X st)) 2) ≤ nI r by rw [e2]; exact nI_le hr (by omega)))
theorem m_got {κ : Nat → Int32} {X : List (Nat → Int32)} {st : Sg} (h : MV μ st) (hκ : μ.1 295 = κ) (ho : Ok T st.1) (hT : T ≤ 19900) (hX : Xtr κ st.1 X) (h22 : κ 22 = -1) : Op (F_X4_months 1 μ) (fun o => (∀ r, r < ct st.1 2 → F_X4_rightOf (nI r) 7 o = some ((gM (κ 26) X st).1 (58 + 10 * r + 7))) ∧ (Bn (o.1 296) 2 10 ∧ (ct (o.1 296) 2 = ct st.1 2 ∧ Fs Fm μ o))) := by
  have hm := ho.mon (by omega)
  have h2 := hm.1.1.2.2.1
  have h210 := h2.2
  have hmx := mok_x hm hX
  have q := m_month (μ := μ) h.1 h.2.1 hκ hm hX (Or.inl (noT h22 h210))
  rw [mstM_mst hm hX (noT h22 h210), h.2.2.1, h.2.2.2] at q
  obtain ⟨o, e, w⟩ := q
  obtain ⟨I, hsta⟩ := mst_facts (sil := silP (κ 26)) (g := st.2.1) (fl := st.2.2.1) (cut := st.2.2.2) hmx
  have n0 := ct_eq (hsta 0 Sta0)
  have n1 := ct_eq (hsta 1 Sta1)
  have n2 := ct_eq (hsta 2 Sta2)
  have h0 := hmx.1.1.2
  have h1 := hmx.1.2.1.2
  have hD : (decL (LSo st.1)).length ≤ 8 := by
    have := decL_len (LSo st.1)
    rw [show (LSo st.1).length = ct st.1 3 from rwT_len _ _] at this
    have := hm.2.1.2
    omega
  have f : ∀ j, (j < 424 ∧ (j ≠ 3 ∧ (¬ (158 ≤ j ∧ j < 206) ∧ (¬ (58 ≤ j ∧ j < 158 ∧ (j - 58) % 10 = 9) ∧ (j ≠ 57 ∧ (¬ (394 ≤ j ∧ j < 424 ∧ (j - 394) % 5 = 2) ∧ (j ≠ 5 ∧ (¬ (20 ≤ j ∧ j < 31) ∧ j ≠ 54)))))))) → o.2.1 296 j = (gM (κ 26) X st).1 j := fun j hj => by
    rw [w.2.1, fiS_vis hD (by omega) (by omega) (by omega) (by omega) hj.2.1 hj.2.2.1 hj.2.2.2.1 hj.2.2.2.2.1 hj.2.2.2.2.2.1, finC_lo hj.1 (by omega) (by omega), if_neg (by omega), if_neg (by omega), if_neg (by omega), if_neg (by omega)]
    rfl
  have e2 : o.2.1 296 2 = st.1 2 := (f 2 (by omega)).trans (hsta 2 Sta2)
  refine ⟨o.2, ?_, fun r hr => ?_, h2.eq e2, ct_eq e2, w.2.2.2.2⟩
  · unfold F_X4_months
    show (F_X4_months_2 1 (9999 + 1) 0 μ).bind _ = _
    rw [F_X4_months_2, if_neg (by decide), e]
    show (F_X4_months_2 1 (9998 + 1) 1 o.2).bind _ = _
    rw [F_X4_months_2, if_pos (by decide)]
    rfl
  · exact (m_rO (k := 7) (by omega) (by decide)).trans (congrArg some (f _ (by omega)))
end GAIN
