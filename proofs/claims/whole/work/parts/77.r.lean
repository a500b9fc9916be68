/-! ===== a lease is ended ===== -/
section ENL
variable {μ : Mm} {s : Nat → Int32} {g : Nat → Int64} {k : Nat}
def eeS (s : Nat → Int32) (l v : Nat) : Nat → Int32 := fun j => if 158 + 6 * l ≤ j ∧ j < v then s (j + 6) else s j
theorem m_endL {u : Int32} {l n : Nat} (hn : n ≤ 7) (h3 : s 3 = nI n) : ∀ (d m v : Nat) (μ : Mm), v + d = 158 + 6 * n → d < m → 158 + 6 * l ≤ v → μ.1 296 = eeS s l v → Op (F_X4_endLease_56 u m (nI v) μ) (fun μ' => μ'.1 296 = eeS s l (158 + 6 * n) ∧ Fs F296 μ μ') := by
  intro d
  induction d with
  | zero =>
    intro m v μ hv hm hl e
    obtain ⟨m, rfl⟩ : ∃ z, m = z + 1 := ⟨m - 1, by omega⟩
    rw [F_X4_endLease_56]
    refine op_eb (mg (k := 3) rfl (by decide)) ?_
    have e3 : μ.1 296 3 = nI n := by rw [e]; unfold eeS; rw [if_neg (by omega)]; exact h3
    rw [e3, show (158 : Int32) + 6 * nI n = nI (158 + 6 * n) from ix2 158 6 n, if_pos (nI_le (by omega) (by omega))]
    obtain rfl : v = 158 + 6 * n := by omega
    exact op_r ⟨e, Fs.rf⟩
  | succ d ih =>
    intro m v μ hv hm hl e
    obtain ⟨m, rfl⟩ : ∃ z, m = z + 1 := ⟨m - 1, by omega⟩
    rw [F_X4_endLease_56]
    refine op_eb (mg (k := 3) rfl (by decide)) ?_
    have e3 : μ.1 296 3 = nI n := by rw [e]; unfold eeS; rw [if_neg (by omega)]; exact h3
    rw [e3, show (158 : Int32) + 6 * nI n = nI (158 + 6 * n) from ix2 158 6 n, if_neg (nI_ge (by omega) (by omega))]
    refine op_eb (mg (k := v + 6) (nI_add v 6) (by omega)) ?_
    refine op_mb (ms (k := v) rfl (by omega)) (fun m2 w2 => ?_)
    rw [nI_1]
    refine op_m (ih m (v + 1) m2 (by omega) (by omega) (by omega) ?_) (fun μ' z => ⟨z.1, w2.2.tr z.2⟩)
    rw [w2.1, e]
    funext j
    unfold upd eeS
    by_cases e1 : j = v
    · rw [if_pos e1, if_neg (by omega), if_pos (by omega), e1]
    · rw [if_neg e1]
      by_cases e2 : 158 + 6 * l ≤ j ∧ j < v
      · rw [if_pos e2, if_pos (by omega)]
      · rw [if_neg e2, if_neg (by omega)]
def cutL (L : List (Nat → Int32)) (l : Nat) : List (Nat → Int32) := L.take l ++ L.drop (l + 1)
theorem cutL_len {L : List (Nat → Int32)} {l : Nat} (h : l < L.length) : (cutL L l).length = L.length - 1 := by
  unfold cutL
  rw [List.length_append, List.length_take, List.length_drop]
  omega
theorem cutL_lf {L : List (Nat → Int32)} {l r k : Nat} (h : l < L.length) : lf (cutL L l) r k = if r < l then lf L r k else lf L (r + 1) k := by
  have e : L = L.take l ++ rowAt L l :: L.drop (l + 1) := by
    rw [← drop_row h, List.take_append_drop]
  have hl : (L.take l).length = l := by rw [List.length_take]; omega
  have q := tl_rem (A := L.take l) (T := L.drop (l + 1)) (row := rowAt L l) (r := r) (j := k)
  rw [← e, hl] at q
  exact q.symm
theorem cutL_mem {L : List (Nat → Int32)} {l : Nat} {x : Nat → Int32} (h : x ∈ cutL L l) : x ∈ L := by
  unfold cutL at h
  rcases List.mem_append.mp h with h | h
  · exact List.mem_of_mem_take h
  · exact List.mem_of_mem_drop h
theorem eeS_L {l : Nat} (h3 : Bn s 3 8) (hl : l < ct s 3) : LSo (eeS (upd s 3 (nI (ct s 3 - 1))) l (158 + 6 * (ct s 3 - 1))) = cutL (LSo s) l := by
  have h38 := h3.2
  have hlen : (LSo s).length = ct s 3 := rwT_len _ _
  have e3 : ct (eeS (upd s 3 (nI (ct s 3 - 1))) l (158 + 6 * (ct s 3 - 1))) 3 = ct s 3 - 1 := ct_nI (by unfold eeS; rw [if_neg (by omega), pk_us]) (by omega)
  show rwT (eeS (upd s 3 (nI (ct s 3 - 1))) l (158 + 6 * (ct s 3 - 1))) 158 0 (ct (eeS (upd s 3 (nI (ct s 3 - 1))) l (158 + 6 * (ct s 3 - 1))) 3) = _
  rw [e3, ← hlen, ← cutL_len (L := LSo s) (l := l) (by omega)]
  refine rwT_of (fun x hx => rwT_can _ _ x (cutL_mem hx)) (fun r k hr hk => ?_)
  rw [cutL_len (by omega), hlen] at hr
  rw [cutL_len (by omega), hlen, cutL_lf (by omega)]
  unfold eeS
  by_cases e : r < l
  · rw [if_neg (by omega), if_pos e, pk_un (by omega)]
    exact ((rwT_lf (by omega) hk).trans (by rw [Nat.zero_add])).symm
  · rw [if_pos (by omega), if_neg e, pk_un (by omega)]
    refine Eq.trans ?_ ((rwT_lf (r := r + 1) (by omega) hk).trans (by rw [Nat.zero_add])).symm
    rw [show 158 + 6 * r + k + 6 = 158 + 6 * (r + 1) + k by omega]
theorem a_endLease (h : Cor k μ) (hk : k < 512) (p : Int32) : ∃ e t v w' μ1 μ2, F_X3_endLease p μ = some (e, v, μ1) ∧ (F_X4_endLease p μ1 = some (w', μ2) ∧ ((e, t) ∈ [(0, 0), (1, 1)] ∧ (μ2.1 295 0 = nI t ∧ ((e = 0 → v = w') ∧ PA k μ μ2)))) := by
  have hB := h.1
  have ho := hB.2.2.2.1
  have h3 := ho.1.2.2.2.2.1
  have h38 := h3.2
  have hlen : (LSo (μ.1 296)).length = ct (μ.1 296) 3 := rwT_len _ _
  rcases isL_c hB p with ⟨l, l1, rfl, l3, l4⟩ | ⟨l3, l4⟩
  · obtain ⟨cc, pp, S, q1, q2, q3⟩ := h.2.2.2.1
    obtain ⟨ma, x1, ⟨p', x2⟩, x3, x4⟩ := x3_record q1 hB.1
    obtain ⟨mb, y1, y2, y3⟩ := x2_rem (t := 13) x3.lea (r := l) (by rw [hlen]; exact l1)
    have y5 : Fs (Blk 1) ma mb := y3.mo (fun a e => by unfold Blk; omega)
    have F1 : Fs (fun a => P70 a ∨ Blk 1 a) μ mb := (x4.mo (fun a e => Or.inl e)).tr (y5.mo (fun a e => Or.inr e))
    obtain ⟨z1, z2, z3, z4, z5, z6⟩ := at_m h F1 q2
    obtain ⟨mc, s1, s2, s3, s4⟩ := m_record (s := μ.1 296) (g := μ.2.1 300) z1 z2 z3
    have c296 : mc.1 296 = μ.1 296 := (s3.1 296 (by unfold R299; decide)).1.trans z2
    have c300 : mc.2.1 300 = μ.2.1 300 := (s3.1 300 (by unfold R299; decide)).2.trans z3
    obtain ⟨m1, w1, w2, w3⟩ := ms (μ := mc) (i := 3) (v := nI (ct (μ.1 296) 3 - 1)) (k := 3) rfl (by decide)
    rw [c296] at w2
    obtain ⟨md, d1, d2, d3⟩ := m_endL (s := upd (μ.1 296) 3 (nI (ct (μ.1 296) 3 - 1))) (u := μ.1 296 (158 + 6 * l + 5)) (l := l) (n := ct (μ.1 296) 3 - 1) (by omega) pk_us (158 + 6 * (ct (μ.1 296) 3 - 1) - (158 + 6 * l)) qFuel (158 + 6 * l) m1 (by omega) (by unfold qFuel; omega) (Nat.le_refl _) (by
      rw [w2]
      funext j
      unfold eeS
      rw [if_neg (by omega)])
    have dF : Fs F296 mc md := w3.tr d3
    have eL := eeS_L (s := μ.1 296) h3 l1
    have ns : ∀ i, i < 521 → (i ≠ 3 → (¬ (158 ≤ i ∧ i < 206) → eeS (upd (μ.1 296) 3 (nI (ct (μ.1 296) 3 - 1))) l (158 + 6 * (ct (μ.1 296) 3 - 1)) i = μ.1 296 i)) := fun i _ i2 i3 => by
      unfold eeS
      rw [if_neg (by omega), pk_un i2]
    have e3 : eeS (upd (μ.1 296) 3 (nI (ct (μ.1 296) 3 - 1))) l (158 + 6 * (ct (μ.1 296) 3 - 1)) 3 = nI (ct (μ.1 296) 3 - 1) := by unfold eeS; rw [if_neg (by omega), pk_us]
    have hO' := ho.lea ns ⟨nI_ct e3 (by omega), by rw [ct_nI e3 (by omega)]; omega⟩ (by
      rw [eL]
      exact fun x hx => ho.1.2.2.1 x (cutL_mem hx))
    have hS : SV mb 1 (cutL (LSo (μ.1 296)) l) (OSo (μ.1 296)) (if μ.1 296 57 = 0 then 0 else ct (μ.1 296) 0) (fun q k => μ.1 296 (394 + 5 * q + k)) (fun r => μ.1 296 (58 + 10 * r + 9)) (μ.1 296) (μ.2.1 300) := by
      refine SV.wLea x3 y3 ?_
      rw [cutL_len (by omega)]
      exact y2.congr (fun r k hr hk => (cutL_lf (by omega)).symm)
    obtain ⟨f1, f2, f3, f4⟩ := h.fin hk q3 q1.2.1 x2 x4 y5 s2 s3 s4 (dF.mo (fun a e => Or.inl e)) (NV.leaO hS kd1 ho.1 ns eL) (hO'.mono (by omega)) (fun i _ => by rw [d2]) (fun i _ => by rw [(dF.1 300 (by decide)).2, c300])
    have i3 : F_X4_isLease (nI l) mb = some 1 := by
      refine be_ (mg (k := 3) rfl (by decide)) ?_
      rw [(F1.1 296 (by unfold P70 Blk; omega)).1, h3.1, nI_sub1 (by omega)]
      exact be_ (inR_y (nI_pos (by omega)) (nI_nlt (by omega) (by omega))) rfl
    refine ⟨0, 0, μ.1 296 (158 + 6 * l + 5), μ.1 296 (158 + 6 * l + 5), mb, md, ?_, ?_, by decide, f4, fun _ => rfl, f1, f2, f3⟩
    · refine be_ l3 ((if_pos rfl).trans (be_ x1 (be_ ((x2_get (t := 13) (k := 5) x3.lea (by rw [hlen]; exact l1) (by decide)).trans (congrArg some ?_)) (be_ y1 rfl))))
      exact (rwT_lf l1 (by decide)).trans (by rw [Nat.zero_add])
    · refine be_ i3 ?_
      refine (m_tail (t := 0) (z := 0) ?_ (by decide)).trans ((if_pos rfl).trans (be_ s1 ?_))
      · exact if_neg n10
      · refine be_ ((show F_X4_leaseOf (nI l) 5 mc = _ from m_lO (k := 5) (by omega) (by decide)).trans (congrArg some (by rw [c296]))) (be_ (mg (k := 3) rfl (by decide)) ?_)
        rw [c296, h3.1, nI_sub1 (by omega), show (158 : Int32) + 6 * nI l = nI (158 + 6 * l) from ix2 158 6 l]
        exact be_ w1 (be_ d1 rfl)
  · refine ⟨1, 1, 0, 0, μ, uI μ 295 0 (nI 1), be_ l3 rfl, ?_, by decide, by rw [uI_eq]; rfl, fun e => absurd e (by decide), PA.th h hk _⟩
    refine be_ l4 ?_
    exact m_tail (f := _) (o := some 1) (t := 1) (z := 0) rfl (by decide)
end ENL
