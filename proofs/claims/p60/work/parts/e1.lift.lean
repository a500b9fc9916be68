/-! ===== a contract of the class, over the whole world ===== -/
section LIFT2
variable {l : Launch} {E E1 : Ev} {y : MethodName} {ws : List Cond} {rm : Room} {av : List Value} {μ μ' : Mm} {o : Option Value} {Y : va_W}
theorem cx_ct (h : Cx l E y ws rm av μ 0 o μ') : Ct l E y ws rm av μ o μ' := by
  intro p e h1 h2 h3 s m args below hs ha hP _
  obtain ⟨n, oc, a1, a2, a3, a4⟩ := h p e h1 h2 h3 s m args below hs ha hP trivial
  refine ⟨n, oc, a1, a2, a3, ?_⟩
  rcases a4 with ⟨hq, L, a5, a6⟩ | ⟨q, -, z1, z2, z3, z4, -⟩
  · exact ⟨hq.2, L, a5, a6⟩
  · exact absurd rfl z4.1.1
/-- a world of the class alone, out of the whole -/
theorem pre_in (hI : Inn E E1) (h0 : 0 < eN E1) (hW : va_D (eA E1) (wl E1 μ)) {U : State} (h : qPz E (Y ++ wl E1 μ) U) : qP E1 μ U := by
  obtain ⟨i1, i2, i3, i4, i5⟩ := hI
  obtain ⟨h1, h2, h3, h4⟩ := h
  obtain ⟨-, w1, -⟩ := hw_app h1
  have et : eTy E1 = eTy E := by
    unfold eTy eC
    rw [i2]
  have w2 : va_P E1.1 vwCl (wl E1 μ) U.heap := by rw [i1]; exact w1
  refine ⟨⟨w2, hW⟩, by rw [i1, et]; exact h2, ?_, i5 U h4⟩
  obtain ⟨k, hk⟩ := wl_get E1 μ h0 (by decide)
  have := (w2 k _ hk).lt
  exact Nat.le_of_lt this
theorem post_in (hI : Inn E E1) (hY : va_D (eA E) Y) (hs : ∀ q, q ∈ Y → ¬ eA E1 q.1) {s t : State} (h : HW E (Y ++ wl E1 μ) s.heap) (hH : Hd E1 μ' t.heap) (hF : va_F (eA E1) s t) : HW E (Y ++ wl E1 μ') t.heap ∧ va_F (eA E) s t := by
  obtain ⟨i1, i2, i3, i4, i5⟩ := hI
  obtain ⟨w0, -, -⟩ := hw_app h
  refine ⟨hw_mk hY (fun q hq => (w0 q hq).kept (hF.2 _ (w0 q hq).lt (hs q hq))) (by rw [← i1]; exact hH.1) hH.2 i3 hs, hF.1, fun q hq hn => hF.2 q hq (fun z => hn (i3 q z))⟩
theorem cz_ct (h : Ct l E1 y ws rm av μ o μ') (hI : Inn E E1) (h0 : 0 < eN E1) (hY : va_D (eA E) Y) (hs : ∀ q, q ∈ Y → ¬ eA E1 q.1) (hW : va_D (eA E1) (wl E1 μ)) : Cz l E y ws rm av (Y ++ wl E1 μ) (fun o' ν' => o' = o ∧ (ν' = Y ++ wl E1 μ' ∧ va_D (eA E1) (wl E1 μ'))) :=
  met_cq h (fun a s hP => ⟨hP.1, pre_in hI h0 hW hP.2⟩) (fun a s oc t hP hq => by
    obtain ⟨q1, q2⟩ := post_in hI hY hs hP.2.1 hq.2.1 hq.2.2
    exact ⟨o, _, ⟨hq.1, rfl, rfl, hq.2.1.2⟩, q1, q2⟩) hI.2.2.1
theorem cz_cts {P : Option Value → Mm → Prop} (h : CtS l E1 y ws rm av μ P) (hI : Inn E E1) (h0 : 0 < eN E1) (hY : va_D (eA E) Y) (hs : ∀ q, q ∈ Y → ¬ eA E1 q.1) (hW : va_D (eA E1) (wl E1 μ)) : Cz l E y ws rm av (Y ++ wl E1 μ) (fun o' ν' => ∃ μ1, P o' μ1 ∧ (ν' = Y ++ wl E1 μ1 ∧ va_D (eA E1) (wl E1 μ1))) :=
  met_cq h (fun a s hP => ⟨hP.1, pre_in hI h0 hW hP.2⟩) (fun a s oc t hP hq => by
    obtain ⟨o1, μ1, ⟨q0, q1⟩, q2, q3⟩ := hq
    obtain ⟨q4, q5⟩ := post_in hI hY hs hP.2.1 q2 q3
    exact ⟨o1, _, ⟨q0, μ1, q1, rfl, q2.2⟩, q4, q5⟩) hI.2.2.1
/-- the class' cells without a text: apart by themselves -/
theorem wl_D (hn : eN E1 ≤ 295) (hU : (eU E1).1 = 0 ∨ eB E1 + eN E1 ≤ (eU E1).2) : va_D (eA E1) (wl E1 μ) := by
  have htx : tx E1 μ = [] := if_pos hn
  have hnd : ((wl E1 μ).map (fun z => z.1)).Nodup := by
    have e1 : (wl E1 μ).map (fun z => z.1) = ((List.range (eN E1)).filter (fun i => i != 296)).map (fun i => eB E1 + i) := by
      unfold wl va_pl
      rw [htx, List.nil_append, List.map_map]
      show List.map id (eL E1) = _
      rw [List.map_id]
      rfl
    rw [e1]
    exact List.pairwise_map.mpr (List.Pairwise.imp (fun h e => h (Nat.add_left_cancel e)) (List.Nodup.sublist List.filter_sublist List.nodup_range))
  refine ⟨fun i j p q hp hq e => ?_, fun k q hq => ?_⟩
  · have hi : ((wl E1 μ).map (fun z => z.1))[i]? = some p.1 := by rw [List.getElem?_map, hp]; rfl
    have hj : ((wl E1 μ).map (fun z => z.1))[j]? = some q.1 := by rw [List.getElem?_map, hq]; rfl
    exact (List.getElem?_inj (List.getElem?_eq_some_iff.mp hi).1 hnd).mp (by rw [hi, hj, e])
  · have hq := List.mem_of_getElem? hq
    unfold wl at hq
    rw [htx, List.nil_append] at hq
    obtain ⟨a, ha, rfl⟩ := List.mem_map.mp hq
    obtain ⟨i, i1, i2, rfl⟩ := eL_ge ha
    show eB E1 ≤ eB E1 + i ∧ ((eU E1).1 = 0 ∨ eB E1 + i < (eU E1).2)
    refine ⟨Nat.le_add_right _ _, ?_⟩
    rcases hU with h | h
    · exact Or.inl h
    · exact Or.inr (by omega)
end LIFT2
