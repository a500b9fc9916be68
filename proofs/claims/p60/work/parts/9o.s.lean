/-! ===== load: what stands before and behind the loop ===== -/
section LDA
variable {μ ν μ' b : Mm} {f : Nat → Int32} {n t k : Nat} {s : Nat → Int32}
theorem kd_47 : kd 47 = 1 := by decide +kernel
theorem rdt_E (hs : ∀ j, j < 521 → s j = sE j) (h : NV μ 47 sE gE) : RdT μ s := by
  have d0 : ct sE 0 = 0 := by decide
  have d1 : ct sE 1 = 1 := by decide
  have d2 : ct sE 2 = 0 := by decide
  have d3 : ct sE 3 = 0 := by decide
  have d4 : ct sE 4 = 0 := by decide
  refine ⟨?_, ?_, ?_, ?_, ?_, fun k hk => (h.sea k hk).trans (hs _ (by omega)).symm, fun k hk h7 => (h.yea k hk (by rw [← ct_eq (hs 7 (by decide))]; exact h7)).trans (hs _ (by omega)).symm, h.sca.1.trans (hs 7 (by decide)).symm, h.sca.2.2.1.trans (hs 6 (by decide)).symm⟩
  · rw [ct_eq (hs 0 (by decide))]
    exact h.rch.congr (fun r k hr hk => (hs _ (by omega)).symm)
  · rw [ct_eq (hs 1 (by decide))]
    exact h.acc.congr (fun r k hr hk => (hs _ (by omega)).symm)
  · rw [ct_eq (hs 2 (by decide))]
    exact h.rgt.congr (fun r k hr hk => by omega)
  · rw [ct_eq (hs 3 (by decide)), d3]
    have q := h.lea
    rw [lso_E] at q
    exact Tb.congr (n := 0) q (fun r k hr _ => absurd hr (Nat.not_lt_zero r))
  · rw [ct_eq (hs 4 (by decide)), d4]
    have q := h.opt
    rw [oso_E] at q
    exact Tb.congr (n := 0) q (fun r k hr _ => absurd hr (Nat.not_lt_zero r))
theorem rok_E (hs : ∀ j, j < 521 → s j = sE j) : Rok s ∧ qf s = 0 := by
  have d2 : ct s 2 = 0 := (ct_eq (hs 2 (by decide))).trans (by decide)
  have d3 : ct s 3 = 0 := (ct_eq (hs 3 (by decide))).trans (by decide)
  have d4 : ct s 4 = 0 := (ct_eq (hs 4 (by decide))).trans (by decide)
  have d1 : ct s 1 = 1 := (ct_eq (hs 1 (by decide))).trans (by decide)
  have d7 : ct s 7 = 1 := (ct_eq (hs 7 (by decide))).trans (by decide)
  have z : ∀ {j m : Nat}, j < 521 → sE j = nI 0 → m < 2 ^ 30 → Bn s j m := fun {j m} h e hm => Bn.mk (v := 0) ((hs j h).trans e) (Nat.zero_le m) hm
  refine ⟨⟨⟨z (by decide) (by decide) (by decide), ⟨Bn.mk (v := 1) ((hs 1 (by decide)).trans (by decide)) (by decide) (by decide), by omega⟩, z (by decide) (by decide) (by decide), z (by decide) (by decide) (by decide), z (by decide) (by decide) (by decide), z (by decide) (by decide) (by decide), Bn.mk (v := 1) ((hs 7 (by decide)).trans (by decide)) (by decide) (by decide), by omega⟩, ⟨fun q hq => z (by omega) ((show ∀ q, q < 6 → sE (8 + q) = nI 0 by decide) q hq) (by decide), fun q hq => z (by omega) ((show ∀ q, q < 6 → sE (14 + q) = nI 0 by decide) q hq) (by decide), fun q hq => Bn.mk (v := 100) ((hs _ (by omega)).trans ((show ∀ q, q < 12 → sE (36 + q) = nI 100 by decide) q hq)) (by decide) (by decide), fun q hq => ?_⟩, ⟨fun r hr => by omega, fun c d hc => by omega⟩, fun l hl => by omega, fun l hl => by omega, fun j hj hz => ?_⟩, ?_⟩
  · by_cases e : q = 0
    · rw [e]
      exact Bn.mk (v := 100) ((hs _ (by decide)).trans (by decide)) (by decide) (by decide)
    · exact z (by omega) ((if_neg (by omega)).trans (if_neg (by omega))) (by decide)
  · rw [d2] at hz
    rw [hs j hj]
    exact (if_neg (by omega)).trans (if_neg (by omega))
  · unfold qf
    rw [if_pos d2]
def rtB (o : Mm) : Option (Int32 × Mm) := (F_X1_rankRights 47 o).bind fun o38 => if (o38.1 45 4) = 0 then (some ((1 : Int32), o38)) else (some ((0 : Int32), o38))
theorem c_pre (h : KB μ 47) (h2 : μ.1 45 2 = nI n) (hB : BY (μ.1 46) n) : ∃ b, F_X0_readText μ = (F_X0_readText_28 qFuel 0 b).bind rtB ∧ (CL (μ.1 46) n (skp (μ.1 46) n 0) b ∧ ((b.1 45 4 = 0 ∧ b.1 45 3 = -1) ∧ (NV b 47 sE gE ∧ Fs (fun a => a = 45 ∨ Blk 47 a) μ b))) := by
  have k5 : Fs (fun a => a = 45) μ (uI (uI (uI μ 45 3 (-1)) 45 4 0) 45 7 0) := ((Fs.uI (S := fun a => a = 45) rfl).tr (Fs.uI rfl)).tr (Fs.uI rfl)
  have v : ∀ j, (uI (uI (uI μ 45 3 (-1)) 45 4 0) 45 7 0).1 45 j = if j = 7 then 0 else if j = 4 then 0 else if j = 3 then -1 else μ.1 45 j := fun j => by rw [uI_eq, uI_eq, uI_eq]
  obtain ⟨m8, e8, n8, f8⟩ := x1_empty (b := 47) kd_47 (h.fs k5 (fun a x y => by omega))
  have e45 : m8.1 45 = (uI (uI (uI μ 45 3 (-1)) 45 4 0) 45 7 0).1 45 := (f8.1 45 (by unfold Blk; omega)).1
  have t8 : Tx (μ.1 46) n m8 := ⟨by rw [e45, v]; exact h2, fun i _ => by rw [(f8.1 46 (by unfold Blk; omega)).1, (k5.1 46 (by decide)).1]⟩
  obtain ⟨b, e11, c11, k11⟩ := x0_next (e := 0) hB.1 t8 (by rw [e45, v]; rfl) (Nat.zero_le n)
  refine ⟨b, ?_, c11, ⟨(k11.2 4 (by decide)).trans (by rw [e45, v]; rfl), (k11.2 3 (by decide)).trans (by rw [e45, v]; rfl)⟩, SV.fs n8 k11.1 (fun a x y => by omega), ?_⟩
  · unfold F_X0_readText
    show (F_X1_makeEmpty 47 (uI (uI (uI μ 45 3 (-1)) 45 4 0) 45 7 0)).bind _ = _
    rw [e8]
    show (F_X0_nextToken m8).bind _ = _
    rw [e11]
    rfl
  · exact ((k5.mo (fun a e => Or.inl e)).tr (f8.mo (fun a e => Or.inr e))).tr (k11.1.mo (fun a e => Or.inl e))
/-! the reference's beginning -/
end LDA

