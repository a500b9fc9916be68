/-! ===== the reader of the class beside the reference's ===== -/
def RdT (μ : Mm) (s : Nat → Int32) : Prop :=
  Tb μ 48 3 (ct s 0) (fun r k => s (8 + 6 * k + r)) ∧ (Tb μ 52 2 (ct s 1) (fun a k => s (26 + 5 * k + a)) ∧ (Tb μ 55 10 (ct s 2) (fun r k => s (58 + 10 * r + k)) ∧ (Tb μ 59 6 (ct s 3) (fun l k => s (158 + 6 * l + k)) ∧ (Tb μ 61 6 (ct s 4) (fun l k => s (206 + 6 * l + k)) ∧ ((∀ k, k < 12 → μ.1 50 k = s (36 + k)) ∧ ((∀ k, k < 5 → k < ct s 7 → μ.1 51 k = s (48 + k)) ∧ (μ.1 47 3 = s 7 ∧ μ.1 47 15 = s 6)))))))
def LSg (a : Nat) : Prop := a = 45 ∨ ((47 ≤ a ∧ a < 54) ∨ (a = 55 ∨ (a = 56 ∨ (59 ≤ a ∧ a < 63))))
def GC (f : Nat → Int32) (n t : Nat) (s : Nat → Int32) (b μ : Mm) : Prop := CL f n t μ ∧ ((μ.1 45 4 = 0 ∧ μ.1 45 3 = -1) ∧ (RdT μ s ∧ (Fs LSg b μ ∧ ∀ j, j ≠ 3 → j ≠ 15 → μ.1 47 j = b.1 47 j)))
def MFr (b μ : Mm) : Prop := Fs (fun a => a = 295 ∨ a = 297) b μ ∧ ∀ j, (j < 15 ∨ 20 ≤ j) → μ.1 295 j = b.1 295 j
def GM (f : Nat → Int32) (n a : Nat) (s : Nat → Int32) (q : Int32) (b μ : Mm) : Prop := ML f n a μ ∧ (a ≤ n ∧ ((μ.1 295 17 = 0 ∧ μ.1 295 16 = -1) ∧ (μ.1 297 = s ∧ (μ.1 295 19 = q ∧ MFr b μ))))
def MX (f : Nat → Int32) (n k o : Nat) (b μ : Mm) : Prop := (k ≠ 0 ∧ k < 10) ∧ (Em k o μ ∧ ((∃ a, a ≤ n ∧ ML f n a μ) ∧ MFr b μ))
theorem RdT.ts {μ : Mm} {s : Nat → Int32} (h : RdT μ s) : TS μ := fun t c q => by
  obtain ⟨h1, h2, h3, h4, h5, -⟩ := h
  rcases q with ⟨rfl, rfl⟩ | ⟨rfl, rfl⟩ | ⟨rfl, rfl⟩ | ⟨rfl, rfl⟩ | ⟨rfl, rfl⟩
  · exact ⟨_, _, h1⟩
  · exact ⟨_, _, h2⟩
  · exact ⟨_, _, h3⟩
  · exact ⟨_, _, h4⟩
  · exact ⟨_, _, h5⟩
theorem RdT.fs {S : Nat → Prop} {μ μ' : Mm} {s : Nat → Int32} (h : RdT μ s) (hF : Fs S μ μ') (hS : ∀ a, 47 ≤ a → a < 69 → ¬ S a) : RdT μ' s := by
  obtain ⟨h1, h2, h3, h4, h5, h6, h7, h8, h9⟩ := h
  refine ⟨h1.fs hF (hS _ (by decide) (by decide)) (hS _ (by decide) (by decide)), h2.fs hF (hS _ (by decide) (by decide)) (hS _ (by decide) (by decide)), h3.fs hF (hS _ (by decide) (by decide)) (hS _ (by decide) (by decide)), h4.fs hF (hS _ (by decide) (by decide)) (hS _ (by decide) (by decide)), h5.fs hF (hS _ (by decide) (by decide)) (hS _ (by decide) (by decide)), ?_, ?_, ?_, ?_⟩
  · rw [(hF.1 50 (hS _ (by decide) (by decide))).1]; exact h6
  · rw [(hF.1 51 (hS _ (by decide) (by decide))).1]; exact h7
  · rw [(hF.1 47 (hS _ (by decide) (by decide))).1]; exact h8
  · rw [(hF.1 47 (hS _ (by decide) (by decide))).1]; exact h9
theorem i32_rg {v : Int32} {lo hi : Nat} (h1 : ¬ v < nI lo) (h2 : v ≤ nI hi) (hl : lo < 2 ^ 30) (hh : hi < 2 ^ 30) : ∃ w, v = nI w ∧ (lo ≤ w ∧ w ≤ hi) := by
  have h0 : ¬ v < 0 := fun z => h1 (Int32.lt_of_lt_of_le z (nI_pos' (by omega)))
  obtain ⟨w, w1, rfl⟩ := i32_pos h0
  refine ⟨w, rfl, ?_, ?_⟩
  · rcases Nat.lt_or_ge w lo with z | z
    · exact absurd (nI_lt z (by omega)) h1
    · exact z
  · rcases Nat.lt_or_ge hi w with z | z
    · exact absurd h2 (nI_ge z w1)
    · exact z
theorem i32_rp {v : Int32} {lo c : Nat} (h1 : ¬ v < nI lo) (h2 : v ≤ nI c - 1) (hl : lo < 2 ^ 30) (hc : c < 2 ^ 30) : ∃ w, v = nI w ∧ (lo ≤ w ∧ w < c) := by
  rcases Nat.eq_zero_or_pos c with e | e
  · exfalso
    rw [e] at h2
    have h0 : ¬ v < 0 := fun z => h1 (Int32.lt_of_lt_of_le z (nI_pos' (by omega)))
    exact h0 (Int32.lt_of_le_of_lt h2 (by decide))
  · rw [nI_sub1 e] at h2
    obtain ⟨w, w1, w2, w3⟩ := i32_rg h1 h2 hl (by omega)
    exact ⟨w, w1, w2, by omega⟩
section STEP
variable {f : Nat → Int32} {n t a k o : Nat} {s s' : Nat → Int32} {q : Int32} {b b' μ μc μm : Mm}
theorem GC.fx {μ' : Mm} (h : GC f n t s b μ) (hk : k ≠ 0 ∧ k < 10) (he : Er k o μ') (k34 : K34 μ μ') : FX f n k o b μ' := by
  obtain ⟨h1, h2, h3, h4, h5⟩ := h
  exact ⟨hk, he, h3.ts.fs k34.1 (fun t c q => by unfold tt at q; omega), ⟨t, h1.k34 k34⟩, (h4.mo (fun a e => by unfold LSg at e; unfold LSt; omega)).tr (k34.1.mo (fun a e => Or.inl e))⟩
theorem GC.mv {t' : Nat} {μ' : Mm} (h : GC f n t s b μ) (hc : CL f n t' μ') (k45 : K45 μ μ') : GC f n t' s b μ' := by
  obtain ⟨h1, h2, h3, h4, h5⟩ := h
  exact ⟨hc, ⟨(k45.2 4 (by decide)).trans h2.1, (k45.2 3 (by decide)).trans h2.2⟩, h3.fs k45.1 (fun a x y => by omega), h4.tr (k45.1.mo (fun a e => Or.inl e)), fun j j3 j5 => by rw [(k45.1.1 47 (by decide)).1]; exact h5 j j3 j5⟩
theorem MFr.rf : MFr μ μ := ⟨Fs.rf, fun _ _ => rfl⟩
theorem MFr.tr {μ1 μ2 : Mm} (h : MFr μ μ1) (h2 : MFr μ1 μ2) : MFr μ μ2 := ⟨h.1.tr h2.1, fun j hj => (h2.2 j hj).trans (h.2 j hj)⟩
theorem MFr.k15 {μ1 : Mm} (h : K15 μ μ1) : MFr μ μ1 := ⟨h.1.mo (fun a e => Or.inl e), fun j hj => h.2 j (by omega)⟩
theorem GM.mv {a' : Nat} {μ' : Mm} (h : GM f n a s q b μ) (hm : ML f n a' μ') (ha : a' ≤ n) (k15 : K15 μ μ') : GM f n a' s q b μ' := by
  obtain ⟨h1, h2, h3, h4, h5, h6⟩ := h
  exact ⟨hm, ha, ⟨(k15.2 17 (by decide)).trans h3.1, (k15.2 16 (by decide)).trans h3.2⟩, (k15.1.1 297 (by decide)).1.trans h4, (k15.2 19 (by decide)).trans h5, h6.tr (MFr.k15 k15)⟩
theorem gm_get {j : Nat} (h : GM f n a s q b μ) (hj : j < 521) : aI μ 297 (nI j) = some (s j) := (aI_ok rfl (by rw [ln297]; exact hj)).trans (congrArg some (congrFun h.2.2.2.1 j))
theorem gm_put {j : Nat} {v : Int32} (h : GM f n a s q b μ) (hj : j < 521) : Op (sI μ 297 (nI j) v) (fun μ' => GM f n a (upd s j v) q b μ') := by
  obtain ⟨h1, h2, h3, h4, h5, h6⟩ := h
  refine op_e (sI_ok rfl (by rw [ln297]; exact hj)) ?_
  have fr : Fs (fun a => a = 297) μ (uI μ 297 j v) := Fs.uI rfl
  have e5 : (uI μ 297 j v).1 295 = μ.1 295 := uI_ne (by decide)
  refine ⟨h1.fs fr (by rw [e5]; exact ⟨rfl, rfl⟩) (by decide), h2, by rw [e5]; exact h3, ?_, by rw [e5]; exact h5, h6.tr ⟨fr.mo (fun a e => Or.inr e), fun j _ => by rw [e5]⟩⟩
  rw [uI_eq, h4]
  rfl
theorem gm_19 {v : Int32} (h : GM f n a s q b μ) : GM f n a s v b (uI μ 295 19 v) := by
  obtain ⟨h1, h2, h3, h4, h5, h6⟩ := h
  have k : ∀ j, j ≠ 19 → (uI μ 295 19 v).1 295 j = μ.1 295 j := fun j hj => by rw [uI_eq]; exact if_neg hj
  refine ⟨h1.fs (Fs.uI (S := fun a => a = 295) rfl) ⟨k 14 (by decide), k 15 (by decide)⟩ (by decide), h2, ⟨(k 17 (by decide)).trans h3.1, (k 16 (by decide)).trans h3.2⟩, (uI_ne (by decide)).trans h4, by rw [uI_eq]; rfl, h6.tr ⟨Fs.uI (Or.inl rfl), fun j hj => k j (by omega)⟩⟩
theorem MX.er (h : MX f n k o b μ) : ¬ μ.1 295 17 = 0 := by
  have h1 := h.1
  rw [h.2.1.1]
  exact nI_ne0 (by omega) (by omega)
theorem mx_num {lo hi : Int32} (h : MX f n k o b μ) : F_X4_number lo hi μ = some (lo, μ) := m_numF h.er
theorem mx_fail {x y : Int32} (h : MX f n k o b μ) : F_X4_fail x y μ = some μ := m_failF h.er
theorem mx_get {j : Nat} (hj : j < 521) : aI μ 297 (nI j) = some (μ.1 297 j) := aI_ok rfl (by rw [ln297]; exact hj)
theorem mx_put {j : Nat} {v : Int32} (h : MX f n k o b μ) (hj : j < 521) : Op (sI μ 297 (nI j) v) (fun μ' => MX f n k o b μ') := by
  obtain ⟨h1, ⟨h2, h3⟩, ⟨a, h4, h5⟩, h6⟩ := h
  refine op_e (sI_ok rfl (by rw [ln297]; exact hj)) ?_
  have fr : Fs (fun a => a = 297) μ (uI μ 297 j v) := Fs.uI rfl
  have e5 : (uI μ 297 j v).1 295 = μ.1 295 := uI_ne (by decide)
  refine ⟨h1, ⟨by rw [e5]; exact h2, by rw [e5]; exact h3⟩, ⟨a, h4, h5.fs fr (by rw [e5]; exact ⟨rfl, rfl⟩) (by decide)⟩, h6.tr ⟨fr.mo (fun a e => Or.inr e), fun j _ => by rw [e5]⟩⟩
theorem mx_19 {v : Int32} (h : MX f n k o b μ) : MX f n k o b (uI μ 295 19 v) := by
  obtain ⟨h1, ⟨h2, h3⟩, ⟨a, h4, h5⟩, h6⟩ := h
  have k : ∀ j, j ≠ 19 → (uI μ 295 19 v).1 295 j = μ.1 295 j := fun j hj => by rw [uI_eq]; exact if_neg hj
  exact ⟨h1, ⟨(k 17 (by decide)).trans h2, (k 16 (by decide)).trans h3⟩, ⟨a, h4, h5.fs (Fs.uI (S := fun a => a = 295) rfl) ⟨k 14 (by decide), k 15 (by decide)⟩ (by decide)⟩, h6.tr ⟨Fs.uI (Or.inl rfl), fun j hj => k j (by omega)⟩⟩
theorem mx_acc {w : Nat} (hB : BY f n) (hw : w < 10) (h : MX f n k o b μ) : Op (F_X4_accept w μ) (fun z => z.1 = 0 ∧ MX f n k o b z.2) := by
  have he := h.er
  obtain ⟨h1, ⟨h2, h3⟩, ⟨a, h4, h5⟩, h6⟩ := h
  refine op_m (m_acceptF hB h5 h4 hw he) (fun z w => ⟨w.1, h1, ⟨(w.2.2.2.2 17 (by decide)).trans h2, (w.2.2.2.2 16 (by decide)).trans h3⟩, ⟨_, w.2.2.1, w.2.1⟩, h6.tr (MFr.k15 w.2.2.2)⟩)
theorem GM.mx {μ' : Mm} (h : GM f n a s q b μ) (hk : k ≠ 0 ∧ k < 10) (he : Em k o μ') (hm : ∃ a, a ≤ n ∧ ML f n a μ') (hF : Fs (fun a => a = 295) μ μ') (hj : ∀ j, ¬ (15 ≤ j ∧ j < 19) → μ'.1 295 j = μ.1 295 j) : MX f n k o b μ' := ⟨hk, he, hm, h.2.2.2.2.2.tr ⟨hF.mo (fun a e => Or.inl e), fun j z => hj j (by omega)⟩⟩
theorem gm_fail (h : GM f n a s q b μ) (hk : k ≠ 0 ∧ k < 10) : Op (F_X4_fail (nI k) (nI o) μ) (fun μ' => MX f n k o b μ') := by
  refine op_m (m_fail0 (k := k) (o := o) h.2.2.1.1) (fun μ' w => h.mx hk w.1 ⟨a, h.2.1, h.1.fs w.2.1 ⟨w.2.2 14 (by decide) (by decide), w.2.2 15 (by decide) (by decide)⟩ (by decide)⟩ w.2.1 (fun j hj => w.2.2 j (by omega) (by omega)))
theorem gc_fail (h : GC f n t s b μ) (hk : k ≠ 0 ∧ k < 10) : Op (F_X0_fail (nI k) (nI o) μ) (fun μ' => FX f n k o b μ') := op_m (x0_fail0 (k := k) (o := o) h.2.1.1) (fun μ' w => h.fx hk w.1 w.2)
/-- one number on both sides -/
theorem num2 {β : Type} {lo hi : Int32} {F : Int32 × Mm → Option Mm} {G : Int32 × Mm → Option β} {P : Mm → β → Prop} (hB : BY f n) (C : GC f n t s b μc) (M : GM f n a s' q b' μm) (ht : skp f n a = t)
  (good : ∀ v μc' μm' t' a', ¬ v < lo → v ≤ hi → GC f n t' s b μc' → GM f n a' s' q b' μm' → skp f n a' = t' → t < t' → μm'.1 295 18 = nI t → Op2 (F (v, μc')) (G (v, μm')) P)
  (bad : ∀ k o w μc' μm', FX f n k o b μc' → MX f n k o b' μm' → Op2 (F (lo, μc')) (G (w, μm')) P) : Op2 ((F_X0_takeNumber lo hi μc).bind F) ((F_X4_number lo hi μm).bind G) P := by
  obtain ⟨oc, e1, g1, x1⟩ := x0_num (lo := lo) (hi := hi) C.1 hB.1 C.2.1.1
  obtain ⟨om, e2, g2, x2⟩ := m_num (lo := lo) (hi := hi) hB M.1 M.2.1 ht M.2.2.1.1
  refine o2_l e1 (o2_r e2 ?_)
  have htn := C.1.2.1
  by_cases e : numC f n t lo hi = 0
  · obtain ⟨c1, c2, c3⟩ := g1 e
    obtain ⟨m1, m2, m3, m4, m5⟩ := g2 e
    obtain ⟨z1, z2, z3, z4⟩ := numC_0 e
    have hte := te_le (f := f) htn
    have hlt := hte.2.2 (tk2.mp z1).1
    have hsk : te f n t ≤ skp f n (te f n t) := ru_ge
    have q1 : oc = (nval f n t, oc.2) := by rw [← c1]
    have q2 : om = (nval f n t, om.2) := by rw [← m1]
    rw [q1, q2]
    refine good _ oc.2 om.2 _ (te f n t) z3 z4 (C.mv c2 c3) ?_ rfl (by omega) m3
    obtain ⟨h1, h2, h3, h4, h5, h6⟩ := M
    exact ⟨m2, hte.2.1, ⟨(m5 17 (by decide) (by decide)).trans h3.1, (m5 16 (by decide) (by decide)).trans h3.2⟩, (m4.1 297 (by decide)).1.trans h4, (m5 19 (by decide) (by decide)).trans h5, h6.tr ⟨m4.mo (fun a e => Or.inl e), fun j hj => m5 j (by omega) (by omega)⟩⟩
  · obtain ⟨c1, c2, c3, c4⟩ := x1 e
    obtain ⟨m1, m2, m3, m4⟩ := x2 e
    have hle := numC_le (f := f) (n := n) (t := t) (lo := lo) (hi := hi)
    have q1 : oc = (lo, oc.2) := by rw [← c1]
    rw [q1]
    exact bad (numC f n t lo hi) t om.1 oc.2 om.2 (C.fx ⟨e, by omega⟩ c3 c4) (M.mx ⟨e, by omega⟩ m2 m1 m3 m4)
/-- a line that makes a row -/
theorem row2 {β : Type} {qt wh c most : Nat} {F : Mm → Option Mm} {G : Int32 × Mm → Option β} {P : Mm → β → Prop} (hB : BY f n) (C : GC f n t s b μc) (M : GM f n (te f n t) s q b' μm) (hq : μc.1 qt 2 = nI c) (hw : s wh = nI c) (hwh : wh < 521) (hc : c ≤ most) (hm : most < 1000)
  (good : ∀ μc', c < most → GC f n (skp f n (te f n t)) s b μc' → Op2 (F μc') (G (1, μm)) P)
  (bad : ∀ k o μc' μm', FX f n k o b μc' → MX f n k o b' μm' → Op2 (F μc') (G (0, μm')) P) : Op2 ((F_X0_takeRowWord qt (nI most) μc).bind F) ((F_X4_isRoom (nI wh) (nI most) (nI t) μm).bind G) P := by
  by_cases e : c < most
  · have e1 : ∃ m, F_X0_takeRowWord qt (nI most) μc = some m ∧ GC f n (skp f n (te f n t)) s b m := by
      unfold F_X0_takeRowWord
      rw [hq, if_pos (nI_lt e (by omega))]
      obtain ⟨m, m1, m2⟩ := C.1.next hB.1
      exact ⟨m, be_ m1 rfl, C.mv m2.1 m2.2⟩
    obtain ⟨m, m1, m2⟩ := e1
    have e2 : F_X4_isRoom (nI wh) (nI most) (nI t) μm = some (1, μm) := by
      unfold F_X4_isRoom
      refine be_ (gm_get M hwh) ?_
      rw [hw, if_neg (fun z => by have := nI_inj (by omega) (by omega) z; omega)]
      exact be_ rfl (be_ (m_failed0 M.2.2.1.1) (if_pos rfl))
    exact o2_l m1 (o2_r e2 (good m e m2))
  · obtain ⟨m, m1, m2⟩ := gc_fail (k := 4) (o := t) C ⟨by decide, by decide⟩
    obtain ⟨z, z1, z2⟩ := gm_fail (k := 4) (o := t) M ⟨by decide, by decide⟩
    have e1 : F_X0_takeRowWord qt (nI most) μc = some m := by
      unfold F_X0_takeRowWord
      rw [hq, if_neg (nI_nlt (by omega) (by omega)), C.1.2.2.2.2.1]
      exact be_ m1 rfl
    have e2 : F_X4_isRoom (nI wh) (nI most) (nI t) μm = some (0, z) := by
      unfold F_X4_isRoom
      refine be_ (gm_get M hwh) ?_
      rw [hw, if_pos (by rw [show c = most by omega])]
      exact be_ (be_ z1 rfl) (be_ (m_failed1 z2.er) (if_neg n10))
    exact o2_l e1 (o2_r e2 (bad 4 t m z m2 z2))
end STEP
