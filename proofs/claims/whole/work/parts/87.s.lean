/-! ===== save ===== -/
section SAV
variable {μ ν μ' : Mm} {k : Nat}
def SS (i : Nat) (a : Nat) : Prop := Blk (248 + 22 * i) a ∨ (a = 292 ∨ (a = 295 ∨ (303 ≤ a ∧ a < 306)))
/-- what a call leaves of the reader's cells and of the text's -/
def KeR (μ μ' : Mm) : Prop := (∀ a, (a = 45 ∨ (a = 46 ∨ (a = 293 ∨ (a = 306 ∨ a = 310)))) → μ'.1 a = μ.1 a) ∧ (μ'.2.2 = μ.2.2 ∧ ∀ j, (j = 13 ∨ (j = 16 ∨ (j = 17 ∨ j = 29))) → μ'.1 295 j = μ.1 295 j)
theorem KeR.q (h : KQ μ μ') : KeR μ μ' := ⟨fun a ha => (h.1.1 a (by unfold QS Blk; omega)).1, h.1.2, fun j hj => h.2.2.2.1 j (by omega) (by omega) (by omega)⟩
theorem KeR.a (h : PA k μ μ') : KeR μ μ' := ⟨fun a ha => (h.2.1.1 a (by unfold AS; omega)).1, h.2.1.2, fun j hj => h.2.2 j (by omega) (by omega)⟩
theorem KeR.rf : KeR μ μ := ⟨fun _ _ => rfl, rfl, fun _ _ => rfl⟩
theorem KeR.th {x : Int32} : KeR μ (uI μ 295 0 x) := ⟨fun a ha => uI_ne (by omega), rfl, fun j hj => by rw [uI_eq]; exact if_neg (by omega)⟩
theorem a_save (h : Cor k μ) (hk : k < 512) (p : Int32) : ∃ e t v w' μ1 μ2, F_X3_save p μ = some (e, v, μ1) ∧ (F_X4_save p μ1 = some (w', μ2) ∧ ((e, t) ∈ [(0, 0), (1, 1)] ∧ (μ2.1 295 0 = nI t ∧ ((e = 0 → v = w') ∧ (Cor (k + 1) μ2 ∧ KeR μ μ2))))) := by
  have hS := h.2.2.2.2
  have hB := h.1
  rcases slot_c (μ := μ) (ν := μ) p with ⟨i, i2, rfl, s1, s2⟩ | ⟨s1, s2⟩
  · obtain ⟨h1, h2, h3, h4⟩ := hS i i2
    have a292 : aI μ 292 (nI i) = some (μ.1 292 i) := aI_ok rfl (by rw [ln292]; exact i2)
    have a305 : ∀ ν : Mm, ν.1 305 = μ.1 305 → aI ν 305 (nI i) = some (μ.1 292 i) := fun ν e => (aI_ok rfl (by rw [ln305]; exact i2)).trans (congrArg some (by rw [e, h2]))
    have hz : zb (μ.1 292 i) = some (μ.1 292 i) := by
      rcases h3 with e | e
      · rw [e]; rfl
      · rw [e]; rfl
    have hkd := slot_kd i2
    obtain ⟨ma, a1, a2, a3⟩ := x1_copy hB.1 hkd kd1 (by omega) (h.2.1 _ hkd)
    have hput : sZ ma 292 (nI i) 1 = some (uI ma 292 i 1) := (sZ_ok (k := i) rfl (by rw [ln292]; exact i2)).trans rfl
    have F0 : Fs (SS i) μ (uI ma 292 i 1) := (a3.mo (fun a e => Or.inl e)).tr (Fs.uI (Or.inr (Or.inl rfl)))
    have A2 : NV (uI ma 292 i 1) (248 + 22 * i) (μ.1 296) (μ.2.1 300) := SV.fs a2 (Fs.uI (S := fun a => a = 292) rfl) (fun a a1 a2 => by omega)
    have z292 : (uI ma 292 i 1).1 292 = upd (μ.1 292) i 1 := by
      rw [uI_eq, (a3.1 292 (by unfold Blk; omega)).1]
      rfl
    have nn : ∀ a, (a < 248 ∨ (293 ≤ a ∧ (a ≠ 295 ∧ ¬ (303 ≤ a ∧ a < 306)))) → ¬ SS i a := fun a ha z => by unfold SS Blk at z; omega
    generalize hmb : uI ma 292 i 1 = mb at *
    have b295 : mb.1 295 = μ.1 295 := by
      rw [← hmb, uI_ne (by decide), (a3.1 295 (by unfold Blk; omega)).1]
    have b303 : mb.1 303 = μ.1 303 ∧ mb.1 305 = μ.1 305 := by
      rw [← hmb, uI_ne (by decide), uI_ne (by decide), (a3.1 303 (by unfold Blk; omega)).1, (a3.1 305 (by unfold Blk; omega)).1]
      exact ⟨rfl, rfl⟩
    have b304 : mb.2.1 304 = μ.2.1 304 := by
      rw [← hmb]
      exact (a3.1 304 (by unfold Blk; omega)).2
    have hput2 : sZ (uI mb 295 0 0) 305 (nI i) 1 = some (uI (uI mb 295 0 0) 305 i 1) := (sZ_ok (k := i) rfl (by rw [ln305]; exact i2)).trans rfl
    generalize hm5 : uI (uI mb 295 0 0) 305 i 1 = m5
    have f5 : Fs (fun a => a = 295 ∨ a = 305) mb m5 := by
      rw [← hm5]
      exact (Fs.uI (Or.inl rfl)).tr (Fs.uI (Or.inr rfl))
    have z305 : m5.1 305 = upd (μ.1 305) i 1 := by
      rw [← hm5, uI_eq, uI_ne (by decide), b303.2]
      rfl
    have z295 : ∀ j, j ≠ 0 → m5.1 295 j = μ.1 295 j := fun j hj => by
      rw [← hm5, uI_ne (by decide), uI_eq]
      refine (if_neg hj).trans ?_
      rw [b295]
    have z2950 : m5.1 295 0 = 0 := by
      rw [← hm5, uI_ne (by decide), uI_eq]
      rfl
    have g296 : m5.1 296 = μ.1 296 := (f5.1 296 (by decide)).1.trans (F0.1 296 (nn _ (by decide))).1
    have g300 : m5.2.1 300 = μ.2.1 300 := (f5.1 300 (by decide)).2.trans (F0.1 300 (nn _ (by decide))).2
    have g303 : m5.1 303 = μ.1 303 := (f5.1 303 (by decide)).1.trans b303.1
    obtain ⟨m6, b1, b2, -, b4⟩ := cpLoop (loop := F_X4_save_43 (nI i) (μ.1 292 i)) (src := 296) (dst := 303) (N := 521) (a := 521 * i) (ix := fun v => v) (jx := fun _ v => 521 * nI i + v) (by decide) (by decide) (fun m v μ => by rw [F_X4_save_43]; rfl) (off := 0) (fun k _ => by rw [Nat.zero_add]) (by rw [ln296]; decide) (by rw [ln303]; omega) (R := fun _ => True) (fun μ k _ _ => by show nI 521 * nI i + nI k = _; rw [pk_mul, nI_add]) (fun m k v _ => trivial) (f := μ.1 296) (f0 := μ.1 303) 521 qFuel 0 m5 (by decide) (by decide) trivial g296 (g303.trans cpT_0.symm)
    obtain ⟨m7, d1, d2, -, d4⟩ := cpLoopL (loop := F_X4_save_76 (nI i) (μ.1 292 i)) (src := 300) (dst := 304) (N := 15) (a := 15 * i) (ix := fun v => v) (jx := fun _ v => 15 * nI i + v) (by decide) (by decide) (fun m v μ => by rw [F_X4_save_76]; rfl) (off := 0) (fun k _ => by rw [Nat.zero_add]) (by rw [ln300]; decide) (by rw [ln304]; omega) (R := fun _ => True) (fun μ k _ _ => by show nI 15 * nI i + nI k = _; rw [pk_mul, nI_add]) (fun m k v _ => trivial) (f := μ.2.1 300) (f0 := μ.2.1 304) 15 qFuel 0 m6 (by decide) (by decide) trivial ((b4.1 300 (by decide)).2.trans g300) ((b4.1 304 (by decide)).2.trans (((f5.1 304 (by decide)).2.trans b304).trans cpTL_0.symm))
    have F7 : Fs (fun a => a = 295 ∨ (303 ≤ a ∧ a < 306)) mb m7 := ((f5.mo (fun a e => by omega)).tr (b4.mo (fun a e => by omega))).tr (d4.mo (fun a e => by omega))
    have FA : Fs (SS i) μ m7 := F0.tr (F7.mo (fun a e => by unfold SS; omega))
    have e295 : m7.1 295 = m5.1 295 := (d4.1 295 (by decide)).1.trans (b4.1 295 (by decide)).1
    have A7 : NV m7 (248 + 22 * i) (μ.1 296) (μ.2.1 300) := SV.fs A2 F7 (fun a a1 a2 => by omega)
    have e303 : m7.1 303 = cpT (μ.1 303) (fun j => μ.1 296 (0 + j)) (521 * i) 521 := (d4.1 303 (by decide)).1.trans b2
    have e296 : m7.1 296 = μ.1 296 := (FA.1 296 (nn _ (by decide))).1
    have e300 : m7.2.1 300 = μ.2.1 300 := (FA.1 300 (nn _ (by decide))).2
    have e292 : m7.1 292 = upd (μ.1 292) i 1 := (F7.1 292 (by decide)).1.trans z292
    have e305 : m7.1 305 = upd (μ.1 305) i 1 := ((d4.1 305 (by decide)).1.trans (b4.1 305 (by decide)).1).trans z305
    have K8 : ∀ j, j ≠ 0 → m7.1 295 j = μ.1 295 j := fun j hj => by rw [e295]; exact z295 j hj
    refine ⟨0, 0, μ.1 292 i, μ.1 292 i, mb, m7, ?_, ?_, by decide, by rw [e295]; exact z2950, fun _ => rfl, ?_, ⟨fun a ha => (FA.1 a (nn _ (by omega))).1, FA.2, fun j hj => K8 j (by omega)⟩⟩
    · refine be_ s1 ((if_pos rfl).trans (be_ a292 (be_ (aR_ok (k := i) rfl (by rw [ln247]; exact i2) h1 hkd) (be_ a1 (be_ hput (be_ hz rfl))))))
    · have s2' : F_X4_inRange (nI i) 0 1 mb = some 1 := s2
      refine be_ s2' ?_
      refine (m_tail (t := 0) (z := 0) ?_ (by decide)).trans ((if_pos rfl).trans (be_ (a305 _ ((uI_ne (by decide)).trans b303.2)) (be_ (hput2.trans (congrArg some hm5)) (be_ b1 (be_ d1 (be_ hz rfl))))))
      exact if_neg n10
    · have hO := hB.2.2.2.1
      refine ⟨⟨?_, rfl, rfl, ?_, by have := hB.2.2.2.2; omega⟩, fun b hb => ?_, ⟨?_, ?_, ?_⟩, (h.2.2.2.1.fs FA (K8 8 (by decide)) (fun a ha => nn a (by omega))).mono, fun j hj => ?_⟩
      · rw [e296, e300]
        exact SV.fs hB.1 FA (fun a a1 a2 => nn a (by omega))
      · rw [e296]
        exact hO.mono (by omega)
      · by_cases e : b = 248 + 22 * i
        · rw [e]; exact A7.kb
        · have d := kd_dis hb hkd e
          have := kd_all b (kd1_lt hb) hb
          exact (h.2.1 b hb).fs FA (fun a a1 a2 z => by unfold SS Blk at z; omega)
      · rw [K8 22 (by decide)]; exact h.2.2.1.1
      · rw [K8 24 (by decide)]; exact h.2.2.1.2.1
      · rw [K8 26 (by decide)]; exact h.2.2.1.2.2
      · obtain ⟨j1, j2, j3, j4⟩ := hS j hj
        rw [e292, e305, (FA.1 247 (nn _ (by decide))).1]
        by_cases e : j = i
        · rw [e, pk_us, pk_us]
          have E : E5 (μ.1 296) (sr m7 i) := fun q hq => by
            unfold sr
            rw [e303]
            unfold cpT
            rw [if_pos (by omega)]
            show μ.1 296 (0 + (521 * i + q - 521 * i)) = _
            rw [show 0 + (521 * i + q - 521 * i) = q by omega]
          have Gg : ∀ q, q < 15 → sl m7 i q = μ.2.1 300 q := fun q hq => by
            unfold sl
            rw [d2]
            unfold cpTL
            rw [if_pos (by omega)]
            show μ.2.1 300 (0 + (15 * i + q - 15 * i)) = _
            rw [show 0 + (15 * i + q - 15 * i) = q by omega]
          exact ⟨h1, rfl, Or.inr rfl, fun _ => ⟨NV.e5 A7 hkd hO E Gg, (hO.mono (by omega)).e5 E⟩⟩
        · rw [pk_un e, pk_un e]
          refine ⟨j1, j2, j3, fun e1 => ?_⟩
          obtain ⟨n1, n2⟩ := j4 e1
          have hne : 248 + 22 * j ≠ 248 + 22 * i := by omega
          have d := kd_dis (slot_kd hj) hkd hne
          have E : E5 (sr μ j) (sr m7 j) := fun q hq => by
            unfold sr
            rw [e303]
            unfold cpT
            rw [if_neg (by omega)]
          have Gg : ∀ q, q < 15 → sl m7 j q = sl μ j q := fun q hq => by
            unfold sl
            rw [d2]
            unfold cpTL
            rw [if_neg (by omega)]
          have N : NV m7 (248 + 22 * j) (sr μ j) (sl μ j) := SV.fs n1 FA (fun a a1 a2 z => by unfold SS Blk at z; omega)
          exact ⟨N.e5 (slot_kd hj) n2 E Gg, (n2.mono (by omega)).e5 E⟩
  · refine ⟨1, 1, 0, 0, μ, uI μ 295 0 (nI 1), be_ s1 rfl, ?_, by decide, by rw [uI_eq]; rfl, fun z => absurd z (by decide), h.th.mono hk, KeR.th⟩
    unfold F_X4_save
    rw [s2]
    refine be_ (a := (0 : Int32)) rfl ?_
    rw [if_pos (show (0 : Int32) = 0 from rfl)]
    refine (m_tail (t := 1) (z := 0) ?_ (by decide)).trans ?_
    · rfl
    · rfl
end SAV
