/-! ===== load ===== -/
section LDC
variable {μ ν μ' b : Mm} {f : Nat → Int32} {n t k o : Nat} {s : Nat → Int32}
def RdR (μ : Mm) : Prop := ∃ n, n ≤ 900 ∧ (μ.1 45 2 = nI n ∧ (μ.1 295 13 = nI n ∧ ((∀ k, k < n → By (μ.1 46 k) ∧ μ.1 306 k = μ.1 46 k) ∧ (μ.1 45 3 = μ.1 295 16 ∧ μ.1 45 4 = μ.1 295 17))))
def KeX (μ μ' : Mm) : Prop := (μ'.1 293 = μ.1 293 ∧ μ'.1 310 = μ.1 310) ∧ (μ'.2.2 = μ.2.2 ∧ μ'.1 295 29 = μ.1 295 29)
/-- what the class' load changes -/
def SLd (a : Nat) : Prop := a < 23 ∨ (a = 45 ∨ ((47 ≤ a ∧ a < 69) ∨ a = 292))
theorem x1_rankF (h : TS μ) : Op (F_X1_rankRights 47 μ) (fun μ' => Fs (fun a => a = 57) μ μ') := by
  obtain ⟨m, g, w⟩ := h 55 10 tt2
  have h2 := w.2.2.1.1
  rw [show ln (55 + 1) = 100 by decide +kernel] at h2
  have hm : m ≤ 10 := by omega
  refine op_m (x1_rank (s := fun j => if j = 2 then nI m else g ((j - 60) / 10) 2) (b := 47) kd_47 w (fun q hq => ?_) hm ?_) (fun μ' w => w.2)
  · show g q 2 = if 58 + 10 * q + 2 = 2 then nI m else g ((58 + 10 * q + 2 - 60) / 10) 2
    rw [if_neg (by omega), show (58 + 10 * q + 2 - 60) / 10 = q by omega]
  · exact ct_nI (n := m) (if_pos rfl) (by omega)
theorem c_good (e1 : F_X0_readText μ = (F_X0_readText_28 qFuel 0 b).bind rtB) {oc : Mm} (e2 : F_X0_readText_28 qFuel 0 b = some oc) (F0 : Fs (fun a => a = 45 ∨ Blk 47 a) μ b) (N0 : NV b 47 sE gE) (C : GC f n t s b oc) (R : Rok s) (hk : KB μ 1) :
    ∃ μ1, F_X3_load μ = some (0, s 2, μ1) ∧ (NV μ1 1 s gE ∧ (KB μ1 47 ∧ (μ1.1 0 5 = 0 ∧ ((∀ j, j < 2 → μ1.1 292 j = 0) ∧ ((μ1.1 45 2 = 0 ∧ (μ1.1 45 3 = -1 ∧ μ1.1 45 4 = 0)) ∧ Fs SLd μ μ1))))) := by
  obtain ⟨h1, ⟨h4, h3⟩, h5, h6, h7⟩ := C
  obtain ⟨m38, e3, N3, F3⟩ := c_post h5 R N0 h6 h7
  have F38 : Fs (fun a => a = 45 ∨ Blk 47 a) μ m38 := (F0.tr (h6.mo (fun a e => by unfold LSg at e; unfold Blk; omega))).tr (F3.mo (fun a e => by unfold Blk; omega))
  have F39 : Fs (fun a => a = 45 ∨ Blk 47 a) μ (uI m38 45 2 0) := F38.tr (Fs.uI (Or.inl rfl))
  have e45 : m38.1 45 = oc.1 45 := (F3.1 45 (by decide)).1
  have N4 : NV (uI m38 45 2 0) 47 s gE := SV.fs N3 (Fs.uI (S := fun a => a = 45) rfl) (fun a x y => by omega)
  obtain ⟨m10, e5, N5, F5⟩ := x1_copy N4 kd1 kd_47 (by decide) (hk.fs F39 (fun a x y => by unfold Blk; omega))
  obtain ⟨m19, e6, z6, F6⟩ := c_l51 2 qFuel 0 (uI m10 0 5 0) (by decide) (by decide) (fun j h => absurd h (Nat.not_lt_zero j))
  have N6 : NV m19 1 s gE := SV.fs (SV.fs N5 (Fs.uI (S := fun a => a = 0) (k := 5) (v := 0) rfl) (fun a x y => by omega)) F6 (fun a x y => by omega)
  have G6 : Fs (fun a => a < 23 ∨ a = 292) (uI m38 45 2 0) m19 := ((F5.mo (fun a e => by unfold Blk at e; omega)).tr (Fs.uI (Or.inl (by decide)))).tr (F6.mo (fun a e => Or.inr e))
  have hrt : F_X0_readText μ = some (1, m38) := e1.trans (be_ e2 (be_ e3 (if_pos (by rw [e45]; exact h4))))
  have e45' : ∀ j, m19.1 45 j = if j = 2 then 0 else oc.1 45 j := fun j => by rw [(G6.1 45 (by omega)).1, uI_eq, e45]
  refine ⟨m19, ?_, N6, ((SV.kb N4).fs G6 (fun a x y => by omega)), ?_, z6, ⟨by rw [e45']; rfl, by rw [e45']; exact h3, by rw [e45']; exact h4⟩, (F39.mo (fun a e => by unfold Blk at e; unfold SLd; omega)).tr (G6.mo (fun a e => by unfold SLd; omega))⟩
  · unfold F_X3_load
    refine be_ hrt (be_ rfl ((if_neg n10).trans (be_ e5 (be_ rfl (be_ e6 ?_)))))
    have q : m19.1 9 2 = s 2 := by
      have := N6.rgt.2.1
      rw [show (1 : Nat) + 8 = 9 from rfl] at this
      rw [this]
      exact R.1.2.2.1.1.symm
    rw [q]
  · rw [(F6.1 0 (by decide)).1, uI_eq]
    rfl
theorem c_bad (e1 : F_X0_readText μ = (F_X0_readText_28 qFuel 0 b).bind rtB) {oc : Mm} (e2 : F_X0_readText_28 qFuel 0 b = some oc) (F0 : Fs (fun a => a = 45 ∨ Blk 47 a) μ b) (N0 : NV b 47 sE gE) (X : FX f n k o b oc) :
    ∃ μ1, F_X3_load μ = some (3, 0, μ1) ∧ (KB μ1 47 ∧ ((μ1.1 45 2 = 0 ∧ (μ1.1 45 3 = nI o ∧ μ1.1 45 4 = nI k)) ∧ Fs (fun a => a = 45 ∨ (47 ≤ a ∧ a < 69)) μ μ1)) := by
  have he := X.er
  obtain ⟨h1, ⟨h4, h3⟩, hT, ht, h6⟩ := X
  obtain ⟨m38, e3, F3⟩ := x1_rankF hT
  have F38 : Fs (fun a => a = 45 ∨ (47 ≤ a ∧ a < 69)) μ m38 := ((F0.mo (fun a e => by unfold Blk at e; omega)).tr (h6.mo (fun a e => by unfold LSt at e; omega))).tr (F3.mo (fun a e => by omega))
  have e45 : m38.1 45 = oc.1 45 := (F3.1 45 (by decide)).1
  have hrt : F_X0_readText μ = some (0, m38) := e1.trans (be_ e2 (be_ e3 (if_neg (by rw [e45]; exact he))))
  have e45' : ∀ j, (uI m38 45 2 0).1 45 j = if j = 2 then 0 else oc.1 45 j := fun j => by rw [uI_eq, e45]
  have FT : Fs (fun a => a = 45 ∨ a = 57) oc (uI m38 45 2 0) := (F3.mo (fun a e => Or.inr e)).tr (Fs.uI (Or.inl rfl))
  have hc : ∀ t c, tt t c → (uI m38 45 2 0).1 t 0 = nI c := fun t c q => by
    obtain ⟨m, g, w⟩ := hT t c q
    rw [(FT.1 t (by unfold tt at q; omega)).1]
    exact w.1
  have hb := N0.kb
  have FB : Fs (fun a => a = 45 ∨ (47 ≤ a ∧ a < 63)) b (uI m38 45 2 0) := (h6.mo (fun a e => by unfold LSt at e; omega)).tr (FT.mo (fun a e => by omega))
  refine ⟨uI m38 45 2 0, ?_, ⟨hc _ _ tt0, hc _ _ tt1, hc _ _ tt2, hc _ _ tt3, hc _ _ tt4, ?_, ?_, ?_⟩, ⟨by rw [e45']; rfl, by rw [e45']; exact h3, by rw [e45']; exact h4⟩, F38.tr (Fs.uI (Or.inl rfl))⟩
  · unfold F_X3_load
    exact be_ hrt (be_ rfl (if_pos rfl))
  · rw [(FB.1 (47 + 16) (by decide)).1]; exact hb.2.2.2.2.2.1
  · rw [(FB.1 (47 + 18) (by decide)).1]; exact hb.2.2.2.2.2.2.1
  · rw [(FB.1 (47 + 20) (by decide)).1]; exact hb.2.2.2.2.2.2.2
theorem Cor.rd (h : Cor k μ) (hF : Fs (fun a => (45 ≤ a ∧ a < 69) ∨ (a = 295 ∨ (a = 297 ∨ a = 306))) μ μ') (h5 : ∀ j, j = 8 ∨ (j = 22 ∨ (j = 24 ∨ j = 26)) → μ'.1 295 j = μ.1 295 j) (hb : KB μ' 47) : Cor k μ' := by
  obtain ⟨⟨h1, h2, h3, h4, h5'⟩, hk, hf, hp, hs⟩ := h
  have n : ∀ a, (a < 45 ∨ ((69 ≤ a ∧ a < 295) ∨ ((298 ≤ a ∧ a < 306) ∨ a = 296))) → ¬ ((45 ≤ a ∧ a < 69) ∨ (a = 295 ∨ (a = 297 ∨ a = 306))) := fun a ha z => by omega
  refine ⟨⟨?_, rfl, rfl, ?_, h5'⟩, fun b hb' => ?_, ⟨?_, ?_, ?_⟩, hp.fs hF (h5 8 (by omega)) (fun a ha => n a (by omega)), hs.fs hF (fun a ha => n a (by omega))⟩
  · rw [(hF.1 296 (n _ (by omega))).1, (hF.1 300 (n _ (by omega))).2]
    exact SV.fs h1 hF (fun a x y => n a (by omega))
  · rw [(hF.1 296 (n _ (by omega))).1]; exact h4
  · by_cases e : b = 47
    · rw [e]; exact hb
    · have := kd_all b (kd1_lt hb') hb'
      exact (hk b hb').fs hF (fun a x y => n a (by omega))
  · rw [h5 22 (by omega)]; exact hf.1
  · rw [h5 24 (by omega)]; exact hf.2.1
  · rw [h5 26 (by omega)]; exact hf.2.2
set_option maxHeartbeats 4000000 in
theorem a_load (h : Cor k μ) (hR : RdR μ) (hk : k < 512) : ∃ e t v w' μ1 μ2, F_X3_load μ = some (e, v, μ1) ∧ (F_X4_load μ1 = some (w', μ2) ∧ ((e, t) ∈ [(0, 0), (3, 1)] ∧ (μ2.1 295 0 = nI t ∧ ((e = 0 → v = w') ∧ (Cor (k + 1) μ2 ∧ (RdR μ2 ∧ KeX μ μ2)))))) := by
  obtain ⟨n, n9, r2, r13, rb, r3, r4⟩ := hR
  have hB : BY (μ.1 46) n := ⟨n9, fun k hk => (rb k hk).1⟩
  obtain ⟨b, e1, C0, c43, N0, F0⟩ := c_pre (h.2.1 47 kd_47) r2 hB
  have hsk : skp (μ.1 46) n 0 ≤ n := (ru_b (Nat.zero_le n)).2.1
  have GCb : ∀ {s : Nat → Int32}, (∀ j, j < 521 → s j = sE j) → GC (μ.1 46) n (skp (μ.1 46) n 0) s b b := fun {s} hs => ⟨C0, c43, rdt_E hs N0, Fs.rf, fun _ _ _ => rfl⟩
  have run : ∀ {ν : Mm}, ν.1 295 13 = nI n → ν.1 306 = μ.1 306 → ∃ m oc om, F_X4_load ν = (F_X4_load_37 qFuel m).bind ldB ∧ (F_X0_readText_28 qFuel 0 b = some oc ∧ (F_X4_load_37 qFuel m = some om ∧ (LEn (μ.1 46) n b m oc om ∧ (Fs (fun a => a = 295 ∨ a = 297) ν m ∧ ∀ j, m.1 295 j = if j = 19 then 0 else if j = 17 then 0 else if j = 16 then -1 else if j = 15 then 0 else if j = 13 then 0 else if j = 14 then nI n else if j = 0 then 0 else ν.1 295 j)))) := fun {ν} h13 h306 => by
    obtain ⟨m, a1, a2, a3, a4⟩ := m_pre (ν := ν) h13
    obtain ⟨R0, q0⟩ := rok_E a2
    have gm : GM (μ.1 46) n 0 (m.1 297) (qf (m.1 297)) m m := by
      refine ⟨⟨⟨by rw [a4]; rfl, fun i hi => ?_⟩, by rw [a4]; rfl⟩, Nat.zero_le n, ⟨by rw [a4]; rfl, by rw [a4]; rfl⟩, rfl, by rw [a4, q0]; rfl, MFr.rf⟩
      rw [(a3.1 306 (by decide)).1, h306]
      exact (rb i hi).2
    obtain ⟨oc, om, b1, b2, b3⟩ := l_loop hB n qFuel qFuel 0 (skp (μ.1 46) n 0) 0 (m.1 297) b m (by omega) (by unfold qFuel; omega) (by unfold qFuel; omega) (Nat.zero_le _) (GCb a2) gm rfl R0
    exact ⟨m, oc, om, a1, b1, b2, b3, a3, a4⟩
  have ex : ∃ e v μ1, F_X3_load μ = some (e, v, μ1) ∧ Fs SLd μ μ1 := by
    obtain ⟨m, oc, om, -, b1, -, b3, -⟩ := run r13 rfl
    rcases b3 with ⟨t, a, s, C, M, R⟩ | ⟨k', o, X, Y⟩
    · obtain ⟨μ1, x1, -, -, -, -, -, x2⟩ := c_good e1 b1 F0 N0 C R (h.2.1 1 kd1)
      exact ⟨0, _, μ1, x1, x2⟩
    · obtain ⟨μ1, x1, -, -, x2⟩ := c_bad e1 b1 F0 N0 X
      exact ⟨3, _, μ1, x1, x2.mo (fun a e => by unfold SLd; omega)⟩
  obtain ⟨e0, v0, μ1, E, FS⟩ := ex
  have ns : ∀ a, 293 ≤ a → ¬ SLd a := fun a ha z => by unfold SLd at z; omega
  have e295 : μ1.1 295 = μ.1 295 := (FS.1 295 (ns _ (by decide))).1
  obtain ⟨m, oc, om, a1, b1, b2, b3, a3, a4⟩ := run (ν := μ1) (by rw [e295]; exact r13) (FS.1 306 (ns _ (by decide))).1
  rw [e295] at a4
  have fm : ∀ j, (j < 15 ∨ 20 ≤ j) → (j ≠ 13 ∧ (j ≠ 14 ∧ j ≠ 0)) → m.1 295 j = μ.1 295 j := fun j j1 j2 => by
    rw [a4, if_neg (by omega), if_neg (by omega), if_neg (by omega), if_neg (by omega), if_neg (by omega), if_neg (by omega), if_neg (by omega)]
  rcases b3 with ⟨t, a, s, C, M, R⟩ | ⟨k', o, X, Y⟩
  · obtain ⟨μ1', x1, xN, xK, x0, x292, x45, x2⟩ := c_good e1 b1 F0 N0 C R (h.2.1 1 kd1)
    rw [x1] at E
    injection E with E
    injection E with E1 E
    injection E with E2 E3
    subst E1; subst E2; subst E3
    obtain ⟨M1, M2, ⟨M17, M16⟩, M297, M19, MF⟩ := M
    obtain ⟨o59, f1, f296, f300, f295, f305, fF⟩ := m_begins (μ := om)
    have FM : Fs (fun a => a = 295 ∨ (a = 296 ∨ (a = 297 ∨ (a = 300 ∨ a = 305)))) μ1' o59 := ((a3.mo (fun a e => by omega)).tr (MF.1.mo (fun a e => by omega))).tr (fF.mo (fun a e => by omega))
    have FT : Fs (fun a => SLd a ∨ (a = 295 ∨ (a = 296 ∨ (a = 297 ∨ (a = 300 ∨ a = 305))))) μ o59 := (x2.mo (fun a e => Or.inl e)).tr (FM.mo (fun a e => Or.inr e))
    have nn : ∀ a, ((23 ≤ a ∧ a < 45) ∨ (a = 46 ∨ ((69 ≤ a ∧ a < 292) ∨ ((293 ≤ a ∧ a < 295) ∨ ((298 ≤ a ∧ a < 300) ∨ ((301 ≤ a ∧ a < 305) ∨ 306 ≤ a)))))) → ¬ (SLd a ∨ (a = 295 ∨ (a = 296 ∨ (a = 297 ∨ (a = 300 ∨ a = 305))))) := fun a ha z => by unfold SLd at z; omega
    have k295 : ∀ j, (j < 15 ∨ 20 ≤ j) → (j ≠ 13 ∧ (j ≠ 14 ∧ (j ≠ 0 ∧ j ≠ 8))) → o59.1 295 j = μ.1 295 j := fun j j1 j2 => by
      rw [f295, if_neg j2.2.2.2, MF.2 j j1]
      exact fm j j1 ⟨j2.1, j2.2.1, j2.2.2.1⟩
    have E5s : E5 s (o59.1 296) := fun j hj => by rw [f296 j hj, M297]
    have g15 : ∀ j, j < 15 → o59.2.1 300 j = gE j := fun j hj => (f300 j hj).trans rfl
    have hO : Ok 0 s := R.ok
    have N1 : NV o59 1 s gE := SV.fs xN FM (fun a x y => by omega)
    refine ⟨0, 0, s 2, s 2, μ1', o59, x1, ?_, by decide, ?_, fun _ => rfl, ?_, ?_, ⟨⟨(FT.1 293 (nn _ (by omega))).1, (FT.1 310 (nn _ (by omega))).1⟩, FT.2, k295 29 (by omega) (by omega)⟩⟩
    · refine a1.trans (be_ b2 ?_)
      refine be_ (m_failed0 M17) ((if_pos rfl).trans (be_ f1 (be_ (mg (k := 2) rfl (by decide)) ?_)))
      rw [E5s 2 (by decide)]
    · rw [f295, if_neg (by decide), MF.2 0 (by omega), a4]
      rfl
    · have c8 : o59.1 295 8 = nI 0 := by rw [f295]; rfl
      have c5 : o59.1 0 5 = nI 0 := by rw [(FM.1 0 (by omega)).1, x0]; rfl
      obtain ⟨c, p, S, q1, q2, q3⟩ := h.2.2.2.1
      refine ⟨⟨N1.e5 kd1 hO E5s g15, rfl, rfl, (hO.e5 E5s).mono (Nat.zero_le _), by omega⟩, fun b' hb' => ?_, ⟨?_, ?_, ?_⟩, ⟨0, p, S, q1.less FT (nn _ (by omega)) (fun a x y => nn a (by omega)) c5 (Nat.zero_le c), q2.less FT c8 (Nat.zero_le c) (nn _ (by omega)) (nn _ (by omega)), fun i hi => absurd hi (Nat.not_lt_zero i)⟩, fun i hi => ?_⟩
      · by_cases e : b' = 1
        · rw [e]; exact N1.kb
        · by_cases e2 : b' = 47
          · rw [e2]; exact xK.fs FM (fun a x y => by omega)
          · have := kd_all b' (kd1_lt hb') hb'
            exact (h.2.1 b' hb').fs FT (fun a x y => nn a (by omega))
      · rw [k295 22 (by omega) (by omega)]; exact h.2.2.1.1
      · rw [k295 24 (by omega) (by omega)]; exact h.2.2.1.2.1
      · rw [k295 26 (by omega) (by omega)]; exact h.2.2.1.2.2
      · have z292 : o59.1 292 i = 0 := by rw [(FM.1 292 (by omega)).1]; exact x292 i hi
        refine ⟨?_, by rw [z292, f305 i hi], Or.inl z292, fun e => ?_⟩
        · rw [(FT.1 247 (nn _ (by omega))).1]; exact (h.2.2.2.2 i hi).1
        · rw [z292] at e
          exact absurd e (by decide)
    · have e45 : o59.1 45 = μ1'.1 45 := (FM.1 45 (by omega)).1
      refine ⟨0, Nat.zero_le _, ?_, ?_, fun k hk => absurd hk (Nat.not_lt_zero k), ?_, ?_⟩
      · rw [e45, x45.1]; rfl
      · rw [f295, if_neg (by decide), MF.2 13 (by omega), a4]; rfl
      · rw [e45, x45.2.1, f295, if_neg (by decide), M16]
      · rw [e45, x45.2.2, f295, if_neg (by decide), M17]
  · obtain ⟨μ1', x1, xK, x45, x2⟩ := c_bad e1 b1 F0 N0 X
    rw [x1] at E
    injection E with E
    injection E with E1 E
    injection E with E2 E3
    subst E1; subst E2; subst E3
    have hk0 := Y.er
    obtain ⟨Y1, ⟨Y17, Y16⟩, MF⟩ := Y
    have FM : Fs (fun a => a = 295 ∨ a = 297) μ1' (uI om 295 0 1) := (a3.tr MF.1).tr (Fs.uI (Or.inl rfl))
    have FT : Fs (fun a => (45 ≤ a ∧ a < 69) ∨ (a = 295 ∨ (a = 297 ∨ a = 306))) μ (uI om 295 0 1) := (x2.mo (fun a e => by omega)).tr (FM.mo (fun a e => by omega))
    have f295 : ∀ j, (uI om 295 0 1).1 295 j = if j = 0 then 1 else om.1 295 j := fun j => by rw [uI_eq]
    have k295 : ∀ j, (j < 15 ∨ 20 ≤ j) → (j ≠ 13 ∧ (j ≠ 14 ∧ j ≠ 0)) → (uI om 295 0 1).1 295 j = μ.1 295 j := fun j j1 j2 => by
      rw [f295, if_neg j2.2.2, MF.2 j j1]
      exact fm j j1 j2
    refine ⟨3, 1, 0, 0, μ1', uI om 295 0 1, x1, ?_, by decide, by rw [f295]; rfl, fun e => absurd e (by decide), (h.rd FT (fun j hj => k295 j (by omega) (by omega)) (xK.fs FM (fun a x y => by omega))).mono hk, ?_, ⟨⟨(FT.1 293 (by omega)).1, (FT.1 310 (by omega)).1⟩, FT.2, k295 29 (by omega) (by omega)⟩⟩
    · refine a1.trans (be_ b2 ?_)
      exact be_ (m_failed1 hk0) ((if_neg n10).trans (be_ rfl rfl))
    · have e45 : (uI om 295 0 1).1 45 = μ1'.1 45 := (FM.1 45 (by omega)).1
      refine ⟨0, Nat.zero_le _, ?_, ?_, fun k hk => absurd hk (Nat.not_lt_zero k), ?_, ?_⟩
      · rw [e45, x45.1]; rfl
      · rw [f295, if_neg (by decide), MF.2 13 (by omega), a4]; rfl
      · rw [e45, x45.2.1, f295, if_neg (by decide), Y16]
      · rw [e45, x45.2.2, f295, if_neg (by decide), Y17]
end LDC
