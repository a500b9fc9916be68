/-! ===== an action's end; run ===== -/
section ACT
variable {μ : Mm} {s : Nat → Int32} {g : Nat → Int64} {k : Nat}
theorem pS_ok {c : Nat} {S : Nat → Sh} {T T' : Nat} (h : ∀ i, i < c → Ok T (S i).1) (hs : Ok T s) (hT : T ≤ T') (hc : c ≤ 8) : ∀ i, i < pC c → Ok T' (pS c S (s, g) i).1 := by
  intro i hi
  unfold pC at hi
  unfold pS
  by_cases e : c < 8
  · rw [if_pos e] at hi ⊢
    by_cases e2 : i = c
    · rw [if_pos e2]; exact hs.mono hT
    · rw [if_neg e2]; exact (h i (by omega)).mono hT
  · rw [if_neg e] at hi ⊢
    by_cases e2 : i < 7
    · rw [if_pos e2]; exact (h (i + 1) (by omega)).mono hT
    · rw [if_neg e2]; exact hs.mono hT
theorem Cor.fin (h : Cor k μ) (hk : k < 512) {c : Nat} {p' : Nat → Nat} {S : Nat → Sh} {ma mb mc md : Mm} {s' : Nat → Int32} {g' : Nat → Int64} (hok : ∀ i, i < c → Ok (36 * k) (S i).1) (hc8 : c ≤ 8)
  (a1 : PC ma (pC c) p' (pS c S (μ.1 296, μ.2.1 300))) (a2 : Fs P70 μ ma) (b1 : Fs (Blk 1) ma mb) (c1 : PM mc (pC c) (pS c S (μ.1 296, μ.2.1 300))) (c2 : Fs R299 (uI mb 295 0 0) mc) (c3 : ∀ j, j ≠ 8 → mc.1 295 j = (uI mb 295 0 0).1 295 j) (d1 : Fs Fm mc md)
  (hN : NV mb 1 s' g') (hO : Ok (36 * (k + 1)) s') (hE : E5 s' (md.1 296)) (hg : ∀ j, j < 15 → md.2.1 300 j = g' j) : Cor (k + 1) md ∧ (Fs AS μ md ∧ (K5 μ md ∧ md.1 295 0 = 0)) := by
  have f295 : md.1 295 = mc.1 295 := (d1.1 295 (by unfold Fm; decide)).1
  have F1 : Fs AS μ mb := (a2.mo (fun a e => by unfold P70 at e; unfold AS; omega)).tr (b1.mo (fun a e => by unfold Blk at e; unfold AS; omega))
  have F2 : Fs (fun a => a = 295 ∨ (a = 299 ∨ (a = 302 ∨ Fm a))) mb md := ((Fs.uI (Or.inl rfl)).tr (c2.mo (fun a e => by unfold R299 at e; omega))).tr (d1.mo (fun a e => Or.inr (Or.inr (Or.inr e))))
  have F3 : Fs AS μ md := F1.tr (F2.mo (fun a e => by unfold Fm at e; unfold AS; omega))
  have e295 : mb.1 295 = μ.1 295 := by
    rw [(b1.1 295 (by unfold Blk; omega)).1, (a2.1 295 (by unfold P70; omega)).1]
  have h5 : K5 μ md := fun j j0 j8 => by
    rw [f295, c3 j j8, uI_eq]
    exact (if_neg j0).trans (congrFun e295 j)
  have N1 : NV md 1 s' g' := SV.fs hN F2 (fun a a1 a2 => by unfold Fm; omega)
  refine ⟨h.act hk F3 h5 (N1.e5 kd1 hO hE hg) (hO.e5 hE) ⟨pC c, p', pS c S (μ.1 296, μ.2.1 300), (a1.fs b1 (by unfold Blk; omega) (by unfold Blk; omega) (fun a x y => by unfold Blk; omega)).fs F2 (by unfold Fm; omega) (by unfold Fm; omega) (fun a x y => by unfold Fm; omega), c1.fs d1 (by rw [f295]) (by unfold Fm; omega) (by unfold Fm; omega), pS_ok hok h.1.2.2.2.1 (by omega) hc8⟩, F3, h5, ?_⟩
  rw [f295, c3 0 (by decide), uI_eq]
  rfl
/-- the sum of some months -/
def evs : Nat → Sg → Int32 → Int32
  | 0, _, v => v
  | n + 1, st, v => evs n (ev (-1) st) (v + evS (-1) st)
theorem x3_runL {n T : Nat} (hT : T + n ≤ 20000) (hn : n ≤ 36) : ∀ (d m i : Nat) (v : Int32) (μ : Mm) (st : Sg), i + d = n → d < m → NV μ 1 st.1 st.2.1 → Ok (T + i) st.1 → Op (F_X3_run_19 (nI n) m v (nI i) μ) (fun o => o.1 = evs d st v ∧ (NV o.2 1 (evn d st).1 (evn d st).2.1 ∧ (Ok (T + n) (evn d st).1 ∧ Fs (Blk 1) μ o.2))) := by
  intro d
  induction d with
  | zero =>
    intro m i v μ st hi hm h ho
    obtain ⟨m, rfl⟩ : ∃ z, m = z + 1 := ⟨m - 1, by omega⟩
    obtain rfl : i = n := by omega
    rw [F_X3_run_19]
    exact op_t (nI_le (by omega) (by omega)) (op_r ⟨rfl, h, ho, Fs.rf⟩)
  | succ d ih =>
    intro m i v μ st hi hm h ho
    obtain ⟨m, rfl⟩ : ∃ z, m = z + 1 := ⟨m - 1, by omega⟩
    rw [F_X3_run_19]
    refine op_f (nI_ge (by omega) (by omega)) (op_mb (x1_ev h kd1 ho (by omega)) (fun o w => ?_))
    rw [nI_1, w.1]
    exact op_m (ih m (i + 1) _ o.2 (ev (-1) st) (by omega) (by omega) w.2.1 (by rw [← Nat.add_assoc]; exact ho.ev (by omega))) (fun o' z => ⟨z.1, z.2.1, z.2.2.1, w.2.2.tr z.2.2.2⟩)
theorem m_runL {n T : Nat} (hT : T + n ≤ 20000) (hn : n ≤ 36) : ∀ (d m i : Nat) (v : Int32) (μ : Mm) (st : Sg), i + d = n → d < m → MV μ st → Ok (T + i) st.1 → Fl μ → Op (F_X4_run_47 (nI n) m v (nI i) μ) (fun o => o.1 = evs d st v ∧ (MV o.2 (evn d st) ∧ Fs Fm μ o.2)) := by
  intro d
  induction d with
  | zero =>
    intro m i v μ st hi hm h ho hf
    obtain ⟨m, rfl⟩ : ∃ z, m = z + 1 := ⟨m - 1, by omega⟩
    obtain rfl : i = n := by omega
    rw [F_X4_run_47]
    exact op_t (nI_le (by omega) (by omega)) (op_r ⟨rfl, h, Fs.rf⟩)
  | succ d ih =>
    intro m i v μ st hi hm h ho hf
    obtain ⟨m, rfl⟩ : ∃ z, m = z + 1 := ⟨m - 1, by omega⟩
    rw [F_X4_run_47]
    refine op_f (nI_ge (by omega) (by omega)) (op_mb (m_ev h ho (by omega) hf.2.1 hf.1) (fun o w => ?_))
    rw [hf.2.2] at w
    have e295 : o.2.1 295 = μ.1 295 := (w.2.2.1 295 (by unfold Fm; decide)).1
    rw [nI_1, w.1]
    exact op_m (ih m (i + 1) _ o.2 (ev (-1) st) (by omega) (by omega) w.2.1 (by rw [← Nat.add_assoc]; exact ho.ev (by omega)) (by unfold Fl; rw [e295]; exact hf)) (fun o' z => ⟨z.1, z.2.1, w.2.2.tr z.2.2⟩)
theorem AS.th {t : Int32} : Fs AS μ (uI μ 295 0 t) := Fs.uI (by unfold AS; omega)
theorem K5.th {t : Int32} : K5 μ (uI μ 295 0 t) := fun j j0 _ => by rw [uI_eq]; exact if_neg j0
def PA (k : Nat) (μ μ' : Mm) : Prop := Cor (k + 1) μ' ∧ (Fs AS μ μ' ∧ K5 μ μ')
theorem PA.th (h : Cor k μ) (hk : k < 512) (t : Int32) : PA k μ (uI μ 295 0 t) := ⟨h.th.mono hk, AS.th, K5.th⟩
/-- the reference's cells behind the class' action -/
theorem at_m (h : Cor k μ) {mb : Mm} {c : Nat} {S : Nat → Sh} (hF : Fs (fun a => P70 a ∨ Blk 1 a) μ mb) (hp : PM μ c S) : PM (uI mb 295 0 0) c S ∧ ((uI mb 295 0 0).1 296 = μ.1 296 ∧ ((uI mb 295 0 0).2.1 300 = μ.2.1 300 ∧ ((uI mb 295 0 0).1 307 = μ.1 307 ∧ ((uI mb 295 0 0).1 308 = μ.1 308 ∧ Fl (uI mb 295 0 0))))) := by
  have nn : ∀ a, 247 ≤ a → ¬ (P70 a ∨ Blk 1 a) := fun a ha z => by unfold P70 Blk at z; omega
  have fj : ∀ j, j ≠ 0 → (uI mb 295 0 0).1 295 j = μ.1 295 j := fun j hj => by
    rw [uI_eq]
    exact (if_neg hj).trans (congrFun (hF.1 295 (nn _ (by decide))).1 j)
  have hF2 : Fs (fun a => (P70 a ∨ Blk 1 a) ∨ a = 295) μ (uI mb 295 0 0) := (hF.mo (fun a e => Or.inl e)).tr (Fs.uI (Or.inr rfl))
  have n2 : ∀ a, 247 ≤ a → a ≠ 295 → ¬ ((P70 a ∨ Blk 1 a) ∨ a = 295) := fun a ha hn z => z.elim (nn a ha) hn
  exact ⟨hp.fs hF2 (fj 8 (by decide)) (n2 _ (by decide) (by decide)) (n2 _ (by decide) (by decide)), (hF2.1 296 (n2 _ (by decide) (by decide))).1, (hF2.1 300 (n2 _ (by decide) (by decide))).2, (hF2.1 307 (n2 _ (by decide) (by decide))).1, (hF2.1 308 (n2 _ (by decide) (by decide))).1, (fj 22 (by decide)).trans h.2.2.1.1, (fj 24 (by decide)).trans h.2.2.1.2.1, (fj 26 (by decide)).trans h.2.2.1.2.2⟩
theorem a_run (h : Cor k μ) (hk : k < 512) (p : Int32) : ∃ e t v w' μ1 μ2, F_X3_run p μ = some (e, v, μ1) ∧ (F_X4_run p μ1 = some (w', μ2) ∧ ((e, t) ∈ [(0, 0), (3, 1), (4, 2)] ∧ (μ2.1 295 0 = nI t ∧ ((e = 0 → v = w') ∧ PA k μ μ2)))) := by
  have hB := h.1
  have ho := hB.2.2.2.1
  have h0 := ho.1.1.1
  have h6 := h0.2
  refine FQg (i1 := fun ν => F_X4_isMonths p ν) (i2 := fun ν => aI ν 296 0) (P := PA k) (by decide) (by decide) (fun t => PA.th h hk t) ?_
  have e20 : μ.1 2 2 = nI (ct (μ.1 296) 0) := hB.1.rch.2.1
  rcases isM_c (μ := μ) (ν := μ) p with ⟨n, n1, n2, rfl, n4, n5⟩ | ⟨n4, n5⟩
  · refine Or.inl ⟨n4, ?_⟩
    by_cases e0 : ct (μ.1 296) 0 = 0
    · refine Or.inr ⟨?_, 1, n5, by decide, ?_⟩
      · unfold F_X3_needReaches
        rw [e20, e0]
        rfl
      · refine (mg (k := 0) rfl (by decide)).trans ?_
        rw [h0.1, e0]
        rfl
    · refine Or.inl ⟨?_, ?_⟩
      · unfold F_X3_needReaches
        rw [e20, if_neg (nI_ne0 (by omega) (by omega))]
      · obtain ⟨c, pp, S, q1, q2, q3⟩ := h.2.2.2.1
        obtain ⟨ma, x1, ⟨p', x2⟩, x3, x4⟩ := x3_record q1 hB.1
        obtain ⟨ob, y1, y2, y3, y4, y5⟩ := x3_runL (T := 36 * k) (n := n) (by omega) n2 n qFuel 0 0 ma (μ.1 296, μ.2.1 300, μ.1 307, μ.1 308) (by omega) (by unfold qFuel; omega) x3 ho
        have F1 : Fs (fun a => P70 a ∨ Blk 1 a) μ ob.2 := (x4.mo (fun a e => Or.inl e)).tr (y5.mo (fun a e => Or.inr e))
        obtain ⟨z1, z2, z3, z4, z5, z6⟩ := at_m h F1 q2
        obtain ⟨mc, r1, r2, r3, r4⟩ := m_record (s := μ.1 296) (g := μ.2.1 300) z1 z2 z3
        have mvc : MV mc (μ.1 296, μ.2.1 300, μ.1 307, μ.1 308) := ⟨(r3.1 296 (by unfold R299; decide)).1.trans z2, (r3.1 300 (by unfold R299; decide)).2.trans z3, (r3.1 307 (by unfold R299; decide)).1.trans z4, (r3.1 308 (by unfold R299; decide)).1.trans z5⟩
        have hfc : Fl mc := ⟨(r4 22 (by decide)).trans z6.1, (r4 24 (by decide)).trans z6.2.1, (r4 26 (by decide)).trans z6.2.2⟩
        obtain ⟨od, d1, d2, d3, d4⟩ := m_runL (T := 36 * k) (n := n) (by omega) n2 n qFuel 0 0 mc _ (by omega) (by unfold qFuel; omega) mvc ho hfc
        obtain ⟨f1, f2, f3, f4⟩ := h.fin hk q3 q1.2.1 x2 x4 y5 r2 r3 r4 d4 y3 (y4.mono (by omega)) (fun j _ => by rw [d3.1]) (fun j _ => by rw [d3.2.1])
        refine ⟨evs n (μ.1 296, μ.2.1 300, μ.1 307, μ.1 308) 0, ob.2, od.2, 1, nI (ct (μ.1 296) 0), ?_, isM_y n1 n2, by decide, ?_, nI_ne0 (by omega) (by omega), ?_, f4, f1, f2, f3⟩
        · refine be_ x1 (be_ y1 ?_)
          rw [← y2]
        · refine (mg (k := 0) rfl (by decide)).trans ?_
          rw [(F1.1 296 (by unfold P70 Blk; omega)).1, h0.1]
        · refine be_ r1 (be_ d1 ?_)
          rw [← d2]
  · exact Or.inr ⟨n4, n5⟩
end ACT
