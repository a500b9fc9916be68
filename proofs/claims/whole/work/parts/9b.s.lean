/-! ===== loss, accounts ===== -/
section LLA
variable {f : Nat → Int32} {n t a k o : Nat} {s s' : Nat → Int32} {q : Int32} {b b' μ μ' μc μm : Mm}
theorem Rok.nz {s' : Nat → Int32} {lo hi : Nat} (R : Rok s) (hs : ∀ j, ¬ (lo ≤ j ∧ j < hi) → s' j = s j) (hz : (lo = 36 ∧ hi = 48) ∨ ((lo = 48 ∧ hi = 53) ∨ ((lo = 6 ∧ hi = 7) ∨ (lo = 7 ∧ hi = 8)))) (b6 : Bn s' 6 50) (b7 : Bn s' 7 5) (p7 : 1 ≤ ct s' 7) (i36 : ∀ k, k < 12 → Bn s' (36 + k) 200) (i48 : ∀ k, k < 5 → Bn s' (48 + k) 200) : Rok s' := by
  obtain ⟨⟨r0, ⟨r1, r1'⟩, r2, r3, r4, r6, r7, r7'⟩, ⟨r8, r14, r36, r48⟩, ⟨rr, rd⟩, rl, ro, rz⟩ := id R
  have e0 : ct s' 0 = ct s 0 := ct_eq (hs 0 (by omega))
  have e1 : ct s' 1 = ct s 1 := ct_eq (hs 1 (by omega))
  have e2 : ct s' 2 = ct s 2 := ct_eq (hs 2 (by omega))
  have e3 : ct s' 3 = ct s 3 := ct_eq (hs 3 (by omega))
  have e4 : ct s' 4 = ct s 4 := ct_eq (hs 4 (by omega))
  refine R.up (r0.eq (hs 0 (by omega))) (by omega) (r1.eq (hs 1 (by omega))) (by omega) (Or.inr e1) (r2.eq (hs 2 (by omega))) (by omega) (r3.eq (hs 3 (by omega))) (r4.eq (hs 4 (by omega))) b6 b7 p7 (fun q hq => (r8 q hq).eq (hs _ (by omega))) (fun q hq => (r14 q hq).eq (hs _ (by omega))) i36 i48 (fun r k hr hk => hs _ (by omega)) (fun r h1 h2 => by omega) (fun c d hc hd q => ?_) (fun l k hl hk => hs _ (by omega)) (fun l h1 h2 => by omega) (fun l k hl hk => hs _ (by omega)) (fun l h1 h2 => by omega) (fun j hj hz => ?_)
  · rw [e2] at hc hd
    rw [hs _ (by omega), hs _ (by omega)] at q
    exact rd c d hc hd q
  · rw [e2] at hz
    rw [hs j (by omega)]
    exact rz j hj hz
/-- fields of the class' target beside its tables -/
theorem GC.cel {c j : Nat} {v : Int32} {s' : Nat → Int32} (h : GC f n t s b μ) (hc : (c = 47 ∧ (j = 3 ∨ j = 15)) ∨ (c = 50 ∨ c = 51)) (hs : ∀ i, (i < 6 ∨ ((8 ≤ i ∧ i < 36) ∨ 53 ≤ i)) → s' i = s i) (h6 : ∀ k, k < 12 → (uI μ c j v).1 50 k = s' (36 + k)) (h7 : ∀ k, k < 5 → k < ct s' 7 → (uI μ c j v).1 51 k = s' (48 + k)) (h8 : (uI μ c j v).1 47 3 = s' 7) (h9 : (uI μ c j v).1 47 15 = s' 6) : GC f n t s' b (uI μ c j v) := by
  obtain ⟨a1, a2, ⟨g1, g2, g3, g4, g5, -⟩, a4, a5⟩ := h
  have l1 := g1.2.2.1.1
  have l2 := g2.2.2.1.1
  rw [show ln (48 + 1) = 18 by decide +kernel] at l1
  rw [show ln (52 + 1) = 10 by decide +kernel] at l2
  have fr : Fs (fun a => a = c) μ (uI μ c j v) := Fs.uI rfl
  have e45 : (uI μ c j v).1 45 = μ.1 45 := uI_ne (by omega)
  refine ⟨a1.fs fr (by omega) (by omega), by rw [e45]; exact a2, ⟨?_, ?_, ?_, ?_, ?_, h6, h7, h8, h9⟩, a4.tr (fr.mo (fun a e => by unfold LSg; omega)), fun i i3 i5 => ?_⟩
  · rw [ct_eq (hs 0 (by omega))]
    exact (g1.fs fr (by omega) (by omega)).congr (fun r k hr hk => (hs _ (by omega)).symm)
  · rw [ct_eq (hs 1 (by omega))]
    exact (g2.fs fr (by omega) (by omega)).congr (fun r k hr hk => (hs _ (by omega)).symm)
  · rw [ct_eq (hs 2 (by omega))]
    exact (g3.fs fr (by omega) (by omega)).congr (fun r k hr hk => (hs _ (by omega)).symm)
  · rw [ct_eq (hs 3 (by omega))]
    exact (g4.fs fr (by omega) (by omega)).congr (fun r k hr hk => (hs _ (by omega)).symm)
  · rw [ct_eq (hs 4 (by omega))]
    exact (g5.fs fr (by omega) (by omega)).congr (fun r k hr hk => (hs _ (by omega)).symm)
  · rw [← a5 i i3 i5]
    by_cases e : c = 47
    · rw [e, uI_eq]
      exact if_neg (by omega)
    · rw [uI_ne (fun z => e z.symm)]
theorem gc_next (hB : BY f n) (h : GC f n t s b μ) : Op (F_X0_nextToken μ) (GC f n (skp f n (te f n t)) s b) := op_m (h.1.next hB.1) (fun m w => h.mv w.1 w.2)
def loA (μ : Mm) : Option Mm := (F_X0_takeNumber (0 : Int32) (50 : Int32) μ).bind fun o60 => (some (uI o60.2 47 15 o60.1)).bind fun m63 => some m63
def moA (μ : Mm) : Option Mm := (F_X4_number (0 : Int32) (50 : Int32) μ).bind fun o104 => (sI o104.2 297 (6 : Int32) o104.1).bind fun m107 => some m107
theorem l_loss (hB : BY f n) (C : GC f n t s b μc) (M : GM f n (te f n t) s (qf s) b' μm) (R : Rok s) (htn : t < n) : Op2 ((F_X0_nextToken μc).bind loA) (moA μm) (LRs f n t b b') := by
  have hte := (te_le (f := f) C.1.2.1).2.2 htn
  have hsk : te f n t ≤ skp f n (te f n t) := ru_ge
  refine o2_lb (gc_next hB C) (fun μ1 C1 => ?_)
  refine num2 hB C1 M rfl (fun v μ2 μ3 t2 a2 v1 v2 C2 M2 ht2 hl2 _ => ?_) (fun k o w μ2 μ3 X Y => ?_)
  · obtain ⟨x, rfl, -, hx⟩ := i32_rg (lo := 0) (hi := 50) v1 v2 (by decide) (by decide)
    have ev : ∀ j, j ≠ 6 → upd s 6 (nI x) j = s j := fun j hj => pk_un hj
    have R' : Rok (upd s 6 (nI x)) := R.nz (lo := 6) (hi := 7) (fun j hj => ev j (by omega)) (Or.inr (Or.inr (Or.inl ⟨rfl, rfl⟩))) (Bn.mk pk_us hx (by decide)) (R.1.2.2.2.2.2.2.1.eq (ev 7 (by decide))) (by rw [ct_eq (ev 7 (by decide))]; exact R.1.2.2.2.2.2.2.2) (fun k hk => (R.2.1.2.2.1 k hk).eq (ev _ (by omega))) (fun k hk => (R.2.1.2.2.2 k hk).eq (ev _ (by omega)))
    obtain ⟨g1, g2, g3, g4, g5, g6, g7, g8, g9⟩ := C2.2.2.1
    refine o2_of (A := GC f n t2 (upd s 6 (nI x)) b) (op_br (op_r (C2.cel (s' := upd s 6 (nI x)) (Or.inl ⟨rfl, Or.inr rfl⟩) (fun i hi => ev i (by omega)) (fun k hk => ?_) (fun k hk hk7 => ?_) ?_ ?_))) (op_mb (gm_put (j := 6) M2 (by decide)) (fun m2 w2 => op_r w2)) (fun z1 z2 Z1 Z2 => Or.inl ⟨t2, a2, upd s 6 (nI x), Z1, ?_, ht2, R', by omega⟩)
    · rw [uI_ne (by decide), ev _ (by omega)]; exact g6 k hk
    · rw [uI_ne (by decide), ev _ (by omega)]; exact g7 k hk (by rw [ct_eq (ev 7 (by decide))] at hk7; exact hk7)
    · rw [uI_eq, ev 7 (by decide)]; exact (if_neg (by decide)).trans g8
    · rw [uI_eq, pk_us]; rfl
    · unfold qf
      rw [ct_eq (ev 2 (by decide))]
      exact Z2
  · exact o2_of (op_br (op_r (fx_u X (Or.inl rfl)))) (op_mb (mx_put (j := 6) Y (by decide)) (fun m2 w2 => op_r w2)) (fun _ _ X Y => lrX X Y)
def acA (μ : Mm) : Option Mm := (F_X0_takeNumber (1 : Int32) (5 : Int32) μ).bind fun o7 => (F_X2_removeAll 52 o7.2).bind fun o11 => (F_X0_readAccounts_46 o7.1 qFuel (0 : Int32) o11).bind fun o20 => some o20
def mcA (μ : Mm) : Option Mm := (F_X4_number (1 : Int32) (5 : Int32) μ).bind fun o68 => (sI o68.2 297 (1 : Int32) o68.1).bind fun m71 => some m71
theorem x0_accL {x : Nat} (hx : x ≤ 5) : ∀ (d m i : Nat) (μ : Mm), i + d = x → d < m → Tb μ 52 2 i (fun _ _ => 0) → Op (F_X0_readAccounts_46 (nI x) m (nI i) μ) (fun z => Tb z 52 2 x (fun _ _ => 0) ∧ Fs (fun a => a = 52 ∨ a = 52 + 1) μ z) := by
  intro d
  induction d with
  | zero =>
    intro m i μ hi hm h
    obtain ⟨m, rfl⟩ : ∃ q, m = q + 1 := ⟨m - 1, by omega⟩
    obtain rfl : i = x := by omega
    rw [F_X0_readAccounts_46]
    exact op_t (Int32.le_refl _) (op_r ⟨h, Fs.rf⟩)
  | succ d ih =>
    intro m i μ hi hm h
    obtain ⟨m, rfl⟩ : ∃ q, m = q + 1 := ⟨m - 1, by omega⟩
    rw [F_X0_readAccounts_46]
    refine op_f (nI_ge (by omega) (by omega)) (op_mb (x2_add h (by rw [show ln (52 + 1) = 10 by decide +kernel]; omega)) (fun z w => ?_))
    rw [nI_1]
    exact op_m (ih m (i + 1) z.2 (by omega) (by omega) (w.2.1.congr (fun r k _ _ => by split <;> rfl))) (fun z' w' => ⟨w'.1, w.2.2.tr w'.2⟩)
theorem l_accounts (hB : BY f n) (C : GC f n t s b μc) (M : GM f n (te f n t) s (qf s) b' μm) (R : Rok s) (htn : t < n) (h2 : ct s 2 = 0) : Op2 ((F_X0_nextToken μc).bind acA) (mcA μm) (LRs f n t b b') := by
  have hte := (te_le (f := f) C.1.2.1).2.2 htn
  have hsk : te f n t ≤ skp f n (te f n t) := ru_ge
  refine o2_lb (gc_next hB C) (fun μ1 C1 => ?_)
  refine num2 hB C1 M rfl (fun v μ2 μ3 t2 a2 v1 v2 C2 M2 ht2 hl2 _ => ?_) (fun k o w μ2 μ3 X Y => ?_)
  · obtain ⟨x, rfl, hx1, hx⟩ := i32_rg (lo := 1) (hi := 5) v1 v2 (by decide) (by decide)
    have ev : ∀ j, j ≠ 1 → upd s 1 (nI x) j = s j := fun j hj => pk_un hj
    have c1 : ct (upd s 1 (nI x)) 1 = x := ct_nI pk_us (by omega)
    have e2 : ct (upd s 1 (nI x)) 2 = ct s 2 := ct_eq (ev 2 (by decide))
    have e3 : ct (upd s 1 (nI x)) 3 = ct s 3 := ct_eq (ev 3 (by decide))
    have e4 : ct (upd s 1 (nI x)) 4 = ct s 4 := ct_eq (ev 4 (by decide))
    have e0 : ct (upd s 1 (nI x)) 0 = ct s 0 := ct_eq (ev 0 (by decide))
    obtain ⟨hn3, hn4⟩ := R.no h2
    obtain ⟨⟨r0, ⟨r1, r1'⟩, r2, r3, r4, r6, r7, r7'⟩, ⟨r8, r14, r36, r48⟩, ⟨rr, rd⟩, rl, ro, rz⟩ := id R
    have R' : Rok (upd s 1 (nI x)) := R.up (r0.eq (ev 0 (by decide))) (by omega) (Bn.mk pk_us hx (by decide)) (by omega) (Or.inl h2) (r2.eq (ev 2 (by decide))) (by omega) (r3.eq (ev 3 (by decide))) (r4.eq (ev 4 (by decide))) (r6.eq (ev 6 (by decide))) (r7.eq (ev 7 (by decide))) (by rw [ct_eq (ev 7 (by decide))]; exact r7') (fun q hq => (r8 q hq).eq (ev _ (by omega))) (fun q hq => (r14 q hq).eq (ev _ (by omega))) (fun k hk => (r36 k hk).eq (ev _ (by omega))) (fun k hk => (r48 k hk).eq (ev _ (by omega))) (fun r k hr hk => ev _ (by omega)) (fun r q1 q2 => by omega) (fun c d hc hd q => by omega) (fun l k hl hk => ev _ (by omega)) (fun l q1 q2 => by omega) (fun l k hl hk => ev _ (by omega)) (fun l q1 q2 => by omega) (fun j hj hz => by
      rw [e2] at hz
      rw [ev j (by omega)]
      exact rz j hj hz)
    obtain ⟨g1, g2, g3, g4, g5, g6, g7, g8, g9⟩ := C2.2.2.1
    refine o2_of (A := GC f n t2 (upd s 1 (nI x)) b) ?_ (op_mb (gm_put (j := 1) M2 (by decide)) (fun m2 w2 => op_r w2)) (fun z1 z2 Z1 Z2 => Or.inl ⟨t2, a2, upd s 1 (nI x), Z1, ?_, ht2, R', by omega⟩)
    · refine op_mb (x2_remAll g2 (fun _ _ => 0)) (fun m1 w1 => ?_)
      refine op_b (op_m (x0_accL hx x qFuel 0 m1 (by omega) (by unfold qFuel; omega) w1.1) (fun m2 w2 => op_r ?_))
      have fr : Fs (fun a => a = 52 ∨ a = 52 + 1) μ2 m2 := (w1.2.mo (fun a e => Or.inl e)).tr w2.2
      have n : ∀ a, (a < 52 ∨ 54 ≤ a) → ¬ (a = 52 ∨ a = 52 + 1) := fun a ha => by omega
      have r46 := r4.2
      have r38 := r3.2
      have r06 := r0.2
      refine C2.tab fr ⟨by decide, by unfold LSg; omega, by unfold LSg; omega⟩ ⟨?_, ?_, ?_, ?_, ?_, ?_, ?_, ?_, ?_⟩
      · rw [e0]
        exact (g1.fs fr (n _ (by omega)) (n _ (by omega))).congr (fun r k hr hk => (ev _ (by omega)).symm)
      · rw [c1]
        refine w2.1.congr (fun r k hr hk => ?_)
        rw [ev _ (by omega)]
        exact (rz _ (by omega) (by omega)).symm
      · rw [e2]
        exact (g3.fs fr (n _ (by omega)) (n _ (by omega))).congr (fun r k hr hk => (ev _ (by omega)).symm)
      · rw [e3]
        exact (g4.fs fr (n _ (by omega)) (n _ (by omega))).congr (fun r k hr hk => (ev _ (by omega)).symm)
      · rw [e4]
        exact (g5.fs fr (n _ (by omega)) (n _ (by omega))).congr (fun r k hr hk => (ev _ (by omega)).symm)
      · rw [(fr.1 50 (n _ (by omega))).1]
        exact fun k hk => (g6 k hk).trans (ev _ (by omega)).symm
      · rw [(fr.1 51 (n _ (by omega))).1, ct_eq (ev 7 (by omega))]
        exact fun k hk hk7 => (g7 k hk hk7).trans (ev _ (by omega)).symm
      · rw [(fr.1 47 (n _ (by omega))).1, ev 7 (by omega)]; exact g8
      · rw [(fr.1 47 (n _ (by omega))).1, ev 6 (by omega)]; exact g9
    · unfold qf
      rw [e2]
      exact Z2
  · refine o2_of (A := FX f n k o b) (op_mb (fx_remAll X) (fun m1 w1 => op_b (op_m (fx_accL 1 qFuel 0 m1 (by decide) (by decide) w1) (fun m2 w2 => op_r w2)))) (op_mb (mx_put (j := 1) Y (by decide)) (fun m2 w2 => op_r w2)) (fun _ _ X Y => lrX X Y)
end LLA
