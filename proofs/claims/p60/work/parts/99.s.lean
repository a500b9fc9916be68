/-! ===== what is sure of the numbers read ===== -/
def Zr (s : Nat → Int32) : Prop := ∀ j, j < 521 → (j = 5 ∨ ((20 ≤ j ∧ j < 36) ∨ ((53 ≤ j ∧ j < 58) ∨ (242 ≤ j ∨ ((58 + 10 * ct s 2 ≤ j ∧ j < 158) ∨ (58 ≤ j ∧ (j < 158 ∧ 7 ≤ (j - 58) % 10))))))) → s j = 0
def Rok (s : Nat → Int32) : Prop := (Bn s 0 6 ∧ ((Bn s 1 5 ∧ 1 ≤ ct s 1) ∧ (Bn s 2 10 ∧ (Bn s 3 8 ∧ (Bn s 4 6 ∧ (Bn s 6 50 ∧ (Bn s 7 5 ∧ 1 ≤ ct s 7))))))) ∧ (((∀ q, q < 6 → Bn s (8 + q) 999) ∧ ((∀ q, q < 6 → Bn s (14 + q) 999) ∧ ((∀ k, k < 12 → Bn s (36 + k) 200) ∧ ∀ k, k < 5 → Bn s (48 + k) 200))) ∧ (((∀ r, r < ct s 2 → Rf s r) ∧ Dst s) ∧ ((∀ l, l < ct s 3 → LRow s (rwR s 158 l)) ∧ ((∀ l, l < ct s 4 → ORow s (rwR s 206 l)) ∧ Zr s))))
theorem Bn.mk {s : Nat → Int32} {j v m : Nat} (h : s j = nI v) (hv : v ≤ m) (hm : m < 2 ^ 30) : Bn s j m := by
  have c := ct_nI h (by omega)
  exact ⟨by rw [c]; exact h, by rw [c]; exact hv⟩
theorem Rok.up {s s' : Nat → Int32} (R : Rok s) (b0 : Bn s' 0 6) (m0 : ct s 0 ≤ ct s' 0) (b1 : Bn s' 1 5) (p1 : 1 ≤ ct s' 1) (m1 : ct s 2 = 0 ∨ ct s' 1 = ct s 1) (b2 : Bn s' 2 10) (m2 : ct s 2 ≤ ct s' 2) (b3 : Bn s' 3 8) (b4 : Bn s' 4 6) (b6 : Bn s' 6 50) (b7 : Bn s' 7 5) (p7 : 1 ≤ ct s' 7)
  (i8 : ∀ q, q < 6 → Bn s' (8 + q) 999) (i14 : ∀ q, q < 6 → Bn s' (14 + q) 999) (i36 : ∀ k, k < 12 → Bn s' (36 + k) 200) (i48 : ∀ k, k < 5 → Bn s' (48 + k) 200)
  (rr : ∀ r k, r < ct s 2 → k < 7 → s' (58 + 10 * r + k) = s (58 + 10 * r + k)) (rn : ∀ r, ct s 2 ≤ r → r < ct s' 2 → Rf s' r) (dd : Dst s')
  (ll : ∀ l k, l < ct s 3 → k < 6 → s' (158 + 6 * l + k) = s (158 + 6 * l + k)) (lN : ∀ l, ct s 3 ≤ l → l < ct s' 3 → LRow s' (rwR s' 158 l))
  (oo : ∀ l k, l < ct s 4 → k < 6 → s' (206 + 6 * l + k) = s (206 + 6 * l + k)) (oN : ∀ l, ct s 4 ≤ l → l < ct s' 4 → ORow s' (rwR s' 206 l)) (zz : Zr s') : Rok s' := by
  obtain ⟨-, -, ⟨hr, -⟩, hl, ho, -⟩ := R
  have row : ∀ x, Row0 s x → Row0 s' x := fun x ⟨⟨a1, a2⟩, ⟨a3, a4⟩, ⟨a5, a6⟩⟩ => by
    have e1 : ct s' 1 = ct s 1 := by rcases m1 with z | z; · omega
                                     · exact z
    exact ⟨⟨a1, by omega⟩, ⟨a3, by omega⟩, ⟨a5, by omega⟩⟩
  refine ⟨⟨b0, ⟨b1, p1⟩, b2, b3, b4, b6, b7, p7⟩, ⟨i8, i14, i36, i48⟩, ⟨fun r h => ?_, dd⟩, fun l h => ?_, fun l h => ?_, zz⟩
  · by_cases e : r < ct s 2
    · have q := hr r e
      have e1 : ct s' 1 = ct s 1 := by rcases m1 with z | z; · omega
                                       · exact z
      unfold Rf at q ⊢
      have w0 := rr r 0 e (by decide)
      have w1 := rr r 1 e (by decide)
      have w5 := rr r 5 e (by decide)
      rw [ct_eq w0, ct_eq w1, ct_eq w5, w0, w1, w5, e1]
      exact ⟨q.1, q.2.1, ⟨q.2.2.1.1, by have := q.2.2.1.2; omega⟩, q.2.2.2.1.eq (rr r 3 e (by decide)), q.2.2.2.2.1.eq (rr r 4 e (by decide)), q.2.2.2.2.2.1.eq (rr r 6 e (by decide)), q.2.2.2.2.2.2.eq (rr r 2 e (by decide))⟩
    · exact rn r (by omega) h
  · by_cases e : l < ct s 3
    · rw [rwR_eq (fun k hk => ll l k e hk)]
      exact ⟨row _ (hl l e).1, (hl l e).2⟩
    · exact lN l (by omega) h
  · by_cases e : l < ct s 4
    · rw [rwR_eq (fun k hk => oo l k e hk)]
      exact ⟨row _ (ho l e).1, (ho l e).2⟩
    · exact oN l (by omega) h
/-- where rights are none, leases and options are none -/
theorem Rok.no {s : Nat → Int32} (R : Rok s) (h : ct s 2 = 0) : ct s 3 = 0 ∧ ct s 4 = 0 := by
  obtain ⟨-, -, -, hl, ho, -⟩ := R
  constructor
  · rcases Nat.eq_zero_or_pos (ct s 3) with e | e
    · exact e
    · have := (hl 0 e).1.1.2; omega
  · rcases Nat.eq_zero_or_pos (ct s 4) with e | e
    · exact e
    · have := (ho 0 e).1.1.2; omega
def qf (s : Nat → Int32) : Int32 := if ct s 2 = 0 then 0 else 1
section LINE
variable {f : Nat → Int32} {n t a k o : Nat} {s s' : Nat → Int32} {q : Int32} {b b' μ μ' μc μm : Mm}
theorem GC.tab {p : Nat} (h : GC f n t s b μ) (hF : Fs (fun a => a = p ∨ a = p + 1) μ μ') (hp : 47 < p ∧ (LSg p ∧ LSg (p + 1))) (hR : RdT μ' s') : GC f n t s' b μ' := by
  obtain ⟨h1, h2, h3, h4, h5⟩ := h
  have e45 : μ'.1 45 = μ.1 45 := (hF.1 45 (by omega)).1
  exact ⟨h1.fs hF (by omega) (by omega), by rw [e45]; exact h2, hR, h4.tr (hF.mo (fun a e => by rcases e with rfl | rfl; exact hp.2.1; exact hp.2.2)), fun j j3 j5 => by rw [(hF.1 47 (by omega)).1]; exact h5 j j3 j5⟩
/-! a reach -/
def rrA (x y : Int32) (μ : Mm) : Option Mm := (F_X2_addRow 48 μ).bind fun o13 => (F_X2_put 48 o13.1 (0 : Int32) x o13.2).bind fun o17 => (F_X2_put 48 o13.1 (1 : Int32) y o17).bind fun o20 => some o20
def rrB (x : Int32) (μ : Mm) : Option Mm := (F_X0_takeNumber (0 : Int32) (999 : Int32) μ).bind fun o9 => rrA x o9.1 o9.2
def rrC (μ : Mm) : Option Mm := (F_X0_takeNumber (0 : Int32) (999 : Int32) μ).bind fun o5 => rrB o5.1 o5.2
theorem rr_eq : F_X0_readReach μ = (F_X0_takeRowWord 48 (6 : Int32) μ).bind rrC := rfl
theorem fx_rrA {x y : Int32} (h : FX f n k o b μ) : Op (rrA x y μ) (FX f n k o b) := by
  refine op_mb (fx_add (t := 48) tt0 h) (fun z w => ?_)
  refine op_mb (fx_put (t := 48) (j := 0) tt0 (by decide) w) (fun z1 w1 => ?_)
  exact op_mb (fx_put (t := 48) (j := 1) tt0 (by decide) w1) (fun z2 w2 => op_r w2)
theorem fx_rrB {x : Int32} (h : FX f n k o b μ) : Op (rrB x μ) (FX f n k o b) := op_eb (fx_num h) (fx_rrA h)
theorem fx_rrC (h : FX f n k o b μ) : Op (rrC μ) (FX f n k o b) := op_eb (fx_num h) (fx_rrB h)
def reS2 (s : Nat → Int32) (x y : Int32) : Nat → Int32 := upd (upd (upd s (8 + ct s 0) x) (14 + ct s 0) y) 0 (s 0 + 1)
theorem gc_rrA {x y : Int32} (h : GC f n t s b μ) (R : Rok s) (hc : ct s 0 < 6) : Op (rrA x y μ) (GC f n t (reS2 s x y) b) := by
  have hz := R.2.2.2.2.2
  obtain ⟨h1, h2, h3, h4, h5, h6, h7, h8, h9⟩ := h.2.2.1
  have ev : ∀ j, (j ≠ 8 + ct s 0 ∧ (j ≠ 14 + ct s 0 ∧ j ≠ 0)) → reS2 s x y j = s j := fun j hj => by
    unfold reS2
    rw [pk_un hj.2.2, pk_un hj.2.1, pk_un hj.1]
  have c0 : ct (reS2 s x y) 0 = ct s 0 + 1 := by
    refine ct_nI (n := ct s 0 + 1) ?_ (by omega)
    unfold reS2
    rw [pk_us, R.1.1.1, nI_1]
  have r210 := R.1.2.2.1.2
  have r38 := R.1.2.2.2.1.2
  have r46 := R.1.2.2.2.2.1.2
  have r15 := R.1.2.1.1.2
  unfold rrA
  refine op_mb (x2_add h1 (by rw [show ln (48 + 1) = 18 by decide +kernel]; omega)) (fun z w => ?_)
  obtain ⟨w1, w2, w3⟩ := w
  rw [w1]
  refine op_eb (x2_put (k := 0) w2 (Nat.lt_succ_self _) (by decide)) ?_
  have t0 := w2.set (r := ct s 0) (k := 0) (v := x) (Nat.lt_succ_self _) (by decide)
  refine op_eb (x2_put (k := 1) t0 (Nat.lt_succ_self _) (by decide)) (op_r ?_)
  have t1 := t0.set (r := ct s 0) (k := 1) (v := y) (Nat.lt_succ_self _) (by decide)
  have fr : Fs (fun a => a = 48 ∨ a = 48 + 1) μ _ := (w3.tr (Fs.uI (k := ct s 0 * 3 + 0) (v := x) (Or.inr rfl))).tr (Fs.uI (k := ct s 0 * 3 + 1) (v := y) (Or.inr rfl))
  have n : ∀ a, (a < 48 ∨ 50 ≤ a) → ¬ (a = 48 ∨ a = 48 + 1) := fun a ha => by omega
  have sm : ∀ j, j ≠ 0 → j < 8 → reS2 s x y j = s j := fun j j0 j8 => ev j (by omega)
  refine h.tab fr ⟨by decide, by unfold LSg; omega, by unfold LSg; omega⟩ ⟨?_, ?_, ?_, ?_, ?_, ?_, ?_, ?_, ?_⟩
  · rw [c0]
    refine t1.congr (fun r k hr hk => ?_)
    unfold up2
    by_cases e : r = ct s 0
    · rw [e]
      rcases (show k = 0 ∨ k = 1 ∨ k = 2 by omega) with rfl | rfl | rfl
      · rw [if_neg (by omega), if_pos ⟨rfl, rfl⟩]
        unfold reS2
        rw [pk_un (by omega), pk_un (by omega), show 8 + 6 * 0 + ct s 0 = 8 + ct s 0 by omega, pk_us]
      · rw [if_pos ⟨rfl, rfl⟩]
        unfold reS2
        rw [pk_un (by omega), show 8 + 6 * 1 + ct s 0 = 14 + ct s 0 by omega, pk_us]
      · rw [if_neg (by omega), if_neg (by omega), ev _ (by omega)]
        show (if ct s 0 = ct s 0 then (0 : Int32) else s (8 + 6 * 2 + ct s 0)) = _
        rw [if_pos rfl]
        exact (hz _ (by omega) (by omega)).symm
    · rw [if_neg (by omega), if_neg (by omega), ev _ (by omega)]
      exact if_neg e
  · rw [ct_eq (sm 1 (by omega) (by omega))]
    exact (h2.fs fr (n _ (by omega)) (n _ (by omega))).congr (fun r k hr hk => (ev _ (by omega)).symm)
  · rw [ct_eq (sm 2 (by omega) (by omega))]
    exact (h3.fs fr (n _ (by omega)) (n _ (by omega))).congr (fun r k hr hk => (ev _ (by omega)).symm)
  · rw [ct_eq (sm 3 (by omega) (by omega))]
    exact (h4.fs fr (n _ (by omega)) (n _ (by omega))).congr (fun r k hr hk => (ev _ (by omega)).symm)
  · rw [ct_eq (sm 4 (by omega) (by omega))]
    exact (h5.fs fr (n _ (by omega)) (n _ (by omega))).congr (fun r k hr hk => (ev _ (by omega)).symm)
  · rw [(fr.1 50 (n _ (by omega))).1]
    exact fun k hk => (h6 k hk).trans (ev _ (by omega)).symm
  · rw [(fr.1 51 (n _ (by omega))).1, ct_eq (sm 7 (by omega) (by omega))]
    exact fun k hk hk7 => (h7 k hk hk7).trans (ev _ (by omega)).symm
  · rw [(fr.1 47 (n _ (by omega))).1, sm 7 (by omega) (by omega)]; exact h8
  · rw [(fr.1 47 (n _ (by omega))).1, sm 6 (by omega) (by omega)]; exact h9
theorem rok_reach {x y : Nat} (R : Rok s) (hc : ct s 0 < 6) (hx : x ≤ 999) (hy : y ≤ 999) : Rok (reS2 s (nI x) (nI y)) := by
  have ev : ∀ j, (j ≠ 8 + ct s 0 ∧ (j ≠ 14 + ct s 0 ∧ j ≠ 0)) → reS2 s (nI x) (nI y) j = s j := fun j hj => by
    unfold reS2
    rw [pk_un hj.2.2, pk_un hj.2.1, pk_un hj.1]
  have e0 : reS2 s (nI x) (nI y) 0 = nI (ct s 0 + 1) := by
    unfold reS2
    rw [pk_us, R.1.1.1, nI_1]
  have c0 : ct (reS2 s (nI x) (nI y)) 0 = ct s 0 + 1 := ct_nI e0 (by omega)
  obtain ⟨⟨r0, ⟨r1, r1'⟩, r2, r3, r4, r6, r7, r7'⟩, ⟨r8, r14, r36, r48⟩, ⟨rr, rd⟩, rl, ro, rz⟩ := id R
  have h210 := r2.2
  have h38 := r3.2
  have h46 := r4.2
  have e2 : ct (reS2 s (nI x) (nI y)) 2 = ct s 2 := ct_eq (ev 2 (by omega))
  refine R.up (Bn.mk e0 (by omega) (by decide)) (by omega) (r1.eq (ev 1 (by omega))) (by rw [ct_eq (ev 1 (by omega))]; exact r1') (Or.inr (ct_eq (ev 1 (by omega)))) (r2.eq (ev 2 (by omega))) (by omega) (r3.eq (ev 3 (by omega))) (r4.eq (ev 4 (by omega))) (r6.eq (ev 6 (by omega))) (r7.eq (ev 7 (by omega))) (by rw [ct_eq (ev 7 (by omega))]; exact r7') (fun q hq => ?_) (fun q hq => ?_) (fun k hk => (r36 k hk).eq (ev _ (by omega))) (fun k hk => (r48 k hk).eq (ev _ (by omega))) (fun r k hr hk => ev _ (by omega)) (fun r h1 h2 => by omega) (fun c d hc hd q => ?_) (fun l k hl hk => ev _ (by omega)) (fun l h1 h2 => by have e3 : ct (reS2 s (nI x) (nI y)) 3 = ct s 3 := ct_eq (ev 3 (by omega)); omega) (fun l k hl hk => ev _ (by omega)) (fun l h1 h2 => by have e3 : ct (reS2 s (nI x) (nI y)) 4 = ct s 4 := ct_eq (ev 4 (by omega)); omega) (fun j hj hz => ?_)
  · by_cases e : q = ct s 0
    · refine Bn.mk (v := x) ?_ hx (by decide)
      unfold reS2
      rw [pk_un (by omega), pk_un (by omega), e, pk_us]
    · exact (r8 q hq).eq (ev _ (by omega))
  · by_cases e : q = ct s 0
    · refine Bn.mk (v := y) ?_ hy (by decide)
      unfold reS2
      rw [pk_un (by omega), e, pk_us]
    · exact (r14 q hq).eq (ev _ (by omega))
  · rw [e2] at hc hd
    rw [ev _ (by omega), ev _ (by omega)] at q
    exact rd c d hc hd q
  · rw [e2] at hz
    rw [ev j (by omega)]
    exact rz j hj hz
end LINE

