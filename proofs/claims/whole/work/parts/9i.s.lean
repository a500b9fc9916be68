/-! ===== the right's line: its parts ===== -/
section RGT
variable {f : Nat → Int32} {n t a k o : Nat} {s s' : Nat → Int32} {q : Int32} {b b' μ μ' μc μm : Mm}
theorem wd_te {w : Nat} (hw : w < 10) (ht : t ≤ n) (h : wdB f n t w = true) : te f n t = t + wL w ∧ t < n := by
  have hl := (wC_rg w hw).1
  have h1 := (of_decide_eq_true h).1
  have hb := ru_b (P := letB) (f := f) ht
  have e1 : tk f n t = 1 := Decidable.byContradiction (fun z => by
    have := ru_nolet z
    omega)
  exact ⟨(te_let e1).trans h1, (tk1.mp e1).1⟩
/-- one word on both sides -/
theorem word2 {β : Type} {w : Nat} {F : Int32 → Option Mm} {G : Int32 × Mm → Option β} {P : Mm → β → Prop} (hB : BY f n) (C : GC f n t s b μc) (M : GM f n a s' q b' μm) (ht : skp f n a = t) (hw : w < 10)
  (yes : ∀ μm', wdB f n t w = true → t < n → GM f n (te f n t) s' q b' μm' → Op2 (F 1) (G (1, μm')) P)
  (no : ∀ μm', ¬ wdB f n t w = true → GM f n t s' q b' μm' → Op2 (F 0) (G (0, μm')) P) : Op2 ((F_X0_isWord w μc).bind F) ((F_X4_accept w μm).bind G) P := by
  have htn := C.1.2.1
  have e1 := x0_isW C.1 hB.1 hw
  obtain ⟨z, e2, z1, z2, z3⟩ := m_accept hB M.1 M.2.1 hw M.2.2.1.1
  rw [ht] at z1 z2
  refine o2_l e1 (o2_r e2 ?_)
  have q2 : z = (z.1, z.2) := rfl
  by_cases e : wdB f n t w = true
  · obtain ⟨t1, t2⟩ := wd_te hw htn e
    rw [if_pos e] at z1 z2 ⊢
    rw [q2, z1]
    rw [← t1] at z2
    exact yes z.2 e t2 (M.mv z2 (te_le htn).2.1 z3)
  · rw [if_neg e] at z1 z2 ⊢
    rw [q2, z1]
    exact no z.2 e (M.mv z2 htn z3)
theorem num2x {β : Type} {lo hi : Int32} {F : Int32 × Mm → Option Mm} {G : Int32 × Mm → Option β} {P : Mm → β → Prop} (hB : BY f n) (C : GC f n t s b μc) (M : GM f n a s' q b' μm) (ht : skp f n a = t)
  (good : ∀ v μc' μm' t' a', ¬ v < lo → v ≤ hi → GC f n t' s b μc' → GM f n a' s' q b' μm' → skp f n a' = t' → t < t' → μm'.1 295 18 = nI t → Op2 (F (v, μc')) (G (v, μm')) P)
  (bad : ∀ k o w μc' μm', FX f n k o b μc' → MX f n k o b' μm' → μm'.1 297 = s' → Op2 (F (lo, μc')) (G (w, μm')) P) : Op2 ((F_X0_takeNumber lo hi μc).bind F) ((F_X4_number lo hi μm).bind G) P := by
  obtain ⟨om, e2, -, x2⟩ := m_num (lo := lo) (hi := hi) hB M.1 M.2.1 ht M.2.2.1.1
  by_cases e : numC f n t lo hi = 0
  · obtain ⟨oc, e1, g1, -⟩ := x0_num (lo := lo) (hi := hi) C.1 hB.1 C.2.1.1
    obtain ⟨om, e2, g2, -⟩ := m_num (lo := lo) (hi := hi) hB M.1 M.2.1 ht M.2.2.1.1
    have htn := C.1.2.1
    obtain ⟨c1, c2, c3⟩ := g1 e
    obtain ⟨m1, m2, m3, m4, m5⟩ := g2 e
    obtain ⟨z1, z2, z3, z4⟩ := numC_0 e
    have hte := te_le (f := f) htn
    have hlt := hte.2.2 (tk2.mp z1).1
    have hsk : te f n t ≤ skp f n (te f n t) := ru_ge
    have q1 : oc = (nval f n t, oc.2) := by rw [← c1]
    have q2 : om = (nval f n t, om.2) := by rw [← m1]
    refine o2_l e1 (o2_r e2 ?_)
    rw [q1, q2]
    refine good _ oc.2 om.2 _ (te f n t) z3 z4 (C.mv c2 c3) ?_ rfl (by omega) m3
    obtain ⟨h1, h2, h3, h4, h5, h6⟩ := M
    exact ⟨m2, hte.2.1, ⟨(m5 17 (by decide) (by decide)).trans h3.1, (m5 16 (by decide) (by decide)).trans h3.2⟩, (m4.1 297 (by decide)).1.trans h4, (m5 19 (by decide) (by decide)).trans h5, h6.tr ⟨m4.mo (fun a e => Or.inl e), fun j hj => m5 j (by omega) (by omega)⟩⟩
  · obtain ⟨oc, e1, -, x1⟩ := x0_num (lo := lo) (hi := hi) C.1 hB.1 C.2.1.1
    obtain ⟨c1, c2, c3, c4⟩ := x1 e
    obtain ⟨m1, m2, m3, m4⟩ := x2 e
    have hle := numC_le (f := f) (n := n) (t := t) (lo := lo) (hi := hi)
    refine o2_l e1 (o2_r e2 ?_)
    have q1 : oc = (lo, oc.2) := by rw [← c1]
    rw [q1]
    exact bad (numC f n t lo hi) t om.1 oc.2 om.2 (C.fx ⟨e, by omega⟩ c3 c4) (M.mx ⟨e, by omega⟩ m2 m1 m3 m4) ((m3.1 297 (by decide)).1.trans M.2.2.2.1)
/-! the class' parts -/
def rgH (a0 a1 a2 a3 a4 a5 a6 : Int32) (μ : Mm) : Option Mm := (F_X2_addRow 55 μ).bind fun o63 => (F_X2_put 55 o63.1 (0 : Int32) a0 o63.2).bind fun o67 => (F_X2_put 55 o63.1 (1 : Int32) a1 o67).bind fun o70 => (F_X2_put 55 o63.1 (2 : Int32) a2 o70).bind fun o73 => (F_X2_put 55 o63.1 (3 : Int32) a3 o73).bind fun o76 => (F_X2_put 55 o63.1 (4 : Int32) a4 o76).bind fun o79 => (F_X2_put 55 o63.1 (5 : Int32) a5 o79).bind fun o82 => (F_X2_put 55 o63.1 (6 : Int32) a6 o82).bind fun o85 => some o85
def rgG (a0 a1 a2 a3 a4 a5 : Int32) (μ : Mm) : Option Mm := (F_X0_isWord 7 μ).bind fun o46 => (if o46 = 0 then (some ((0 : Int32), μ)) else ((F_X0_nextToken μ).bind fun o55 => (F_X0_takeNumber (0 : Int32) (100 : Int32) o55).bind fun o58 => some (o58.1, o58.2))).bind fun o61 => rgH a0 a1 a2 a3 a4 a5 o61.1 o61.2
def rgF (a0 a1 a2 a3 : Int32) (μ : Mm) : Option Mm := (F_X0_isWord 6 μ).bind fun o24 => (if o24 = 0 then (some ((0 : Int32), a1, μ)) else ((F_X0_nextToken μ).bind fun o34 => (F_X0_takeNumber (0 : Int32) (90 : Int32) o34).bind fun o37 => (F_X0_takeNumber a1 ((o37.2.1 48 2) - (1 : Int32)) o37.2).bind fun o41 => some (o37.1, o41.1, o41.2))).bind fun o44 => rgG a0 a1 a2 a3 o44.1 o44.2.1 o44.2.2
def rgE (a0 a1 a2 : Int32) (μ : Mm) : Option Mm := (F_X0_takeNumber (1 : Int32) (999 : Int32) μ).bind fun o20 => rgF a0 a1 a2 o20.1 o20.2
def rgD (a0 a1 off : Int32) (z : Int32 × Mm) : Option Mm := (F_X0_failIfTaken 55 (2 : Int32) z.1 off z.2).bind fun o17 => rgE a0 a1 z.1 o17
def rgC (a0 a1 : Int32) (μ : Mm) : Option Mm := (F_X0_takeNumber (1 : Int32) (99 : Int32) μ).bind fun o13 => rgD a0 a1 (μ.1 45 6) o13
def rgB (a0 : Int32) (μ : Mm) : Option Mm := (F_X0_takeNumber (0 : Int32) ((μ.1 48 2) - (1 : Int32)) μ).bind fun o9 => rgC a0 o9.1 o9.2
def rgA (μ : Mm) : Option Mm := (F_X0_takeNumber (0 : Int32) ((μ.1 52 2) - (1 : Int32)) μ).bind fun o5 => rgB o5.1 o5.2
theorem rg_eq : F_X0_readRight μ = (F_X0_takeRowWord 55 (10 : Int32) μ).bind rgA := rfl
theorem fx_rgH {a0 a1 a2 a3 a4 a5 a6 : Int32} (h : FX f n k o b μ) : Op (rgH a0 a1 a2 a3 a4 a5 a6 μ) (FX f n k o b) := by
  refine op_mb (fx_add (t := 55) tt2 h) (fun z w => ?_)
  refine op_mb (fx_put (t := 55) (j := 0) tt2 (by decide) w) (fun z1 w1 => ?_)
  refine op_mb (fx_put (t := 55) (j := 1) tt2 (by decide) w1) (fun z2 w2 => ?_)
  refine op_mb (fx_put (t := 55) (j := 2) tt2 (by decide) w2) (fun z3 w3 => ?_)
  refine op_mb (fx_put (t := 55) (j := 3) tt2 (by decide) w3) (fun z4 w4 => ?_)
  refine op_mb (fx_put (t := 55) (j := 4) tt2 (by decide) w4) (fun z5 w5 => ?_)
  refine op_mb (fx_put (t := 55) (j := 5) tt2 (by decide) w5) (fun z6 w6 => ?_)
  exact op_mb (fx_put (t := 55) (j := 6) tt2 (by decide) w6) (fun z7 w7 => op_r w7)
theorem fx_rgG {a0 a1 a2 a3 a4 a5 : Int32} (hB : BY f n) (h : FX f n k o b μ) : Op (rgG a0 a1 a2 a3 a4 a5 μ) (FX f n k o b) := by
  unfold rgG
  rcases fx_isW hB.1 (show 7 < 10 by decide) h with e | e
  · exact op_eb e (op_b (op_t rfl (op_r (fx_rgH h))))
  · exact op_eb e (op_b (op_f n10 (op_mb (fx_next hB.1 h) (fun m w => op_eb (fx_num w) (op_r (fx_rgH w))))))
theorem fx_rgF {a0 a1 a2 a3 : Int32} (hB : BY f n) (h : FX f n k o b μ) : Op (rgF a0 a1 a2 a3 μ) (FX f n k o b) := by
  unfold rgF
  rcases fx_isW hB.1 (show 6 < 10 by decide) h with e | e
  · exact op_eb e (op_b (op_t rfl (op_r (fx_rgG hB h))))
  · exact op_eb e (op_b (op_f n10 (op_mb (fx_next hB.1 h) (fun m w => op_eb (fx_num w) (op_eb (fx_num w) (op_r (fx_rgG hB w)))))))
theorem fx_rgE {a0 a1 a2 : Int32} (hB : BY f n) (h : FX f n k o b μ) : Op (rgE a0 a1 a2 μ) (FX f n k o b) := op_eb (fx_num h) (fx_rgF hB h)
theorem fx_rgD {a0 a1 off v : Int32} (hB : BY f n) (h : FX f n k o b μ) : Op (rgD a0 a1 off (v, μ)) (FX f n k o b) := op_eb (fx_taken (t := 55) (j := 2) tt2 (by decide) h) (fx_rgE hB h)
theorem fx_rgC {a0 a1 : Int32} (hB : BY f n) (h : FX f n k o b μ) : Op (rgC a0 a1 μ) (FX f n k o b) := op_eb (fx_num h) (fx_rgD hB h)
theorem fx_rgB {a0 : Int32} (hB : BY f n) (h : FX f n k o b μ) : Op (rgB a0 μ) (FX f n k o b) := op_eb (fx_num h) (fx_rgC hB h)
theorem fx_rgA (hB : BY f n) (h : FX f n k o b μ) : Op (rgA μ) (FX f n k o b) := op_eb (fx_num h) (fx_rgB hB h)
/-! the reference's parts -/
def mgH (μ : Mm) : Option Mm := (aI μ 297 (2 : Int32)).bind fun x99 => (sI μ 297 (2 : Int32) (x99 + (1 : Int32))).bind fun m101 => some m101
def mgG1 (x9 : Int32) (μ : Mm) : Option Mm := (F_X4_rightAt x9 (6 : Int32) μ).bind fun o90 => (F_X4_number (0 : Int32) (100 : Int32) μ).bind fun o93 => (sI o93.2 297 o90 o93.1).bind fun m96 => some m96
def mgG (x9 : Int32) (μ : Mm) : Option Mm := (F_X4_accept 7 μ).bind fun o81 => (if o81.1 = 0 then (some o81.2) else mgG1 x9 o81.2).bind mgH
def mgF1 (x9 a1 : Int32) (μ : Mm) : Option Mm := (F_X4_rightAt x9 (4 : Int32) μ).bind fun o62 => (F_X4_number (0 : Int32) (90 : Int32) μ).bind fun o65 => (sI o65.2 297 o62 o65.1).bind fun m68 => (F_X4_rightAt x9 (5 : Int32) m68).bind fun o71 => (F_X4_reachHere a1 m68).bind fun o74 => (sI o74.2 297 o71 o74.1).bind fun m77 => some m77
def mgF (x9 a1 : Int32) (μ : Mm) : Option Mm := (F_X4_accept 6 μ).bind fun o53 => (if o53.1 = 0 then (some o53.2) else mgF1 x9 a1 o53.2).bind (mgG x9)
def mgE2 (x9 a1 : Int32) (μ : Mm) : Option Mm := (F_X4_rightAt x9 (5 : Int32) μ).bind fun o48 => (sI μ 297 o48 a1).bind fun m50 => mgF x9 a1 m50
def mgE (x9 a1 : Int32) (μ : Mm) : Option Mm := (F_X4_rightAt x9 (3 : Int32) μ).bind fun o39 => (F_X4_number (1 : Int32) (999 : Int32) μ).bind fun o42 => (sI o42.2 297 o39 o42.1).bind (mgE2 x9 a1)
def mgC (x9 a1 : Int32) (μ : Mm) : Option Mm := (F_X4_rightAt x9 (2 : Int32) μ).bind fun o30 => (F_X4_priorityHere μ).bind fun o33 => (sI o33.2 297 o30 o33.1).bind (mgE x9 a1)
def mgB1 (x9 : Int32) (z : Int32 × Mm) : Option Mm := (F_X4_rightAt x9 (1 : Int32) z.2).bind fun o25 => (sI z.2 297 o25 z.1).bind (mgC x9 z.1)
def mgB (x9 : Int32) (μ : Mm) : Option Mm := (F_X4_reachHere (0 : Int32) μ).bind (mgB1 x9)
def mgA (x9 : Int32) (μ : Mm) : Option Mm := (F_X4_rightAt x9 (0 : Int32) μ).bind fun o12 => (F_X4_accountHere μ).bind fun o15 => (sI o15.2 297 o12 o15.1).bind (mgB x9)
theorem mg_eq {p1 : Int32} : F_X4_rightLine p1 μ = (F_X4_isRoom (nI 2) (nI 10) p1 μ).bind fun o2 => if o2.1 = 0 then some o2.2 else ((some (uI o2.2 295 19 (1 : Int32))).bind fun m7 => (aI m7 297 (2 : Int32)).bind fun x9 => mgA x9 m7) := rfl
section MGX
variable {r : Nat} {a1 v : Int32}
theorem mx_mgH (h : MX f n k o b μ) : Op (mgH μ) (MX f n k o b) := op_eb (mx_get (j := 2) (by decide)) (op_mb (mx_put (j := 2) h (by decide)) (fun m w => op_r w))
theorem mx_mgG (hB : BY f n) (h : MX f n k o b μ) : Op (mgG (nI r) μ) (MX f n k o b) := op_mb (mx_acc hB (show 7 < 10 by decide) h) (fun z w => by rw [w.1]; exact op_b (op_t rfl (op_r (mx_mgH w.2))))
theorem mx_mgF (hB : BY f n) (h : MX f n k o b μ) : Op (mgF (nI r) a1 μ) (MX f n k o b) := op_mb (mx_acc hB (show 6 < 10 by decide) h) (fun z w => by rw [w.1]; exact op_b (op_t rfl (op_r (mx_mgG hB w.2))))
theorem mx_mgE2 (hB : BY f n) (hr : r < 10) (h : MX f n k o b μ) : Op (mgE2 (nI r) a1 μ) (MX f n k o b) := op_eb (show F_X4_rightAt (nI r) 5 μ = some (nI (58 + 10 * r + 5)) from m_rt) (op_mb (mx_put h (by omega)) (fun m w => mx_mgF hB w))
theorem mx_mgE (hB : BY f n) (hr : r < 10) (h : MX f n k o b μ) : Op (mgE (nI r) a1 μ) (MX f n k o b) := op_eb (show F_X4_rightAt (nI r) 3 μ = some (nI (58 + 10 * r + 3)) from m_rt) (op_eb (mx_num h) (op_mb (mx_put h (by omega)) (fun m w => mx_mgE2 hB hr w)))
theorem mx_pri {c : Nat} {u : Int32} (h : MX f n k o b μ) (h2 : μ.1 297 2 = nI c) (hc : c ≤ 10) : ∀ (d m i : Nat), i + d = c → d < m → F_X4_priorityHere_10 u m (nI i) μ = some μ := by
  intro d
  induction d with
  | zero =>
    intro m i hi hm
    obtain ⟨m, rfl⟩ : ∃ z, m = z + 1 := ⟨m - 1, by omega⟩
    rw [F_X4_priorityHere_10]
    refine be_ (mx_get (j := 2) (by decide)) ?_
    rw [h2, if_pos (nI_le (by omega) (by omega))]
  | succ d ih =>
    intro m i hi hm
    obtain ⟨m, rfl⟩ : ∃ z, m = z + 1 := ⟨m - 1, by omega⟩
    rw [F_X4_priorityHere_10]
    refine be_ (mx_get (j := 2) (by decide)) ?_
    rw [h2, if_neg (nI_ge (by omega) (by omega))]
    refine be_ (show F_X4_rightAt (nI i) 2 μ = some (nI (58 + 10 * i + 2)) from m_rt) (be_ (mx_get (j := 58 + 10 * i + 2) (by omega)) (be_ (a := μ) ?_ ?_))
    · by_cases e : μ.1 297 (58 + 10 * i + 2) = u
      · rw [if_pos e, mx_fail h]; rfl
      · rw [if_neg e]
    · rw [nI_1]
      exact ih m (i + 1) (by omega) (by omega)
theorem mx_mgC (hB : BY f n) (hr : r < 10) (h : MX f n k o b μ) (h2 : μ.1 297 2 = nI r) : Op (mgC (nI r) a1 μ) (MX f n k o b) := by
  refine op_eb (show F_X4_rightAt (nI r) 2 μ = some (nI (58 + 10 * r + 2)) from m_rt) ?_
  have e : F_X4_priorityHere μ = some (1, μ) := be_ (mx_num h) (be_ (mx_pri h h2 (by omega) r qFuel 0 (by omega) (by unfold qFuel; omega)) rfl)
  exact op_eb e (op_mb (mx_put h (by omega)) (fun m w => mx_mgE hB hr w))
end MGX
end RGT
