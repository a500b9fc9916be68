/-! ===== rights, leases, options; all lines; load ===== -/
section LNR
variable {s : Nat → Int32}
/-! a lease -/
theorem gt_tcC {f : Nat → Int32} {n : Nat} {L : List Tok} {b μ : Mm} (hB : BY f n) {h3 h4 l5 h5 a q v p m : Nat} {x : Int32} {E : E6} {P : Mm → Prop} (R : Rok s) (h : GT f n ((2, a) :: (2, q) :: (2, v) :: (2, p) :: (2, m) :: L) s b μ) (ha : a < ct s 1) (hq : q < ct s 0) (hv : 1 ≤ v ∧ v ≤ h3) (hp : p ≤ h4) (hm : l5 ≤ m ∧ m ≤ h5) (hs : h3 < 1000 ∧ (h4 < 1000 ∧ h5 < 1000)) (hE : ∀ μ', GT f n L s b μ' → Op (E x (nI a) (nI q) (nI v) (nI p) (nI m) μ') P) : Op (tcC (nI h3) (nI h4) (nI l5) (nI h5) E x μ) P := by
  have r0 := R.1.1
  have r1 := R.1.2.1.1
  have r06 := r0.2
  have r15 := r1.2
  unfold tcC
  refine op_mb (gt_numR hB h h.rd.2.1.2.1 ha (by omega)) (fun o1 w1 => ?_)
  obtain ⟨e1, g1⟩ := w1
  rw [e1]
  unfold tcD
  refine op_mb (gt_numR hB g1 g1.rd.1.2.1 hq (by omega)) (fun o2 w2 => ?_)
  obtain ⟨e2, g2⟩ := w2
  rw [e2]
  unfold tcE
  refine op_mb (gt_num (lo := 1) hB g2 hv.1 hv.2 (by omega)) (fun o3 w3 => ?_)
  obtain ⟨e3, g3⟩ := w3
  rw [e3]
  unfold tcF
  refine op_mb (gt_num (lo := 0) hB g3 (Nat.zero_le _) hp (by omega)) (fun o4 w4 => ?_)
  obtain ⟨e4, g4⟩ := w4
  rw [e4]
  unfold tcG
  refine op_mb (gt_num hB g4 hm.1 hm.2 (by omega)) (fun o5 w5 => ?_)
  obtain ⟨e5, g5⟩ := w5
  rw [e5]
  exact hE _ g5
def leaS (s : Nat → Int32) (r a q v p m : Nat) : Nat → Int32 := rw6S s (158 + 6 * ct s 3) 3 (nI r) (nI a) (nI q) (nI v) (nI p) (nI m)
theorem rok_lease {r a q v p m : Nat} (R : Rok s) (hc : ct s 3 < 8) (hr : r < ct s 2) (ha : a < ct s 1) (hq : q < ct s 0) (hv : v ≤ 999) (hp : p ≤ 99) : Rok (leaS s r a q v p m) :=
  rok_row6 R (Or.inl ⟨rfl, rfl⟩) ⟨fun _ => hc, fun z => absurd z (by decide)⟩ (fun _ => ⟨row_l R hr ha hq, Bn.mk (v := v) rfl hv (by decide), Bn.mk (v := p) rfl hp (by decide)⟩) (fun z => absurd z (by decide))
theorem ln_lease {r a q v p m : Nat} (hc : ct s 3 < 8) (hr : r < ct s 2) (ha : a < ct s 1) (hq : q < ct s 0) (hv : 1 ≤ v ∧ v ≤ 999) (hp : p ≤ 99) (hm : 1 ≤ m ∧ m ≤ 36) : Ln [(1, 8), (2, r), (2, a), (2, q), (2, v), (2, p), (2, m)] s (leaS s r a q v p m) := fun R => ⟨rok_lease R hc hr ha hq hv.2 hp, fun f n y L b μ hB h => by
  have r2 := R.1.2.2.1.2
  rw [rl_8 hB h, le_eq]
  refine op_some (op_mb (gt_row (m := 8) hB h h.rd.2.2.2.1.2.1 hc (by decide)) (fun m1 h1 => ?_))
  unfold leA
  refine op_mb (gt_numR hB h1 h1.rd.2.2.1.2.1 hr (by omega)) (fun o1 w1 => ?_)
  obtain ⟨e1, g1⟩ := w1
  rw [e1, leC_eq]
  exact gt_tcC (h3 := 999) (h4 := 99) (l5 := 1) (h5 := 36) hB R g1 ha hq hv hp hm ⟨by decide, by decide, by decide⟩ (fun μ' g => g.op (fun t c => gc_El c R hc))⟩
/-! an option -/
def optS (s : Nat → Int32) (r a q t p k : Nat) : Nat → Int32 := rw6S s (206 + 6 * ct s 4) 4 (nI r) (nI a) (nI q) (nI t) (nI p) (nI k)
theorem rok_option {r a q t p k : Nat} (R : Rok s) (hc : ct s 4 < 6) (hr : r < ct s 2) (ha : a < ct s 1) (hq : q < ct s 0) (hp : p ≤ 999) (hk : k ≤ 99) : Rok (optS s r a q t p k) :=
  rok_row6 R (Or.inr ⟨rfl, rfl⟩) ⟨fun z => absurd z (by decide), fun _ => hc⟩ (fun z => absurd z (by decide)) (fun _ => ⟨row_l R hr ha hq, Bn.mk (v := p) rfl hp (by decide), Bn.mk (v := k) rfl hk (by decide)⟩)
theorem gt_taken {f : Nat → Int32} {n : Nat} {L : List Tok} {b μ : Mm} {p c m j y : Nat} {g : Nat → Nat → Int32} {x : Int32} (h : GT f n L s b μ) (ht : Tb μ p c m g) (hj : j < c) (hp : p ≠ 45 ∧ p + 1 ≠ 45) (hno : ∀ r, r < m → g r j ≠ x) : F_X0_failIfTaken p (nI j) x (nI y) μ = some μ := by
  obtain ⟨μ', e, w⟩ := x0_taken (x := x) (y := y) ht hj h.er hp
  rw [e, w.1 hno]
theorem gt_off {f : Nat → Int32} {n : Nat} {L : List Tok} {b μ : Mm} (h : GT f n L s b μ) : ∃ t, μ.1 45 6 = nI t := by
  obtain ⟨t, h1, -⟩ := h
  exact ⟨t, h1.1.2.2.2.2.1⟩
theorem ln_option {r a q t p k : Nat} (hc : ct s 4 < 6) (hr : r < ct s 2) (ha : a < ct s 1) (hq : q < ct s 0) (ht : 1 ≤ t ∧ t ≤ 200) (hp : p ≤ 999) (hk : k ≤ 99) (hno : ∀ l, l < ct s 4 → s (206 + 6 * l + 0) ≠ nI r) : Ln [(1, 9), (2, r), (2, a), (2, q), (2, t), (2, p), (2, k)] s (optS s r a q t p k) := fun R => ⟨rok_option R hc hr ha hq hp hk, fun f n y L b μ hB h => by
  have r2 := R.1.2.2.1.2
  rw [rl_9 hB h, op_eq]
  refine op_some (op_mb (gt_row (m := 6) hB h h.rd.2.2.2.2.1.2.1 hc (by decide)) (fun m1 h1 => ?_))
  unfold opA
  obtain ⟨t0, et⟩ := gt_off h1
  rw [et]
  refine op_mb (gt_numR hB h1 h1.rd.2.2.1.2.1 hr (by omega)) (fun o1 w1 => ?_)
  obtain ⟨e1, g1⟩ := w1
  rw [e1]
  refine op_eb (gt_taken (p := 61) (j := 0) (y := t0) g1 g1.rd.2.2.2.2.1 (by decide) ⟨by decide, by decide⟩ (fun l hl => hno l hl)) ?_
  unfold opB
  exact gt_tcC (h3 := 200) (h4 := 999) (l5 := 0) (h5 := 99) hB R g1 ha hq ht hp ⟨Nat.zero_le _, hk⟩ ⟨by decide, by decide, by decide⟩ (fun μ' g => g.op (fun t c => gc_Eo c R hc))⟩
/-! a right -/
def retT : Option (Nat × Nat) → List Tok
  | none => []
  | some z => [(1, 6), (2, z.1), (2, z.2)]
def kepT : Option Nat → List Tok
  | none => []
  | some z => [(1, 7), (2, z)]
def rtV (z : Option (Nat × Nat)) : Nat := z.elim 0 (fun q => q.1)
def toV (r : Nat) (z : Option (Nat × Nat)) : Nat := z.elim r (fun q => q.2)
def kpV (z : Option Nat) : Nat := z.elim 0 (fun q => q)
def rigS (s : Nat → Int32) (a r p m : Nat) (z : Option (Nat × Nat)) (k : Option Nat) : Nat → Int32 := rgS s (rw7 (nI a) (nI r) (nI p) (nI m) (nI (rtV z)) (nI (toV r z)) (nI (kpV k)))
def retO (s : Nat → Int32) (r : Nat) (z : Option (Nat × Nat)) : Prop := ∀ q, z = some q → q.1 ≤ 90 ∧ (r ≤ q.2 ∧ q.2 < ct s 0)
def kepO (k : Option Nat) : Prop := ∀ q, k = some q → q ≤ 100
theorem retO.v {r : Nat} {z : Option (Nat × Nat)} (h : retO s r z) (hr : r < ct s 0) : rtV z ≤ 90 ∧ (r ≤ toV r z ∧ toV r z < ct s 0) := by
  cases z with
  | none => exact ⟨Nat.zero_le _, Nat.le_refl _, hr⟩
  | some q => exact h q rfl
theorem kepO.v {k : Option Nat} (h : kepO k) : kpV k ≤ 100 := by
  cases k with
  | none => exact Nat.zero_le _
  | some q => exact h q rfl
theorem rok_rig {a r p m : Nat} {z : Option (Nat × Nat)} {k : Option Nat} (R : Rok s) (hc : ct s 2 < 10) (ha : a < ct s 1) (hr : r < ct s 0) (hp : p ≤ 99) (hm : m ≤ 999) (hz : retO s r z) (hk : kepO k) (hno : ∀ q, q < ct s 2 → s (58 + 10 * q + 2) ≠ nI p) : Rok (rigS s a r p m z k) := by
  obtain ⟨z1, z2, z3⟩ := hz.v hr
  exact rok_right R hc ha z2 z3 hp hm z1 hk.v hno
theorem gt_rgG {f : Nat → Int32} {n y : Nat} {L : List Tok} {b μ : Mm} (hB : BY f n) {k : Option Nat} {a0 a1 a2 a3 a4 a5 : Int32} (R : Rok s) (hc : ct s 2 < 10) (hk : kepO k) (h : GT f n (kepT k ++ (3, y) :: L) s b μ) : Op (rgG a0 a1 a2 a3 a4 a5 μ) (GT f n ((3, y) :: L) (rgS s (rw7 a0 a1 a2 a3 a4 a5 (nI (kpV k)))) b) := by
  unfold rgG
  cases k with
  | none =>
    have h : GT f n ((3, y) :: L) s b μ := h
    refine op_eb (gt_not hB h (by decide) (ne_w (Or.inl (fun w => absurd (show (3 : Nat) = 1 from w) (by decide))))) ?_
    rw [if_pos rfl]
    exact op_br (h.op (fun t g => gc_rgH g R hc))
  | some q =>
    have h : GT f n ((1, 7) :: (2, q) :: (3, y) :: L) s b μ := h
    refine op_eb (gt_yes hB h (by decide)) ?_
    rw [if_neg n01]
    refine op_b (op_mb (gt_next hB h) (fun m1 h1 => op_mb (gt_num (lo := 0) (hi := 100) hB h1 (Nat.zero_le _) (hk q rfl) (by decide)) (fun o w => op_r ?_)))
    obtain ⟨e1, g1⟩ := w
    show Op (rgH a0 a1 a2 a3 a4 a5 o.1 o.2) _
    rw [e1]
    exact g1.op (fun t g => gc_rgH g R hc)
theorem ln_right {a r p m : Nat} {z : Option (Nat × Nat)} {k : Option Nat} (hc : ct s 2 < 10) (ha : a < ct s 1) (hr : r < ct s 0) (hp : 1 ≤ p ∧ p ≤ 99) (hm : 1 ≤ m ∧ m ≤ 999) (hz : retO s r z) (hk : kepO k) (hno : ∀ q, q < ct s 2 → s (58 + 10 * q + 2) ≠ nI p) : Ln ((1, 5) :: (2, a) :: (2, r) :: (2, p) :: (2, m) :: (retT z ++ kepT k)) s (rigS s a r p m z k) := fun R => ⟨rok_rig R hc ha hr hp.2 hm.2 hz hk hno, fun f n y L b μ hB h => by
  have r0 := R.1.1.2
  have r1 := R.1.2.1.1.2
  have h : GT f n ((1, 5) :: (2, a) :: (2, r) :: (2, p) :: (2, m) :: (retT z ++ kepT k ++ (3, y) :: L)) s b μ := h
  rw [rl_5 hB h, rg_eq]
  refine op_some (op_mb (gt_row (m := 10) hB h h.rd.2.2.1.2.1 hc (by decide)) (fun m1 h1 => ?_))
  unfold rgA
  refine op_mb (gt_numR hB h1 h1.rd.2.1.2.1 ha (by omega)) (fun o1 w1 => ?_)
  obtain ⟨e1, g1⟩ := w1
  rw [e1]
  unfold rgB
  refine op_mb (gt_numR hB g1 g1.rd.1.2.1 hr (by omega)) (fun o2 w2 => ?_)
  obtain ⟨e2, g2⟩ := w2
  rw [e2]
  unfold rgC
  obtain ⟨t0, et⟩ := gt_off g2
  rw [et]
  refine op_mb (gt_num (lo := 1) (hi := 99) hB g2 hp.1 hp.2 (by decide)) (fun o3 w3 => ?_)
  obtain ⟨e3, g3⟩ := w3
  unfold rgD
  rw [e3]
  refine op_eb (gt_taken (p := 55) (j := 2) (y := t0) g3 g3.rd.2.2.1 (by decide) ⟨by decide, by decide⟩ (fun l hl => hno l hl)) ?_
  unfold rgE
  refine op_mb (gt_num (lo := 1) (hi := 999) hB g3 hm.1 hm.2 (by decide)) (fun o4 w4 => ?_)
  obtain ⟨e4, g4⟩ := w4
  rw [e4]
  unfold rgF
  cases z with
  | none =>
    have g4 : GT f n (kepT k ++ (3, y) :: L) s b o4.2 := g4
    have hw : F_X0_isWord 6 o4.2 = some 0 := by
      cases k with
      | none =>
        have g4 : GT f n ((3, y) :: L) s b o4.2 := g4
        exact gt_not hB g4 (by decide) (ne_w (Or.inl (fun w => absurd (show (3 : Nat) = 1 from w) (by decide))))
      | some q =>
        have g4 : GT f n ((1, 7) :: (2, q) :: (3, y) :: L) s b o4.2 := g4
        exact gt_not hB g4 (by decide) (ne_w (Or.inr (by decide)))
    refine op_eb hw ?_
    rw [if_pos rfl]
    exact op_br (gt_rgG hB R hc hk g4)
  | some q =>
    obtain ⟨q1, q2, q3⟩ := hz q rfl
    have g4 : GT f n ((1, 6) :: (2, q.1) :: (2, q.2) :: (kepT k ++ (3, y) :: L)) s b o4.2 := g4
    refine op_eb (gt_yes hB g4 (by decide)) ?_
    rw [if_neg n01]
    refine op_b (op_mb (gt_next hB g4) (fun m5 h5 => op_mb (gt_num (lo := 0) (hi := 90) hB h5 (Nat.zero_le _) q1 (by decide)) (fun o6 w6 => ?_)))
    obtain ⟨e6, g6⟩ := w6
    refine op_mb (gt_numS hB g6 g6.rd.1.2.1 q2 q3 (by omega)) (fun o7 w7 => op_r ?_)
    obtain ⟨e7, g7⟩ := w7
    show Op (rgG (nI a) (nI r) (nI p) (nI m) o6.1 o7.1 o7.2) _
    rw [e6, e7]
    exact gt_rgG hB R hc hk g7⟩
/-! all lines -/
def Lns : List (List Tok) → (Nat → Int32) → (Nat → Int32) → Prop
  | [], s, s' => s' = s
  | K :: T, s, s' => ∃ s1, Ln K s s1 ∧ Lns T s1 s'
def flat : List (List Tok) → List Tok
  | [] => []
  | K :: T => K ++ (3, 0) :: flat T
theorem Lns.app : ∀ {T U : List (List Tok)} {s s1 s2 : Nat → Int32}, Lns T s s1 → Lns U s1 s2 → Lns (T ++ U) s s2 := by
  intro T
  induction T with
  | nil =>
    intro U s s1 s2 h1 h2
    have h1 : s1 = s := h1
    rw [h1] at h2
    exact h2
  | cons K T ih =>
    intro U s s1 s2 h1 h2
    obtain ⟨s3, h3, h4⟩ := h1
    exact ⟨s3, h3, ih h4 h2⟩
theorem gt_end {f : Nat → Int32} {n : Nat} {b μ : Mm} (h : GT f n [] s b μ) : μ.1 45 5 = 0 ∧ ∃ t, GC f n t s b μ := by
  obtain ⟨t, g1, g2, -⟩ := h
  refine ⟨?_, t, g1⟩
  rw [g1.1.2.2.2.1]
  unfold tk
  rw [if_pos (by have := bt_nil g2; omega)]
  rfl
/-- so many bytes are left, and a line takes one of them -/
theorem gt_left {f : Nat → Int32} {n : Nat} {L : List Tok} {b μ : Mm} (h : GT f n L s b μ) : μ.1 45 2 = nI n ∧ (ren true L).length ≤ n := by
  obtain ⟨t, g1, g2, -⟩ := h
  exact ⟨g1.1.1.1, by have := g2.1; omega⟩
theorem ren_semi : ∀ (K : List Tok) (b : Bool) (y : Nat) (L : List Tok), (ren true L).length + 1 ≤ (ren b (K ++ (3, y) :: L)).length := by
  intro K
  induction K with
  | nil =>
    intro b y L
    show _ ≤ (sep b (3, y) ++ (tB (3, y) ++ ren (aft (3, y)) L)).length
    have e1 : sep b (3, y) = [] := if_pos (Or.inr rfl)
    have e2 : tB (3, y) = [59] := rfl
    have e3 : aft (3, y) = true := rfl
    rw [e1, e2, e3]
    show _ ≤ (59 :: ren true L).length
    rw [List.length_cons]
    exact Nat.le_refl _
  | cons k K ih =>
    intro b y L
    show _ ≤ (sep b k ++ (tB k ++ ren (aft k) (K ++ (3, y) :: L))).length
    rw [List.length_append, List.length_append]
    have := ih (aft k) y L
    omega
theorem gt_loop {f : Nat → Int32} {n : Nat} {b : Mm} (hB : BY f n) : ∀ (T : List (List Tok)) (m i : Nat) (s s' : Nat → Int32) (μ : Mm), T.length < m → i + (ren true (flat T)).length ≤ n → Lns T s s' → Rok s → GT f n (flat T) s b μ → Op (F_X0_readText_28 m (nI i) μ) (fun μ' => (∃ t, GC f n t s' b μ') ∧ Rok s') := by
  have hn := hB.1
  intro T
  induction T with
  | nil =>
    intro m i s s' μ hm hi hl R h
    obtain ⟨m, rfl⟩ : ∃ q, m = q + 1 := ⟨m - 1, by have : ([] : List (List Tok)).length = 0 := rfl; omega⟩
    obtain rfl : s' = s := hl
    obtain ⟨h5, h6⟩ := gt_end h
    rw [F_X0_readText_28]
    by_cases e : μ.1 45 2 ≤ nI i
    · rw [if_pos e]; exact op_r ⟨h6, R⟩
    · rw [if_neg e, if_pos h5]; exact op_r ⟨h6, R⟩
  | cons K T ih =>
    intro m i s s' μ hm hi hl R h
    rw [List.length_cons] at hm
    obtain ⟨m, rfl⟩ : ∃ q, m = q + 1 := ⟨m - 1, by omega⟩
    obtain ⟨s1, l1, l2⟩ := hl
    obtain ⟨R1, l1⟩ := l1 R
    have h : GT f n (K ++ (3, 0) :: flat T) s b μ := h
    have hr := ren_semi K true 0 (flat T)
    have hi : i + (ren true (K ++ (3, 0) :: flat T)).length ≤ n := hi
    obtain ⟨h2, h3⟩ := gt_left h
    have h50 : ¬ μ.1 45 5 = 0 := by
      obtain ⟨t, g1, g2, -⟩ := h
      rw [g1.1.2.2.2.1]
      have h7 := tk_le (f := f) (n := n) (t := t)
      have h8 : t < n := by have := g2.1; omega
      have h9 : tk f n t ≠ 0 := tk0 h8
      exact nI_ne0 (by omega) (by omega)
    rw [F_X0_readText_28, h2, if_neg (nI_ge (by omega) (by omega)), if_neg h50, if_pos h.er]
    refine op_mb (l1 f n 0 (flat T) b μ hB h) (fun m1 h1 => ?_)
    rw [if_pos (gt_3 h1)]
    refine op_br (op_mb (gt_next hB h1) (fun m2 h4 => ?_))
    rw [nI_1]
    exact ih m (i + 1) s1 s' m2 (by omega) (by omega) l2 R1 h4
theorem ren_len1 : ∀ (T : List (List Tok)), T.length ≤ (ren true (flat T)).length := by
  intro T
  induction T with
  | nil => exact Nat.zero_le _
  | cons K T ih =>
    have := ren_semi K true 0 (flat T)
    show T.length + 1 ≤ (ren true (K ++ (3, 0) :: flat T)).length
    omega
theorem rok_E' : Rok sE := (rok_E (fun _ _ => rfl)).1
/-- load, of a text whose lines are right -/
theorem x3_load {μ : Mm} {n : Nat} {T : List (List Tok)} {s : Nat → Int32} (hn : n ≤ 900) (hBy : ∀ k, k < n → By (μ.1 46 k)) (h2 : μ.1 45 2 = nI n) (hk : KB μ 1) (hk47 : KB μ 47) (hb : Bt (μ.1 46) n 0 (ren true (flat T))) (ht : ∀ k, k ∈ flat T → tOk k) (hl : Lns T sE s) :
    Rok s ∧ ∃ μ1, F_X3_load μ = some (0, s 2, μ1) ∧ (NV μ1 1 s gE ∧ (KB μ1 47 ∧ (μ1.1 0 5 = 0 ∧ ((μ1.1 45 2 = 0 ∧ (μ1.1 45 3 = -1 ∧ μ1.1 45 4 = 0)) ∧ Fs SLd μ μ1)))) := by
  have hB : BY (μ.1 46) n := ⟨hn, hBy⟩
  obtain ⟨b, e1, C0, c43, N0, F0⟩ := c_pre hk47 h2 hB
  have hb1 := skp_ren hb ht
  have g : GT (μ.1 46) n (flat T) sE b b := ⟨_, ⟨C0, c43, rdt_E (fun _ _ => rfl) N0, Fs.rf, fun _ _ _ => rfl⟩, hb1, ht⟩
  have hlen := hb.1
  have hT := ren_len1 T
  obtain ⟨oc, e2, ⟨t, C⟩, R⟩ := gt_loop hB T qFuel 0 sE s b (by unfold qFuel; omega) (by omega) hl rok_E' g
  obtain ⟨μ1, x1, x2, x3, x4, -, x5, x6⟩ := c_good e1 e2 F0 N0 C R hk
  exact ⟨R, μ1, x1, x2, x3, x4, x5, x6⟩
end LNR
