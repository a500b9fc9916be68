/-! ===== Made's text, as a list of lines; its bytes in words ===== -/
theorem fa_or (a b : Nat) : nI a ||| nI b = nI (a ||| b) := by
  apply Int32.toBitVec_inj.1
  show BitVec.ofNat 32 a ||| BitVec.ofNat 32 b = BitVec.ofNat 32 (a ||| b)
  apply BitVec.eq_of_getLsbD_eq
  intro i hi
  simp [hi]
theorem fa_or_sum {a k : Nat} (b : Nat) (h : a < 2 ^ k) : nI (2 ^ k * b) ||| nI a = nI (2 ^ k * b + a) := by rw [fa_or, Nat.two_pow_add_eq_or_of_lt h]
/-! the builder's bytes -/
def LB (l : List Int32) : Nat → Int32 := fun i => l.getD i 0
theorem TB.cg {μ : Mm} {n : Nat} {t t' : Nat → Int32} (h : TB μ n t) (he : ∀ k, k < n → t k = t' k) : TB μ n t' := ⟨h.1, h.2.1, h.2.2.1, h.2.2.2.1, h.2.2.2.2.1, fun k hk => (h.2.2.2.2.2 k hk).trans (he k hk)⟩
theorem dg_dG : ∀ v, v < 1000 → dg v = (dG v).length ∧ ∀ i, i < dg v → nI (48 + v / 10 ^ (dg v - 1 - i) % 10) = (dG v).getD i 0 := by decide +kernel
theorem lb_num {μ : Mm} {l : List Int32} {v : Nat} (hv : v ≤ 999) (h : TB μ (l.length + dg v) (pt (LB l) v (dg v) (l.length + dg v))) : TB μ (l ++ dG v).length (LB (l ++ dG v)) := by
  obtain ⟨e1, e2⟩ := dg_dG v (by omega)
  have hl : (l ++ dG v).length = l.length + dg v := by rw [List.length_append, e1]
  rw [hl]
  refine h.cg (fun k hk => ?_)
  unfold pt LB
  by_cases e : l.length ≤ k
  · rw [if_pos (by omega), List.getD_eq_getElem?_getD, List.getElem?_append_right e]
    have := e2 (k - l.length) (by omega)
    rw [List.getD_eq_getElem?_getD] at this
    rw [show l.length + dg v - 1 - k = dg v - 1 - (k - l.length) by omega]
    exact this
  · rw [if_neg (by omega), List.getD_eq_getElem?_getD, List.getD_eq_getElem?_getD, List.getElem?_append_left (by omega)]
theorem lb_str {E : Ev} {μ : Mm} {l : List Int32} {w : Nat} (hw : w < 22) (h : TB μ (l.length + eLn E w) (pSt E w l.length (LB l))) : TB μ (l ++ qByt.getD w []).length (LB (l ++ qByt.getD w [])) := by
  have hl : (l ++ qByt.getD w []).length = l.length + eLn E w := by rw [List.length_append, eLn_l hw]
  have hz := eLn_l (E := E) hw
  rw [hl]
  refine h.cg (fun k hk => ?_)
  unfold pSt va_cpy LB
  by_cases e : l.length ≤ k
  · rw [if_pos (by omega)]
    show (eBy E w).getD (0 + (k - l.length)) 0 = _
    rw [eBy_l hw, Nat.zero_add]
    simp only [List.getD_eq_getElem?_getD, List.getElem?_append_right e]
  · rw [if_neg (by omega), List.getD_eq_getElem?_getD, List.getD_eq_getElem?_getD, List.getElem?_append_left (by omega)]
/-! lines one behind the other -/
theorem ren_semi2 : ∀ (K : List Tok) (b : Bool) (L : List Tok), ren b (K ++ (3, 0) :: L) = ren b (K ++ [(3, 0)]) ++ ren true L := by
  intro K
  induction K with
  | nil =>
    intro b L
    show sep b (3, 0) ++ (tB (3, 0) ++ ren true L) = (sep b (3, 0) ++ (tB (3, 0) ++ [])) ++ ren true L
    rw [List.append_nil, List.append_assoc]
  | cons k K ih =>
    intro b L
    show sep b k ++ (tB k ++ ren (aft k) (K ++ (3, 0) :: L)) = (sep b k ++ (tB k ++ ren (aft k) (K ++ [(3, 0)]))) ++ ren true L
    rw [ih, List.append_assoc, List.append_assoc]
theorem ren_flat : ∀ (T : List (List Tok)) (L : List Tok), ren true (flat T ++ L) = ren true (flat T) ++ ren true L := by
  intro T
  induction T with
  | nil => intro L; rfl
  | cons K T ih =>
    intro L
    have e1 : flat (K :: T) ++ L = K ++ (3, 0) :: (flat T ++ L) := by
      show (K ++ (3, 0) :: flat T) ++ L = _
      rw [List.append_assoc]
      rfl
    rw [e1, ren_semi2, ih]
    show _ = ren true (K ++ (3, 0) :: flat T) ++ ren true L
    rw [ren_semi2 K true (flat T), List.append_assoc]
theorem flat_snoc : ∀ (T : List (List Tok)) (K : List Tok), flat (T ++ [K]) = flat T ++ (K ++ [(3, 0)]) := by
  intro T
  induction T with
  | nil => intro K; rfl
  | cons K0 T ih =>
    intro K
    show K0 ++ (3, 0) :: flat (T ++ [K]) = (K0 ++ (3, 0) :: flat T) ++ (K ++ [(3, 0)])
    rw [ih, List.append_assoc]
    rfl
theorem ren_snoc (T : List (List Tok)) (K : List Tok) : ren true (flat (T ++ [K])) = ren true (flat T) ++ ren true (K ++ [(3, 0)]) := by rw [flat_snoc, ren_flat]
/-- lines that are right, of tokens that are -/
def MB (T : List (List Tok)) (s : Nat → Int32) : Prop := Lns T sE s ∧ ∀ k, k ∈ flat T → tOk k
theorem MB.snoc {T : List (List Tok)} {K : List Tok} {s s' : Nat → Int32} (h : MB T s) (hl : Ln K s s') (hk : ∀ k, k ∈ K → tOk k) : MB (T ++ [K]) s' := by
  refine ⟨Lns.app h.1 ⟨s', hl, rfl⟩, fun k hm => ?_⟩
  rw [flat_snoc] at hm
  rcases List.mem_append.mp hm with hm | hm
  · exact h.2 k hm
  · rcases List.mem_append.mp hm with hm | hm
    · exact hk k hm
    · obtain rfl := List.mem_singleton.mp hm
      exact Or.inr (Or.inr rfl)
/-! numbers behind blanks -/
def nb : List Nat → List Int32
  | [] => []
  | v :: V => 32 :: (dG v ++ nb V)
theorem nb_snoc : ∀ (V : List Nat) (v : Nat), nb (V ++ [v]) = nb V ++ (32 :: dG v) := by
  intro V
  induction V with
  | nil =>
    intro v
    show 32 :: (dG v ++ []) = 32 :: dG v
    rw [List.append_nil]
  | cons u V ih =>
    intro v
    show 32 :: (dG u ++ nb (V ++ [v])) = 32 :: (dG u ++ nb V) ++ (32 :: dG v)
    rw [ih, List.cons_append, List.append_assoc]
theorem ren_num2 : ∀ V : List Nat, ren false (tnum V ++ [(3, 0)]) = nb V ++ [59] := by
  intro V
  induction V with
  | nil => rfl
  | cons v V ih =>
    show 32 :: (dG v ++ ren false (tnum V ++ [(3, 0)])) = 32 :: ((dG v ++ nb V) ++ [59])
    rw [ih, List.append_assoc]
abbrev lt (w : Nat) : List Int32 := qByt.getD w []
theorem tx_acc (A : Nat) : ren true ([(1, 4), (2, A)] ++ [(3, 0)]) = lt 4 ++ (32 :: (dG A ++ [59])) := rfl
theorem tx_loss (A : Nat) : ren true ([(1, 3), (2, A)] ++ [(3, 0)]) = lt 3 ++ (32 :: (dG A ++ [59])) := rfl
theorem tx_years (V : List Nat) : ren true (((1, 2) :: tnum V) ++ [(3, 0)]) = lt 2 ++ (nb V ++ [59]) := by
  show [] ++ (lt 2 ++ ren false (tnum V ++ [(3, 0)])) = _
  rw [ren_num2, List.nil_append]
theorem tx_season (V : List Nat) : ren true (((1, 1) :: tnum V) ++ [(3, 0)]) = lt 1 ++ (nb V ++ [59]) := by
  show [] ++ (lt 1 ++ ren false (tnum V ++ [(3, 0)])) = _
  rw [ren_num2, List.nil_append]
theorem lt_all : lt 10 = lt 4 ++ [32] ∧ (lt 11 = 59 :: (lt 3 ++ [32]) ∧ (lt 12 = 59 :: lt 2 ∧ (lt 13 = [32] ∧ (lt 14 = 59 :: lt 1 ∧ (lt 15 = [59] ∧ (lt 16 = lt 0 ++ [32] ∧ (lt 17 = lt 5 ++ [32] ∧ (lt 18 = 32 :: (lt 6 ++ [32]) ∧ (lt 19 = 32 :: (lt 7 ++ [32]) ∧ (lt 20 = lt 8 ++ [32] ∧ lt 21 = lt 9 ++ [32])))))))))) := by decide +kernel
theorem tx_head (A L : Nat) (V W : List Nat) : (((((((lt 10 ++ dG A) ++ lt 11) ++ dG L) ++ lt 12) ++ nb V) ++ lt 14) ++ nb W) ++ lt 15 = ren true (flat [[(1, 4), (2, A)], [(1, 3), (2, L)], (1, 2) :: tnum V, (1, 1) :: tnum W]) := by
  obtain ⟨e10, e11, e12, e13, e14, e15, -⟩ := lt_all
  show _ = ren true ([(1, 4), (2, A)] ++ (3, 0) :: ([(1, 3), (2, L)] ++ (3, 0) :: (((1, 2) :: tnum V) ++ (3, 0) :: (((1, 1) :: tnum W) ++ (3, 0) :: []))))
  rw [ren_semi2 [(1, 4), (2, A)], ren_semi2 [(1, 3), (2, L)], ren_semi2 ((1, 2) :: tnum V), ren_semi2 ((1, 1) :: tnum W), tx_acc, tx_loss, tx_years, tx_season, e10, e11, e12, e14, e15]
  show _ = (lt 4 ++ 32 :: (dG A ++ [59])) ++ ((lt 3 ++ 32 :: (dG L ++ [59])) ++ ((lt 2 ++ (nb V ++ [59])) ++ ((lt 1 ++ (nb W ++ [59])) ++ [])))
  simp only [List.append_assoc, List.cons_append, List.nil_append, List.append_nil]
theorem tx_reach (l : List Int32) (x y : Nat) : ((((l ++ lt 16) ++ dG x) ++ lt 13) ++ dG y) ++ lt 15 = l ++ ren true ([(1, 0), (2, x), (2, y)] ++ [(3, 0)]) := by
  obtain ⟨-, -, -, e13, -, e15, e16, -⟩ := lt_all
  rw [show ren true ([(1, 0), (2, x), (2, y)] ++ [(3, 0)]) = lt 0 ++ (32 :: (dG x ++ (32 :: (dG y ++ [59])))) from rfl, e13, e15, e16]
  simp only [List.append_assoc, List.cons_append, List.nil_append]
def rtx : Option (Nat × Nat) → List Int32
  | none => []
  | some z => lt 18 ++ (dG z.1 ++ (lt 13 ++ dG z.2))
def ktx : Option Nat → List Int32
  | none => []
  | some z => lt 19 ++ dG z
theorem tx_right (l : List Int32) (a r p m : Nat) (z : Option (Nat × Nat)) (k : Option Nat) : ((((((((((l ++ lt 17) ++ dG a) ++ lt 13) ++ dG r) ++ lt 13) ++ dG p) ++ lt 13) ++ dG m) ++ rtx z) ++ ktx k) ++ lt 15 = l ++ ren true (((1, 5) :: (2, a) :: (2, r) :: (2, p) :: (2, m) :: (retT z ++ kepT k)) ++ [(3, 0)]) := by
  obtain ⟨-, -, -, e13, -, e15, -, e17, e18, e19, -⟩ := lt_all
  cases z with
  | none =>
    cases k with
    | none =>
      rw [show ren true (((1, 5) :: (2, a) :: (2, r) :: (2, p) :: (2, m) :: (retT none ++ kepT none)) ++ [(3, 0)]) = lt 5 ++ (32 :: (dG a ++ (32 :: (dG r ++ (32 :: (dG p ++ (32 :: (dG m ++ [59])))))))) from rfl]
      unfold rtx ktx
      rw [e13, e15, e17]
      simp only [List.append_assoc, List.cons_append, List.nil_append, List.append_nil]
    | some k =>
      rw [show ren true (((1, 5) :: (2, a) :: (2, r) :: (2, p) :: (2, m) :: (retT none ++ kepT (some k))) ++ [(3, 0)]) = lt 5 ++ (32 :: (dG a ++ (32 :: (dG r ++ (32 :: (dG p ++ (32 :: (dG m ++ (32 :: (lt 7 ++ (32 :: (dG k ++ [59])))))))))))) from rfl]
      unfold rtx ktx
      rw [e13, e15, e17, e19]
      simp only [List.append_assoc, List.cons_append, List.nil_append, List.append_nil]
  | some z =>
    cases k with
    | none =>
      rw [show ren true (((1, 5) :: (2, a) :: (2, r) :: (2, p) :: (2, m) :: (retT (some z) ++ kepT none)) ++ [(3, 0)]) = lt 5 ++ (32 :: (dG a ++ (32 :: (dG r ++ (32 :: (dG p ++ (32 :: (dG m ++ (32 :: (lt 6 ++ (32 :: (dG z.1 ++ (32 :: (dG z.2 ++ [59])))))))))))))) from rfl]
      unfold rtx ktx
      rw [e13, e15, e17, e18]
      simp only [List.append_assoc, List.cons_append, List.nil_append, List.append_nil]
    | some k =>
      rw [show ren true (((1, 5) :: (2, a) :: (2, r) :: (2, p) :: (2, m) :: (retT (some z) ++ kepT (some k))) ++ [(3, 0)]) = lt 5 ++ (32 :: (dG a ++ (32 :: (dG r ++ (32 :: (dG p ++ (32 :: (dG m ++ (32 :: (lt 6 ++ (32 :: (dG z.1 ++ (32 :: (dG z.2 ++ (32 :: (lt 7 ++ (32 :: (dG k ++ [59])))))))))))))))))) from rfl]
      unfold rtx ktx
      rw [e13, e15, e17, e18, e19]
      simp only [List.append_assoc, List.cons_append, List.nil_append, List.append_nil]
theorem tx_six (l : List Int32) {w u : Nat} (hw : (w = 20 ∧ u = 8) ∨ (w = 21 ∧ u = 9)) (a b c d e f : Nat) : ((((((((((((l ++ lt w) ++ dG a) ++ lt 13) ++ dG b) ++ lt 13) ++ dG c) ++ lt 13) ++ dG d) ++ lt 13) ++ dG e) ++ lt 13) ++ dG f) ++ lt 15 = l ++ ren true ([(1, u), (2, a), (2, b), (2, c), (2, d), (2, e), (2, f)] ++ [(3, 0)]) := by
  obtain ⟨-, -, -, e13, -, e15, -, -, -, -, e20, e21⟩ := lt_all
  rw [show ren true ([(1, u), (2, a), (2, b), (2, c), (2, d), (2, e), (2, f)] ++ [(3, 0)]) = lt u ++ (32 :: (dG a ++ (32 :: (dG b ++ (32 :: (dG c ++ (32 :: (dG d ++ (32 :: (dG e ++ (32 :: (dG f ++ [59])))))))))))) from rfl, e13, e15]
  rcases hw with ⟨rfl, rfl⟩ | ⟨rfl, rfl⟩
  · rw [e20]
    simp only [List.append_assoc, List.cons_append, List.nil_append]
  · rw [e21]
    simp only [List.append_assoc, List.cons_append, List.nil_append]
/-! how many there are -/
def CS (s : Nat → Int32) (a0 a1 a2 a3 a4 : Nat) : Prop := (s 0 = nI a0 ∧ a0 ≤ 6) ∧ ((s 1 = nI a1 ∧ a1 ≤ 5) ∧ ((s 2 = nI a2 ∧ a2 ≤ 10) ∧ ((s 3 = nI a3 ∧ a3 ≤ 8) ∧ (s 4 = nI a4 ∧ a4 ≤ 6))))
section CSS
variable {s s' : Nat → Int32} {a0 a1 a2 a3 a4 : Nat}
theorem CS.c0 (h : CS s a0 a1 a2 a3 a4) : ct s 0 = a0 := ct_nI h.1.1 (by have := h.1.2; omega)
theorem CS.c1 (h : CS s a0 a1 a2 a3 a4) : ct s 1 = a1 := ct_nI h.2.1.1 (by have := h.2.1.2; omega)
theorem CS.c2 (h : CS s a0 a1 a2 a3 a4) : ct s 2 = a2 := ct_nI h.2.2.1.1 (by have := h.2.2.1.2; omega)
theorem CS.c3 (h : CS s a0 a1 a2 a3 a4) : ct s 3 = a3 := ct_nI h.2.2.2.1.1 (by have := h.2.2.2.1.2; omega)
theorem CS.c4 (h : CS s a0 a1 a2 a3 a4) : ct s 4 = a4 := ct_nI h.2.2.2.2.1 (by have := h.2.2.2.2.2; omega)
theorem CS.of (h : CS s a0 a1 a2 a3 a4) (he : ∀ j, j < 5 → s' j = s j) : CS s' a0 a1 a2 a3 a4 := ⟨⟨(he 0 (by decide)).trans h.1.1, h.1.2⟩, ⟨(he 1 (by decide)).trans h.2.1.1, h.2.1.2⟩, ⟨(he 2 (by decide)).trans h.2.2.1.1, h.2.2.1.2⟩, ⟨(he 3 (by decide)).trans h.2.2.2.1.1, h.2.2.2.1.2⟩, ⟨(he 4 (by decide)).trans h.2.2.2.2.1, h.2.2.2.2.2⟩⟩
theorem cs_E : CS sE 0 1 0 0 0 := ⟨⟨rfl, by decide⟩, ⟨rfl, by decide⟩, ⟨rfl, by decide⟩, ⟨rfl, by decide⟩, ⟨rfl, by decide⟩⟩
theorem CS.acc {x : Nat} (h : CS s a0 a1 a2 a3 a4) (hx : x ≤ 5) : CS (upd s 1 (nI x)) a0 x a2 a3 a4 := ⟨⟨(pk_un (by decide)).trans h.1.1, h.1.2⟩, ⟨pk_us, hx⟩, ⟨(pk_un (by decide)).trans h.2.2.1.1, h.2.2.1.2⟩, ⟨(pk_un (by decide)).trans h.2.2.2.1.1, h.2.2.2.1.2⟩, ⟨(pk_un (by decide)).trans h.2.2.2.2.1, h.2.2.2.2.2⟩⟩
theorem yeaS_n : ∀ (V : List Nat) (s : Nat → Int32) (i j : Nat), j < 5 → yeaS s i V j = s j := by
  intro V
  induction V with
  | nil => intro s i j _; rfl
  | cons v V ih =>
    intro s i j hj
    show yeaS (upd (upd s (48 + i) (nI v)) 7 (nI (i + 1))) (i + 1) V j = s j
    rw [ih _ _ _ hj, pk_un (by omega), pk_un (by omega)]
theorem seaS_n : ∀ (V : List Nat) (s : Nat → Int32) (i j : Nat), j < 5 → seaS s i V j = s j := by
  intro V
  induction V with
  | nil => intro s i j _; rfl
  | cons v V ih =>
    intro s i j hj
    show seaS (upd s (36 + i) (nI v)) (i + 1) V j = s j
    rw [ih _ _ _ hj, pk_un (by omega)]
theorem CS.reach {x y : Int32} (h : CS s a0 a1 a2 a3 a4) (hc : a0 < 6) : CS (reS2 s x y) (a0 + 1) a1 a2 a3 a4 := by
  have ev : ∀ j, 1 ≤ j → j < 5 → reS2 s x y j = s j := fun j h1 h2 => by
    unfold reS2
    rw [pk_un (by omega), pk_un (by omega), pk_un (by omega)]
  refine ⟨⟨?_, by omega⟩, ⟨(ev 1 (by decide) (by decide)).trans h.2.1.1, h.2.1.2⟩, ⟨(ev 2 (by decide) (by decide)).trans h.2.2.1.1, h.2.2.1.2⟩, ⟨(ev 3 (by decide) (by decide)).trans h.2.2.2.1.1, h.2.2.2.1.2⟩, ⟨(ev 4 (by decide) (by decide)).trans h.2.2.2.2.1, h.2.2.2.2.2⟩⟩
  unfold reS2
  rw [pk_us, h.1.1, nI_1]
theorem CS.right {R : Nat → Int32} (h : CS s a0 a1 a2 a3 a4) (hc : a2 < 10) : CS (rgS s R) a0 a1 (a2 + 1) a3 a4 := by
  have ev : ∀ j, j ≠ 2 → j < 5 → rgS s R j = s j := fun j h1 h2 => rgS_n h1 (by omega)
  refine ⟨⟨(ev 0 (by decide) (by decide)).trans h.1.1, h.1.2⟩, ⟨(ev 1 (by decide) (by decide)).trans h.2.1.1, h.2.1.2⟩, ⟨?_, by omega⟩, ⟨(ev 3 (by decide) (by decide)).trans h.2.2.2.1.1, h.2.2.2.1.2⟩, ⟨(ev 4 (by decide) (by decide)).trans h.2.2.2.2.1, h.2.2.2.2.2⟩⟩
  rw [rgS_2, h.2.2.1.1, nI_1]
theorem CS.lea {x0 x1 x2 x3 x4 x5 : Int32} (h : CS s a0 a1 a2 a3 a4) (hc : a3 < 8) : CS (rw6S s (158 + 6 * ct s 3) 3 x0 x1 x2 x3 x4 x5) a0 a1 a2 (a3 + 1) a4 := by
  have ev : ∀ j, j ≠ 3 → j < 5 → rw6S s (158 + 6 * ct s 3) 3 x0 x1 x2 x3 x4 x5 j = s j := fun j h1 h2 => rw6S_n h1 (by omega)
  refine ⟨⟨(ev 0 (by decide) (by decide)).trans h.1.1, h.1.2⟩, ⟨(ev 1 (by decide) (by decide)).trans h.2.1.1, h.2.1.2⟩, ⟨(ev 2 (by decide) (by decide)).trans h.2.2.1.1, h.2.2.1.2⟩, ⟨?_, by omega⟩, ⟨(ev 4 (by decide) (by decide)).trans h.2.2.2.2.1, h.2.2.2.2.2⟩⟩
  rw [rw6S_c, h.2.2.2.1.1, nI_1]
theorem CS.opt {x0 x1 x2 x3 x4 x5 : Int32} (h : CS s a0 a1 a2 a3 a4) (hc : a4 < 6) : CS (rw6S s (206 + 6 * ct s 4) 4 x0 x1 x2 x3 x4 x5) a0 a1 a2 a3 (a4 + 1) := by
  have ev : ∀ j, j ≠ 4 → j < 5 → rw6S s (206 + 6 * ct s 4) 4 x0 x1 x2 x3 x4 x5 j = s j := fun j h1 h2 => rw6S_n h1 (by omega)
  refine ⟨⟨(ev 0 (by decide) (by decide)).trans h.1.1, h.1.2⟩, ⟨(ev 1 (by decide) (by decide)).trans h.2.1.1, h.2.1.2⟩, ⟨(ev 2 (by decide) (by decide)).trans h.2.2.1.1, h.2.2.1.2⟩, ⟨(ev 3 (by decide) (by decide)).trans h.2.2.2.1.1, h.2.2.2.1.2⟩, ⟨?_, by omega⟩⟩
  rw [rw6S_c, h.2.2.2.2.1, nI_1]
end CSS
/-- the rights' priorities; the options' rights lie below k -/
def PRs (s : Nat → Int32) (n st : Nat) : Prop := ∀ q, q < n → s (58 + 10 * q + 2) = nI (1 + (q * 11 + st) % 97)
def OPs (s : Nat → Int32) (n k : Nat) : Prop := ∀ q, q < n → ∃ r, r < k ∧ s (206 + 6 * q + 0) = nI r
theorem PRs.no {s : Nat → Int32} {n st : Nat} (h : PRs s n st) (hn : n < 8) (hst : 1 ≤ st ∧ st ≤ 9) : ∀ q, q < n → s (58 + 10 * q + 2) ≠ nI (1 + (n * 11 + st) % 97) := fun q hq e => by
  rw [h q hq] at e
  have := nI_inj (by omega) (by omega) e
  omega
theorem PRs.right {s R : Nat → Int32} {st a0 a1 a2 a3 a4 : Nat} (h : PRs s a2 st) (hc : CS s a0 a1 a2 a3 a4) (hR : R 2 = nI (1 + (a2 * 11 + st) % 97)) : PRs (rgS s R) (a2 + 1) st := fun q hq => by
  have e2 := hc.c2
  by_cases e : q = a2
  · rw [e, show 58 + 10 * a2 + 2 = 58 + 10 * ct s 2 + 2 by rw [e2], rgS_y (by decide), hR]
  · rw [rgS_n (by omega) (by omega)]
    exact h q (by omega)
theorem OPs.no {s : Nat → Int32} {n k : Nat} (h : OPs s n k) (hk : k < 100) : ∀ q, q < n → s (206 + 6 * q + 0) ≠ nI k := fun q hq e => by
  obtain ⟨r, r1, r2⟩ := h q hq
  rw [r2] at e
  have := nI_inj (by omega) (by omega) e
  omega
theorem OPs.mono {s : Nat → Int32} {n k k' : Nat} (h : OPs s n k) (hk : k ≤ k') : OPs s n k' := fun q hq => by
  obtain ⟨r, r1, r2⟩ := h q hq
  exact ⟨r, by omega, r2⟩
theorem OPs.opt {s : Nat → Int32} {k a0 a1 a2 a3 a4 : Nat} {x1 x2 x3 x4 x5 : Int32} (h : OPs s a4 k) (hc : CS s a0 a1 a2 a3 a4) : OPs (rw6S s (206 + 6 * ct s 4) 4 (nI k) x1 x2 x3 x4 x5) (a4 + 1) (k + 1) := fun q hq => by
  have e4 := hc.c4
  by_cases e : q = a4
  · refine ⟨k, by omega, ?_⟩
    rw [e, show 206 + 6 * a4 + 0 = 206 + 6 * ct s 4 + 0 by rw [e4], rw6S_r (by omega) (by decide)]
    rfl
  · obtain ⟨r, r1, r2⟩ := h q (by omega)
    refine ⟨r, by omega, ?_⟩
    rw [rw6S_n (by omega) (by omega)]
    exact r2
/-! bytes in words -/
theorem i8_mod (X : Nat) (h : X % 256 < 128) : (nI X).toInt8.toInt32 = nI (X % 256) := by
  have e1 : (nI X).toInt8 = (nI (X % 256)).toInt8 := by
    apply Int8.toBitVec_inj.1
    show (BitVec.ofNat 32 X).signExtend 8 = (BitVec.ofNat 32 (X % 256)).signExtend 8
    rw [BitVec.signExtend_eq_setWidth_of_le _ (by decide), BitVec.signExtend_eq_setWidth_of_le _ (by decide), BitVec.setWidth_ofNat_of_le (by decide), BitVec.setWidth_ofNat_of_le (by decide)]
    apply BitVec.eq_of_toNat_eq
    rw [BitVec.toNat_ofNat, BitVec.toNat_ofNat]
    omega
  rw [e1]
  exact (show ∀ c, c < 128 → (nI c).toInt8.toInt32 = nI c by decide +kernel) _ h
def wd4 (c0 c1 c2 c3 : Nat) : Nat := c0 * 16777216 + c1 * 65536 + c2 * 256 + c3
theorem wB_4 {c0 c1 c2 c3 : Nat} (h0 : c0 < 128) (h1 : c1 < 128) (h2 : c2 < 128) (h3 : c3 < 128) : wB (nI (wd4 c0 c1 c2 c3)) 0 = nI c0 ∧ (wB (nI (wd4 c0 c1 c2 c3)) 1 = nI c1 ∧ (wB (nI (wd4 c0 c1 c2 c3)) 2 = nI c2 ∧ wB (nI (wd4 c0 c1 c2 c3)) 3 = nI c3)) := by
  have hW : wd4 c0 c1 c2 c3 < 2 ^ 31 := by unfold wd4; omega
  have d0 : wd4 c0 c1 c2 c3 / 16777216 % 256 = c0 := by unfold wd4; omega
  have d1 : wd4 c0 c1 c2 c3 / 65536 % 256 = c1 := by unfold wd4; omega
  have d2 : wd4 c0 c1 c2 c3 / 256 % 256 = c2 := by unfold wd4; omega
  have d3 : wd4 c0 c1 c2 c3 / 1 % 256 = c3 := by unfold wd4; omega
  refine ⟨?_, ?_, ?_, ?_⟩
  · show (nI (wd4 c0 c1 c2 c3) >>> ((24 : Int32) &&& 31)).toInt8.toInt32 = _
    rw [pk_shrN hW _ 24 (by decide), show (2 : Nat) ^ 24 = 16777216 from rfl, i8_mod _ (by omega), d0]
  · show (nI (wd4 c0 c1 c2 c3) >>> ((16 : Int32) &&& 31)).toInt8.toInt32 = _
    rw [pk_shrN hW _ 16 (by decide), show (2 : Nat) ^ 16 = 65536 from rfl, i8_mod _ (by omega), d1]
  · show (nI (wd4 c0 c1 c2 c3) >>> ((8 : Int32) &&& 31)).toInt8.toInt32 = _
    rw [pk_shrN hW _ 8 (by decide), show (2 : Nat) ^ 8 = 256 from rfl, i8_mod _ (by omega), d2]
  · show (nI (wd4 c0 c1 c2 c3) >>> ((0 : Int32) &&& 31)).toInt8.toInt32 = _
    rw [pk_shrN hW _ 0 (by decide), show (2 : Nat) ^ 0 = 1 from rfl, i8_mod _ (by omega), d3]
/-- the bytes below i stand in the words: nothing behind -/
def wv (f : Nat → Nat) (i q : Nat) : Nat := wd4 (if 4 * q + 0 < i then f (4 * q + 0) else 0) (if 4 * q + 1 < i then f (4 * q + 1) else 0) (if 4 * q + 2 < i then f (4 * q + 2) else 0) (if 4 * q + 3 < i then f (4 * q + 3) else 0)
theorem wv_step {f : Nat → Nat} {i : Nat} (hi : i < 20) (hf : f i < 128) : nI (wv f i (i / 4)) ||| (nI (f i) <<< (((24 : Int32) - 8 * (nI i - nI i / 4 * 4)) &&& 31)) = nI (wv f (i + 1) (i / 4)) := by
  have key : ∀ (a m k : Nat), (2 : Nat) ^ k = m → a * m < 2 ^ 31 → ∀ y : Int32, (y.toBitVec.smod 32).toNat = k → nI a <<< y = nI (a * m) := fun a m k hm h y hy => by
    rw [pk_shlN y k hy (by rw [hm]; omega), hm]
  have hor : ∀ (a b k : Nat), a < 2 ^ k → nI (2 ^ k * b) ||| nI a = nI (2 ^ k * b + a) := fun a b k h => fa_or_sum b h
  have hs := vS_m i hi
  rw [hs]
  have hr := Nat.mod_lt i (show 0 < 4 by decide)
  have hd : i = 4 * (i / 4) + i % 4 := by omega
  generalize hq : i / 4 = q at *
  rcases (show i % 4 = 0 ∨ i % 4 = 1 ∨ i % 4 = 2 ∨ i % 4 = 3 by omega) with e | e | e | e
  · rw [e]
    rw [e] at hd
    have e1 : wv f i q = 0 := by
      unfold wv wd4
      rw [if_neg (by omega), if_neg (by omega), if_neg (by omega), if_neg (by omega)]
    have e2 : wv f (i + 1) q = f i * 16777216 := by
      unfold wv wd4
      rw [if_pos (by omega), if_neg (by omega), if_neg (by omega), if_neg (by omega), show 4 * q + 0 = i by omega]
      omega
    rw [e1, e2, show (vS 0 &&& 31) = ((24 : Int32) &&& 31) from rfl, key (f i) 16777216 24 rfl (by omega) _ (by decide), fa_or, Nat.zero_or]
  · rw [e]
    rw [e] at hd
    have e1 : wv f i q = 2 ^ 24 * f (4 * q + 0) := by
      unfold wv wd4
      rw [if_pos (by omega), if_neg (by omega), if_neg (by omega), if_neg (by omega)]
      omega
    have e2 : wv f (i + 1) q = 2 ^ 24 * f (4 * q + 0) + f i * 65536 := by
      unfold wv wd4
      rw [if_pos (by omega), if_pos (by omega), if_neg (by omega), if_neg (by omega), show 4 * q + 1 = i by omega]
      omega
    rw [e1, e2, show (vS 1 &&& 31) = ((16 : Int32) &&& 31) from rfl, key (f i) 65536 16 rfl (by omega) _ (by decide)]
    exact hor _ _ 24 (by omega)
  · rw [e]
    rw [e] at hd
    have e1 : wv f i q = 2 ^ 16 * (f (4 * q + 0) * 256 + f (4 * q + 1)) := by
      unfold wv wd4
      rw [if_pos (by omega), if_pos (by omega), if_neg (by omega), if_neg (by omega)]
      omega
    have e2 : wv f (i + 1) q = 2 ^ 16 * (f (4 * q + 0) * 256 + f (4 * q + 1)) + f i * 256 := by
      unfold wv wd4
      rw [if_pos (by omega), if_pos (by omega), if_pos (by omega), if_neg (by omega), show 4 * q + 2 = i by omega]
      omega
    rw [e1, e2, show (vS 2 &&& 31) = ((8 : Int32) &&& 31) from rfl, key (f i) 256 8 rfl (by omega) _ (by decide)]
    exact hor _ _ 16 (by omega)
  · rw [e]
    rw [e] at hd
    have e1 : wv f i q = 2 ^ 8 * (f (4 * q + 0) * 65536 + f (4 * q + 1) * 256 + f (4 * q + 2)) := by
      unfold wv wd4
      rw [if_pos (by omega), if_pos (by omega), if_pos (by omega), if_neg (by omega)]
      omega
    have e2 : wv f (i + 1) q = 2 ^ 8 * (f (4 * q + 0) * 65536 + f (4 * q + 1) * 256 + f (4 * q + 2)) + f i * 1 := by
      unfold wv wd4
      rw [if_pos (by omega), if_pos (by omega), if_pos (by omega), if_pos (by omega), show 4 * q + 3 = i by omega]
      omega
    rw [e1, e2, show (vS 3 &&& 31) = ((0 : Int32) &&& 31) from rfl, key (f i) 1 0 rfl (by omega) _ (by decide)]
    exact hor _ _ 8 (by omega)
theorem wv_oth {f : Nat → Nat} {i q : Nat} (h : q ≠ i / 4) : wv f (i + 1) q = wv f i q := by
  have c : ∀ j, j < 4 → (4 * q + j < i + 1 ↔ 4 * q + j < i) := fun j hj => by
    constructor <;> intro z <;> omega
  unfold wv
  simp only [c 0 (by decide), c 1 (by decide), c 2 (by decide), c 3 (by decide)]
theorem wv_B {f : Nat → Nat} {i q m : Nat} (hf : ∀ j, f j < 128) (hm : m < 4) (hi : 4 * q + m < i) : wB (nI (wv f i q)) m = nI (f (4 * q + m)) := by
  have hc : ∀ j, (if 4 * q + j < i then f (4 * q + j) else 0) < 128 := fun j => by
    split
    · exact hf _
    · decide
  obtain ⟨w0, w1, w2, w3⟩ := wB_4 (hc 0) (hc 1) (hc 2) (hc 3)
  rcases (show m = 0 ∨ m = 1 ∨ m = 2 ∨ m = 3 by omega) with rfl | rfl | rfl | rfl
  · exact w0.trans (by rw [if_pos hi])
  · exact w1.trans (by rw [if_pos hi])
  · exact w2.trans (by rw [if_pos hi])
  · exact w3.trans (by rw [if_pos hi])
