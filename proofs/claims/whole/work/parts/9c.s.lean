/-! ===== seasons and years ===== -/
def nsL (u1 u2 : Int32) (K : Int32 × Mm → Option Mm) (m : Nat) (v3 v4 : Int32) (μ : Mm) : Option Mm := (F_X4_numbers_5 u1 u2 m v3 v4 μ).bind K
theorem nsL_s {u1 u2 : Int32} {K : Int32 × Mm → Option Mm} {m : Nat} {v3 v4 : Int32} {μ : Mm} : nsL u1 u2 K (m + 1) v3 v4 μ = if v4 = 0 then K (v3, μ) else if v3 = u2 then (F_X4_fail (4 : Int32) (μ.1 295 15) μ).bind (fun o6 => K (v3, o6)) else (F_X4_number (0 : Int32) (200 : Int32) μ).bind fun o9 => (F_X4_failed o9.2).bind fun o13 => if o13 = 0 then ((sI o9.2 297 (u1 + v3) o9.1).bind fun m17 => (F_X4_isDigitHere m17).bind fun o20 => nsL u1 u2 K m (v3 + 1) o20.1 o20.2) else K (v3, o9.2) := by
  unfold nsL
  rw [F_X4_numbers_5]
  by_cases e1 : v4 = 0
  · rw [if_pos e1, if_pos e1]; rfl
  · rw [if_neg e1, if_neg e1]
    by_cases e2 : v3 = u2
    · rw [if_pos e2, if_pos e2, Option.bind_assoc]; rfl
    · rw [if_neg e2, if_neg e2, Option.bind_assoc]
      congr 1
      funext o9
      rw [Option.bind_assoc]
      congr 1
      funext o13
      by_cases e3 : o13 = 0
      · rw [if_pos e3, if_pos e3, Option.bind_assoc]
        congr 1
        funext m17
        rw [Option.bind_assoc]
      · rw [if_neg e3, if_neg e3]; rfl
section LSY
variable {f : Nat → Int32} {n t a k o : Nat} {s s' : Nat → Int32} {q : Int32} {b b' μ μ' μc μm : Mm}
theorem m_isDig (hB : BY f n) (M : GM f n a s q b μ) (ht : skp f n a = t) : Op (F_X4_isDigitHere μ) (fun o => o.1 = (if tk f n t = 2 then 1 else 0) ∧ GM f n t s q b o.2) := by
  unfold F_X4_isDigitHere
  have hn := hB.1
  have ha := M.2.1
  have hb : t ≤ n := by rw [← ht]; exact (ru_b (P := blaB) (f := f) ha).2.1
  refine op_eb (m_failed0 M.2.2.1.1) (op_t rfl (op_mb (m_peek hB M.1 (by omega)) (fun o w => ?_)))
  rw [ht] at w
  obtain ⟨w1, w2, w3⟩ := w
  rw [w1]
  refine op_eb m_inR ?_
  by_cases e : tk f n t = 2
  · obtain ⟨e1, e2⟩ := tk2.mp e
    rw [if_pos (show ¬ bt f n t < 48 ∧ ¬ 57 < bt f n t from (bt_in hB (by decide) (by decide)).mpr ⟨e1, of_decide_eq_true e2⟩), if_neg n10, if_pos e]
    exact op_r ⟨rfl, M.mv w2 hb w3⟩
  · rw [if_neg (show ¬ (¬ bt f n t < 48 ∧ ¬ 57 < bt f n t) from fun z => by
      have := (bt_in hB (by decide) (by decide)).mp z
      exact e (tk2.mpr ⟨this.1, decide_eq_true this.2⟩)), if_pos rfl, if_neg e]
    exact op_r ⟨rfl, M.mv w2 hb w3⟩
theorem CL.t5 (h : CL f n t μ) : (μ.1 45 5 = 2) ↔ tk f n t = 2 := by
  have := tk_le (f := f) (n := n) (t := t)
  rw [h.2.2.2.1]
  exact ⟨fun z => nI_inj (b := 2) (by omega) (by decide) z, fun z => by rw [z]; rfl⟩
def seE (μ : Mm) : Option Mm := if (μ.1 45 5) = (2 : Int32) then ((F_X0_fail (4 : Int32) (μ.1 45 6) μ).bind fun o28 => some o28) else some μ
def seL (m : Nat) (v : Int32) (μ : Mm) : Option Mm := (F_X0_readSeason_23 m v μ).bind seE
theorem seL_s {m : Nat} {v : Int32} : seL (m + 1) v μ = if (12 : Int32) ≤ v then seE μ else if (μ.1 45 5) = (2 : Int32) then (if (μ.1 45 4) = 0 then ((F_X0_takeNumber (0 : Int32) (200 : Int32) μ).bind fun o17 => (sI o17.2 50 v o17.1).bind fun m20 => seL m (v + 1) m20) else seE μ) else seE μ := by
  unfold seL
  rw [F_X0_readSeason_23]
  by_cases e1 : (12 : Int32) ≤ v
  · rw [if_pos e1, if_pos e1]; rfl
  · rw [if_neg e1, if_neg e1]
    by_cases e2 : (μ.1 45 5) = (2 : Int32)
    · rw [if_pos e2, if_pos e2]
      by_cases e3 : (μ.1 45 4) = 0
      · rw [if_pos e3, if_pos e3, Option.bind_assoc]
        congr 1
        funext o17
        rw [Option.bind_assoc]
      · rw [if_neg e3, if_neg e3]; rfl
    · rw [if_neg e2, if_neg e2]; rfl
def seA (μ : Mm) : Option Mm := (F_X0_takeNumber (0 : Int32) (200 : Int32) μ).bind fun o5 => (sI o5.2 50 (0 : Int32) o5.1).bind fun m8 => seL qFuel (1 : Int32) m8
theorem se_eq : F_X0_readSeason μ = (F_X0_nextToken μ).bind seA := rfl
theorem fx_seE (h : FX f n k o b μ) : Op (seE μ) (FX f n k o b) := by
  unfold seE
  by_cases e : (μ.1 45 5) = (2 : Int32)
  · rw [if_pos e]
    exact op_eb (fx_fail h) (op_r h)
  · rw [if_neg e]
    exact op_r h
theorem fx_seL {m : Nat} {v : Int32} (h : FX f n k o b μ) : Op (seL (m + 1) v μ) (FX f n k o b) := by
  rw [seL_s]
  refine op_i (fun _ => fx_seE h) (fun _ => op_i (fun _ => op_f h.er (fx_seE h)) (fun _ => fx_seE h))
theorem ln50 : ln 50 = 12 := by decide +kernel
theorem ln51 : ln 51 = 5 := by decide +kernel
theorem fx_s50 {i : Nat} {v : Int32} (h : FX f n k o b μ) (hi : i < 12) : Op (sI μ 50 (nI i) v) (FX f n k o b) := op_e (sI_ok rfl (by rw [ln50]; exact hi)) (fx_u h (Or.inr (Or.inl rfl)))
theorem fx_s51 {i : Nat} {v : Int32} (h : FX f n k o b μ) (hi : i < 5) : Op (sI μ 51 (nI i) v) (FX f n k o b) := op_e (sI_ok rfl (by rw [ln51]; exact hi)) (fx_u h (Or.inr (Or.inr rfl)))
theorem gc_s50 {i : Nat} {v : Int32} (h : GC f n t s b μ) (hi : i < 12) : Op (sI μ 50 (nI i) v) (GC f n t (upd s (36 + i) v) b) := by
  obtain ⟨g1, g2, g3, g4, g5, g6, g7, g8, g9⟩ := h.2.2.1
  have ev : ∀ j, j ≠ 36 + i → upd s (36 + i) v j = s j := fun j hj => pk_un hj
  refine op_e (sI_ok rfl (by rw [ln50]; exact hi)) (h.cel (s' := upd s (36 + i) v) (Or.inr (Or.inl rfl)) (fun j hj => ev j (by omega)) (fun k hk => ?_) (fun k hk hk7 => ?_) ?_ ?_)
  · rw [uI_eq]
    show (if k = i then v else μ.1 50 k) = _
    by_cases e : k = i
    · rw [if_pos e, e, pk_us]
    · rw [if_neg e, ev _ (by omega)]; exact g6 k hk
  · rw [uI_ne (by decide), ev _ (by omega)]; exact g7 k hk (by rw [ct_eq (ev 7 (by omega))] at hk7; exact hk7)
  · rw [uI_ne (by decide), ev 7 (by omega)]; exact g8
  · rw [uI_ne (by decide), ev 6 (by omega)]; exact g9
theorem rok_36 {i x : Nat} (R : Rok s) (hi : i < 12) (hx : x ≤ 200) : Rok (upd s (36 + i) (nI x)) := by
  have ev : ∀ j, j ≠ 36 + i → upd s (36 + i) (nI x) j = s j := fun j hj => pk_un hj
  refine R.nz (lo := 36) (hi := 48) (fun j hj => ev j (by omega)) (Or.inl ⟨rfl, rfl⟩) (R.1.2.2.2.2.2.1.eq (ev 6 (by omega))) (R.1.2.2.2.2.2.2.1.eq (ev 7 (by omega))) (by rw [ct_eq (ev 7 (by omega))]; exact R.1.2.2.2.2.2.2.2) (fun k hk => ?_) (fun k hk => (R.2.1.2.2.2 k hk).eq (ev _ (by omega)))
  by_cases e : k = i
  · exact Bn.mk (v := x) (by rw [e, pk_us]) hx (by decide)
  · exact (R.2.1.2.2.1 k hk).eq (ev _ (by omega))
theorem qf_eq (h : s' 2 = s 2) : qf s' = qf s := by unfold qf; rw [ct_eq h]
/-- an error of too many numbers, on both sides -/
theorem end2 (C : GC f n t s b μc) (M : GM f n t s q b' μm) (e : tk f n t = 2) : Op (seE μc) (FX f n 4 t b) ∧ Op (F_X4_fail (4 : Int32) (μm.1 295 15) μm) (MX f n 4 t b') := by
  constructor
  · unfold seE
    rw [if_pos (C.1.t5.mpr e), C.1.2.2.2.2.1]
    exact op_mb (gc_fail (k := 4) (o := t) C ⟨by decide, by decide⟩) (fun m w => op_r w)
  · rw [M.1.2]
    exact gm_fail (k := 4) (o := t) M ⟨by decide, by decide⟩
theorem l_seaL (hB : BY f n) {t0 : Nat} : ∀ (d m m' i t : Nat) (s : Nat → Int32) (μc μm : Mm), i + d = 12 → d < m → d < m' → t0 < t → GC f n t s b μc → GM f n t s (qf s) b' μm → Rok s → Op2 (seL m (nI i) μc) (nsL 36 12 (fun o116 => some o116.2) m' (nI i) (if tk f n t = 2 then 1 else 0) μm) (LRs f n t0 b b') := by
  intro d
  induction d with
  | zero =>
    intro m m' i t s μc μm hi hm hm' h0 C M R
    obtain ⟨m, rfl⟩ : ∃ q, m = q + 1 := ⟨m - 1, by omega⟩
    obtain ⟨m', rfl⟩ : ∃ q, m' = q + 1 := ⟨m' - 1, by omega⟩
    obtain rfl : i = 12 := by omega
    rw [seL_s, nsL_s, if_pos (show (12 : Int32) ≤ nI 12 by decide)]
    by_cases e : tk f n t = 2
    · obtain ⟨e1, e2⟩ := end2 C M e
      rw [if_pos e, if_neg n10, if_pos (show nI 12 = (12 : Int32) from rfl)]
      exact o2_of e1 (op_mb e2 (fun m w => op_r w)) (fun _ _ X Y => lrX X Y)
    · rw [if_neg e, if_pos rfl]
      unfold seE
      rw [if_neg (fun z => e (C.1.t5.mp z))]
      exact o2_rt (Or.inl ⟨t, t, s, C, M, C.1.2.2.1, R, h0⟩)
  | succ d ih =>
    intro m m' i t s μc μm hi hm hm' h0 C M R
    obtain ⟨m, rfl⟩ : ∃ q, m = q + 1 := ⟨m - 1, by omega⟩
    obtain ⟨m', rfl⟩ : ∃ q, m' = q + 1 := ⟨m' - 1, by omega⟩
    rw [seL_s, nsL_s, if_neg (show ¬ (12 : Int32) ≤ nI i from nI_ge (b := 12) (by omega) (by decide))]
    by_cases e : tk f n t = 2
    · rw [if_pos e, if_neg n10, if_neg (show ¬ nI i = (12 : Int32) from fun z => by have := nI_inj (b := 12) (by omega) (by decide) z; omega), if_pos (C.1.t5.mpr e), if_pos C.2.1.1]
      refine num2 hB C M C.1.2.2.1 (fun v μ2 μ3 t2 a2 v1 v2 C2 M2 ht2 hl2 _ => ?_) (fun k o w μ2 μ3 X Y => ?_)
      · obtain ⟨x, rfl, -, hx⟩ := i32_rg (lo := 0) (hi := 200) v1 v2 (by decide) (by decide)
        show Op2 ((sI μ2 50 (nI i) (nI x)).bind fun m20 => seL m (nI i + 1) m20) ((F_X4_failed μ3).bind fun o13 => if o13 = 0 then ((sI μ3 297 ((36 : Int32) + nI i) (nI x)).bind fun m17 => (F_X4_isDigitHere m17).bind fun o20 => nsL 36 12 (fun o116 => some o116.2) m' (nI i + 1) o20.1 o20.2) else some μ3) _
        refine o2_lb (gc_s50 C2 (show i < 12 by omega)) (fun m1 w1 => o2_r (m_failed0 M2.2.2.1.1) ?_)
        rw [if_pos rfl, show (36 : Int32) + nI i = nI (36 + i) from nI_add 36 i, nI_1]
        refine o2_rb (gm_put (j := 36 + i) M2 (by omega)) (fun m2 w2 => o2_rb (m_isDig hB w2 ht2) (fun z w3 => ?_))
        rw [w3.1]
        have eq := qf_eq (s := s) (s' := upd s (36 + i) (nI x)) (pk_un (by omega))
        exact ih m m' (i + 1) t2 (upd s (36 + i) (nI x)) m1 z.2 (by omega) (by omega) (by omega) (by omega) w1 (by rw [eq]; exact w3.2) (rok_36 R (by omega) hx)
      · show Op2 ((sI μ2 50 (nI i) 0).bind fun m20 => seL m (nI i + 1) m20) ((F_X4_failed μ3).bind fun o13 => if o13 = 0 then ((sI μ3 297 ((36 : Int32) + nI i) w).bind fun m17 => (F_X4_isDigitHere m17).bind fun o20 => nsL 36 12 (fun o116 => some o116.2) m' (nI i + 1) o20.1 o20.2) else some μ3) _
        obtain ⟨m, rfl⟩ : ∃ q, m = q + 1 := ⟨m - 1, by omega⟩
        exact o2_of (op_mb (fx_s50 X (show i < 12 by omega)) (fun m1 w1 => fx_seL w1)) (op_eb (m_failed1 Y.er) (op_f n10 (op_r Y))) (fun _ _ X Y => lrX X Y)
    · rw [if_neg e, if_pos rfl, if_neg (fun z => e (C.1.t5.mp z))]
      unfold seE
      rw [if_neg (fun z => e (C.1.t5.mp z))]
      exact o2_rt (Or.inl ⟨t, t, s, C, M, C.1.2.2.1, R, h0⟩)
theorem l_season (hB : BY f n) (C : GC f n t s b μc) (M : GM f n (te f n t) s (qf s) b' μm) (R : Rok s) (htn : t < n) : Op2 (F_X0_readSeason μc) (nsL 36 12 (fun o116 => some o116.2) qFuel 0 1 μm) (LRs f n t b b') := by
  have hte := (te_le (f := f) C.1.2.1).2.2 htn
  have hsk : te f n t ≤ skp f n (te f n t) := ru_ge
  rw [se_eq]
  refine o2_lb (gc_next hB C) (fun μ1 C1 => ?_)
  show Op2 (seA μ1) (nsL 36 12 (fun o116 => some o116.2) (9999 + 1) 0 1 μm) _
  rw [nsL_s, if_neg n10, if_neg (show ¬ (0 : Int32) = 12 by decide)]
  refine num2 hB C1 M rfl (fun v μ2 μ3 t2 a2 v1 v2 C2 M2 ht2 hl2 _ => ?_) (fun k o w μ2 μ3 X Y => ?_)
  · obtain ⟨x, rfl, -, hx⟩ := i32_rg (lo := 0) (hi := 200) v1 v2 (by decide) (by decide)
    show Op2 ((sI μ2 50 (nI 0) (nI x)).bind fun m20 => seL qFuel 1 m20) ((F_X4_failed μ3).bind fun o13 => if o13 = 0 then ((sI μ3 297 ((36 : Int32) + nI 0) (nI x)).bind fun m17 => (F_X4_isDigitHere m17).bind fun o20 => nsL 36 12 (fun o116 => some o116.2) 9999 (0 + 1) o20.1 o20.2) else some μ3) _
    refine o2_lb (gc_s50 C2 (show 0 < 12 by decide)) (fun m1 w1 => o2_r (m_failed0 M2.2.2.1.1) ?_)
    rw [if_pos rfl, show (36 : Int32) + nI 0 = nI (36 + 0) from nI_add 36 0]
    refine o2_rb (gm_put (j := 36 + 0) M2 (by omega)) (fun m2 w2 => o2_rb (m_isDig hB w2 ht2) (fun z w3 => ?_))
    rw [w3.1]
    have eq := qf_eq (s := s) (s' := upd s (36 + 0) (nI x)) (pk_un (by omega))
    exact l_seaL hB 11 qFuel 9999 1 t2 (upd s (36 + 0) (nI x)) m1 z.2 (by omega) (by decide) (by decide) (by omega) w1 (by rw [eq]; exact w3.2) (rok_36 R (by omega) hx)
  · show Op2 ((sI μ2 50 (nI 0) 0).bind fun m20 => seL (9999 + 1) 1 m20) ((F_X4_failed μ3).bind fun o13 => if o13 = 0 then ((sI μ3 297 ((36 : Int32) + nI 0) w).bind fun m17 => (F_X4_isDigitHere m17).bind fun o20 => nsL 36 12 (fun o116 => some o116.2) 9999 (0 + 1) o20.1 o20.2) else some μ3) _
    exact o2_of (op_mb (fx_s50 X (show 0 < 12 by decide)) (fun m1 w1 => fx_seL w1)) (op_eb (m_failed1 Y.er) (op_f n10 (op_r Y))) (fun _ _ X Y => lrX X Y)
end LSY
