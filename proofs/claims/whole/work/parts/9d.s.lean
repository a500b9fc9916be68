/-! ===== years ===== -/
section LYR
variable {f : Nat → Int32} {n t a k o : Nat} {s s' : Nat → Int32} {q : Int32} {b b' μ μ' μc μm : Mm}
def yK (z : Int32 × Mm) : Option Mm := (sI z.2 297 (7 : Int32) z.1).bind fun m113 => some m113
def yeL (m : Nat) (v : Int32) (μ : Mm) : Option Mm := (F_X0_readYears_31 m v μ).bind seE
theorem yeL_s {m : Nat} {v : Int32} : yeL (m + 1) v μ = if (5 : Int32) ≤ v then seE μ else if (μ.1 45 5) = (2 : Int32) then (if (μ.1 45 4) = 0 then ((F_X0_takeNumber (0 : Int32) (200 : Int32) μ).bind fun o19 => (sI o19.2 51 v o19.1).bind fun m22 => (some (uI m22 47 3 (v + (1 : Int32)))).bind fun m24 => yeL m (v + 1) m24) else seE μ) else seE μ := by
  unfold yeL
  rw [F_X0_readYears_31]
  by_cases e1 : (5 : Int32) ≤ v
  · rw [if_pos e1, if_pos e1]; rfl
  · rw [if_neg e1, if_neg e1]
    by_cases e2 : (μ.1 45 5) = (2 : Int32)
    · rw [if_pos e2, if_pos e2]
      by_cases e3 : (μ.1 45 4) = 0
      · rw [if_pos e3, if_pos e3, Option.bind_assoc]
        congr 1
        funext o17
        rw [Option.bind_assoc]
        congr 1
      · rw [if_neg e3, if_neg e3]; rfl
    · rw [if_neg e2, if_neg e2]; rfl
def yeA (μ : Mm) : Option Mm := (F_X0_takeNumber (0 : Int32) (200 : Int32) μ).bind fun o5 => (sI o5.2 51 (0 : Int32) o5.1).bind fun m8 => (some (uI m8 47 3 (1 : Int32))).bind fun m10 => yeL qFuel (1 : Int32) m10
theorem ye_eq : F_X0_readYears μ = (F_X0_nextToken μ).bind yeA := rfl
theorem fx_yeL {m : Nat} {v : Int32} (h : FX f n k o b μ) : Op (yeL (m + 1) v μ) (FX f n k o b) := by
  rw [yeL_s]
  refine op_i (fun _ => fx_seE h) (fun _ => op_i (fun _ => op_f h.er (fx_seE h)) (fun _ => fx_seE h))
theorem mx_yK {z : Int32 × Mm} (h : MX f n k o b z.2) : Op (yK z) (MX f n k o b) := op_mb (mx_put (j := 7) h (by decide)) (fun m w => op_r w)
theorem gc_yr {s1 : Nat → Int32} {i : Nat} {v : Int32} (h : GC f n t s1 b μ) (hs : ∀ j, j ≠ 7 → s1 j = s j) (hi : i < 5) (hk : ∀ k, k < i → μ.1 51 k = s (48 + k)) : GC f n t (upd (upd s (48 + i) v) 7 (nI (i + 1))) b (uI (uI μ 51 i v) 47 3 (nI (i + 1))) := by
  obtain ⟨g1, g2, g3, g4, g5, g6, g7, g8, g9⟩ := h.2.2.1
  have ev : ∀ j, j ≠ 48 + i → upd s1 (48 + i) v j = s1 j := fun j hj => pk_un hj
  have ew : ∀ j, j ≠ 7 → upd (upd s (48 + i) v) 7 (nI (i + 1)) j = upd s1 (48 + i) v j := fun j hj => by
    rw [pk_un hj]
    by_cases e : j = 48 + i
    · rw [e, pk_us, pk_us]
    · rw [pk_un e, pk_un e, hs j hj]
  have h1 : GC f n t (upd s1 (48 + i) v) b (uI μ 51 i v) := by
    refine h.cel (s' := upd s1 (48 + i) v) (Or.inr (Or.inr rfl)) (fun j hj => ev j (by omega)) (fun k hk => ?_) (fun k hk hk7 => ?_) ?_ ?_
    · rw [uI_ne (by decide), ev _ (by omega)]; exact g6 k hk
    · rw [uI_eq]
      show (if k = i then v else μ.1 51 k) = _
      by_cases e : k = i
      · rw [if_pos e, e, pk_us]
      · rw [if_neg e, ev _ (by omega)]; exact g7 k hk (by rw [ct_eq (ev 7 (by omega))] at hk7; exact hk7)
    · rw [uI_ne (by decide), ev 7 (by omega)]; exact g8
    · rw [uI_ne (by decide), ev 6 (by omega)]; exact g9
  obtain ⟨i1, i2, i3, i4, i5, i6, i7, i8, i9⟩ := h1.2.2.1
  have c7 : ct (upd (upd s (48 + i) v) 7 (nI (i + 1))) 7 = i + 1 := ct_nI pk_us (by omega)
  refine h1.cel (s' := upd (upd s (48 + i) v) 7 (nI (i + 1))) (Or.inl ⟨rfl, Or.inl rfl⟩) (fun j hj => ew j (by omega)) (fun k hk => ?_) (fun k hk5 hk7 => ?_) ?_ ?_
  · rw [uI_ne (by decide), ew _ (by omega)]; exact i6 k hk
  · rw [c7] at hk7
    rw [uI_ne (by decide), uI_eq]
    show (if k = i then v else μ.1 51 k) = _
    rw [pk_un (by omega)]
    by_cases e : k = i
    · rw [if_pos e, e, pk_us]
    · rw [if_neg e, pk_un (by omega)]
      exact hk k (by omega)
  · rw [uI_eq, pk_us]; rfl
  · rw [uI_eq, ew 6 (by decide)]; exact (if_neg (by decide)).trans i9
theorem rok_48 {i x : Nat} (R : Rok s) (hi : i < 5) (hx : x ≤ 200) : Rok (upd s (48 + i) (nI x)) := by
  have ev : ∀ j, j ≠ 48 + i → upd s (48 + i) (nI x) j = s j := fun j hj => pk_un hj
  refine R.nz (lo := 48) (hi := 53) (fun j hj => ev j (by omega)) (Or.inr (Or.inl ⟨rfl, rfl⟩)) (R.1.2.2.2.2.2.1.eq (ev 6 (by omega))) (R.1.2.2.2.2.2.2.1.eq (ev 7 (by omega))) (by rw [ct_eq (ev 7 (by omega))]; exact R.1.2.2.2.2.2.2.2) (fun k hk => (R.2.1.2.2.1 k hk).eq (ev _ (by omega))) (fun k hk => ?_)
  by_cases e : k = i
  · exact Bn.mk (v := x) (by rw [e, pk_us]) hx (by decide)
  · exact (R.2.1.2.2.2 k hk).eq (ev _ (by omega))
theorem rok_7 {i : Nat} (R : Rok s) (h1 : 1 ≤ i) (h5 : i ≤ 5) : Rok (upd s 7 (nI i)) := by
  have ev : ∀ j, j ≠ 7 → upd s 7 (nI i) j = s j := fun j hj => pk_un hj
  exact R.nz (lo := 7) (hi := 8) (fun j hj => ev j (by omega)) (Or.inr (Or.inr (Or.inr ⟨rfl, rfl⟩))) (R.1.2.2.2.2.2.1.eq (ev 6 (by omega))) (Bn.mk pk_us h5 (by decide)) (by rw [ct_nI (s := upd s 7 (nI i)) pk_us (by omega)]; exact h1) (fun k hk => (R.2.1.2.2.1 k hk).eq (ev _ (by omega))) (fun k hk => (R.2.1.2.2.2 k hk).eq (ev _ (by omega)))
/-- the line's good end -/
theorem y_end {t0 i : Nat} (C : GC f n t (upd s 7 (nI i)) b μc) (M : GM f n t s (qf s) b' μm) (R : Rok s) (h1 : 1 ≤ i) (h5 : i ≤ 5) (h0 : t0 < t) (e : ¬ tk f n t = 2) : Op2 (seE μc) (yK (nI i, μm)) (LRs f n t0 b b') := by
  unfold seE
  rw [if_neg (fun z => e (C.1.t5.mp z))]
  refine o2_of (op_r C) (op_mb (gm_put (j := 7) M (by decide)) (fun m w => op_r w)) (fun z1 z2 Z1 Z2 => Or.inl ⟨t, t, upd s 7 (nI i), Z1, ?_, C.1.2.2.1, rok_7 R h1 h5, h0⟩)
  rw [qf_eq (s := s) (s' := upd s 7 (nI i)) (pk_un (by decide))]
  exact Z2
theorem l_yeaL (hB : BY f n) {t0 : Nat} : ∀ (d m m' i t : Nat) (s : Nat → Int32) (μc μm : Mm), i + d = 5 → d < m → d < m' → 1 ≤ i → t0 < t → GC f n t (upd s 7 (nI i)) b μc → GM f n t s (qf s) b' μm → Rok s → Op2 (yeL m (nI i) μc) (nsL 48 5 yK m' (nI i) (if tk f n t = 2 then 1 else 0) μm) (LRs f n t0 b b') := by
  intro d
  induction d with
  | zero =>
    intro m m' i t s μc μm hi hm hm' hi1 h0 C M R
    obtain ⟨m, rfl⟩ : ∃ q, m = q + 1 := ⟨m - 1, by omega⟩
    obtain ⟨m', rfl⟩ : ∃ q, m' = q + 1 := ⟨m' - 1, by omega⟩
    obtain rfl : i = 5 := by omega
    rw [yeL_s, nsL_s, if_pos (show (5 : Int32) ≤ nI 5 by decide)]
    by_cases e : tk f n t = 2
    · have e1 : Op (seE μc) (FX f n 4 t b) := by
        unfold seE
        rw [if_pos (C.1.t5.mpr e), C.1.2.2.2.2.1]
        exact op_mb (gc_fail (k := 4) (o := t) C ⟨by decide, by decide⟩) (fun m w => op_r w)
      rw [if_pos e, if_neg n10, if_pos (show nI 5 = (5 : Int32) from rfl), M.1.2]
      exact o2_of e1 (op_mb (gm_fail (k := 4) (o := t) M ⟨by decide, by decide⟩) (fun m w => mx_yK w)) (fun _ _ X Y => lrX X Y)
    · rw [if_neg e, if_pos rfl]
      exact y_end C M R (by decide) (by decide) h0 e
  | succ d ih =>
    intro m m' i t s μc μm hi hm hm' hi1 h0 C M R
    obtain ⟨m, rfl⟩ : ∃ q, m = q + 1 := ⟨m - 1, by omega⟩
    obtain ⟨m', rfl⟩ : ∃ q, m' = q + 1 := ⟨m' - 1, by omega⟩
    rw [yeL_s, nsL_s, if_neg (show ¬ (5 : Int32) ≤ nI i from nI_ge (b := 5) (by omega) (by decide))]
    by_cases e : tk f n t = 2
    · rw [if_pos e, if_neg n10, if_neg (show ¬ nI i = (5 : Int32) from fun z => by have := nI_inj (b := 5) (by omega) (by decide) z; omega), if_pos (C.1.t5.mpr e), if_pos C.2.1.1]
      refine num2 hB C M C.1.2.2.1 (fun v μ2 μ3 t2 a2 v1 v2 C2 M2 ht2 hl2 _ => ?_) (fun k o w μ2 μ3 X Y => ?_)
      · obtain ⟨x, rfl, -, hx⟩ := i32_rg (lo := 0) (hi := 200) v1 v2 (by decide) (by decide)
        show Op2 ((sI μ2 51 (nI i) (nI x)).bind fun m22 => (some (uI m22 47 3 (nI i + (1 : Int32)))).bind fun m24 => yeL m (nI i + 1) m24) ((F_X4_failed μ3).bind fun o13 => if o13 = 0 then ((sI μ3 297 ((48 : Int32) + nI i) (nI x)).bind fun m17 => (F_X4_isDigitHere m17).bind fun o20 => nsL 48 5 yK m' (nI i + 1) o20.1 o20.2) else yK (nI i, μ3)) _
        refine o2_l (sI_ok rfl (by rw [ln51]; omega)) (o2_l rfl (o2_r (m_failed0 M2.2.2.1.1) ?_))
        rw [if_pos rfl, show (48 : Int32) + nI i = nI (48 + i) from nI_add 48 i, nI_1]
        refine o2_rb (gm_put (j := 48 + i) M2 (by omega)) (fun m2 w2 => o2_rb (m_isDig hB w2 ht2) (fun z w3 => ?_))
        rw [w3.1]
        have eq := qf_eq (s := s) (s' := upd s (48 + i) (nI x)) (pk_un (by omega))
        have c7 : ct (upd s 7 (nI i)) 7 = i := ct_nI pk_us (by omega)
        exact ih m m' (i + 1) t2 (upd s (48 + i) (nI x)) _ z.2 (by omega) (by omega) (by omega) (by omega) (by omega) (gc_yr (i := i) (v := nI x) C2 (fun j hj => pk_un hj) (by omega) (fun k hk => (C2.2.2.1.2.2.2.2.2.2.1 k (by omega) (by rw [c7]; exact hk)).trans (pk_un (by omega)))) (by rw [eq]; exact w3.2) (rok_48 R (by omega) hx)
      · show Op2 ((sI μ2 51 (nI i) 0).bind fun m22 => (some (uI m22 47 3 (nI i + (1 : Int32)))).bind fun m24 => yeL m (nI i + 1) m24) ((F_X4_failed μ3).bind fun o13 => if o13 = 0 then ((sI μ3 297 ((48 : Int32) + nI i) w).bind fun m17 => (F_X4_isDigitHere m17).bind fun o20 => nsL 48 5 yK m' (nI i + 1) o20.1 o20.2) else yK (nI i, μ3)) _
        obtain ⟨m, rfl⟩ : ∃ q, m = q + 1 := ⟨m - 1, by omega⟩
        exact o2_of (op_mb (fx_s51 X (show i < 5 by omega)) (fun m1 w1 => op_br (fx_yeL (fx_u w1 (Or.inl rfl))))) (op_eb (m_failed1 Y.er) (op_f n10 (mx_yK Y))) (fun _ _ X Y => lrX X Y)
    · rw [if_neg e, if_pos rfl, if_neg (fun z => e (C.1.t5.mp z))]
      exact y_end C M R hi1 (by omega) h0 e
theorem l_years (hB : BY f n) (C : GC f n t s b μc) (M : GM f n (te f n t) s (qf s) b' μm) (R : Rok s) (htn : t < n) : Op2 (F_X0_readYears μc) (nsL 48 5 yK qFuel 0 1 μm) (LRs f n t b b') := by
  have hte := (te_le (f := f) C.1.2.1).2.2 htn
  have hsk : te f n t ≤ skp f n (te f n t) := ru_ge
  rw [ye_eq]
  refine o2_lb (gc_next hB C) (fun μ1 C1 => ?_)
  show Op2 (yeA μ1) (nsL 48 5 yK (9999 + 1) 0 1 μm) _
  rw [nsL_s, if_neg n10, if_neg (show ¬ (0 : Int32) = 5 by decide)]
  refine num2 hB C1 M rfl (fun v μ2 μ3 t2 a2 v1 v2 C2 M2 ht2 hl2 _ => ?_) (fun k o w μ2 μ3 X Y => ?_)
  · obtain ⟨x, rfl, -, hx⟩ := i32_rg (lo := 0) (hi := 200) v1 v2 (by decide) (by decide)
    show Op2 ((sI μ2 51 (nI 0) (nI x)).bind fun m22 => (some (uI m22 47 3 (1 : Int32))).bind fun m24 => yeL qFuel 1 m24) ((F_X4_failed μ3).bind fun o13 => if o13 = 0 then ((sI μ3 297 ((48 : Int32) + nI 0) (nI x)).bind fun m17 => (F_X4_isDigitHere m17).bind fun o20 => nsL 48 5 yK 9999 (0 + 1) o20.1 o20.2) else yK (0, μ3)) _
    refine o2_l (sI_ok (k := 0) rfl (by rw [ln51]; decide)) (o2_l rfl (o2_r (m_failed0 M2.2.2.1.1) ?_))
    rw [if_pos rfl, show (48 : Int32) + nI 0 = nI (48 + 0) from nI_add 48 0]
    refine o2_rb (gm_put (j := 48 + 0) M2 (by omega)) (fun m2 w2 => o2_rb (m_isDig hB w2 ht2) (fun z w3 => ?_))
    rw [w3.1]
    have eq := qf_eq (s := s) (s' := upd s (48 + 0) (nI x)) (pk_un (by omega))
    exact l_yeaL hB 4 qFuel 9999 1 t2 (upd s (48 + 0) (nI x)) _ z.2 (by omega) (by decide) (by decide) (by decide) (by omega) (gc_yr (i := 0) (v := nI x) C2 (fun j hj => rfl) (by omega) (fun k hk => absurd hk (Nat.not_lt_zero k))) (by rw [eq]; exact w3.2) (rok_48 R (by omega) hx)
  · show Op2 ((sI μ2 51 (nI 0) 0).bind fun m22 => (some (uI m22 47 3 (1 : Int32))).bind fun m24 => yeL (9999 + 1) 1 m24) ((F_X4_failed μ3).bind fun o13 => if o13 = 0 then ((sI μ3 297 ((48 : Int32) + nI 0) w).bind fun m17 => (F_X4_isDigitHere m17).bind fun o20 => nsL 48 5 yK 9999 (0 + 1) o20.1 o20.2) else yK (0, μ3)) _
    exact o2_of (op_mb (fx_s51 X (show 0 < 5 by decide)) (fun m1 w1 => op_br (fx_yeL (fx_u w1 (Or.inl rfl))))) (op_eb (m_failed1 Y.er) (op_f n10 (mx_yK Y))) (fun _ _ X Y => lrX X Y)
end LYR
