/-! ===== years ===== -/
section LYR
variable {f : Nat → Int32} {n t a k o : Nat} {s s' : Nat → Int32} {q : Int32} {b b' μ μ' μc μm : Mm}
def yeL (m : Nat) (v : Int32) (μ : Mm) : Option Mm := (F_X0_readYears_31 m v μ).bind seE
theorem yeL_s {m : Nat} {v : Int32} : yeL (m + 1) v μ = if (5 : Int32) ≤ v then seE μ else if (μ.1 45 5) = (2 : Int32) then (if (μ.1 45 4) = 0 then ((F_X0_takeNumber (0 : Int32) (200 : Int32) μ).bind fun o19 => (sI o19.2 51 v o19.1).bind fun m22 => (some (uI m22 47 3 (v + (1 : Int32)))).bind fun m24 => yeL m (v + 1) m24) else seE μ) else seE μ := by
  unfold yeL
  rw [F_X0_readYears_31]
  by_cases e1 : (5 : Int32) ≤ v
  · rw [if_pos e1, if_pos e1]; rfl
  · rw [if_neg e1, if_neg e1]
    by_cases e2 : (μ.1 45 5) = (2 : Int32)
    · rw [if_pos e2, if_pos e2]
      by_cases e3 : (μ.1 45 4) = 0
      · rw [if_pos e3, if_pos e3, Option.bind_assoc]
        congr 1
        funext o17
        rw [Option.bind_assoc]
        congr 1
      · rw [if_neg e3, if_neg e3]; rfl
    · rw [if_neg e2, if_neg e2]; rfl
def yeA (μ : Mm) : Option Mm := (F_X0_takeNumber (0 : Int32) (200 : Int32) μ).bind fun o5 => (sI o5.2 51 (0 : Int32) o5.1).bind fun m8 => (some (uI m8 47 3 (1 : Int32))).bind fun m10 => yeL qFuel (1 : Int32) m10
theorem ye_eq : F_X0_readYears μ = (F_X0_nextToken μ).bind yeA := rfl
theorem fx_yeL {m : Nat} {v : Int32} (h : FX f n k o b μ) : Op (yeL (m + 1) v μ) (FX f n k o b) := by
  rw [yeL_s]
  refine op_i (fun _ => fx_seE h) (fun _ => op_i (fun _ => op_f h.er (fx_seE h)) (fun _ => fx_seE h))
theorem gc_yr {s1 : Nat → Int32} {i : Nat} {v : Int32} (h : GC f n t s1 b μ) (hs : ∀ j, j ≠ 7 → s1 j = s j) (hi : i < 5) (hk : ∀ k, k < i → μ.1 51 k = s (48 + k)) : GC f n t (upd (upd s (48 + i) v) 7 (nI (i + 1))) b (uI (uI μ 51 i v) 47 3 (nI (i + 1))) := by
  obtain ⟨g1, g2, g3, g4, g5, g6, g7, g8, g9⟩ := h.2.2.1
  have ev : ∀ j, j ≠ 48 + i → upd s1 (48 + i) v j = s1 j := fun j hj => pk_un hj
  have ew : ∀ j, j ≠ 7 → upd (upd s (48 + i) v) 7 (nI (i + 1)) j = upd s1 (48 + i) v j := fun j hj => by
    rw [pk_un hj]
    by_cases e : j = 48 + i
    · rw [e, pk_us, pk_us]
    · rw [pk_un e, pk_un e, hs j hj]
  have h1 : GC f n t (upd s1 (48 + i) v) b (uI μ 51 i v) := by
    refine h.cel (s' := upd s1 (48 + i) v) (Or.inr (Or.inr rfl)) (fun j hj => ev j (by omega)) (fun k hk => ?_) (fun k hk hk7 => ?_) ?_ ?_
    · rw [uI_ne (by decide), ev _ (by omega)]; exact g6 k hk
    · rw [uI_eq]
      show (if k = i then v else μ.1 51 k) = _
      by_cases e : k = i
      · rw [if_pos e, e, pk_us]
      · rw [if_neg e, ev _ (by omega)]; exact g7 k hk (by rw [ct_eq (ev 7 (by omega))] at hk7; exact hk7)
    · rw [uI_ne (by decide), ev 7 (by omega)]; exact g8
    · rw [uI_ne (by decide), ev 6 (by omega)]; exact g9
  obtain ⟨i1, i2, i3, i4, i5, i6, i7, i8, i9⟩ := h1.2.2.1
  have c7 : ct (upd (upd s (48 + i) v) 7 (nI (i + 1))) 7 = i + 1 := ct_nI pk_us (by omega)
  refine h1.cel (s' := upd (upd s (48 + i) v) 7 (nI (i + 1))) (Or.inl ⟨rfl, Or.inl rfl⟩) (fun j hj => ew j (by omega)) (fun k hk => ?_) (fun k hk5 hk7 => ?_) ?_ ?_
  · rw [uI_ne (by decide), ew _ (by omega)]; exact i6 k hk
  · rw [c7] at hk7
    rw [uI_ne (by decide), uI_eq]
    show (if k = i then v else μ.1 51 k) = _
    rw [pk_un (by omega)]
    by_cases e : k = i
    · rw [if_pos e, e, pk_us]
    · rw [if_neg e, pk_un (by omega)]
      exact hk k (by omega)
  · rw [uI_eq, pk_us]; rfl
  · rw [uI_eq, ew 6 (by decide)]; exact (if_neg (by decide)).trans i9
theorem rok_48 {i x : Nat} (R : Rok s) (hi : i < 5) (hx : x ≤ 200) : Rok (upd s (48 + i) (nI x)) := by
  have ev : ∀ j, j ≠ 48 + i → upd s (48 + i) (nI x) j = s j := fun j hj => pk_un hj
  refine R.nz (lo := 48) (hi := 53) (fun j hj => ev j (by omega)) (Or.inr (Or.inl ⟨rfl, rfl⟩)) (R.1.2.2.2.2.2.1.eq (ev 6 (by omega))) (R.1.2.2.2.2.2.2.1.eq (ev 7 (by omega))) (by rw [ct_eq (ev 7 (by omega))]; exact R.1.2.2.2.2.2.2.2) (fun k hk => (R.2.1.2.2.1 k hk).eq (ev _ (by omega))) (fun k hk => ?_)
  by_cases e : k = i
  · exact Bn.mk (v := x) (by rw [e, pk_us]) hx (by decide)
  · exact (R.2.1.2.2.2 k hk).eq (ev _ (by omega))
theorem rok_7 {i : Nat} (R : Rok s) (h1 : 1 ≤ i) (h5 : i ≤ 5) : Rok (upd s 7 (nI i)) := by
  have ev : ∀ j, j ≠ 7 → upd s 7 (nI i) j = s j := fun j hj => pk_un hj
  exact R.nz (lo := 7) (hi := 8) (fun j hj => ev j (by omega)) (Or.inr (Or.inr (Or.inr ⟨rfl, rfl⟩))) (R.1.2.2.2.2.2.1.eq (ev 6 (by omega))) (Bn.mk pk_us h5 (by decide)) (by rw [ct_nI (s := upd s 7 (nI i)) pk_us (by omega)]; exact h1) (fun k hk => (R.2.1.2.2.1 k hk).eq (ev _ (by omega))) (fun k hk => (R.2.1.2.2.2 k hk).eq (ev _ (by omega)))
end LYR

