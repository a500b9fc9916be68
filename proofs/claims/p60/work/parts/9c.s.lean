/-! ===== seasons and years ===== -/
section LSY
variable {f : Nat → Int32} {n t a k o : Nat} {s s' : Nat → Int32} {q : Int32} {b b' μ μ' μc μm : Mm}
theorem CL.t5 (h : CL f n t μ) : (μ.1 45 5 = 2) ↔ tk f n t = 2 := by
  have := tk_le (f := f) (n := n) (t := t)
  rw [h.2.2.2.1]
  exact ⟨fun z => nI_inj (b := 2) (by omega) (by decide) z, fun z => by rw [z]; rfl⟩
def seE (μ : Mm) : Option Mm := if (μ.1 45 5) = (2 : Int32) then ((F_X0_fail (4 : Int32) (μ.1 45 6) μ).bind fun o28 => some o28) else some μ
def seL (m : Nat) (v : Int32) (μ : Mm) : Option Mm := (F_X0_readSeason_23 m v μ).bind seE
theorem seL_s {m : Nat} {v : Int32} : seL (m + 1) v μ = if (12 : Int32) ≤ v then seE μ else if (μ.1 45 5) = (2 : Int32) then (if (μ.1 45 4) = 0 then ((F_X0_takeNumber (0 : Int32) (200 : Int32) μ).bind fun o17 => (sI o17.2 50 v o17.1).bind fun m20 => seL m (v + 1) m20) else seE μ) else seE μ := by
  unfold seL
  rw [F_X0_readSeason_23]
  by_cases e1 : (12 : Int32) ≤ v
  · rw [if_pos e1, if_pos e1]; rfl
  · rw [if_neg e1, if_neg e1]
    by_cases e2 : (μ.1 45 5) = (2 : Int32)
    · rw [if_pos e2, if_pos e2]
      by_cases e3 : (μ.1 45 4) = 0
      · rw [if_pos e3, if_pos e3, Option.bind_assoc]
        congr 1
        funext o17
        rw [Option.bind_assoc]
      · rw [if_neg e3, if_neg e3]; rfl
    · rw [if_neg e2, if_neg e2]; rfl
def seA (μ : Mm) : Option Mm := (F_X0_takeNumber (0 : Int32) (200 : Int32) μ).bind fun o5 => (sI o5.2 50 (0 : Int32) o5.1).bind fun m8 => seL qFuel (1 : Int32) m8
theorem se_eq : F_X0_readSeason μ = (F_X0_nextToken μ).bind seA := rfl
theorem fx_seE (h : FX f n k o b μ) : Op (seE μ) (FX f n k o b) := by
  unfold seE
  by_cases e : (μ.1 45 5) = (2 : Int32)
  · rw [if_pos e]
    exact op_eb (fx_fail h) (op_r h)
  · rw [if_neg e]
    exact op_r h
theorem fx_seL {m : Nat} {v : Int32} (h : FX f n k o b μ) : Op (seL (m + 1) v μ) (FX f n k o b) := by
  rw [seL_s]
  refine op_i (fun _ => fx_seE h) (fun _ => op_i (fun _ => op_f h.er (fx_seE h)) (fun _ => fx_seE h))
theorem ln50 : ln 50 = 12 := by decide +kernel
theorem ln51 : ln 51 = 5 := by decide +kernel
theorem fx_s50 {i : Nat} {v : Int32} (h : FX f n k o b μ) (hi : i < 12) : Op (sI μ 50 (nI i) v) (FX f n k o b) := op_e (sI_ok rfl (by rw [ln50]; exact hi)) (fx_u h (Or.inr (Or.inl rfl)))
theorem fx_s51 {i : Nat} {v : Int32} (h : FX f n k o b μ) (hi : i < 5) : Op (sI μ 51 (nI i) v) (FX f n k o b) := op_e (sI_ok rfl (by rw [ln51]; exact hi)) (fx_u h (Or.inr (Or.inr rfl)))
theorem gc_s50 {i : Nat} {v : Int32} (h : GC f n t s b μ) (hi : i < 12) : Op (sI μ 50 (nI i) v) (GC f n t (upd s (36 + i) v) b) := by
  obtain ⟨g1, g2, g3, g4, g5, g6, g7, g8, g9⟩ := h.2.2.1
  have ev : ∀ j, j ≠ 36 + i → upd s (36 + i) v j = s j := fun j hj => pk_un hj
  refine op_e (sI_ok rfl (by rw [ln50]; exact hi)) (h.cel (s' := upd s (36 + i) v) (Or.inr (Or.inl rfl)) (fun j hj => ev j (by omega)) (fun k hk => ?_) (fun k hk hk7 => ?_) ?_ ?_)
  · rw [uI_eq]
    show (if k = i then v else μ.1 50 k) = _
    by_cases e : k = i
    · rw [if_pos e, e, pk_us]
    · rw [if_neg e, ev _ (by omega)]; exact g6 k hk
  · rw [uI_ne (by decide), ev _ (by omega)]; exact g7 k hk (by rw [ct_eq (ev 7 (by omega))] at hk7; exact hk7)
  · rw [uI_ne (by decide), ev 7 (by omega)]; exact g8
  · rw [uI_ne (by decide), ev 6 (by omega)]; exact g9
theorem rok_36 {i x : Nat} (R : Rok s) (hi : i < 12) (hx : x ≤ 200) : Rok (upd s (36 + i) (nI x)) := by
  have ev : ∀ j, j ≠ 36 + i → upd s (36 + i) (nI x) j = s j := fun j hj => pk_un hj
  refine R.nz (lo := 36) (hi := 48) (fun j hj => ev j (by omega)) (Or.inl ⟨rfl, rfl⟩) (R.1.2.2.2.2.2.1.eq (ev 6 (by omega))) (R.1.2.2.2.2.2.2.1.eq (ev 7 (by omega))) (by rw [ct_eq (ev 7 (by omega))]; exact R.1.2.2.2.2.2.2.2) (fun k hk => ?_) (fun k hk => (R.2.1.2.2.2 k hk).eq (ev _ (by omega)))
  by_cases e : k = i
  · exact Bn.mk (v := x) (by rw [e, pk_us]) hx (by decide)
  · exact (R.2.1.2.2.1 k hk).eq (ev _ (by omega))
theorem qf_eq (h : s' 2 = s 2) : qf s' = qf s := by unfold qf; rw [ct_eq h]
end LSY

