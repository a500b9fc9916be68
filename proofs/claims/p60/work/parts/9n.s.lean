/-! ===== an empty river ===== -/
section EMP
variable {μ ν μ' : Mm} {f : Nat → Int32} {n t k : Nat} {s : Nat → Int32}
def sE : Nat → Int32 := fun j => if j = 1 ∨ j = 7 then 1 else if j = 48 ∨ (36 ≤ j ∧ j < 48) then 100 else 0
def gE : Nat → Int64 := fun _ => 0
theorem x2_remC {t c : Nat} (h : μ.1 t 0 = nI c) (hc : 0 < c ∧ c ≤ 10) : Op (F_X2_removeAll t μ) (fun μ' => (∀ g, Tb μ' t c 0 g) ∧ Fs (fun a => a = t) μ μ') := by
  unfold F_X2_removeAll
  refine op_br (op_r ⟨fun g => ⟨?_, ?_, ⟨by omega, hc⟩, fun r k hr _ => absurd hr (Nat.not_lt_zero r)⟩, Fs.uI rfl⟩)
  · rw [uI_eq]
    exact h
  · rw [uI_eq]
    rfl
theorem me_sea {b : Nat} (hb : kd b = 1) : ∀ (d m i : Nat) (μ : Mm), i + d = 12 → d < m → (∀ j, j < i → μ.1 (b + 3) j = 100) → Op (F_X1_makeEmpty_9 b m (nI i) μ) (fun μ' => (∀ j, j < 12 → μ'.1 (b + 3) j = 100) ∧ Fs (fun a => a = b + 3) μ μ') := by
  have l : ln (b + 3) = 12 := (st_ln hb 3 (by decide)).trans rfl
  intro d
  induction d with
  | zero =>
    intro m i μ hi hm hj
    obtain ⟨m, rfl⟩ : ∃ z, m = z + 1 := ⟨m - 1, by omega⟩
    rw [F_X1_makeEmpty_9, if_pos (show (12 : Int32) ≤ nI i from nI_le (a := 12) (by omega) (by omega))]
    exact op_r ⟨fun j h => hj j (by omega), Fs.rf⟩
  | succ d ih =>
    intro m i μ hi hm hj
    obtain ⟨m, rfl⟩ : ∃ z, m = z + 1 := ⟨m - 1, by omega⟩
    rw [F_X1_makeEmpty_9, if_neg (show ¬ (12 : Int32) ≤ nI i from nI_ge (b := 12) (by omega) (by decide))]
    refine op_eb (sI_ok (k := i) rfl (by omega)) ?_
    rw [nI_1]
    refine op_m (ih m (i + 1) _ (by omega) (by omega) (fun j h => ?_)) (fun μ' z => ⟨z.1, (Fs.uI (S := fun a => a = b + 3) rfl).tr z.2⟩)
    rw [uI_eq]
    show (if j = i then (100 : Int32) else μ.1 (b + 3) j) = 100
    by_cases e : j = i
    · rw [if_pos e]
    · rw [if_neg e]; exact hj j (by omega)
theorem me_bal {b : Nat} (hb : kd b = 1) : ∀ (d m i : Nat) (μ : Mm), i + d = 5 → d < m → (∀ j, j < i → μ.2.1 (b + 7) j = 0) → Op (F_X1_makeEmpty_59 b m (nI i) μ) (fun μ' => (∀ j, j < 5 → μ'.2.1 (b + 7) j = 0) ∧ Fs (fun a => a = b + 7) μ μ') := by
  have l : ln (b + 7) = 5 := (st_ln hb 7 (by decide)).trans rfl
  intro d
  induction d with
  | zero =>
    intro m i μ hi hm hj
    obtain ⟨m, rfl⟩ : ∃ z, m = z + 1 := ⟨m - 1, by omega⟩
    rw [F_X1_makeEmpty_59, if_pos (show (5 : Int32) ≤ nI i from nI_le (a := 5) (by omega) (by omega))]
    exact op_r ⟨fun j h => hj j (by omega), Fs.rf⟩
  | succ d ih =>
    intro m i μ hi hm hj
    obtain ⟨m, rfl⟩ : ∃ z, m = z + 1 := ⟨m - 1, by omega⟩
    rw [F_X1_makeEmpty_59, if_neg (show ¬ (5 : Int32) ≤ nI i from nI_ge (b := 5) (by omega) (by decide))]
    refine op_eb (sL_ok (k := i) rfl (by omega)) ?_
    rw [nI_1]
    refine op_m (ih m (i + 1) _ (by omega) (by omega) (fun j h => ?_)) (fun μ' z => ⟨z.1, (Fs.uL (S := fun a => a = b + 7) rfl).tr z.2⟩)
    rw [uL_eq]
    show (if j = i then (0 : Int64) else μ.2.1 (b + 7) j) = 0
    by_cases e : j = i
    · rw [if_pos e]
    · rw [if_neg e]; exact hj j (by omega)
theorem me_ear {b : Nat} (hb : kd b = 1) : ∀ (d m i : Nat) (μ : Mm), i + d = 10 → d < m → (∀ j, j < i → μ.2.1 (b + 11) j = 0) → Op (F_X1_makeEmpty_86 b m (nI i) μ) (fun μ' => (∀ j, j < 10 → μ'.2.1 (b + 11) j = 0) ∧ Fs (fun a => a = b + 10 ∨ a = b + 11) μ μ') := by
  have l : ln (b + 10) = 10 := (st_ln hb 10 (by decide)).trans rfl
  have l2 : ln (b + 11) = 10 := (st_ln hb 11 (by decide)).trans rfl
  intro d
  induction d with
  | zero =>
    intro m i μ hi hm hj
    obtain ⟨m, rfl⟩ : ∃ z, m = z + 1 := ⟨m - 1, by omega⟩
    rw [F_X1_makeEmpty_86, if_pos (show (10 : Int32) ≤ nI i from nI_le (a := 10) (by omega) (by omega))]
    exact op_r ⟨fun j h => hj j (by omega), Fs.rf⟩
  | succ d ih =>
    intro m i μ hi hm hj
    obtain ⟨m, rfl⟩ : ∃ z, m = z + 1 := ⟨m - 1, by omega⟩
    rw [F_X1_makeEmpty_86, if_neg (show ¬ (10 : Int32) ≤ nI i from nI_ge (b := 10) (by omega) (by decide))]
    refine op_eb (sI_ok (k := i) rfl (by omega)) (op_eb (sL_ok (k := i) rfl (by omega)) ?_)
    rw [nI_1]
    refine op_m (ih m (i + 1) _ (by omega) (by omega) (fun j h => ?_)) (fun μ' z => ⟨z.1, ((Fs.uI (S := fun a => a = b + 10 ∨ a = b + 11) (Or.inl rfl)).tr (Fs.uL (Or.inr rfl))).tr z.2⟩)
    rw [uL_eq]
    show (if j = i then (0 : Int64) else μ.2.1 (b + 11) j) = 0
    by_cases e : j = i
    · rw [if_pos e]
    · rw [if_neg e]; exact hj j (by omega)
theorem lso_E : LSo sE = [] := by
  unfold LSo
  rw [show ct sE 3 = 0 by decide]
  rfl
theorem oso_E : OSo sE = [] := by
  unfold OSo
  rw [show ct sE 4 = 0 by decide]
  rfl
def UpT (b o : Nat) (a : Nat) : Prop := b + o ≤ a ∧ a < b + 22
set_option maxHeartbeats 4000000 in
theorem x1_empty {b : Nat} (hb : kd b = 1) (h : KB μ b) : Op (F_X1_makeEmpty b μ) (fun μ' => NV μ' b sE gE ∧ Fs (Blk b) μ μ') := by
  obtain ⟨k1, k5, k8, k12, k14, k16, k18, k20⟩ := h
  have l4 : ln (b + 4) = 5 := (st_ln hb 4 (by decide)).trans rfl
  have l6 : ln (b + 5 + 1) = 10 := (st_ln hb 6 (by decide)).trans rfl
  unfold F_X1_makeEmpty
  refine op_mb (x2_remC (c := 3) k1 (by decide)) (fun m1 w1 => ?_)
  refine op_mb (me_sea hb 12 qFuel 0 m1 (by decide) (by decide) (fun j h => absurd h (Nat.not_lt_zero j))) (fun m2 w2 => ?_)
  refine op_eb (sI_ok (k := 0) rfl (by rw [l4]; decide)) (op_br ?_)
  have y0 : (uI (uI m2 (b + 4) 0 100) b 3 1).1 (b + 4) 0 = 100 := by rw [uI_ne (by omega), uI_eq]; rfl
  have y3 : (uI (uI m2 (b + 4) 0 100) b 3 1).1 b 3 = 1 := by rw [uI_eq]; rfl
  have f3 : Fs (fun a => a = b + 4 ∨ a = b) m2 (uI (uI m2 (b + 4) 0 100) b 3 1) := (Fs.uI (Or.inl rfl)).tr (Fs.uI (Or.inr rfl))
  generalize uI (uI m2 (b + 4) 0 100) b 3 1 = m3 at *
  have A3 : Fs (fun a => b ≤ a ∧ a < b + 5) μ m3 := ((w1.2.mo (fun a e => by omega)).tr (w2.2.mo (fun a e => by omega))).tr (f3.mo (fun a e => by omega))
  refine op_mb (x2_remC (c := 2) ((congrFun (A3.1 (b + 5) (by omega)).1 0).trans k5) (by decide)) (fun m4 w4 => ?_)
  refine op_mb (x2_add (w4.1 (fun _ _ => 0)) (by rw [l6]; decide)) (fun o5 w5 => ?_)
  obtain ⟨-, w5, w5f⟩ := w5
  generalize o5.2 = m5 at *
  have A5 : Fs (fun a => b ≤ a ∧ a < b + 7) μ m5 := ((A3.mo (fun a e => by omega)).tr (w4.2.mo (fun a e => by omega))).tr (w5f.mo (fun a e => by omega))
  refine op_mb (me_bal hb 5 qFuel 0 m5 (by decide) (by decide) (fun j h => absurd h (Nat.not_lt_zero j))) (fun m6 w6 => ?_)
  have A6 : Fs (fun a => b ≤ a ∧ a < b + 8) μ m6 := (A5.mo (fun a e => by omega)).tr (w6.2.mo (fun a e => by omega))
  refine op_mb (x2_remC (c := 10) ((congrFun (A6.1 (b + 8) (by omega)).1 0).trans k8) (by decide)) (fun m7 w7 => ?_)
  refine op_mb (me_ear hb 10 qFuel 0 m7 (by decide) (by decide) (fun j h => absurd h (Nat.not_lt_zero j))) (fun m8 w8 => ?_)
  have A8 : Fs (fun a => b ≤ a ∧ a < b + 12) μ m8 := ((A6.mo (fun a e => by omega)).tr (w7.2.mo (fun a e => by omega))).tr (w8.2.mo (fun a e => by omega))
  refine op_mb (x2_remC (c := 6) ((congrFun (A8.1 (b + 12) (by omega)).1 0).trans k12) (by decide)) (fun m9 w9 => ?_)
  have A9 : Fs (fun a => b ≤ a ∧ a < b + 13) μ m9 := (A8.mo (fun a e => by omega)).tr (w9.2.mo (fun a e => by omega))
  refine op_mb (x2_remC (c := 6) ((congrFun (A9.1 (b + 14) (by omega)).1 0).trans k14) (by decide)) (fun m10 w10 => ?_)
  have A10 : Fs (fun a => b ≤ a ∧ a < b + 15) μ m10 := (A9.mo (fun a e => by omega)).tr (w10.2.mo (fun a e => by omega))
  refine op_mb (x2_remC (c := 8) ((congrFun (A10.1 (b + 16) (by omega)).1 0).trans k16) (by decide)) (fun m11 w11 => ?_)
  have A11 : Fs (fun a => b ≤ a ∧ a < b + 17) μ m11 := (A10.mo (fun a e => by omega)).tr (w11.2.mo (fun a e => by omega))
  refine op_mb (x2_remC (c := 5) ((congrFun (A11.1 (b + 18) (by omega)).1 0).trans k18) (by decide)) (fun m12 w12 => ?_)
  have A12 : Fs (fun a => b ≤ a ∧ a < b + 19) μ m12 := (A11.mo (fun a e => by omega)).tr (w12.2.mo (fun a e => by omega))
  refine op_mb (x2_remC (c := 4) ((congrFun (A12.1 (b + 20) (by omega)).1 0).trans k20) (by decide)) (fun m13 w13 => ?_)
  have A13 : Fs (fun a => b ≤ a ∧ a < b + 21) μ m13 := (A12.mo (fun a e => by omega)).tr (w13.2.mo (fun a e => by omega))
  refine op_br (op_br (op_br (op_br (op_br ?_))))
  have fB : Fs (fun a => a = b) m13 (uI (uI (uI (uI (uI m13 b 14 0) b 15 0) b 16 0) b 17 0) b 18 0) := ((((Fs.uI (S := fun a => a = b) rfl).tr (Fs.uI rfl)).tr (Fs.uI rfl)).tr (Fs.uI rfl)).tr (Fs.uI rfl)
  have vB : ∀ j, (uI (uI (uI (uI (uI m13 b 14 0) b 15 0) b 16 0) b 17 0) b 18 0).1 b j = if j = 18 then 0 else if j = 17 then 0 else if j = 16 then 0 else if j = 15 then 0 else if j = 14 then 0 else m13.1 b j := fun j => by
    rw [uI_eq, uI_eq, uI_eq, uI_eq, uI_eq]
  generalize uI (uI (uI (uI (uI m13 b 14 0) b 15 0) b 16 0) b 17 0) b 18 0 = m at *
  have g13 : Fs (UpT b 21) m13 m13 := Fs.rf
  have g12 : Fs (UpT b 20) m12 m13 := w13.2.mo (fun a e => by unfold UpT; omega)
  have g11 : Fs (UpT b 18) m11 m13 := (w12.2.mo (fun a e => by unfold UpT; omega)).tr (g12.mo (fun a e => by unfold UpT at e ⊢; omega))
  have g10 : Fs (UpT b 16) m10 m13 := (w11.2.mo (fun a e => by unfold UpT; omega)).tr (g11.mo (fun a e => by unfold UpT at e ⊢; omega))
  have g9 : Fs (UpT b 14) m9 m13 := (w10.2.mo (fun a e => by unfold UpT; omega)).tr (g10.mo (fun a e => by unfold UpT at e ⊢; omega))
  have g8 : Fs (UpT b 12) m8 m13 := (w9.2.mo (fun a e => by unfold UpT; omega)).tr (g9.mo (fun a e => by unfold UpT at e ⊢; omega))
  have g7 : Fs (UpT b 10) m7 m13 := (w8.2.mo (fun a e => by unfold UpT; omega)).tr (g8.mo (fun a e => by unfold UpT at e ⊢; omega))
  have g6 : Fs (UpT b 8) m6 m13 := (w7.2.mo (fun a e => by unfold UpT; omega)).tr (g7.mo (fun a e => by unfold UpT at e ⊢; omega))
  have g5 : Fs (UpT b 7) m5 m13 := (w6.2.mo (fun a e => by unfold UpT; omega)).tr (g6.mo (fun a e => by unfold UpT at e ⊢; omega))
  have g3 : Fs (UpT b 5) m3 m13 := ((w4.2.mo (fun a e => by unfold UpT; omega)).tr (w5f.mo (fun a e => by unfold UpT; omega))).tr (g5.mo (fun a e => by unfold UpT at e ⊢; omega))
  have g2 : Fs (fun a => a = b ∨ (b + 4 ≤ a ∧ a < b + 22)) m2 m13 := (f3.mo (fun a e => by omega)).tr (g3.mo (fun a e => by unfold UpT at e; omega))
  have g1 : Fs (fun a => a = b ∨ (b + 3 ≤ a ∧ a < b + 22)) m1 m13 := (w2.2.mo (fun a e => by omega)).tr (g2.mo (fun a e => by omega))
  have ne : ∀ j, j ≠ 0 → ¬ (b + j = b) := fun j hj => by omega
  have fin : ∀ j, j ≠ 0 → m.1 (b + j) = m13.1 (b + j) ∧ m.2.1 (b + j) = m13.2.1 (b + j) := fun j hj => fB.1 _ (ne j hj)
  have tb : ∀ {j c n : Nat} {F : Nat → Nat → Int32}, j ≠ 0 → Tb m13 (b + j) c n F → Tb m (b + j) c n F := fun {j c n F} hj h => h.fs fB (by omega) (by omega)
  have c0 : ct sE 0 = 0 := by decide
  have c1 : ct sE 1 = 1 := by decide
  have c2 : ct sE 2 = 0 := by decide
  have c7 : ct sE 7 = 1 := by decide
  have c56 : ct sE 56 = 0 := by decide
  have c424 : ct sE 424 = 0 := by decide
  have c57 : (if sE 57 = 0 then 0 else ct sE 0) = 0 := if_pos (by decide)
  refine op_r ⟨?_, (A13.mo (fun a e => by unfold Blk; omega)).tr (fB.mo (fun a e => by unfold Blk; omega))⟩
  unfold NV SV
  rw [c57, lso_E, oso_E, c0, c1, c2, c7, c56, c424]
  refine ⟨tb (by decide) ((w1.1 _).fs g1 (by omega) (by omega)), tb (by decide) ((w5.fs g5 (by unfold UpT; omega) (by unfold UpT; omega)).congr (fun r k hr hk => ?_)), tb (by decide) ((w7.1 _).fs g7 (by unfold UpT; omega) (by unfold UpT; omega)), tb (by decide) ((w9.1 _).fs g9 (by unfold UpT; omega) (by unfold UpT; omega)), tb (by decide) ((w10.1 _).fs g10 (by unfold UpT; omega) (by unfold UpT; omega)), tb (by decide) ((w11.1 _).fs g11 (by unfold UpT; omega) (by unfold UpT; omega)), tb (by decide) ((w12.1 _).fs g12 (by unfold UpT; omega) (by unfold UpT; omega)), tb (by decide) (w13.1 _), ?_, ?_, ?_, ?_, fun k hk => absurd hk (Nat.not_lt_zero k), ?_⟩
  · have e : ∀ k, k < 2 → (0 : Int32) = sE (26 + 5 * k + 0) := by decide
    obtain rfl : r = 0 := by omega
    exact (if_pos rfl).trans (e k hk)
  · intro k hk
    rw [(fin 3 (by decide)).1, (g2.1 (b + 3) (by omega)).1, w2.1 k hk]
    exact (show ∀ k, k < 12 → (100 : Int32) = sE (36 + k) by decide) k hk
  · intro k hk hk1
    obtain rfl : k = 0 := by omega
    rw [(fin 4 (by decide)).1, (g3.1 (b + 4) (by unfold UpT; omega)).1, y0]
    decide
  · intro k hk
    rw [(fin 7 (by decide)).2, (g6.1 (b + 7) (by unfold UpT; omega)).2, w6.1 k hk]
    rfl
  · intro k hk
    rw [(fin 11 (by decide)).2, (g8.1 (b + 11) (by unfold UpT; omega)).2, w8.1 k hk]
    rfl
  · rw [vB, vB, vB, vB, vB, vB]
    refine ⟨?_, rfl, rfl, rfl, rfl, rfl⟩
    show m13.1 b 3 = _
    rw [(g3.1 b (by unfold UpT; omega)).1, y3]
    decide
end EMP

