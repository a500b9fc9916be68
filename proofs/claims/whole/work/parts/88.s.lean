/-! ===== served, meanGot ===== -/
theorem dd_mask (x : UInt64) : (x &&& 0x7fffffffffffffff).toNat = x.toNat % 2 ^ 63 := by
  rw [UInt64.toNat_and]
  exact Nat.and_two_pow_sub_one_eq_mod x.toNat 63
theorem i2d_nn (a : Int32) : Jvm.FP.Core.val64 (Jvm.FP.Core.i2d a) ≠ .nan ∧ ∀ t, Jvm.FP.Core.val64 (Jvm.FP.Core.i2d a) ≠ .inf t := by
  have h := Jvm.FP.Core.i2d_int a
  unfold Jvm.FP.Core.DInt at h
  constructor
  · intro e
    rw [e] at h
    exact h
  · intro t e
    rw [e] at h
    exact h
theorem i2d_nz {a : Int32} (ha : a ≠ 0) : ¬ Jvm.FP.Core.DZero (Jvm.FP.Core.i2d a) := by
  rintro ⟨s, q, e⟩
  have h := Jvm.FP.Core.i2d_int a
  unfold Jvm.FP.Core.DInt at h
  rw [e] at h
  have h : Jvm.FP.Core.signed s (0 * 2 ^ q.toNat) = a.toInt * ((2 ^ (-q).toNat : Nat) : Int) := h
  rw [Nat.zero_mul] at h
  have h0 : Jvm.FP.Core.signed s 0 = 0 := by cases s <;> rfl
  rw [h0] at h
  rcases Int.mul_eq_zero.mp h.symm with z | z
  · exact ha (Int32.toInt_inj.mp z)
  · have : 0 < 2 ^ (-q).toNat := Nat.two_pow_pos _
    omega
theorem ddv_ok {a b : Int32} (hb : b ≠ 0) : ddv (FP.i2d a) (FP.i2d b) = some (FP.ddiv (FP.i2d a) (FP.i2d b)) := by
  have hn : ¬ Jvm.FP.Core.dIsNaN (Jvm.FP.Core.ddiv (Jvm.FP.Core.i2d a) (Jvm.FP.Core.i2d b)) = true := by
    rw [Jvm.FP.Core.ddiv_nan_iff]
    rintro (h | h | ⟨s, t, h, -⟩ | ⟨-, h⟩)
    · exact (i2d_nn a).1 h
    · exact (i2d_nn b).1 h
    · exact (i2d_nn a).2 s h
    · exact i2d_nz hb h
  rw [Jvm.FP.Core.isNaN_bits] at hn
  unfold ddv
  refine if_pos ?_
  rw [UInt64.le_iff_toNat_le, dd_mask]
  exact Nat.le_of_not_lt hn
section SVD
variable {μ : Mm} {s : Nat → Int32} {g : Nat → Int64} {T : Nat}
theorem q_served (h : Bo T μ s g) : QP (F_X3_served μ) (F_X4_served μ) μ := by
  have d56 := h.2.2.2.1.2.1.2.1
  have h19 := d56.2
  have e0 : aI (uI μ 295 0 0) 296 56 = some (nI (ct s 56)) := (mg (k := 56) rfl (by decide)).trans (congrArg some (by rw [th296, h.2.1]; exact d56.1))
  have key : ∀ (d m i : Nat), i + d = ct s 56 → d < m → F_X4_served_11 (uI μ 295 0 0) m (sumF (fun c => s (242 + 8 * c + 4)) i) (sumF (fun c => s (242 + 8 * c + 5)) i) (nI i) = some (sumF (fun c => s (242 + 8 * c + 4)) (ct s 56), sumF (fun c => s (242 + 8 * c + 5)) (ct s 56)) := by
    intro d
    induction d with
    | zero =>
      intro m i hi hm
      obtain ⟨m, rfl⟩ : ∃ z, m = z + 1 := ⟨m - 1, by omega⟩
      obtain rfl : i = ct s 56 := by omega
      rw [F_X4_served_11]
      exact be_ e0 (if_pos (Int32.le_refl _))
    | succ d ih =>
      intro m i hi hm
      obtain ⟨m, rfl⟩ : ∃ z, m = z + 1 := ⟨m - 1, by omega⟩
      rw [F_X4_served_11]
      refine be_ e0 ((if_neg (nI_ge (by omega) (by omega))).trans (be_ (m_cO (k := 4) (by omega) (by decide)) (be_ (m_cO (k := 5) (by omega) (by decide)) ?_)))
      rw [th296, h.2.1, nI_1]
      exact ih m (i + 1) (by omega) (by omega)
  have k0 := key (ct s 56) qFuel 0 (by omega) (by unfold qFuel; omega)
  have c4 : F_X2_sumOf 17 4 μ = some (sumF (fun c => s (242 + 8 * c + 4)) (ct s 56)) := x2_sum (t := 17) (k := 4) h.1.clm (by decide)
  have c5 : F_X2_sumOf 17 5 μ = some (sumF (fun c => s (242 + 8 * c + 5)) (ct s 56)) := x2_sum (t := 17) (k := 5) h.1.clm (by decide)
  refine QPm ?_
  by_cases e : sumF (fun c => s (242 + 8 * c + 4)) (ct s 56) = 0
  · refine ⟨qd1, be_ c4 (if_pos e), be_ k0 (if_pos e)⟩
  · refine ⟨_, be_ c4 ((if_neg e).trans (be_ c5 (be_ (ddv_ok e) rfl))), be_ k0 ((if_neg e).trans (be_ (ddv_ok e) rfl))⟩
theorem sumF_shift {f : Nat → Int32} : ∀ n, sumF f (n + 1) = f 0 + sumF (fun i => f (i + 1)) n := by
  intro n
  induction n with
  | zero => show sumF f 0 + f 0 = f 0 + 0; show (0 : Int32) + f 0 = f 0 + 0; rw [Int32.zero_add, Int32.add_zero]
  | succ n ih => rw [sumF, ih, sumF, Int32.add_assoc]
theorem sumF_rev {f : Nat → Int32} : ∀ n, sumF (fun i => f (n - 1 - i)) n = sumF f n := by
  intro n
  induction n generalizing f with
  | zero => rfl
  | succ n ih =>
    rw [sumF_shift (f := f), ← ih (f := fun i => f (i + 1)), sumF, Int32.add_comm]
    have e1 : f (n + 1 - 1 - n) = f 0 := by rw [show n + 1 - 1 - n = 0 by omega]
    rw [e1]
    congr 1
    exact sumF_congr n (fun i hi => by rw [show n + 1 - 1 - i = n - 1 - i + 1 by omega])
theorem q_meanGot (h : Bo T μ s g) : QP (F_X3_meanGot μ) (F_X4_meanGot μ) μ := by
  have d24 := h.2.2.2.1.2.1.1
  have h24 := d24.2
  have e0 : aI (uI μ 295 0 0) 296 424 = some (nI (ct s 424)) := (mg (k := 424) rfl (by decide)).trans (congrArg some (by rw [th296, h.2.1]; exact d24.1))
  have key : ∀ (d m i : Nat), i + d = ct s 424 → d < m → F_X4_meanGot_9 (uI μ 295 0 0) m (sumF (fun c => s (425 + 4 * c + 1)) i) (nI i) = some (sumF (fun c => s (425 + 4 * c + 1)) (ct s 424)) := by
    intro d
    induction d with
    | zero =>
      intro m i hi hm
      obtain ⟨m, rfl⟩ : ∃ z, m = z + 1 := ⟨m - 1, by omega⟩
      obtain rfl : i = ct s 424 := by omega
      rw [F_X4_meanGot_9]
      exact be_ e0 (if_pos (Int32.le_refl _))
    | succ d ih =>
      intro m i hi hm
      obtain ⟨m, rfl⟩ : ∃ z, m = z + 1 := ⟨m - 1, by omega⟩
      rw [F_X4_meanGot_9]
      refine be_ e0 ((if_neg (nI_ge (by omega) (by omega))).trans (be_ (mg (k := 425 + 4 * i + 1) (ix3 425 4 i 1) (by omega)) ?_))
      rw [th296, h.2.1, nI_1]
      exact ih m (i + 1) (by omega) (by omega)
  have k0 := key (ct s 424) qFuel 0 (by omega) (by unfold qFuel; omega)
  have c2 : μ.1 21 2 = nI (ct s 424) := h.1.mon.2.1
  have c1 : F_X2_sumOf 21 1 μ = some (sumF (fun c => s (425 + 4 * c + 1)) (ct s 424)) := by
    refine (x2_sum (t := 21) (k := 1) h.1.mon (by decide)).trans (congrArg some ?_)
    exact sumF_rev (f := fun c => s (425 + 4 * c + 1)) (ct s 424)
  refine QPm ?_
  by_cases e : ct s 424 = 0
  · refine ⟨qd0, ?_, be_ k0 (be_ e0 (if_pos (by rw [e]; rfl)))⟩
    unfold F_X3_meanGot
    exact if_pos (by rw [c2, e]; rfl)
  · have e' : nI (ct s 424) ≠ 0 := nI_ne0 (by omega) (by omega)
    refine ⟨_, ?_, be_ k0 (be_ e0 ((if_neg e').trans (be_ e0 (be_ (ddv_ok e') rfl))))⟩
    unfold F_X3_meanGot
    rw [c2, if_neg e']
    exact be_ c1 (be_ (ddv_ok e') rfl)
end SVD
