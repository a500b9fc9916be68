/-! ===== what stands in parts of the whole that are left away ===== -/
theorem Ok.mono {T T' : Nat} {s : Nat → Int32} (h : Ok T s) (hT : T ≤ T') : Ok T' s := ⟨h.1, h.2.1, by have := h.2.2; omega⟩
theorem n10 : ¬ (1 : Int32) = 0 := by decide
def rw6 (a0 a1 a2 a3 a4 a5 : Int32) : Nat → Int32 := fun k => if k = 0 then a0 else if k = 1 then a1 else if k = 2 then a2 else if k = 3 then a3 else if k = 4 then a4 else if k = 5 then a5 else 0
theorem ln292 : ln 292 = 2 := by decide +kernel
/-! ===== swap ===== -/
section SWP
variable {μ : Mm} {s s' : Nat → Int32} {g : Nat → Int64} {k : Nat}
theorem x1_rkL {b n r : Nat} {F : Nat → Nat → Int32} {u1 : Int32} (h : Tb μ (b + 8) 10 n F) (hF : ∀ q, q < n → F q 2 = s (58 + 10 * q + 2)) (hn : n ≤ 10) : ∀ (d m i : Nat), i + d = n → d < m → F_X1_rankRights_28 b u1 (s (58 + 10 * r + 2)) μ m (nI (ahead s r i)) (nI i) = some (nI (ahead s r n)) := by
  intro d
  induction d with
  | zero =>
    intro m i hi hm
    obtain ⟨m, rfl⟩ : ∃ z, m = z + 1 := ⟨m - 1, by omega⟩
    obtain rfl : i = n := by omega
    rw [F_X1_rankRights_28, h.2.1, if_pos (Int32.le_refl _)]
  | succ d ih =>
    intro m i hi hm
    obtain ⟨m, rfl⟩ : ∃ z, m = z + 1 := ⟨m - 1, by omega⟩
    rw [F_X1_rankRights_28, h.2.1, if_neg (nI_ge (by omega) (by omega))]
    refine be_ (x2_get (k := 2) h (by omega) (by decide)) ?_
    rw [hF i (by omega)]
    refine be_ (a := nI (ahead s r (i + 1))) ?_ ?_
    · rw [ahead]
      by_cases e : s (58 + 10 * r + 2) ≤ s (58 + 10 * i + 2)
      · rw [if_pos e, if_neg (Int32.not_lt.mpr e), Nat.add_zero]
      · rw [if_neg e, if_pos (Int32.not_le.mp e), nI_1]
    · rw [nI_1]
      exact ih m (i + 1) (by omega) (by omega)
theorem x1_rank {b n : Nat} {F : Nat → Nat → Int32} (hb : kd b = 1) (h : Tb μ (b + 8) 10 n F) (hF : ∀ q, q < n → F q 2 = s (58 + 10 * q + 2)) (hn : n ≤ 10) (h2 : ct s 2 = n) : Op (F_X1_rankRights b μ) (fun μ' => (Dst s → ∀ k, k < n → μ'.1 (b + 10) k = senI s k) ∧ Fs (fun a => a = b + 10) μ μ') := by
  have l := st_ln hb 10 (by decide)
  have e : (qStL.getD 10 (0, 0)).2 = 10 := rfl
  have key : ∀ (d m i : Nat) (ν : Mm), i + d = n → d < m → Tb ν (b + 8) 10 n F → (Dst s → ∀ r, r < i → ν.1 (b + 10) (rk s r) = nI r) → Op (F_X1_rankRights_2 b m (nI i) ν) (fun μ' => (Dst s → ∀ r, r < n → μ'.1 (b + 10) (rk s r) = nI r) ∧ Fs (fun a => a = b + 10) ν μ') := by
    intro d
    induction d with
    | zero =>
      intro m i ν hi hm hT hr
      obtain ⟨m, rfl⟩ : ∃ z, m = z + 1 := ⟨m - 1, by omega⟩
      obtain rfl : i = n := by omega
      rw [F_X1_rankRights_2, hT.2.1, if_pos (Int32.le_refl _)]
      exact op_r ⟨hr, Fs.rf⟩
    | succ d ih =>
      intro m i ν hi hm hT hr
      obtain ⟨m, rfl⟩ : ∃ z, m = z + 1 := ⟨m - 1, by omega⟩
      have hlt : rk s i < n := by rw [← h2]; exact rk_lt (by omega)
      rw [F_X1_rankRights_2, hT.2.1, if_neg (nI_ge (by omega) (by omega))]
      refine op_eb (x2_get (k := 2) hT (by omega) (by decide)) ?_
      rw [hF i (by omega)]
      refine op_eb (x1_rkL (u1 := nI i) (r := i) hT hF hn n qFuel 0 (by omega) (by unfold qFuel; omega)) ?_
      rw [show ahead s i n = rk s i by unfold rk; rw [h2]]
      refine op_b (op_f (show ¬ (10 : Int32) ≤ nI (rk s i) from nI_ge (b := 10) (by omega) (by decide)) (op_eb (sI_ok (k := rk s i) rfl (by omega)) (op_r ?_)))
      rw [nI_1]
      refine op_m (ih m (i + 1) _ (by omega) (by omega) (hT.keep (uI_ne (by omega)) (uI_ne (by omega))) (fun hd r hr' => ?_)) (fun μ' z => ⟨z.1, (Fs.uI (S := fun a => a = b + 10) rfl).tr z.2⟩)
      rw [uI_eq]
      show (if rk s r = rk s i then nI i else ν.1 (b + 10) (rk s r)) = nI r
      by_cases e2 : r = i
      · rw [e2, if_pos rfl]
      · rw [if_neg (fun z => e2 (rk_inj hd (by omega) (by omega) z)), hr hd r (by omega)]
  unfold F_X1_rankRights
  refine op_b (op_m (key n qFuel 0 μ (by omega) (by unfold qFuel; omega) h (fun _ r hr => absurd hr (Nat.not_lt_zero r))) (fun μ' w => op_r ⟨fun hd k hk => ?_, w.2⟩))
  obtain ⟨r, r1, r2, r3⟩ := sen_ex hd (k := k) (by omega)
  unfold senI
  rw [r1, ← r3, w.1 hd r (by omega)]
  rfl
end SWP
