/-! ===== swap ===== -/
section SWP
variable {μ : Mm} {s s' : Nat → Int32} {g : Nat → Int64} {k : Nat}
theorem x1_rkL {b n r : Nat} {F : Nat → Nat → Int32} {u1 : Int32} (h : Tb μ (b + 8) 10 n F) (hF : ∀ q, q < n → F q 2 = s (58 + 10 * q + 2)) (hn : n ≤ 10) : ∀ (d m i : Nat), i + d = n → d < m → F_X1_rankRights_28 b u1 (s (58 + 10 * r + 2)) μ m (nI (ahead s r i)) (nI i) = some (nI (ahead s r n)) := by
  intro d
  induction d with
  | zero =>
    intro m i hi hm
    obtain ⟨m, rfl⟩ : ∃ z, m = z + 1 := ⟨m - 1, by omega⟩
    obtain rfl : i = n := by omega
    rw [F_X1_rankRights_28, h.2.1, if_pos (Int32.le_refl _)]
  | succ d ih =>
    intro m i hi hm
    obtain ⟨m, rfl⟩ : ∃ z, m = z + 1 := ⟨m - 1, by omega⟩
    rw [F_X1_rankRights_28, h.2.1, if_neg (nI_ge (by omega) (by omega))]
    refine be_ (x2_get (k := 2) h (by omega) (by decide)) ?_
    rw [hF i (by omega)]
    refine be_ (a := nI (ahead s r (i + 1))) ?_ ?_
    · rw [ahead]
      by_cases e : s (58 + 10 * r + 2) ≤ s (58 + 10 * i + 2)
      · rw [if_pos e, if_neg (Int32.not_lt.mpr e), Nat.add_zero]
      · rw [if_neg e, if_pos (Int32.not_le.mp e), nI_1]
    · rw [nI_1]
      exact ih m (i + 1) (by omega) (by omega)
theorem x1_rank {b n : Nat} {F : Nat → Nat → Int32} (hb : kd b = 1) (h : Tb μ (b + 8) 10 n F) (hF : ∀ q, q < n → F q 2 = s (58 + 10 * q + 2)) (hn : n ≤ 10) (h2 : ct s 2 = n) : Op (F_X1_rankRights b μ) (fun μ' => (Dst s → ∀ k, k < n → μ'.1 (b + 10) k = senI s k) ∧ Fs (fun a => a = b + 10) μ μ') := by
  have l := st_ln hb 10 (by decide)
  have e : (qStL.getD 10 (0, 0)).2 = 10 := rfl
  have key : ∀ (d m i : Nat) (ν : Mm), i + d = n → d < m → Tb ν (b + 8) 10 n F → (Dst s → ∀ r, r < i → ν.1 (b + 10) (rk s r) = nI r) → Op (F_X1_rankRights_2 b m (nI i) ν) (fun μ' => (Dst s → ∀ r, r < n → μ'.1 (b + 10) (rk s r) = nI r) ∧ Fs (fun a => a = b + 10) ν μ') := by
    intro d
    induction d with
    | zero =>
      intro m i ν hi hm hT hr
      obtain ⟨m, rfl⟩ : ∃ z, m = z + 1 := ⟨m - 1, by omega⟩
      obtain rfl : i = n := by omega
      rw [F_X1_rankRights_2, hT.2.1, if_pos (Int32.le_refl _)]
      exact op_r ⟨hr, Fs.rf⟩
    | succ d ih =>
      intro m i ν hi hm hT hr
      obtain ⟨m, rfl⟩ : ∃ z, m = z + 1 := ⟨m - 1, by omega⟩
      have hlt : rk s i < n := by rw [← h2]; exact rk_lt (by omega)
      rw [F_X1_rankRights_2, hT.2.1, if_neg (nI_ge (by omega) (by omega))]
      refine op_eb (x2_get (k := 2) hT (by omega) (by decide)) ?_
      rw [hF i (by omega)]
      refine op_eb (x1_rkL (u1 := nI i) (r := i) hT hF hn n qFuel 0 (by omega) (by unfold qFuel; omega)) ?_
      rw [show ahead s i n = rk s i by unfold rk; rw [h2]]
      refine op_b (op_f (show ¬ (10 : Int32) ≤ nI (rk s i) from nI_ge (b := 10) (by omega) (by decide)) (op_eb (sI_ok (k := rk s i) rfl (by omega)) (op_r ?_)))
      rw [nI_1]
      refine op_m (ih m (i + 1) _ (by omega) (by omega) (hT.keep (uI_ne (by omega)) (uI_ne (by omega))) (fun hd r hr' => ?_)) (fun μ' z => ⟨z.1, (Fs.uI (S := fun a => a = b + 10) rfl).tr z.2⟩)
      rw [uI_eq]
      show (if rk s r = rk s i then nI i else ν.1 (b + 10) (rk s r)) = nI r
      by_cases e2 : r = i
      · rw [e2, if_pos rfl]
      · rw [if_neg (fun z => e2 (rk_inj hd (by omega) (by omega) z)), hr hd r (by omega)]
  unfold F_X1_rankRights
  refine op_b (op_m (key n qFuel 0 μ (by omega) (by unfold qFuel; omega) h (fun _ r hr => absurd hr (Nat.not_lt_zero r))) (fun μ' w => op_r ⟨fun hd k hk => ?_, w.2⟩))
  obtain ⟨r, r1, r2, r3⟩ := sen_ex hd (k := k) (by omega)
  unfold senI
  rw [r1, ← r3, w.1 hd r (by omega)]
  rfl
theorem SV.prio {μ' : Mm} {b : Nat} {LS OS : List (Nat → Int32)} {ng : Nat} {G : Nat → Nat → Int32} {cu : Nat → Int32} (h : SV μ b LS OS ng G cu s g) (hc : Cnt s) (hF : Fs (fun a => a = b + 9 ∨ a = b + 10) μ μ') (hs : ∀ j, Vis j → ¬ (58 ≤ j ∧ j < 158 ∧ (j - 58) % 10 = 2) → s' j = s j)
  (hT : Tb μ' (b + 8) 10 (ct s 2) (fun r k => if k = 9 then cu r else s' (58 + 10 * r + k))) (hr : ∀ k, k < ct s 2 → μ'.1 (b + 10) k = senI s' k) : SV μ' b LS OS ng G cu s' g := by
  obtain ⟨c0, c1, c2, c3, c4⟩ := hc
  have v : ∀ j, (j < 521 ∧ (j ≠ 3 ∧ (j ≠ 4 ∧ (j ≠ 57 ∧ (¬ (158 ≤ j ∧ j < 242) ∧ ¬ (394 ≤ j ∧ j < 424)))))) ∧ ¬ (58 ≤ j ∧ j < 158 ∧ (j - 58) % 10 = 2) → s' j = s j := fun j hj => hs j hj.1 hj.2
  have k1 : ∀ j, j < 22 → (j ≠ 9 ∧ j ≠ 10) → μ'.1 (b + j) = μ.1 (b + j) := fun j hj hn => (hF.1 _ (by omega)).1
  have k2 : ∀ j, j < 22 → (j ≠ 9 ∧ j ≠ 10) → μ'.2.1 (b + j) = μ.2.1 (b + j) := fun j hj hn => (hF.1 _ (by omega)).2
  have q0 : ct s' 0 = ct s 0 := ct_eq (v 0 (by omega))
  have q1 : ct s' 1 = ct s 1 := ct_eq (v 1 (by omega))
  have q2 : ct s' 2 = ct s 2 := ct_eq (v 2 (by omega))
  have q3 : ct s' 56 = ct s 56 := ct_eq (v 56 (by omega))
  have q4 : ct s' 424 = ct s 424 := ct_eq (v 424 (by omega))
  unfold SV
  rw [q0, q1, q2, q3, q4]
  refine ⟨(h.rch.keep (k1 1 (by decide) (by decide)) (k1 2 (by decide) (by decide))).congr (fun r k hr hk => (v _ (by omega)).symm), (h.acc.keep (k1 5 (by decide) (by decide)) (k1 6 (by decide) (by decide))).congr (fun r k hr hk => (v _ (by omega)).symm), hT, h.lea.keep (k1 12 (by decide) (by decide)) (k1 13 (by decide) (by decide)), h.opt.keep (k1 14 (by decide) (by decide)) (k1 15 (by decide) (by decide)), (h.clm.keep (k1 16 (by decide) (by decide)) (k1 17 (by decide) (by decide))).congr (fun r k hr hk => (v _ (by omega)).symm), h.gau.keep (k1 18 (by decide) (by decide)) (k1 19 (by decide) (by decide)), (h.mon.keep (k1 20 (by decide) (by decide)) (k1 21 (by decide) (by decide))).congr (fun r k hr hk => (v _ (by omega)).symm), ?_, ?_, ?_, ?_, hr, ?_⟩
  · rw [k1 3 (by decide) (by decide)]; exact fun k hk => (h.sea k hk).trans (v _ (by omega)).symm
  · rw [k1 4 (by decide) (by decide)]; exact fun k hk h7 => (h.yea k hk (by have e7 := ct_eq (v 7 (by omega)); omega)).trans (v _ (by omega)).symm
  · rw [k2 7 (by decide) (by decide)]; exact h.bal
  · rw [k2 11 (by decide) (by decide)]; exact h.ear
  · rw [show μ'.1 b = μ.1 b from k1 0 (by decide) (by decide), v 7 (by omega), v 5 (by omega), v 6 (by omega), v 53 (by omega), v 54 (by omega), v 55 (by omega)]
    exact h.sca
/-- two priorities changed for one another -/
def swS (s : Nat → Int32) (r o : Nat) : Nat → Int32 := upd (upd s (58 + 10 * r + 2) (s (58 + 10 * o + 2))) (58 + 10 * o + 2) (s (58 + 10 * r + 2))
def swQ (r o q : Nat) : Nat := if q = o then r else if q = r then o else q
theorem swS_n {r o j : Nat} (h1 : j ≠ 58 + 10 * r + 2) (h2 : j ≠ 58 + 10 * o + 2) : swS s r o j = s j := by unfold swS; rw [pk_un h2, pk_un h1]
theorem swS_p {r o q : Nat} : swS s r o (58 + 10 * q + 2) = s (58 + 10 * swQ r o q + 2) := by
  unfold swS swQ
  by_cases e : q = o
  · rw [if_pos e, e, pk_us]
  · rw [if_neg e, pk_un (by omega)]
    by_cases e2 : q = r
    · rw [if_pos e2, e2, pk_us]
    · rw [if_neg e2, pk_un (by omega)]
theorem swQ_inj {r o a b : Nat} (h : swQ r o a = swQ r o b) : a = b := by
  unfold swQ at h
  by_cases e1 : a = o
  · rw [if_pos e1] at h
    by_cases e2 : b = o
    · omega
    · rw [if_neg e2] at h
      by_cases e3 : b = r
      · rw [if_pos e3] at h; omega
      · rw [if_neg e3] at h; omega
  · rw [if_neg e1] at h
    by_cases e3 : a = r
    · rw [if_pos e3] at h
      by_cases e2 : b = o
      · rw [if_pos e2] at h; omega
      · rw [if_neg e2] at h
        by_cases e4 : b = r
        · omega
        · rw [if_neg e4] at h; omega
    · rw [if_neg e3] at h
      by_cases e2 : b = o
      · rw [if_pos e2] at h; omega
      · rw [if_neg e2] at h
        by_cases e4 : b = r
        · rw [if_pos e4] at h; omega
        · rw [if_neg e4] at h; omega
theorem swQ_lt {r o q n : Nat} (hr : r < n) (ho : o < n) (hq : q < n) : swQ r o q < n := by
  unfold swQ
  split
  · exact hr
  · split
    · exact ho
    · exact hq
theorem Ok.swp {T : Nat} (h : Ok T s) {r o : Nat} (hr : r < ct s 2) (ho : o < ct s 2) : Ok T (swS s r o) ∧ Dst (swS s r o) := by
  have h210 := h.1.1.2.2.1.2
  have h06 := h.1.1.1.2
  have e : ∀ j, (j ≠ 58 + 10 * r + 2 ∧ j ≠ 58 + 10 * o + 2) → swS s r o j = s j := fun j hj => swS_n hj.1 hj.2
  have hd : Dst (swS s r o) := fun a b ha hb q => by
    rw [ct_eq (e 2 (by omega))] at ha hb
    rw [swS_p, swS_p] at q
    exact swQ_inj (h.1.2.1 _ _ (swQ_lt hr ho ha) (swQ_lt hr ho hb) q)
  refine ⟨h.stat (fun j hj => e j (by omega)) (fun q hq => (h.1.1.2.2.2.2.1 q hq).eq (e _ (by omega))) (fun q hq => ?_) hd, hd⟩
  have f := h.1.1.2.2.2.2.2 q hq
  have e0 := e (58 + 10 * q + 0) (by omega)
  rw [ct_eq e0, e0]
  have q2 := (h.1.1.2.2.2.2.2 _ (swQ_lt hr ho hq)).2.2.2.2.2.2
  refine ⟨f.1, f.2.2.2.2.2.1.eq (e _ (by omega)), ?_⟩
  have e3 := swS_p (s := s) (r := r) (o := o) (q := q)
  unfold Bn
  rw [show ct (swS s r o) (58 + 10 * q + 2) = ct s (58 + 10 * swQ r o q + 2) from congrArg Int32.toNatClampNeg e3, e3]
  exact q2
end SWP
