/-! ===== a state of the class, told by the reference's numbers ===== -/
def ct (s : Nat → Int32) (k : Nat) : Nat := (s k).toNatClampNeg
def lf (L : List (Nat → Int32)) : Nat → Nat → Int32 := fun r k => (L.getD r (fun _ => 0)) k
def ahead (s : Nat → Int32) (r : Nat) : Nat → Nat
  | 0 => 0
  | o + 1 => ahead s r o + (if s (58 + 10 * o + 2) < s (58 + 10 * r + 2) then 1 else 0)
def senF (s : Nat → Int32) (n k : Nat) : Nat → Nat → Option Nat
  | 0, _ => none
  | d + 1, r => if ahead s r n = k then some r else senF s n k d (r + 1)
def sen (s : Nat → Int32) (k : Nat) : Option Nat := senF s (ct s 2) k (ct s 2) 0
def senI (s : Nat → Int32) (k : Nat) : Int32 := (sen s k).elim (-1) nI
def SV (μ : Mm) (b : Nat) (LS OS : List (Nat → Int32)) (ng : Nat) (G : Nat → Nat → Int32) (cu : Nat → Int32) (s : Nat → Int32) (g : Nat → Int64) : Prop :=
  (Tb μ (b + 1) 3 (ct s 0) (fun r k => s (8 + 6 * k + r))) ∧ ((Tb μ (b + 5) 2 (ct s 1) (fun a k => s (26 + 5 * k + a))) ∧ ((Tb μ (b + 8) 10 (ct s 2) (fun r k => if k = 9 then cu r else s (58 + 10 * r + k))) ∧ ((Tb μ (b + 12) 6 LS.length (lf LS)) ∧ ((Tb μ (b + 14) 6 OS.length (lf OS)) ∧ ((Tb μ (b + 16) 8 (ct s 56) (fun c k => s (242 + 8 * c + k))) ∧ ((Tb μ (b + 18) 5 ng G) ∧ ((Tb μ (b + 20) 4 (ct s 424) (fun h k => s (425 + 4 * (ct s 424 - 1 - h) + k))) ∧ ((∀ k, k < 12 → μ.1 (b + 3) k = s (36 + k)) ∧ ((∀ k, k < 5 → k < ct s 7 → μ.1 (b + 4) k = s (48 + k)) ∧ ((∀ k, k < 5 → μ.2.1 (b + 7) k = g k) ∧ ((∀ k, k < 10 → μ.2.1 (b + 11) k = g (5 + k)) ∧ ((∀ k, k < ct s 2 → μ.1 (b + 10) k = senI s k) ∧ ((μ.1 b 3 = s 7 ∧ (μ.1 b 14 = s 5 ∧ (μ.1 b 15 = s 6 ∧ (μ.1 b 16 = s 53 ∧ (μ.1 b 17 = s 54 ∧ μ.1 b 18 = s 55))))))))))))))))))
theorem SV.rch {μ : Mm} {b : Nat} {LS OS : List (Nat → Int32)} {ng : Nat} {G : Nat → Nat → Int32} {cu : Nat → Int32} {s : Nat → Int32} {g : Nat → Int64} (h : SV μ b LS OS ng G cu s g) : Tb μ (b + 1) 3 (ct s 0) (fun r k => s (8 + 6 * k + r)) := h.1
theorem SV.acc {μ : Mm} {b : Nat} {LS OS : List (Nat → Int32)} {ng : Nat} {G : Nat → Nat → Int32} {cu : Nat → Int32} {s : Nat → Int32} {g : Nat → Int64} (h : SV μ b LS OS ng G cu s g) : Tb μ (b + 5) 2 (ct s 1) (fun a k => s (26 + 5 * k + a)) := h.2.1
theorem SV.rgt {μ : Mm} {b : Nat} {LS OS : List (Nat → Int32)} {ng : Nat} {G : Nat → Nat → Int32} {cu : Nat → Int32} {s : Nat → Int32} {g : Nat → Int64} (h : SV μ b LS OS ng G cu s g) : Tb μ (b + 8) 10 (ct s 2) (fun r k => if k = 9 then cu r else s (58 + 10 * r + k)) := h.2.2.1
theorem SV.lea {μ : Mm} {b : Nat} {LS OS : List (Nat → Int32)} {ng : Nat} {G : Nat → Nat → Int32} {cu : Nat → Int32} {s : Nat → Int32} {g : Nat → Int64} (h : SV μ b LS OS ng G cu s g) : Tb μ (b + 12) 6 LS.length (lf LS) := h.2.2.2.1
theorem SV.opt {μ : Mm} {b : Nat} {LS OS : List (Nat → Int32)} {ng : Nat} {G : Nat → Nat → Int32} {cu : Nat → Int32} {s : Nat → Int32} {g : Nat → Int64} (h : SV μ b LS OS ng G cu s g) : Tb μ (b + 14) 6 OS.length (lf OS) := h.2.2.2.2.1
theorem SV.clm {μ : Mm} {b : Nat} {LS OS : List (Nat → Int32)} {ng : Nat} {G : Nat → Nat → Int32} {cu : Nat → Int32} {s : Nat → Int32} {g : Nat → Int64} (h : SV μ b LS OS ng G cu s g) : Tb μ (b + 16) 8 (ct s 56) (fun c k => s (242 + 8 * c + k)) := h.2.2.2.2.2.1
theorem SV.gau {μ : Mm} {b : Nat} {LS OS : List (Nat → Int32)} {ng : Nat} {G : Nat → Nat → Int32} {cu : Nat → Int32} {s : Nat → Int32} {g : Nat → Int64} (h : SV μ b LS OS ng G cu s g) : Tb μ (b + 18) 5 ng G := h.2.2.2.2.2.2.1
theorem SV.mon {μ : Mm} {b : Nat} {LS OS : List (Nat → Int32)} {ng : Nat} {G : Nat → Nat → Int32} {cu : Nat → Int32} {s : Nat → Int32} {g : Nat → Int64} (h : SV μ b LS OS ng G cu s g) : Tb μ (b + 20) 4 (ct s 424) (fun h k => s (425 + 4 * (ct s 424 - 1 - h) + k)) := h.2.2.2.2.2.2.2.1
theorem SV.sea {μ : Mm} {b : Nat} {LS OS : List (Nat → Int32)} {ng : Nat} {G : Nat → Nat → Int32} {cu : Nat → Int32} {s : Nat → Int32} {g : Nat → Int64} (h : SV μ b LS OS ng G cu s g) : ∀ k, k < 12 → μ.1 (b + 3) k = s (36 + k) := h.2.2.2.2.2.2.2.2.1
theorem SV.yea {μ : Mm} {b : Nat} {LS OS : List (Nat → Int32)} {ng : Nat} {G : Nat → Nat → Int32} {cu : Nat → Int32} {s : Nat → Int32} {g : Nat → Int64} (h : SV μ b LS OS ng G cu s g) : ∀ k, k < 5 → k < ct s 7 → μ.1 (b + 4) k = s (48 + k) := h.2.2.2.2.2.2.2.2.2.1
theorem SV.bal {μ : Mm} {b : Nat} {LS OS : List (Nat → Int32)} {ng : Nat} {G : Nat → Nat → Int32} {cu : Nat → Int32} {s : Nat → Int32} {g : Nat → Int64} (h : SV μ b LS OS ng G cu s g) : ∀ k, k < 5 → μ.2.1 (b + 7) k = g k := h.2.2.2.2.2.2.2.2.2.2.1
theorem SV.ear {μ : Mm} {b : Nat} {LS OS : List (Nat → Int32)} {ng : Nat} {G : Nat → Nat → Int32} {cu : Nat → Int32} {s : Nat → Int32} {g : Nat → Int64} (h : SV μ b LS OS ng G cu s g) : ∀ k, k < 10 → μ.2.1 (b + 11) k = g (5 + k) := h.2.2.2.2.2.2.2.2.2.2.2.1
theorem SV.rnk {μ : Mm} {b : Nat} {LS OS : List (Nat → Int32)} {ng : Nat} {G : Nat → Nat → Int32} {cu : Nat → Int32} {s : Nat → Int32} {g : Nat → Int64} (h : SV μ b LS OS ng G cu s g) : ∀ k, k < ct s 2 → μ.1 (b + 10) k = senI s k := h.2.2.2.2.2.2.2.2.2.2.2.2.1
theorem SV.sca {μ : Mm} {b : Nat} {LS OS : List (Nat → Int32)} {ng : Nat} {G : Nat → Nat → Int32} {cu : Nat → Int32} {s : Nat → Int32} {g : Nat → Int64} (h : SV μ b LS OS ng G cu s g) : μ.1 b 3 = s 7 ∧ (μ.1 b 14 = s 5 ∧ (μ.1 b 15 = s 6 ∧ (μ.1 b 16 = s 53 ∧ (μ.1 b 17 = s 54 ∧ μ.1 b 18 = s 55)))) := h.2.2.2.2.2.2.2.2.2.2.2.2.2
theorem ct_eq {s s' : Nat → Int32} {k : Nat} (h : s' k = s k) : ct s' k = ct s k := by unfold ct; rw [h]
theorem ahead_eq {s s' : Nat → Int32} {n r : Nat} (hs : ∀ o, o < n → s' (58 + 10 * o + 2) = s (58 + 10 * o + 2)) (hr : s' (58 + 10 * r + 2) = s (58 + 10 * r + 2)) : ∀ m, m ≤ n → ahead s' r m = ahead s r m := by
  intro m
  induction m with
  | zero => intro _; rfl
  | succ m ih =>
    intro hm
    rw [ahead, ahead, ih (by omega), hs m (by omega), hr]
theorem senF_eq {s s' : Nat → Int32} {n k : Nat} (hs : ∀ o, o < n → s' (58 + 10 * o + 2) = s (58 + 10 * o + 2)) : ∀ d r, r + d = n → senF s' n k d r = senF s n k d r := by
  intro d
  induction d with
  | zero => intro r _; rfl
  | succ d ih =>
    intro r hr
    rw [senF, senF, ahead_eq hs (hs r (by omega)) n (Nat.le_refl n), ih (r + 1) (by omega)]
theorem sen_eq {s s' : Nat → Int32} (h2 : s' 2 = s 2) (hs : ∀ o, o < ct s 2 → s' (58 + 10 * o + 2) = s (58 + 10 * o + 2)) (k : Nat) : sen s' k = sen s k := by
  unfold sen
  rw [ct_eq h2]
  exact senF_eq hs _ 0 (by omega)
theorem senI_eq {s s' : Nat → Int32} (h2 : s' 2 = s 2) (hs : ∀ o, o < ct s 2 → s' (58 + 10 * o + 2) = s (58 + 10 * o + 2)) (k : Nat) : senI s' k = senI s k := by
  unfold senI
  rw [sen_eq h2 hs k]
def Blk (b : Nat) : Nat → Prop := fun a => b ≤ a ∧ a < b + 22
theorem SV.fs {μ μ' : Mm} {b : Nat} {S : Nat → Prop} {LS OS : List (Nat → Int32)} {ng : Nat} {G : Nat → Nat → Int32} {cu : Nat → Int32} {s : Nat → Int32} {g : Nat → Int64} (h : SV μ b LS OS ng G cu s g) (hF : Fs S μ μ') (hd : ∀ a, b ≤ a → a < b + 22 → ¬ S a) : SV μ' b LS OS ng G cu s g := by
  have k : ∀ j, j < 22 → μ'.1 (b + j) = μ.1 (b + j) := fun j hj => (hF.1 _ (hd _ (by omega) (by omega))).1
  have k2 : ∀ j, j < 22 → μ'.2.1 (b + j) = μ.2.1 (b + j) := fun j hj => (hF.1 _ (hd _ (by omega) (by omega))).2
  refine ⟨h.rch.keep (k 1 (by decide)) (k 2 (by decide)), h.acc.keep (k 5 (by decide)) (k 6 (by decide)), h.rgt.keep (k 8 (by decide)) (k 9 (by decide)), h.lea.keep (k 12 (by decide)) (k 13 (by decide)), h.opt.keep (k 14 (by decide)) (k 15 (by decide)), h.clm.keep (k 16 (by decide)) (k 17 (by decide)), h.gau.keep (k 18 (by decide)) (k 19 (by decide)), h.mon.keep (k 20 (by decide)) (k 21 (by decide)), ?_, ?_, ?_, ?_, ?_, ?_⟩
  · rw [k 3 (by decide)]; exact h.sea
  · rw [k 4 (by decide)]; exact h.yea
  · rw [k2 7 (by decide)]; exact h.bal
  · rw [k2 11 (by decide)]; exact h.ear
  · rw [k 10 (by decide)]; exact h.rnk
  · rw [show μ'.1 b = μ.1 b from k 0 (by decide)]; exact h.sca
/-- the numbers that a view sees -/
def Vis (j : Nat) : Prop := j < 521 ∧ (j ≠ 3 ∧ (j ≠ 4 ∧ (j ≠ 57 ∧ (¬ (158 ≤ j ∧ j < 242) ∧ ¬ (394 ≤ j ∧ j < 424)))))
def Cnt (s : Nat → Int32) : Prop := ct s 0 ≤ 6 ∧ (ct s 1 ≤ 5 ∧ (ct s 2 ≤ 10 ∧ (ct s 56 ≤ 19 ∧ ct s 424 ≤ 24)))
theorem SV.cnt {μ : Mm} {b : Nat} {LS OS : List (Nat → Int32)} {ng : Nat} {G : Nat → Nat → Int32} {cu : Nat → Int32} {s : Nat → Int32} {g : Nat → Int64} (h : SV μ b LS OS ng G cu s g) (hb : kd b = 1) : Cnt s := by
  have l1 := (h.rch).2.2.1.1
  have l2 := (h.acc).2.2.1.1
  have l3 := (h.rgt).2.2.1.1
  have l4 := (h.clm).2.2.1.1
  have l5 := (h.mon).2.2.1.1
  rw [show b + 1 + 1 = b + 2 from rfl, st_ln hb 2 (by decide)] at l1
  rw [show b + 5 + 1 = b + 6 from rfl, st_ln hb 6 (by decide)] at l2
  rw [show b + 8 + 1 = b + 9 from rfl, st_ln hb 9 (by decide)] at l3
  rw [show b + 16 + 1 = b + 17 from rfl, st_ln hb 17 (by decide)] at l4
  rw [show b + 20 + 1 = b + 21 from rfl, st_ln hb 21 (by decide)] at l5
  have e1 : (qStL.getD 2 (0, 0)).2 = 18 := rfl
  have e2 : (qStL.getD 6 (0, 0)).2 = 10 := rfl
  have e3 : (qStL.getD 9 (0, 0)).2 = 100 := rfl
  have e4 : (qStL.getD 17 (0, 0)).2 = 152 := rfl
  have e5 : (qStL.getD 21 (0, 0)).2 = 96 := rfl
  unfold Cnt
  omega
theorem SV.lea_le {μ : Mm} {b : Nat} {LS OS : List (Nat → Int32)} {ng : Nat} {G : Nat → Nat → Int32} {cu : Nat → Int32} {s : Nat → Int32} {g : Nat → Int64} (h : SV μ b LS OS ng G cu s g) (hb : kd b = 1) : LS.length ≤ 9 ∧ (OS.length ≤ 6 ∧ ng ≤ 6) := by
  have l1 := (h.lea).2.2.1.1
  have l2 := (h.opt).2.2.1.1
  have l3 := (h.gau).2.2.1.1
  rw [show b + 12 + 1 = b + 13 from rfl, st_ln hb 13 (by decide)] at l1
  rw [show b + 14 + 1 = b + 15 from rfl, st_ln hb 15 (by decide)] at l2
  rw [show b + 18 + 1 = b + 19 from rfl, st_ln hb 19 (by decide)] at l3
  have e1 : (qStL.getD 13 (0, 0)).2 = 54 := rfl
  have e2 : (qStL.getD 15 (0, 0)).2 = 36 := rfl
  have e3 : (qStL.getD 19 (0, 0)).2 = 30 := rfl
  omega
theorem SV.congr {μ : Mm} {b : Nat} {LS OS : List (Nat → Int32)} {ng : Nat} {G : Nat → Nat → Int32} {cu : Nat → Int32} {s : Nat → Int32} {g : Nat → Int64} {s' : Nat → Int32} (h : SV μ b LS OS ng G cu s g) (hc : Cnt s) (hs : ∀ j, Vis j → s' j = s j) : SV μ b LS OS ng G cu s' g := by
  obtain ⟨c0, c1, c2, c3, c4⟩ := hc
  have e : ∀ j, Vis j → s' j = s j := hs
  have v : ∀ j, (j < 521 ∧ (j ≠ 3 ∧ (j ≠ 4 ∧ (j ≠ 57 ∧ (¬ (158 ≤ j ∧ j < 242) ∧ ¬ (394 ≤ j ∧ j < 424)))))) → s' j = s j := hs
  have q0 : ct s' 0 = ct s 0 := ct_eq (v 0 (by omega))
  have q1 : ct s' 1 = ct s 1 := ct_eq (v 1 (by omega))
  have q2 : ct s' 2 = ct s 2 := ct_eq (v 2 (by omega))
  have q3 : ct s' 56 = ct s 56 := ct_eq (v 56 (by omega))
  have q4 : ct s' 424 = ct s 424 := ct_eq (v 424 (by omega))
  unfold SV
  rw [q0, q1, q2, q3, q4]
  refine ⟨h.rch.congr (fun r k hr hk => (v _ (by omega)).symm), h.acc.congr (fun r k hr hk => (v _ (by omega)).symm), h.rgt.congr (fun r k hr hk => ?_), h.lea, h.opt, h.clm.congr (fun r k hr hk => (v _ (by omega)).symm), h.gau, h.mon.congr (fun r k hr hk => (v _ (by omega)).symm), fun k hk => (h.sea k hk).trans (v _ (by omega)).symm, fun k hk h7 => (h.yea k hk (by have e7 := ct_eq (v 7 (by omega)); omega)).trans (v _ (by omega)).symm, h.bal, h.ear, fun k hk => (h.rnk k hk).trans (senI_eq (v 2 (by omega)) (fun o ho => v _ (by omega)) k).symm, ?_⟩
  · by_cases e9 : k = 9
    · rw [if_pos e9, if_pos e9]
    · rw [if_neg e9, if_neg e9, v _ (by omega)]
  · rw [v 7 (by omega), v 5 (by omega), v 6 (by omega), v 53 (by omega), v 54 (by omega), v 55 (by omega)]
    exact h.sca
/-- one table changes, and with it its numbers -/
theorem SV.setX {μ μ' : Mm} {b o : Nat} {LS OS : List (Nat → Int32)} {ng : Nat} {G : Nat → Nat → Int32} {cu : Nat → Int32} {s : Nat → Int32} {g : Nat → Int64} {LS' OS' : List (Nat → Int32)} {ng' : Nat} {G' : Nat → Nat → Int32} {cu' : Nat → Int32} {s' : Nat → Int32} (h : SV μ b LS OS ng G cu s g) (hF : Fs (fun a => a = b + o ∨ a = b + o + 1) μ μ') (ho : o = 1 ∨ (o = 5 ∨ (o = 8 ∨ (o = 12 ∨ (o = 14 ∨ (o = 16 ∨ (o = 18 ∨ o = 20)))))))
  (hm : o ≠ 1 → ct s' 0 = ct s 0 ∧ ∀ r k, r < ct s 0 → k < 3 → s' (8 + 6 * k + r) = s (8 + 6 * k + r))
  (ha : o ≠ 5 → ct s' 1 = ct s 1 ∧ ∀ r k, r < ct s 1 → k < 2 → s' (26 + 5 * k + r) = s (26 + 5 * k + r))
  (hr : o ≠ 8 → ct s' 2 = ct s 2 ∧ (cu' = cu ∧ ∀ r k, r < ct s 2 → k < 9 → s' (58 + 10 * r + k) = s (58 + 10 * r + k)))
  (hl : o ≠ 12 → LS' = LS) (hp : o ≠ 14 → OS' = OS)
  (hc : o ≠ 16 → ct s' 56 = ct s 56 ∧ ∀ r k, r < ct s 56 → k < 8 → s' (242 + 8 * r + k) = s (242 + 8 * r + k))
  (hg : o ≠ 18 → ng' = ng ∧ G' = G)
  (hh : o ≠ 20 → ct s' 424 = ct s 424 ∧ ∀ r k, r < ct s 424 → k < 4 → s' (425 + 4 * r + k) = s (425 + 4 * r + k))
  (hT : (o = 1 → Tb μ' (b + o) 3 (ct s' 0) (fun r k => s' (8 + 6 * k + r))) ∧ ((o = 5 → Tb μ' (b + o) 2 (ct s' 1) (fun a k => s' (26 + 5 * k + a))) ∧ ((o = 8 → Tb μ' (b + o) 10 (ct s' 2) (fun r k => if k = 9 then cu' r else s' (58 + 10 * r + k))) ∧ ((o = 12 → Tb μ' (b + o) 6 LS'.length (lf LS')) ∧ ((o = 14 → Tb μ' (b + o) 6 OS'.length (lf OS')) ∧ ((o = 16 → Tb μ' (b + o) 8 (ct s' 56) (fun c k => s' (242 + 8 * c + k))) ∧ ((o = 18 → Tb μ' (b + o) 5 ng' G') ∧ (o = 20 → Tb μ' (b + o) 4 (ct s' 424) (fun h k => s' (425 + 4 * (ct s' 424 - 1 - h) + k))))))))))
  (hs : (∀ k, k < 12 → s' (36 + k) = s (36 + k)) ∧ ((∀ k, k < 5 → s' (48 + k) = s (48 + k)) ∧ (s' 7 = s 7 ∧ (s' 5 = s 5 ∧ (s' 6 = s 6 ∧ (s' 53 = s 53 ∧ (s' 54 = s 54 ∧ s' 55 = s 55)))))))
  (hsen : ct s' 2 = ct s 2 ∧ ∀ k, k < ct s 2 → senI s' k = senI s k) : SV μ' b LS' OS' ng' G' cu' s' g := by
  have k : ∀ j, j < 22 → (j ≠ o ∧ j ≠ o + 1) → μ'.1 (b + j) = μ.1 (b + j) := fun j hj hn => (hF.1 _ (by omega)).1
  have k2 : ∀ j, j < 22 → (j ≠ o ∧ j ≠ o + 1) → μ'.2.1 (b + j) = μ.2.1 (b + j) := fun j hj hn => (hF.1 _ (by omega)).2
  obtain ⟨t1, t5, t8, t12, t14, t16, t18, t20⟩ := hT
  obtain ⟨z1, z2, z3, z4, z5, z6, z7, z8⟩ := hs
  refine ⟨?_, ?_, ?_, ?_, ?_, ?_, ?_, ?_, ?_, ?_, ?_, ?_, ?_, ?_⟩
  · by_cases e : o = 1
    · have q := t1 e
      rw [e] at q
      exact q
    · obtain ⟨q1, q2⟩ := hm e
      rw [q1]
      exact (h.rch.keep (k 1 (by decide) (by omega)) (k 2 (by decide) (by omega))).congr (fun r k hr hk => (q2 r k hr hk).symm)
  · by_cases e : o = 5
    · have q := t5 e
      rw [e] at q
      exact q
    · obtain ⟨q1, q2⟩ := ha e
      rw [q1]
      exact (h.acc.keep (k 5 (by decide) (by omega)) (k 6 (by decide) (by omega))).congr (fun r k hr hk => (q2 r k hr hk).symm)
  · by_cases e : o = 8
    · have q := t8 e
      rw [e] at q
      exact q
    · obtain ⟨q1, q2, q3⟩ := hr e
      rw [q1, q2]
      refine (h.rgt.keep (k 8 (by decide) (by omega)) (k 9 (by decide) (by omega))).congr (fun r k hr hk => ?_)
      by_cases e9 : k = 9
      · rw [if_pos e9, if_pos e9]
      · rw [if_neg e9, if_neg e9, q3 r k hr (by omega)]
  · by_cases e : o = 12
    · have q := t12 e
      rw [e] at q
      exact q
    · rw [hl e]
      exact h.lea.keep (k 12 (by decide) (by omega)) (k 13 (by decide) (by omega))
  · by_cases e : o = 14
    · have q := t14 e
      rw [e] at q
      exact q
    · rw [hp e]
      exact h.opt.keep (k 14 (by decide) (by omega)) (k 15 (by decide) (by omega))
  · by_cases e : o = 16
    · have q := t16 e
      rw [e] at q
      exact q
    · obtain ⟨q1, q2⟩ := hc e
      rw [q1]
      exact (h.clm.keep (k 16 (by decide) (by omega)) (k 17 (by decide) (by omega))).congr (fun r k hr hk => (q2 r k hr hk).symm)
  · by_cases e : o = 18
    · have q := t18 e
      rw [e] at q
      exact q
    · obtain ⟨q1, q2⟩ := hg e
      rw [q1, q2]
      exact h.gau.keep (k 18 (by decide) (by omega)) (k 19 (by decide) (by omega))
  · by_cases e : o = 20
    · have q := t20 e
      rw [e] at q
      exact q
    · obtain ⟨q1, q2⟩ := hh e
      rw [q1]
      exact (h.mon.keep (k 20 (by decide) (by omega)) (k 21 (by decide) (by omega))).congr (fun r k hr hk => (q2 _ k (by omega) hk).symm)
  · rw [k 3 (by decide) (by omega)]; exact fun k hk => (h.sea k hk).trans (z1 k hk).symm
  · rw [k 4 (by decide) (by omega)]; exact fun k hk h7 => (h.yea k hk (by have e7 := ct_eq z3; omega)).trans (z2 k hk).symm
  · rw [k2 7 (by decide) (by omega)]; exact h.bal
  · rw [k2 11 (by decide) (by omega)]; exact h.ear
  · rw [k 10 (by decide) (by omega), hsen.1]; exact fun k hk => (h.rnk k hk).trans (hsen.2 k hk).symm
  · rw [show μ'.1 b = μ.1 b from k 0 (by decide) (by omega), z3, z4, z5, z6, z7, z8]; exact h.sca
theorem SV.wAcc {μ μ' : Mm} {b : Nat} {LS OS : List (Nat → Int32)} {ng : Nat} {G : Nat → Nat → Int32} {cu : Nat → Int32} {s : Nat → Int32} {g : Nat → Int64} {s' : Nat → Int32} (h : SV μ b LS OS ng G cu s g) (hc : Cnt s) (hF : Fs (fun a => a = b + 5 ∨ a = b + 5 + 1) μ μ') (hT : Tb μ' (b + 5) 2 (ct s' 1) (fun a k => s' (26 + 5 * k + a))) (hs : ∀ j, Vis j → ¬ (26 ≤ j ∧ j < 36) → s' j = s j) : SV μ' b LS OS ng G cu s' g := by
  obtain ⟨c0, c1, c2, c3, c4⟩ := hc
  have v : ∀ j, (j < 521 ∧ (j ≠ 3 ∧ (j ≠ 4 ∧ (j ≠ 57 ∧ (¬ (158 ≤ j ∧ j < 242) ∧ ¬ (394 ≤ j ∧ j < 424)))))) → ¬ (26 ≤ j ∧ j < 36) → s' j = s j := hs
  have q0 : ct s' 0 = ct s 0 := ct_eq (v 0 (by omega) (by omega))
  have q1 : ct s' 1 = ct s 1 := ct_eq (v 1 (by omega) (by omega))
  have q2 : ct s' 2 = ct s 2 := ct_eq (v 2 (by omega) (by omega))
  have q3 : ct s' 56 = ct s 56 := ct_eq (v 56 (by omega) (by omega))
  have q4 : ct s' 424 = ct s 424 := ct_eq (v 424 (by omega) (by omega))
  refine h.setX (o := 5) hF (by decide) (fun _ => ⟨q0, fun r k hr hk => v _ (by omega) (by omega)⟩) (fun e => absurd rfl e) (fun _ => ⟨q2, rfl, fun r k hr hk => v _ (by omega) (by omega)⟩) (fun _ => rfl) (fun _ => rfl) (fun _ => ⟨q3, fun r k hr hk => v _ (by omega) (by omega)⟩) (fun _ => ⟨rfl, rfl⟩) (fun _ => ⟨q4, fun r k hr hk => v _ (by omega) (by omega)⟩) ⟨fun e => absurd e (by decide), fun _ => hT, fun e => absurd e (by decide), fun e => absurd e (by decide), fun e => absurd e (by decide), fun e => absurd e (by decide), fun e => absurd e (by decide), fun e => absurd e (by decide)⟩ ⟨fun k hk => v _ (by omega) (by omega), fun k hk => v _ (by omega) (by omega), v _ (by omega) (by omega), v _ (by omega) (by omega), v _ (by omega) (by omega), v _ (by omega) (by omega), v _ (by omega) (by omega), v _ (by omega) (by omega)⟩ ⟨q2, fun k _ => senI_eq (v 2 (by omega) (by omega)) (fun o ho => v _ (by omega) (by omega)) k⟩
theorem SV.wRch {μ μ' : Mm} {b : Nat} {LS OS : List (Nat → Int32)} {ng : Nat} {G : Nat → Nat → Int32} {cu : Nat → Int32} {s : Nat → Int32} {g : Nat → Int64} {s' : Nat → Int32} (h : SV μ b LS OS ng G cu s g) (hc : Cnt s) (hF : Fs (fun a => a = b + 1 ∨ a = b + 1 + 1) μ μ') (hT : Tb μ' (b + 1) 3 (ct s' 0) (fun r k => s' (8 + 6 * k + r))) (hs : ∀ j, Vis j → ¬ (8 ≤ j ∧ j < 26) → s' j = s j) : SV μ' b LS OS ng G cu s' g := by
  obtain ⟨c0, c1, c2, c3, c4⟩ := hc
  have v : ∀ j, (j < 521 ∧ (j ≠ 3 ∧ (j ≠ 4 ∧ (j ≠ 57 ∧ (¬ (158 ≤ j ∧ j < 242) ∧ ¬ (394 ≤ j ∧ j < 424)))))) → ¬ (8 ≤ j ∧ j < 26) → s' j = s j := hs
  have q0 : ct s' 0 = ct s 0 := ct_eq (v 0 (by omega) (by omega))
  have q1 : ct s' 1 = ct s 1 := ct_eq (v 1 (by omega) (by omega))
  have q2 : ct s' 2 = ct s 2 := ct_eq (v 2 (by omega) (by omega))
  have q3 : ct s' 56 = ct s 56 := ct_eq (v 56 (by omega) (by omega))
  have q4 : ct s' 424 = ct s 424 := ct_eq (v 424 (by omega) (by omega))
  refine h.setX (o := 1) hF (by decide) (fun e => absurd rfl e) (fun _ => ⟨q1, fun r k hr hk => v _ (by omega) (by omega)⟩) (fun _ => ⟨q2, rfl, fun r k hr hk => v _ (by omega) (by omega)⟩) (fun _ => rfl) (fun _ => rfl) (fun _ => ⟨q3, fun r k hr hk => v _ (by omega) (by omega)⟩) (fun _ => ⟨rfl, rfl⟩) (fun _ => ⟨q4, fun r k hr hk => v _ (by omega) (by omega)⟩) ⟨fun _ => hT, fun e => absurd e (by decide), fun e => absurd e (by decide), fun e => absurd e (by decide), fun e => absurd e (by decide), fun e => absurd e (by decide), fun e => absurd e (by decide), fun e => absurd e (by decide)⟩ ⟨fun k hk => v _ (by omega) (by omega), fun k hk => v _ (by omega) (by omega), v _ (by omega) (by omega), v _ (by omega) (by omega), v _ (by omega) (by omega), v _ (by omega) (by omega), v _ (by omega) (by omega), v _ (by omega) (by omega)⟩ ⟨q2, fun k _ => senI_eq (v 2 (by omega) (by omega)) (fun o ho => v _ (by omega) (by omega)) k⟩
theorem SV.wRgt {μ μ' : Mm} {b : Nat} {LS OS : List (Nat → Int32)} {ng : Nat} {G : Nat → Nat → Int32} {cu : Nat → Int32} {s : Nat → Int32} {g : Nat → Int64} {s' : Nat → Int32} {cu' : Nat → Int32} (h : SV μ b LS OS ng G cu s g) (hc : Cnt s) (hF : Fs (fun a => a = b + 8 ∨ a = b + 8 + 1) μ μ') (hT : Tb μ' (b + 8) 10 (ct s' 2) (fun r k => if k = 9 then cu' r else s' (58 + 10 * r + k))) (hs : ∀ j, Vis j → ¬ (58 ≤ j ∧ j < 158) → s' j = s j) (hp : ∀ o, o < ct s 2 → s' (58 + 10 * o + 2) = s (58 + 10 * o + 2)) : SV μ' b LS OS ng G cu' s' g := by
  obtain ⟨c0, c1, c2, c3, c4⟩ := hc
  have v : ∀ j, (j < 521 ∧ (j ≠ 3 ∧ (j ≠ 4 ∧ (j ≠ 57 ∧ (¬ (158 ≤ j ∧ j < 242) ∧ ¬ (394 ≤ j ∧ j < 424)))))) → ¬ (58 ≤ j ∧ j < 158) → s' j = s j := hs
  have q0 : ct s' 0 = ct s 0 := ct_eq (v 0 (by omega) (by omega))
  have q1 : ct s' 1 = ct s 1 := ct_eq (v 1 (by omega) (by omega))
  have q2 : ct s' 2 = ct s 2 := ct_eq (v 2 (by omega) (by omega))
  have q3 : ct s' 56 = ct s 56 := ct_eq (v 56 (by omega) (by omega))
  have q4 : ct s' 424 = ct s 424 := ct_eq (v 424 (by omega) (by omega))
  refine h.setX (o := 8) hF (by decide) (fun _ => ⟨q0, fun r k hr hk => v _ (by omega) (by omega)⟩) (fun _ => ⟨q1, fun r k hr hk => v _ (by omega) (by omega)⟩) (fun e => absurd rfl e) (fun _ => rfl) (fun _ => rfl) (fun _ => ⟨q3, fun r k hr hk => v _ (by omega) (by omega)⟩) (fun _ => ⟨rfl, rfl⟩) (fun _ => ⟨q4, fun r k hr hk => v _ (by omega) (by omega)⟩) ⟨fun e => absurd e (by decide), fun e => absurd e (by decide), fun _ => hT, fun e => absurd e (by decide), fun e => absurd e (by decide), fun e => absurd e (by decide), fun e => absurd e (by decide), fun e => absurd e (by decide)⟩ ⟨fun k hk => v _ (by omega) (by omega), fun k hk => v _ (by omega) (by omega), v _ (by omega) (by omega), v _ (by omega) (by omega), v _ (by omega) (by omega), v _ (by omega) (by omega), v _ (by omega) (by omega), v _ (by omega) (by omega)⟩ ⟨q2, fun k _ => senI_eq (v 2 (by omega) (by omega)) hp k⟩
theorem SV.wClm {μ μ' : Mm} {b : Nat} {LS OS : List (Nat → Int32)} {ng : Nat} {G : Nat → Nat → Int32} {cu : Nat → Int32} {s : Nat → Int32} {g : Nat → Int64} {s' : Nat → Int32} (h : SV μ b LS OS ng G cu s g) (hc : Cnt s) (hF : Fs (fun a => a = b + 16 ∨ a = b + 16 + 1) μ μ') (hT : Tb μ' (b + 16) 8 (ct s' 56) (fun c k => s' (242 + 8 * c + k))) (hs : ∀ j, Vis j → (j ≠ 56 ∧ ¬ (242 ≤ j ∧ j < 394)) → s' j = s j) : SV μ' b LS OS ng G cu s' g := by
  obtain ⟨c0, c1, c2, c3, c4⟩ := hc
  have v : ∀ j, (j < 521 ∧ (j ≠ 3 ∧ (j ≠ 4 ∧ (j ≠ 57 ∧ (¬ (158 ≤ j ∧ j < 242) ∧ ¬ (394 ≤ j ∧ j < 424)))))) → (j ≠ 56 ∧ ¬ (242 ≤ j ∧ j < 394)) → s' j = s j := hs
  have q0 : ct s' 0 = ct s 0 := ct_eq (v 0 (by omega) (by omega))
  have q1 : ct s' 1 = ct s 1 := ct_eq (v 1 (by omega) (by omega))
  have q2 : ct s' 2 = ct s 2 := ct_eq (v 2 (by omega) (by omega))
  have q4 : ct s' 424 = ct s 424 := ct_eq (v 424 (by omega) (by omega))
  refine h.setX (o := 16) hF (by decide) (fun _ => ⟨q0, fun r k hr hk => v _ (by omega) (by omega)⟩) (fun _ => ⟨q1, fun r k hr hk => v _ (by omega) (by omega)⟩) (fun _ => ⟨q2, rfl, fun r k hr hk => v _ (by omega) (by omega)⟩) (fun _ => rfl) (fun _ => rfl) (fun e => absurd rfl e) (fun _ => ⟨rfl, rfl⟩) (fun _ => ⟨q4, fun r k hr hk => v _ (by omega) (by omega)⟩) ⟨fun e => absurd e (by decide), fun e => absurd e (by decide), fun e => absurd e (by decide), fun e => absurd e (by decide), fun e => absurd e (by decide), fun _ => hT, fun e => absurd e (by decide), fun e => absurd e (by decide)⟩ ⟨fun k hk => v _ (by omega) (by omega), fun k hk => v _ (by omega) (by omega), v _ (by omega) (by omega), v _ (by omega) (by omega), v _ (by omega) (by omega), v _ (by omega) (by omega), v _ (by omega) (by omega), v _ (by omega) (by omega)⟩ ⟨q2, fun k _ => senI_eq (v 2 (by omega) (by omega)) (fun o ho => v _ (by omega) (by omega)) k⟩
theorem SV.wMon {μ μ' : Mm} {b : Nat} {LS OS : List (Nat → Int32)} {ng : Nat} {G : Nat → Nat → Int32} {cu : Nat → Int32} {s : Nat → Int32} {g : Nat → Int64} {s' : Nat → Int32} (h : SV μ b LS OS ng G cu s g) (hc : Cnt s) (hF : Fs (fun a => a = b + 20 ∨ a = b + 20 + 1) μ μ') (hT : Tb μ' (b + 20) 4 (ct s' 424) (fun h k => s' (425 + 4 * (ct s' 424 - 1 - h) + k))) (hs : ∀ j, Vis j → ¬ (424 ≤ j ∧ j < 521) → s' j = s j) : SV μ' b LS OS ng G cu s' g := by
  obtain ⟨c0, c1, c2, c3, c4⟩ := hc
  have v : ∀ j, (j < 521 ∧ (j ≠ 3 ∧ (j ≠ 4 ∧ (j ≠ 57 ∧ (¬ (158 ≤ j ∧ j < 242) ∧ ¬ (394 ≤ j ∧ j < 424)))))) → ¬ (424 ≤ j ∧ j < 521) → s' j = s j := hs
  have q0 : ct s' 0 = ct s 0 := ct_eq (v 0 (by omega) (by omega))
  have q1 : ct s' 1 = ct s 1 := ct_eq (v 1 (by omega) (by omega))
  have q2 : ct s' 2 = ct s 2 := ct_eq (v 2 (by omega) (by omega))
  have q3 : ct s' 56 = ct s 56 := ct_eq (v 56 (by omega) (by omega))
  refine h.setX (o := 20) hF (by decide) (fun _ => ⟨q0, fun r k hr hk => v _ (by omega) (by omega)⟩) (fun _ => ⟨q1, fun r k hr hk => v _ (by omega) (by omega)⟩) (fun _ => ⟨q2, rfl, fun r k hr hk => v _ (by omega) (by omega)⟩) (fun _ => rfl) (fun _ => rfl) (fun _ => ⟨q3, fun r k hr hk => v _ (by omega) (by omega)⟩) (fun _ => ⟨rfl, rfl⟩) (fun e => absurd rfl e) ⟨fun e => absurd e (by decide), fun e => absurd e (by decide), fun e => absurd e (by decide), fun e => absurd e (by decide), fun e => absurd e (by decide), fun e => absurd e (by decide), fun e => absurd e (by decide), fun _ => hT⟩ ⟨fun k hk => v _ (by omega) (by omega), fun k hk => v _ (by omega) (by omega), v _ (by omega) (by omega), v _ (by omega) (by omega), v _ (by omega) (by omega), v _ (by omega) (by omega), v _ (by omega) (by omega), v _ (by omega) (by omega)⟩ ⟨q2, fun k _ => senI_eq (v 2 (by omega) (by omega)) (fun o ho => v _ (by omega) (by omega)) k⟩
theorem SV.wGau {μ μ' : Mm} {b : Nat} {LS OS : List (Nat → Int32)} {ng : Nat} {G : Nat → Nat → Int32} {cu : Nat → Int32} {s : Nat → Int32} {g : Nat → Int64} {ng' : Nat} {G' : Nat → Nat → Int32} (h : SV μ b LS OS ng G cu s g) (hF : Fs (fun a => a = b + 18 ∨ a = b + 18 + 1) μ μ') (hT : Tb μ' (b + 18) 5 ng' G') : SV μ' b LS OS ng' G' cu s g :=
  h.setX (o := 18) hF (by decide) (fun _ => ⟨rfl, fun _ _ _ _ => rfl⟩) (fun _ => ⟨rfl, fun _ _ _ _ => rfl⟩) (fun _ => ⟨rfl, rfl, fun _ _ _ _ => rfl⟩) (fun _ => rfl) (fun _ => rfl) (fun _ => ⟨rfl, fun _ _ _ _ => rfl⟩) (fun e => absurd rfl e) (fun _ => ⟨rfl, fun _ _ _ _ => rfl⟩) ⟨fun e => absurd e (by decide), fun e => absurd e (by decide), fun e => absurd e (by decide), fun e => absurd e (by decide), fun e => absurd e (by decide), fun e => absurd e (by decide), fun _ => hT, fun e => absurd e (by decide)⟩ ⟨fun _ _ => rfl, fun _ _ => rfl, rfl, rfl, rfl, rfl, rfl, rfl⟩ ⟨rfl, fun _ _ => rfl⟩
theorem SV.wLea {μ μ' : Mm} {b : Nat} {LS OS : List (Nat → Int32)} {ng : Nat} {G : Nat → Nat → Int32} {cu : Nat → Int32} {s : Nat → Int32} {g : Nat → Int64} {LS' : List (Nat → Int32)} (h : SV μ b LS OS ng G cu s g) (hF : Fs (fun a => a = b + 12 ∨ a = b + 12 + 1) μ μ') (hT : Tb μ' (b + 12) 6 LS'.length (lf LS')) : SV μ' b LS' OS ng G cu s g :=
  h.setX (o := 12) hF (by decide) (fun _ => ⟨rfl, fun _ _ _ _ => rfl⟩) (fun _ => ⟨rfl, fun _ _ _ _ => rfl⟩) (fun _ => ⟨rfl, rfl, fun _ _ _ _ => rfl⟩) (fun e => absurd rfl e) (fun _ => rfl) (fun _ => ⟨rfl, fun _ _ _ _ => rfl⟩) (fun _ => ⟨rfl, rfl⟩) (fun _ => ⟨rfl, fun _ _ _ _ => rfl⟩) ⟨fun e => absurd e (by decide), fun e => absurd e (by decide), fun e => absurd e (by decide), fun _ => hT, fun e => absurd e (by decide), fun e => absurd e (by decide), fun e => absurd e (by decide), fun e => absurd e (by decide)⟩ ⟨fun _ _ => rfl, fun _ _ => rfl, rfl, rfl, rfl, rfl, rfl, rfl⟩ ⟨rfl, fun _ _ => rfl⟩
theorem SV.wOpt {μ μ' : Mm} {b : Nat} {LS OS : List (Nat → Int32)} {ng : Nat} {G : Nat → Nat → Int32} {cu : Nat → Int32} {s : Nat → Int32} {g : Nat → Int64} {OS' : List (Nat → Int32)} (h : SV μ b LS OS ng G cu s g) (hF : Fs (fun a => a = b + 14 ∨ a = b + 14 + 1) μ μ') (hT : Tb μ' (b + 14) 6 OS'.length (lf OS')) : SV μ' b LS OS' ng G cu s g :=
  h.setX (o := 14) hF (by decide) (fun _ => ⟨rfl, fun _ _ _ _ => rfl⟩) (fun _ => ⟨rfl, fun _ _ _ _ => rfl⟩) (fun _ => ⟨rfl, rfl, fun _ _ _ _ => rfl⟩) (fun _ => rfl) (fun e => absurd rfl e) (fun _ => ⟨rfl, fun _ _ _ _ => rfl⟩) (fun _ => ⟨rfl, rfl⟩) (fun _ => ⟨rfl, fun _ _ _ _ => rfl⟩) ⟨fun e => absurd e (by decide), fun e => absurd e (by decide), fun e => absurd e (by decide), fun e => absurd e (by decide), fun _ => hT, fun e => absurd e (by decide), fun e => absurd e (by decide), fun e => absurd e (by decide)⟩ ⟨fun _ _ => rfl, fun _ _ => rfl, rfl, rfl, rfl, rfl, rfl, rfl⟩ ⟨rfl, fun _ _ => rfl⟩
theorem SV.wRnk {μ μ' : Mm} {b : Nat} {LS OS : List (Nat → Int32)} {ng : Nat} {G : Nat → Nat → Int32} {cu : Nat → Int32} {s : Nat → Int32} {g : Nat → Int64} (h : SV μ b LS OS ng G cu s g) (hF : Fs (fun a => a = b + 10) μ μ') (hT : ∀ k, k < ct s 2 → μ'.1 (b + 10) k = senI s k) : SV μ' b LS OS ng G cu s g := by
  have k : ∀ j, j ≠ 10 → μ'.1 (b + j) = μ.1 (b + j) := fun j hj => (hF.1 _ (by omega)).1
  have k2 : ∀ j, j ≠ 10 → μ'.2.1 (b + j) = μ.2.1 (b + j) := fun j hj => (hF.1 _ (by omega)).2
  exact ⟨h.rch.keep (k 1 (by decide)) (k 2 (by decide)), h.acc.keep (k 5 (by decide)) (k 6 (by decide)), h.rgt.keep (k 8 (by decide)) (k 9 (by decide)), h.lea.keep (k 12 (by decide)) (k 13 (by decide)), h.opt.keep (k 14 (by decide)) (k 15 (by decide)), h.clm.keep (k 16 (by decide)) (k 17 (by decide)), h.gau.keep (k 18 (by decide)) (k 19 (by decide)), h.mon.keep (k 20 (by decide)) (k 21 (by decide)), by rw [show μ'.1 (b + 3) = μ.1 (b + 3) from k 3 (by decide)]; exact h.sea, by rw [show μ'.1 (b + 4) = μ.1 (b + 4) from k 4 (by decide)]; exact h.yea, by rw [show μ'.2.1 (b + 7) = μ.2.1 (b + 7) from k2 7 (by decide)]; exact h.bal, by rw [show μ'.2.1 (b + 11) = μ.2.1 (b + 11) from k2 11 (by decide)]; exact h.ear, hT, by rw [show μ'.1 b = μ.1 b from k 0 (by decide)]; exact h.sca⟩
theorem SV.wBal0 {μ μ' : Mm} {b : Nat} {LS OS : List (Nat → Int32)} {ng : Nat} {G : Nat → Nat → Int32} {cu : Nat → Int32} {s : Nat → Int32} {g : Nat → Int64} (h : SV μ b LS OS ng G cu s g) (hF : Fs (fun a => a = b + 7) μ μ') (hT : ∀ k, k < 5 → μ'.2.1 (b + 7) k = g k) : SV μ' b LS OS ng G cu s g := by
  have k : ∀ j, j ≠ 7 → μ'.1 (b + j) = μ.1 (b + j) := fun j hj => (hF.1 _ (by omega)).1
  have k2 : ∀ j, j ≠ 7 → μ'.2.1 (b + j) = μ.2.1 (b + j) := fun j hj => (hF.1 _ (by omega)).2
  exact ⟨h.rch.keep (k 1 (by decide)) (k 2 (by decide)), h.acc.keep (k 5 (by decide)) (k 6 (by decide)), h.rgt.keep (k 8 (by decide)) (k 9 (by decide)), h.lea.keep (k 12 (by decide)) (k 13 (by decide)), h.opt.keep (k 14 (by decide)) (k 15 (by decide)), h.clm.keep (k 16 (by decide)) (k 17 (by decide)), h.gau.keep (k 18 (by decide)) (k 19 (by decide)), h.mon.keep (k 20 (by decide)) (k 21 (by decide)), by rw [show μ'.1 (b + 3) = μ.1 (b + 3) from k 3 (by decide)]; exact h.sea, by rw [show μ'.1 (b + 4) = μ.1 (b + 4) from k 4 (by decide)]; exact h.yea, hT, by rw [show μ'.2.1 (b + 11) = μ.2.1 (b + 11) from k2 11 (by decide)]; exact h.ear, by rw [show μ'.1 (b + 10) = μ.1 (b + 10) from k 10 (by decide)]; exact h.rnk, by rw [show μ'.1 b = μ.1 b from k 0 (by decide)]; exact h.sca⟩
theorem SV.wBal {μ μ' : Mm} {b : Nat} {LS OS : List (Nat → Int32)} {ng : Nat} {G : Nat → Nat → Int32} {cu : Nat → Int32} {s : Nat → Int32} {g : Nat → Int64} {g' : Nat → Int64} (h : SV μ b LS OS ng G cu s g) (hF : Fs (fun a => a = b + 7) μ μ') (hT : ∀ k, k < 5 → μ'.2.1 (b + 7) k = g' k) (hg : ∀ k, ¬ k < 5 → g' k = g k) : SV μ' b LS OS ng G cu s g' := by
  have k : ∀ j, j ≠ 7 → μ'.1 (b + j) = μ.1 (b + j) := fun j hj => (hF.1 _ (by omega)).1
  have k2 : ∀ j, j ≠ 7 → μ'.2.1 (b + j) = μ.2.1 (b + j) := fun j hj => (hF.1 _ (by omega)).2
  exact ⟨h.rch.keep (k 1 (by decide)) (k 2 (by decide)), h.acc.keep (k 5 (by decide)) (k 6 (by decide)), h.rgt.keep (k 8 (by decide)) (k 9 (by decide)), h.lea.keep (k 12 (by decide)) (k 13 (by decide)), h.opt.keep (k 14 (by decide)) (k 15 (by decide)), h.clm.keep (k 16 (by decide)) (k 17 (by decide)), h.gau.keep (k 18 (by decide)) (k 19 (by decide)), h.mon.keep (k 20 (by decide)) (k 21 (by decide)), by rw [k 3 (by decide)]; exact h.sea, by rw [k 4 (by decide)]; exact h.yea, hT, by rw [k2 11 (by decide)]; exact fun k hk => (h.ear k hk).trans (hg _ (by omega)).symm, by rw [k 10 (by decide)]; exact h.rnk, by rw [show μ'.1 b = μ.1 b from k 0 (by decide)]; exact h.sca⟩
theorem SV.wEar {μ μ' : Mm} {b : Nat} {LS OS : List (Nat → Int32)} {ng : Nat} {G : Nat → Nat → Int32} {cu : Nat → Int32} {s : Nat → Int32} {g : Nat → Int64} {g' : Nat → Int64} (h : SV μ b LS OS ng G cu s g) (hF : Fs (fun a => a = b + 11) μ μ') (hT : ∀ k, k < 10 → μ'.2.1 (b + 11) k = g' (5 + k)) (hg : ∀ k, k < 5 → g' k = g k) : SV μ' b LS OS ng G cu s g' := by
  have k : ∀ j, j ≠ 11 → μ'.1 (b + j) = μ.1 (b + j) := fun j hj => (hF.1 _ (by omega)).1
  have k2 : ∀ j, j ≠ 11 → μ'.2.1 (b + j) = μ.2.1 (b + j) := fun j hj => (hF.1 _ (by omega)).2
  exact ⟨h.rch.keep (k 1 (by decide)) (k 2 (by decide)), h.acc.keep (k 5 (by decide)) (k 6 (by decide)), h.rgt.keep (k 8 (by decide)) (k 9 (by decide)), h.lea.keep (k 12 (by decide)) (k 13 (by decide)), h.opt.keep (k 14 (by decide)) (k 15 (by decide)), h.clm.keep (k 16 (by decide)) (k 17 (by decide)), h.gau.keep (k 18 (by decide)) (k 19 (by decide)), h.mon.keep (k 20 (by decide)) (k 21 (by decide)), by rw [k 3 (by decide)]; exact h.sea, by rw [k 4 (by decide)]; exact h.yea, by rw [k2 7 (by decide)]; exact fun k hk => (h.bal k hk).trans (hg k hk).symm, hT, by rw [k 10 (by decide)]; exact h.rnk, by rw [show μ'.1 b = μ.1 b from k 0 (by decide)]; exact h.sca⟩
/-- the plain numbers 5 6 7 53 54 55 -/
theorem SV.wSca {μ μ' : Mm} {b : Nat} {LS OS : List (Nat → Int32)} {ng : Nat} {G : Nat → Nat → Int32} {cu : Nat → Int32} {s : Nat → Int32} {g : Nat → Int64} {s' : Nat → Int32} (h : SV μ b LS OS ng G cu s g) (hc : Cnt s) (hF : Fs (fun a => a = b) μ μ') (hT : μ'.1 b 3 = s' 7 ∧ (μ'.1 b 14 = s' 5 ∧ (μ'.1 b 15 = s' 6 ∧ (μ'.1 b 16 = s' 53 ∧ (μ'.1 b 17 = s' 54 ∧ μ'.1 b 18 = s' 55))))) (hs : ∀ j, Vis j → ¬ (j = 5 ∨ (j = 6 ∨ (j = 53 ∨ (j = 54 ∨ j = 55)))) → s' j = s j) : SV μ' b LS OS ng G cu s' g := by
  obtain ⟨c0, c1, c2, c3, c4⟩ := hc
  have v : ∀ j, (j < 521 ∧ (j ≠ 3 ∧ (j ≠ 4 ∧ (j ≠ 57 ∧ (¬ (158 ≤ j ∧ j < 242) ∧ ¬ (394 ≤ j ∧ j < 424)))))) → ¬ (j = 5 ∨ (j = 6 ∨ (j = 53 ∨ (j = 54 ∨ j = 55)))) → s' j = s j := hs
  have k : ∀ j, j ≠ 0 → μ'.1 (b + j) = μ.1 (b + j) := fun j hj => (hF.1 _ (by omega)).1
  have k2 : ∀ j, j ≠ 0 → μ'.2.1 (b + j) = μ.2.1 (b + j) := fun j hj => (hF.1 _ (by omega)).2
  have q0 : ct s' 0 = ct s 0 := ct_eq (v 0 (by omega) (by omega))
  have q1 : ct s' 1 = ct s 1 := ct_eq (v 1 (by omega) (by omega))
  have q2 : ct s' 2 = ct s 2 := ct_eq (v 2 (by omega) (by omega))
  have q3 : ct s' 56 = ct s 56 := ct_eq (v 56 (by omega) (by omega))
  have q4 : ct s' 424 = ct s 424 := ct_eq (v 424 (by omega) (by omega))
  unfold SV
  rw [q0, q1, q2, q3, q4]
  refine ⟨(h.rch.keep (k 1 (by decide)) (k 2 (by decide))).congr (fun r k hr hk => (v _ (by omega) (by omega)).symm), (h.acc.keep (k 5 (by decide)) (k 6 (by decide))).congr (fun r k hr hk => (v _ (by omega) (by omega)).symm), (h.rgt.keep (k 8 (by decide)) (k 9 (by decide))).congr (fun r k hr hk => ?_), h.lea.keep (k 12 (by decide)) (k 13 (by decide)), h.opt.keep (k 14 (by decide)) (k 15 (by decide)), (h.clm.keep (k 16 (by decide)) (k 17 (by decide))).congr (fun r k hr hk => (v _ (by omega) (by omega)).symm), h.gau.keep (k 18 (by decide)) (k 19 (by decide)), (h.mon.keep (k 20 (by decide)) (k 21 (by decide))).congr (fun r k hr hk => (v _ (by omega) (by omega)).symm), ?_, ?_, ?_, ?_, ?_, hT⟩
  · by_cases e9 : k = 9
    · rw [if_pos e9, if_pos e9]
    · rw [if_neg e9, if_neg e9, v _ (by omega) (by omega)]
  · rw [k 3 (by decide)]; exact fun k hk => (h.sea k hk).trans (v _ (by omega) (by omega)).symm
  · rw [k 4 (by decide)]; exact fun k hk h7 => (h.yea k hk (by have e7 := ct_eq (v 7 (by omega) (by omega)); omega)).trans (v _ (by omega) (by omega)).symm
  · rw [k2 7 (by decide)]; exact h.bal
  · rw [k2 11 (by decide)]; exact h.ear
  · rw [k 10 (by decide)]; exact fun k hk => (h.rnk k hk).trans (senI_eq (v 2 (by omega) (by omega)) (fun o ho => v _ (by omega) (by omega)) k).symm

