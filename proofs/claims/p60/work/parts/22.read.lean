/-! ===== reading a state of the class ===== -/
def Vt (s : Nat → Int32) : Prop := s 5 = nI (ct s 5) ∧ (ct s 5 < 2 ^ 30 ∧ (s 7 = nI (ct s 7) ∧ (1 ≤ ct s 7 ∧ ct s 7 ≤ 5)))
def yrP (s : Nat → Int32) (y : Nat) : Int32 := s (48 + y % ct s 7)
def comN (s : Nat → Int32) (r : Nat) : Int32 := s (8 + r) * s (36 + ct s 5 % 12) / 100 * yrP s (ct s 5 / 12) / 100 + s (20 + r)
theorem x_rem12 {t : Nat} (h : t < 2 ^ 31) : nI t - nI t / 12 * 12 = nI (t % 12) := pk_rem (d := 12) h (by decide) (by decide)
theorem x_div12 {t : Nat} (h : t < 2 ^ 31) : nI t / 12 = nI (t / 12) := pk_div (d := 12) h (by decide) (by decide)
theorem be_ {α β : Type} {x : Option α} {a : α} {f : α → Option β} {r : Option β} (e : x = some a) (h : f a = r) : x.bind f = r := by rw [e]; exact h
section RD
variable {μ : Mm} {b : Nat} {LS OS : List (Nat → Int32)} {ng : Nat} {G : Nat → Nat → Int32} {cu : Nat → Int32} {s : Nat → Int32} {g : Nat → Int64}
theorem x1_sea (h : SV μ b LS OS ng G cu s g) (hb : kd b = 1) {m : Nat} (hm : m < 12) : F_X1_seasonPercentOf b (nI m) μ = some (s (36 + m)) := by
  have l := st_ln hb 3 (by decide)
  have e : (qStL.getD 3 (0, 0)).2 = 12 := rfl
  unfold F_X1_seasonPercentOf
  rw [if_neg (nI_pos (by omega)), if_neg (show ¬ (12 : Int32) ≤ nI m from nI_ge (b := 12) hm (by omega)), aI_ok rfl (by omega), h.sea m hm]
  rfl
theorem x1_yea (h : SV μ b LS OS ng G cu s g) (hb : kd b = 1) (hv : Vt s) {y : Nat} (hy : y < 2 ^ 31) : F_X1_percentOfYear b (nI y) μ = some (yrP s y) := by
  have l := st_ln hb 4 (by decide)
  have e : (qStL.getD 4 (0, 0)).2 = 5 := rfl
  obtain ⟨-, -, e7, h1, h5⟩ := hv
  have hm := Nat.mod_lt y (show 0 < ct s 7 by omega)
  unfold F_X1_percentOfYear
  rw [h.sca.1, e7, if_neg (nI_pos hy), if_neg (nI_nle (by omega) (by omega)), if_pos (show nI (ct s 7) ≤ (5 : Int32) from nI_le (b := 5) h5 (by decide))]
  unfold irm
  rw [if_neg (nI_ne0 (by omega) (by omega)), pk_rem hy (by omega) (by omega)]
  show (aI μ (b + 4) (nI (y % ct s 7))).bind _ = _
  rw [aI_ok rfl (by omega), h.yea _ (by omega) hm]
  rfl
theorem x1_com (h : SV μ b LS OS ng G cu s g) (hb : kd b = 1) (hv : Vt s) {r : Nat} (hr : r < ct s 0) : F_X1_comingInto b (nI r) μ = some (comN s r) := by
  have ht := hv.2.1
  unfold F_X1_comingInto
  rw [h.sca.2.1, hv.1, x_rem12 (by omega), x_div12 (by omega)]
  exact be_ (x2_get (k := 0) h.rch hr (by decide)) (be_ (x1_sea h hb (Nat.mod_lt _ (by decide))) (be_ (x1_yea h hb hv (y := ct s 5 / 12) (by omega)) (be_ (x2_get (k := 2) h.rch hr (by decide)) rfl)))
theorem x1_exe (h : SV μ b LS OS ng G cu s g) (hb : kd b = 1) (hv : Vt s) {o t : Nat} (ho : o < OS.length) (ht : t < 2 ^ 31) : F_X1_isExercised b (nI o) (nI t) μ = some (if yrP s (t / 12) < lf OS o 3 then 1 else 0) := by
  unfold F_X1_isExercised
  rw [x_div12 ht]
  refine be_ (x1_yea h hb hv (y := t / 12) (by omega)) (be_ (x2_get (k := 3) h.opt ho (by decide)) ?_)
  by_cases e : lf OS o 3 ≤ yrP s (t / 12)
  · rw [if_pos e, if_neg (Int32.not_lt.mpr e)]
  · rw [if_neg e, if_pos (Int32.not_le.mp e)]
theorem x1_rnk (h : SV μ b LS OS ng G cu s g) (hb : kd b = 1) {k : Nat} (hk : k < ct s 2) : F_X1_rightAtRank b (nI k) μ = some (senI s k) := by
  have l := st_ln hb 10 (by decide)
  have e : (qStL.getD 10 (0, 0)).2 = 10 := rfl
  have hc := (h.cnt hb).2.2.1
  unfold F_X1_rightAtRank
  refine be_ ((x2_has h.rgt _).trans (congrArg some (if_pos ⟨nI_pos' (by omega), nI_lt hk (by omega)⟩))) ?_
  rw [if_neg (by decide), if_neg (show ¬ (10 : Int32) ≤ nI k from nI_ge (b := 10) (by omega) (by omega)), aI_ok rfl (by omega), h.rnk k hk]
  rfl
theorem x1_rnkO (h : SV μ b LS OS ng G cu s g) {i : Int32} (hi : i < 0 ∨ nI (ct s 2) ≤ i) : F_X1_rightAtRank b i μ = some (-1) := by
  unfold F_X1_rightAtRank
  exact be_ ((x2_has h.rgt _).trans (congrArg some (if_neg (fun q => hi.elim (fun z => absurd z (Int32.not_lt.mpr q.1)) (fun z => absurd q.2 (Int32.not_lt.mpr z)))))) rfl
theorem x1_out (h : SV μ b LS OS ng G cu s g) (hb : kd b = 1) : F_X1_outflowOfMonth b μ = some (if ng = 0 then 0 else G (ng - 1) 2) := by
  have hc := (h.lea_le hb).2.2
  unfold F_X1_outflowOfMonth
  rw [h.gau.2.1]
  by_cases e : ng = 0
  · rw [if_pos e, e, x2_getO h.gau (Or.inl (by decide))]
    rfl
  · rw [if_neg e, nI_sub1 (by omega)]
    exact be_ (x2_get (k := 2) h.gau (by omega) (by decide)) rfl
end RD

