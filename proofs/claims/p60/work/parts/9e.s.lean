/-! ===== leases and options: the reference's fields ===== -/
theorem bind_eta {α β : Type} {x : Option (α × β)} : (x.bind fun o => some (o.1, o.2)) = x := by cases x <;> rfl
section TRD
variable {f : Nat → Int32} {n t a k o : Nat} {s s' : Nat → Int32} {q : Int32} {b b' μ μ' μc μm : Mm}
section MXT
variable {B : Nat} {p1 h3 h4 l5 h5 : Int32} {K : Mm → Option Mm} {w : Int32}
end MXT
/-! the class' lease -/
def leG (a b c d e : Int32) (μ : Mm) : Option Mm := (F_X0_takeNumber (1 : Int32) (36 : Int32) μ).bind fun o25 => (F_X1_addLease 47 a b c d e o25.1 o25.2).bind fun o29 => some o29.2
def leF (a b c d : Int32) (μ : Mm) : Option Mm := (F_X0_takeNumber (0 : Int32) (99 : Int32) μ).bind fun o21 => leG a b c d o21.1 o21.2
def leE (a b c : Int32) (μ : Mm) : Option Mm := (F_X0_takeNumber (1 : Int32) (999 : Int32) μ).bind fun o17 => leF a b c o17.1 o17.2
def leD (a b : Int32) (μ : Mm) : Option Mm := (F_X0_takeNumber (0 : Int32) ((μ.1 48 2) - (1 : Int32)) μ).bind fun o13 => leE a b o13.1 o13.2
def leC (a : Int32) (μ : Mm) : Option Mm := (F_X0_takeNumber (0 : Int32) ((μ.1 52 2) - (1 : Int32)) μ).bind fun o9 => leD a o9.1 o9.2
def leA (μ : Mm) : Option Mm := (F_X0_takeNumber (0 : Int32) ((μ.1 55 2) - (1 : Int32)) μ).bind fun o5 => leC o5.1 o5.2
theorem le_eq : F_X0_readLease μ = (F_X0_takeRowWord 59 (8 : Int32) μ).bind leA := rfl
theorem fx_leG {x y z v w : Int32} (h : FX f n k o b μ) : Op (leG x y z v w μ) (FX f n k o b) := op_eb (fx_num h) (op_mb (fx_lea h) (fun m q => op_r q))
theorem fx_leF {x y z v : Int32} (h : FX f n k o b μ) : Op (leF x y z v μ) (FX f n k o b) := op_eb (fx_num h) (fx_leG h)
theorem fx_leE {x y z : Int32} (h : FX f n k o b μ) : Op (leE x y z μ) (FX f n k o b) := op_eb (fx_num h) (fx_leF h)
theorem fx_leD {x y : Int32} (h : FX f n k o b μ) : Op (leD x y μ) (FX f n k o b) := op_eb (fx_num h) (fx_leE h)
theorem fx_leC {x : Int32} (h : FX f n k o b μ) : Op (leC x μ) (FX f n k o b) := op_eb (fx_num h) (fx_leD h)
theorem fx_leA (h : FX f n k o b μ) : Op (leA μ) (FX f n k o b) := op_eb (fx_num h) (fx_leC h)
/-- a row of six laid at B, a count raised -/
def rw6S (s : Nat → Int32) (B c : Nat) (a0 a1 a2 a3 a4 a5 : Int32) : Nat → Int32 := upd (upd (upd (upd (upd (upd (upd s (B + 0) a0) (B + 1) a1) (B + 2) a2) (B + 3) a3) (B + 4) a4) (B + 5) a5) c (s c + 1)
theorem rw6S_n {B c j : Nat} {a0 a1 a2 a3 a4 a5 : Int32} (h1 : j ≠ c) (h2 : ¬ (B ≤ j ∧ j < B + 6)) : rw6S s B c a0 a1 a2 a3 a4 a5 j = s j := by
  unfold rw6S
  rw [pk_un h1, pk_un (by omega), pk_un (by omega), pk_un (by omega), pk_un (by omega), pk_un (by omega), pk_un (by omega)]
theorem rw6S_r {B c j : Nat} {a0 a1 a2 a3 a4 a5 : Int32} (hc : c < B) (hj : j < 6) : rw6S s B c a0 a1 a2 a3 a4 a5 (B + j) = rw6 a0 a1 a2 a3 a4 a5 j := by
  unfold rw6S
  rw [pk_un (by omega)]
  rcases (show j = 0 ∨ j = 1 ∨ j = 2 ∨ j = 3 ∨ j = 4 ∨ j = 5 by omega) with rfl | rfl | rfl | rfl | rfl | rfl
  · rw [pk_un (by omega), pk_un (by omega), pk_un (by omega), pk_un (by omega), pk_un (by omega), pk_us]; rfl
  · rw [pk_un (by omega), pk_un (by omega), pk_un (by omega), pk_un (by omega), pk_us]; rfl
  · rw [pk_un (by omega), pk_un (by omega), pk_un (by omega), pk_us]; rfl
  · rw [pk_un (by omega), pk_un (by omega), pk_us]; rfl
  · rw [pk_un (by omega), pk_us]; rfl
  · rw [pk_us]; rfl
theorem rw6S_c {B c : Nat} {a0 a1 a2 a3 a4 a5 : Int32} : rw6S s B c a0 a1 a2 a3 a4 a5 c = s c + 1 := by unfold rw6S; rw [pk_us]
/-- a table of six columns gets a row -/
theorem tb6_row {tq m : Nat} {g : Nat → Nat → Int32} {a0 a1 a2 a3 a4 a5 : Int32} (h : Tb μ tq 6 m g) (hl : (m + 1) * 6 ≤ ln (tq + 1)) : Op ((F_X2_addRow tq μ).bind fun o1 => (F_X2_put tq o1.1 (0 : Int32) a0 o1.2).bind fun o2 => (F_X2_put tq o1.1 (1 : Int32) a1 o2).bind fun o3 => (F_X2_put tq o1.1 (2 : Int32) a2 o3).bind fun o4 => (F_X2_put tq o1.1 (3 : Int32) a3 o4).bind fun o5 => (F_X2_put tq o1.1 (4 : Int32) a4 o5).bind fun o6 => (F_X2_put tq o1.1 (5 : Int32) a5 o6).bind fun o7 => some (o1.1, o7)) (fun z => Tb z.2 tq 6 (m + 1) (fun r k => if r = m then rw6 a0 a1 a2 a3 a4 a5 k else g r k) ∧ Fs (fun a => a = tq ∨ a = tq + 1) μ z.2) := by
  refine op_mb (x2_add h hl) (fun z w => ?_)
  obtain ⟨w1, w2, w3⟩ := w
  rw [w1]
  refine op_eb (x2_put (k := 0) w2 (Nat.lt_succ_self _) (by decide)) ?_
  have t0 := w2.set (r := m) (k := 0) (v := a0) (Nat.lt_succ_self _) (by decide)
  refine op_eb (x2_put (k := 1) t0 (Nat.lt_succ_self _) (by decide)) ?_
  have t1 := t0.set (r := m) (k := 1) (v := a1) (Nat.lt_succ_self _) (by decide)
  refine op_eb (x2_put (k := 2) t1 (Nat.lt_succ_self _) (by decide)) ?_
  have t2 := t1.set (r := m) (k := 2) (v := a2) (Nat.lt_succ_self _) (by decide)
  refine op_eb (x2_put (k := 3) t2 (Nat.lt_succ_self _) (by decide)) ?_
  have t3 := t2.set (r := m) (k := 3) (v := a3) (Nat.lt_succ_self _) (by decide)
  refine op_eb (x2_put (k := 4) t3 (Nat.lt_succ_self _) (by decide)) ?_
  have t4 := t3.set (r := m) (k := 4) (v := a4) (Nat.lt_succ_self _) (by decide)
  refine op_eb (x2_put (k := 5) t4 (Nat.lt_succ_self _) (by decide)) (op_r ?_)
  have t5 := t4.set (r := m) (k := 5) (v := a5) (Nat.lt_succ_self _) (by decide)
  refine ⟨t5.congr (fun r k hr hk => ?_), (((((w3.tr (Fs.uI (k := m * 6 + 0) (v := a0) (Or.inr rfl))).tr (Fs.uI (k := m * 6 + 1) (v := a1) (Or.inr rfl))).tr (Fs.uI (k := m * 6 + 2) (v := a2) (Or.inr rfl))).tr (Fs.uI (k := m * 6 + 3) (v := a3) (Or.inr rfl))).tr (Fs.uI (k := m * 6 + 4) (v := a4) (Or.inr rfl))).tr (Fs.uI (k := m * 6 + 5) (v := a5) (Or.inr rfl))⟩
  unfold up2
  by_cases e : r = m
  · rw [if_pos e, e]
    unfold rw6
    rcases (show k = 0 ∨ k = 1 ∨ k = 2 ∨ k = 3 ∨ k = 4 ∨ k = 5 by omega) with rfl | rfl | rfl | rfl | rfl | rfl <;> simp
  · rw [if_neg e, if_neg (by omega), if_neg (by omega), if_neg (by omega), if_neg (by omega), if_neg (by omega), if_neg (by omega)]
    exact if_neg e
end TRD

