/-! ===== leases and options: fields on both sides ===== -/
section TRL
variable {f : Nat → Int32} {n t a k o : Nat} {s s' : Nat → Int32} {q : Int32} {b b' μ μ' μc μm : Mm}
abbrev E6 : Type := Int32 → Int32 → Int32 → Int32 → Int32 → Int32 → Mm → Option Mm
def tcG (l5 h5 : Int32) (E : E6) (a b c d e : Int32) (μ : Mm) : Option Mm := (F_X0_takeNumber l5 h5 μ).bind fun o => E a b c d e o.1 o.2
def tcF (h4 l5 h5 : Int32) (E : E6) (a b c d : Int32) (μ : Mm) : Option Mm := (F_X0_takeNumber (0 : Int32) h4 μ).bind fun o => tcG l5 h5 E a b c d o.1 o.2
def tcE (h3 h4 l5 h5 : Int32) (E : E6) (a b c : Int32) (μ : Mm) : Option Mm := (F_X0_takeNumber (1 : Int32) h3 μ).bind fun o => tcF h4 l5 h5 E a b c o.1 o.2
def tcD (h3 h4 l5 h5 : Int32) (E : E6) (a b : Int32) (μ : Mm) : Option Mm := (F_X0_takeNumber (0 : Int32) ((μ.1 48 2) - (1 : Int32)) μ).bind fun o => tcE h3 h4 l5 h5 E a b o.1 o.2
def tcC (h3 h4 l5 h5 : Int32) (E : E6) (a : Int32) (μ : Mm) : Option Mm := (F_X0_takeNumber (0 : Int32) ((μ.1 52 2) - (1 : Int32)) μ).bind fun o => tcD h3 h4 l5 h5 E a o.1 o.2
section FXT
variable {E : E6} {h3 h4 l5 h5 x0 x1 x2 x3 x4 : Int32} (hE : ∀ a0 a1 a2 a3 a4 a5 m, FX f n k o b m → Op (E a0 a1 a2 a3 a4 a5 m) (FX f n k o b))
theorem fx_tcG (hE : ∀ a0 a1 a2 a3 a4 a5 m, FX f n k o b m → Op (E a0 a1 a2 a3 a4 a5 m) (FX f n k o b)) (h : FX f n k o b μ) : Op (tcG l5 h5 E x0 x1 x2 x3 x4 μ) (FX f n k o b) := op_eb (fx_num h) (hE _ _ _ _ _ _ _ h)
theorem fx_tcF (hE : ∀ a0 a1 a2 a3 a4 a5 m, FX f n k o b m → Op (E a0 a1 a2 a3 a4 a5 m) (FX f n k o b)) (h : FX f n k o b μ) : Op (tcF h4 l5 h5 E x0 x1 x2 x3 μ) (FX f n k o b) := op_eb (fx_num h) (fx_tcG hE h)
theorem fx_tcE (hE : ∀ a0 a1 a2 a3 a4 a5 m, FX f n k o b m → Op (E a0 a1 a2 a3 a4 a5 m) (FX f n k o b)) (h : FX f n k o b μ) : Op (tcE h3 h4 l5 h5 E x0 x1 x2 μ) (FX f n k o b) := op_eb (fx_num h) (fx_tcF hE h)
theorem fx_tcD (hE : ∀ a0 a1 a2 a3 a4 a5 m, FX f n k o b m → Op (E a0 a1 a2 a3 a4 a5 m) (FX f n k o b)) (h : FX f n k o b μ) : Op (tcD h3 h4 l5 h5 E x0 x1 μ) (FX f n k o b) := op_eb (fx_num h) (fx_tcE hE h)
theorem fx_tcC (hE : ∀ a0 a1 a2 a3 a4 a5 m, FX f n k o b m → Op (E a0 a1 a2 a3 a4 a5 m) (FX f n k o b)) (h : FX f n k o b μ) : Op (tcC h3 h4 l5 h5 E x0 μ) (FX f n k o b) := op_eb (fx_num h) (fx_tcD hE h)
end FXT
end TRL
/-! leases -/
section LLE
variable {f : Nat → Int32} {n t a k o : Nat} {s s' : Nat → Int32} {q : Int32} {b b' μ μ' μc μm : Mm}
/-- a row of six more: what is read -/
theorem RdT.row6 {B c p : Nat} {a0 a1 a2 a3 a4 a5 : Int32} (h : RdT μ s) (hF : Fs (fun a => a = p ∨ a = p + 1) μ μ') (hc : (c = 3 ∧ (p = 59 ∧ B = 158 + 6 * ct s 3)) ∨ (c = 4 ∧ (p = 61 ∧ B = 206 + 6 * ct s 4))) (h3 : ct s 3 ≤ 8) (h4 : ct s 4 ≤ 6) (hb : (c = 3 → ct s 3 < 8) ∧ (c = 4 → ct s 4 < 6)) (hs : s c = nI (ct s c)) (hq : ct s 0 ≤ 6 ∧ (ct s 1 ≤ 5 ∧ ct s 2 ≤ 10)) (hT : Tb μ' p 6 (ct s c + 1) (fun r k => if r = ct s c then rw6 a0 a1 a2 a3 a4 a5 k else s ((if c = 3 then 158 else 206) + 6 * r + k))) : RdT μ' (rw6S s B c a0 a1 a2 a3 a4 a5) := by
  obtain ⟨g1, g2, g3, g4, g5, g6, g7, g8, g9⟩ := h
  have ev : ∀ j, (j ≠ c ∧ ¬ (B ≤ j ∧ j < B + 6)) → rw6S s B c a0 a1 a2 a3 a4 a5 j = s j := fun j hj => rw6S_n hj.1 hj.2
  have cc : ct (rw6S s B c a0 a1 a2 a3 a4 a5) c = ct s c + 1 := by
    have hcle : ct s c + 1 < 2 ^ 31 := by rcases hc with ⟨rfl, -⟩ | ⟨rfl, -⟩ <;> omega
    refine ct_nI (n := ct s c + 1) ?_ hcle
    rw [rw6S_c, hs, nI_1]
  have n : ∀ a, (a ≠ p ∧ a ≠ p + 1) → ¬ (a = p ∨ a = p + 1) := fun a ha => by omega
  refine ⟨?_, ?_, ?_, ?_, ?_, ?_, ?_, ?_, ?_⟩
  · rw [ct_eq (ev 0 (by omega))]
    exact (g1.fs hF (n _ (by omega)) (n _ (by omega))).congr (fun r k hr hk => (ev _ (by omega)).symm)
  · rw [ct_eq (ev 1 (by omega))]
    exact (g2.fs hF (n _ (by omega)) (n _ (by omega))).congr (fun r k hr hk => (ev _ (by omega)).symm)
  · rw [ct_eq (ev 2 (by omega))]
    exact (g3.fs hF (n _ (by omega)) (n _ (by omega))).congr (fun r k hr hk => (ev _ (by omega)).symm)
  · by_cases e : c = 3
    · subst e
      have hp : p = 59 ∧ B = 158 + 6 * ct s 3 := by omega
      obtain ⟨rfl, rfl⟩ := hp
      rw [cc]
      refine hT.congr (fun r k hr hk => ?_)
      by_cases e2 : r = ct s 3
      · rw [if_pos e2, e2]
        exact (rw6S_r (by omega) hk).symm
      · rw [if_neg e2, if_pos rfl]
        exact (ev _ (by omega)).symm
    · rw [ct_eq (ev 3 (by omega))]
      exact (g4.fs hF (n _ (by omega)) (n _ (by omega))).congr (fun r k hr hk => (ev _ (by omega)).symm)
  · by_cases e : c = 4
    · subst e
      have hp : p = 61 ∧ B = 206 + 6 * ct s 4 := by omega
      obtain ⟨rfl, rfl⟩ := hp
      rw [cc]
      refine hT.congr (fun r k hr hk => ?_)
      by_cases e2 : r = ct s 4
      · rw [if_pos e2, e2]
        exact (rw6S_r (by omega) hk).symm
      · rw [if_neg e2, if_neg (by decide)]
        exact (ev _ (by omega)).symm
    · rw [ct_eq (ev 4 (by omega))]
      exact (g5.fs hF (n _ (by omega)) (n _ (by omega))).congr (fun r k hr hk => (ev _ (by omega)).symm)
  · rw [(hF.1 50 (n _ (by omega))).1]
    exact fun k hk => (g6 k hk).trans (ev _ (by omega)).symm
  · rw [(hF.1 51 (n _ (by omega))).1, ct_eq (ev 7 (by omega))]
    exact fun k hk hk7 => (g7 k hk hk7).trans (ev _ (by omega)).symm
  · rw [(hF.1 47 (n _ (by omega))).1, ev 7 (by omega)]; exact g8
  · rw [(hF.1 47 (n _ (by omega))).1, ev 6 (by omega)]; exact g9
theorem rok_row6 {B c : Nat} {a0 a1 a2 a3 a4 a5 : Int32} (R : Rok s) (hc : (c = 3 ∧ B = 158 + 6 * ct s 3) ∨ (c = 4 ∧ B = 206 + 6 * ct s 4)) (hb : (c = 3 → ct s 3 < 8) ∧ (c = 4 → ct s 4 < 6)) (hl : c = 3 → LRow s (rw6 a0 a1 a2 a3 a4 a5)) (ho : c = 4 → ORow s (rw6 a0 a1 a2 a3 a4 a5)) : Rok (rw6S s B c a0 a1 a2 a3 a4 a5) := by
  obtain ⟨⟨r0, ⟨r1, r1'⟩, r2, r3, r4, r6, r7, r7'⟩, ⟨r8, r14, r36, r48⟩, ⟨rr, rd⟩, rl, ro, rz⟩ := id R
  have h06 := r0.2
  have h15 := r1.2
  have h210 := r2.2
  have h38 := r3.2
  have h46 := r4.2
  have ev : ∀ j, (j ≠ c ∧ ¬ (B ≤ j ∧ j < B + 6)) → rw6S s B c a0 a1 a2 a3 a4 a5 j = s j := fun j hj => rw6S_n hj.1 hj.2
  have hs : s c = nI (ct s c) := by
    rcases hc with ⟨rfl, -⟩ | ⟨rfl, -⟩
    · exact r3.1
    · exact r4.1
  have ec : rw6S s B c a0 a1 a2 a3 a4 a5 c = nI (ct s c + 1) := by rw [rw6S_c, hs, nI_1]
  have hcle : ct s c + 1 < 2 ^ 31 := by rcases hc with ⟨rfl, -⟩ | ⟨rfl, -⟩ <;> omega
  have cc : ct (rw6S s B c a0 a1 a2 a3 a4 a5) c = ct s c + 1 := ct_nI ec hcle
  have e2 : ct (rw6S s B c a0 a1 a2 a3 a4 a5) 2 = ct s 2 := ct_eq (ev 2 (by omega))
  have e0 : ct (rw6S s B c a0 a1 a2 a3 a4 a5) 0 = ct s 0 := ct_eq (ev 0 (by omega))
  have e1 : ct (rw6S s B c a0 a1 a2 a3 a4 a5) 1 = ct s 1 := ct_eq (ev 1 (by omega))
  have hrow : ∀ B', B' = B → rwR (rw6S s B c a0 a1 a2 a3 a4 a5) B' 0 = rw6 a0 a1 a2 a3 a4 a5 := fun B' hB' => by
    funext j
    unfold rwR
    by_cases e : j < 6
    · rw [if_pos e, hB', show B + 6 * 0 + j = B + j by omega]
      exact rw6S_r (by omega) e
    · rw [if_neg e]
      unfold rw6
      rw [if_neg (by omega), if_neg (by omega), if_neg (by omega), if_neg (by omega), if_neg (by omega), if_neg (by omega)]
  have row0 : ∀ x, Row0 s x → Row0 (rw6S s B c a0 a1 a2 a3 a4 a5) x := fun x hx => hx.sta (ev 0 (by omega)) (ev 1 (by omega)) (ev 2 (by omega))
  have b3 : Bn (rw6S s B c a0 a1 a2 a3 a4 a5) 3 8 := by
    rcases hc with ⟨rfl, hBB⟩ | ⟨rfl, hBB⟩
    · exact Bn.mk ec (by have := hb.1 rfl; omega) (by decide)
    · exact r3.eq (ev 3 (by omega))
  have b4 : Bn (rw6S s B c a0 a1 a2 a3 a4 a5) 4 6 := by
    rcases hc with ⟨rfl, hBB⟩ | ⟨rfl, hBB⟩
    · exact r4.eq (ev 4 (by omega))
    · exact Bn.mk ec (by have := hb.2 rfl; omega) (by decide)
  refine R.up (r0.eq (ev 0 (by omega))) (by omega) (r1.eq (ev 1 (by omega))) (by omega) (Or.inr e1) (r2.eq (ev 2 (by omega))) (by omega) b3 b4 (r6.eq (ev 6 (by omega))) (r7.eq (ev 7 (by omega))) (by rw [ct_eq (ev 7 (by omega))]; exact r7') (fun q hq => (r8 q hq).eq (ev _ (by omega))) (fun q hq => (r14 q hq).eq (ev _ (by omega))) (fun k hk => (r36 k hk).eq (ev _ (by omega))) (fun k hk => (r48 k hk).eq (ev _ (by omega))) (fun r k hr hk => ev _ (by omega)) (fun r q1 q2 => by omega) (fun u v hu hv q => ?_) (fun l k hl hk => ev _ (by omega)) (fun l q1 q2 => ?_) (fun l k hl hk => ev _ (by omega)) (fun l q1 q2 => ?_) (fun j hj hz => ?_)
  · rw [e2] at hu hv
    rw [ev _ (by omega), ev _ (by omega)] at q
    exact rd u v hu hv q
  · rcases hc with ⟨rfl, hB⟩ | ⟨rfl, hB⟩
    · rw [cc] at q2
      obtain rfl : l = ct s 3 := by omega
      have : rwR (rw6S s B 3 a0 a1 a2 a3 a4 a5) 158 (ct s 3) = rw6 a0 a1 a2 a3 a4 a5 := by
        rw [← hrow B rfl]
        unfold rwR
        rw [hB]
        rfl
      rw [this]
      exact ⟨row0 _ (hl rfl).1, (hl rfl).2⟩
    · rw [ct_eq (ev 3 (by omega))] at q2
      omega
  · rcases hc with ⟨rfl, hB⟩ | ⟨rfl, hB⟩
    · rw [ct_eq (ev 4 (by omega))] at q2
      omega
    · rw [cc] at q2
      obtain rfl : l = ct s 4 := by omega
      have : rwR (rw6S s B 4 a0 a1 a2 a3 a4 a5) 206 (ct s 4) = rw6 a0 a1 a2 a3 a4 a5 := by
        rw [← hrow B rfl]
        unfold rwR
        rw [hB]
        rfl
      rw [this]
      exact ⟨row0 _ (ho rfl).1, (ho rfl).2⟩
  · rw [e2] at hz
    rw [ev j (by omega)]
    exact rz j hj hz
end LLE

