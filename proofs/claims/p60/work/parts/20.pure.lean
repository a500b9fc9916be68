/-! ===== the pure side: answers that are there, numbers, rows ===== -/
def Op {α : Type} (x : Option α) (P : α → Prop) : Prop := ∃ a, x = some a ∧ P a
theorem op_b {α β : Type} {x : Option α} {f : α → Option β} {P : β → Prop} (h : Op x (fun a => Op (f a) P)) : Op (x.bind f) P := by
  obtain ⟨a, rfl, b, h1, h2⟩ := h
  exact ⟨b, h1, h2⟩
theorem op_r {α : Type} {a : α} {P : α → Prop} (h : P a) : Op (some a) P := ⟨a, rfl, h⟩
theorem op_br {α β : Type} {a : α} {f : α → Option β} {P : β → Prop} (h : Op (f a) P) : Op ((some a).bind f) P := h
theorem op_t {α : Type} {c : Prop} {dc : Decidable c} {x y : Option α} {P : α → Prop} (hc : c) (h : Op x P) : Op (@ite (Option α) c dc x y) P := by rw [if_pos hc]; exact h
theorem op_f {α : Type} {c : Prop} {dc : Decidable c} {x y : Option α} {P : α → Prop} (hc : ¬ c) (h : Op y P) : Op (@ite (Option α) c dc x y) P := by rw [if_neg hc]; exact h
theorem op_i {α : Type} {c : Prop} {dc : Decidable c} {x y : Option α} {P : α → Prop} (h : c → Op x P) (h2 : ¬ c → Op y P) : Op (@ite (Option α) c dc x y) P := by
  by_cases hc : c
  · exact op_t hc (h hc)
  · exact op_f hc (h2 hc)
theorem op_m {α : Type} {x : Option α} {P Q : α → Prop} (h : Op x Q) (hq : ∀ a, Q a → P a) : Op x P := by
  obtain ⟨a, h1, h2⟩ := h
  exact ⟨a, h1, hq a h2⟩
theorem op_e {α : Type} {x : Option α} {a : α} {P : α → Prop} (e : x = some a) (h : P a) : Op x P := ⟨a, e, h⟩
theorem op_eb {α β : Type} {x : Option α} {a : α} {f : α → Option β} {P : β → Prop} (e : x = some a) (h : Op (f a) P) : Op (x.bind f) P := by rw [e]; exact h
theorem op_mb {α β : Type} {x : Option α} {Q : α → Prop} {f : α → Option β} {P : β → Prop} (h : Op x Q) (hq : ∀ a, Q a → Op (f a) P) : Op (x.bind f) P := op_b (op_m h hq)
/-! lengths -/
theorem ln_le (a : Nat) : ln a ≤ 5000 := by
  rcases Nat.lt_or_ge a 296 with h | h
  · have key : ∀ a, a < 296 → ln a ≤ 5000 := by decide +kernel
    exact key a h
  · unfold ln
    rw [List.getD_eq_getElem?_getD, List.getElem?_eq_none (by rw [qShp_len]; exact h)]
    decide
theorem inb_nI {k n : Nat} (h : k < n) (hn : n ≤ 5000) : inb (nI k) n = true := by
  unfold inb
  rw [nI_clamp (by omega), decide_eq_true (nI_pos' (by omega)), decide_eq_true h]
  rfl
theorem aI_ok {μ : Mm} {a k : Nat} {i : Int32} (hi : i = nI k) (hk : k < ln a) : aI μ a i = some (μ.1 a k) := by
  have := ln_le a
  subst hi
  unfold aI
  rw [if_pos (inb_nI hk (by omega)), nI_clamp (by omega)]
theorem aL_ok {μ : Mm} {a k : Nat} {i : Int32} (hi : i = nI k) (hk : k < ln a) : aL μ a i = some (μ.2.1 a k) := by
  have := ln_le a
  subst hi
  unfold aL
  rw [if_pos (inb_nI hk (by omega)), nI_clamp (by omega)]
theorem sI_ok {μ : Mm} {a k : Nat} {i v : Int32} (hi : i = nI k) (hk : k < ln a) : sI μ a i v = some (uI μ a k v) := by
  have := ln_le a
  subst hi
  unfold sI
  rw [if_pos (inb_nI hk (by omega)), nI_clamp (by omega)]
theorem sL_ok {μ : Mm} {a k : Nat} {i : Int32} {v : Int64} (hi : i = nI k) (hk : k < ln a) : sL μ a i v = some (uL μ a k v) := by
  have := ln_le a
  subst hi
  unfold sL
  rw [if_pos (inb_nI hk (by omega)), nI_clamp (by omega)]
theorem sB_ok {μ : Mm} {a k : Nat} {i v : Int32} (hi : i = nI k) (hk : k < ln a) : sB μ a i v = some (uI μ a k (vp_nar .byte v)) := by
  have := ln_le a
  subst hi
  unfold sB
  rw [if_pos (inb_nI hk (by omega)), nI_clamp (by omega)]
theorem sZ_ok {μ : Mm} {a k : Nat} {i v : Int32} (hi : i = nI k) (hk : k < ln a) : sZ μ a i v = some (uI μ a k (vp_nar .boolean v)) := by
  have := ln_le a
  subst hi
  unfold sZ
  rw [if_pos (inb_nI hk (by omega)), nI_clamp (by omega)]
theorem aR_ok {μ : Mm} {a k x : Nat} {i : Int32} (hi : i = nI k) (hk : k < ln a) (hx : μ.1 a k = nI x) (hx2 : kd x = 1) : aR μ a i = some x := by
  have := ln_le a
  have h3 := kd1_lt hx2
  subst hi
  unfold aR
  rw [nI_clamp (by omega), hx, nI_clamp (by omega), if_pos ⟨inb_nI hk (by omega), hx2⟩]
theorem sR_ok {μ : Mm} {a k x : Nat} {i : Int32} (hi : i = nI k) (hk : k < ln a) (hx2 : kd x = 1) : sR μ a i x = some (uI μ a k (nI x)) := by
  have := ln_le a
  subst hi
  unfold sR
  rw [nI_clamp (by omega), if_pos ⟨inb_nI hk (by omega), hx2⟩]
theorem cpOk_nI {a b sp dp n : Nat} (h1 : sp + n ≤ ln a) (h2 : dp + n ≤ ln b) : cpOk a b (nI sp) (nI dp) (nI n) = true := by
  have := ln_le a
  have := ln_le b
  unfold cpOk
  rw [decide_eq_true (nI_pos' (n := sp) (by omega)), decide_eq_true (nI_pos' (n := dp) (by omega)), decide_eq_true (nI_pos' (n := n) (by omega)), nI_clamp (n := sp) (by omega), nI_clamp (n := dp) (by omega), nI_clamp (n := n) (by omega), decide_eq_true h1, decide_eq_true h2]
  rfl
theorem yI_ok {μ : Mm} {a b sp dp n : Nat} {i j k : Int32} (hi : i = nI sp) (hj : j = nI dp) (hk : k = nI n) (h1 : sp + n ≤ ln a) (h2 : dp + n ≤ ln b) : yI μ a i b j k = some (cpI μ a sp b dp n) := by
  have := ln_le a
  have := ln_le b
  subst hi hj hk
  unfold yI
  rw [if_pos (cpOk_nI h1 h2), nI_clamp (n := sp) (by omega), nI_clamp (n := dp) (by omega), nI_clamp (n := n) (by omega)]
theorem yL_ok {μ : Mm} {a b sp dp n : Nat} {i j k : Int32} (hi : i = nI sp) (hj : j = nI dp) (hk : k = nI n) (h1 : sp + n ≤ ln a) (h2 : dp + n ≤ ln b) : yL μ a i b j k = some (cpL μ a sp b dp n) := by
  have := ln_le a
  have := ln_le b
  subst hi hj hk
  unfold yL
  rw [if_pos (cpOk_nI h1 h2), nI_clamp (n := sp) (by omega), nI_clamp (n := dp) (by omega), nI_clamp (n := n) (by omega)]
/-! what stays -/
def Fs (S : Nat → Prop) (μ μ' : Mm) : Prop := (∀ a, ¬ S a → μ'.1 a = μ.1 a ∧ μ'.2.1 a = μ.2.1 a) ∧ μ'.2.2 = μ.2.2
theorem Fs.rf {S : Nat → Prop} {μ : Mm} : Fs S μ μ := ⟨fun _ _ => ⟨rfl, rfl⟩, rfl⟩
theorem Fs.tr {S : Nat → Prop} {μ μ1 μ2 : Mm} (h : Fs S μ μ1) (h2 : Fs S μ1 μ2) : Fs S μ μ2 := ⟨fun a ha => ⟨(h2.1 a ha).1.trans (h.1 a ha).1, (h2.1 a ha).2.trans (h.1 a ha).2⟩, h2.2.trans h.2⟩
theorem Fs.mo {S T : Nat → Prop} {μ μ1 : Mm} (h : Fs S μ μ1) (hs : ∀ a, S a → T a) : Fs T μ μ1 := ⟨fun a ha => h.1 a (fun q => ha (hs a q)), h.2⟩
theorem Fs.uI {S : Nat → Prop} {μ : Mm} {a k : Nat} {v : Int32} (h : S a) : Fs S μ (uI μ a k v) := ⟨fun b hb => ⟨uI_ne (fun e => hb (e ▸ h)), rfl⟩, rfl⟩
theorem Fs.uL {S : Nat → Prop} {μ : Mm} {a k : Nat} {v : Int64} (h : S a) : Fs S μ (uL μ a k v) := ⟨fun b hb => ⟨rfl, uL_ne (fun e => hb (e ▸ h))⟩, rfl⟩
theorem Fs.cpI {S : Nat → Prop} {μ : Mm} {a p b q n : Nat} (h : S b) : Fs S μ (cpI μ a p b q n) := ⟨fun c hc => ⟨cpI_ne (fun e => hc (e ▸ h)), rfl⟩, rfl⟩
theorem Fs.cpL {S : Nat → Prop} {μ : Mm} {a p b q n : Nat} (h : S b) : Fs S μ (cpL μ a p b q n) := ⟨fun c hc => ⟨rfl, cpL_ne (fun e => hc (e ▸ h))⟩, rfl⟩
/-! numbers -/
theorem nI_inj {a b : Nat} (ha : a < 2 ^ 31) (hb : b < 2 ^ 31) (h : nI a = nI b) : a = b := (nI_eq ha hb).mp h
theorem nI_sub1 {n : Nat} (h : 0 < n) : nI n - 1 = nI (n - 1) := by
  obtain ⟨m, rfl⟩ : ∃ m, n = m + 1 := ⟨n - 1, by omega⟩
  exact nI_pred m
theorem m1_lt : (-1 : Int32) < 0 := by decide
theorem nI_ltn {a b : Nat} (hb : b < 2 ^ 31) (ha : a < 2 ^ 31) : nI a < nI b ↔ a < b := nI_ltI ha hb
/-! ===== a table: columns, rows, cells ===== -/
def Tb (μ : Mm) (t c n : Nat) (f : Nat → Nat → Int32) : Prop := μ.1 t 0 = nI c ∧ μ.1 t 2 = nI n ∧ (n * c ≤ ln (t + 1) ∧ 0 < c ∧ c ≤ 10) ∧ ∀ r k, r < n → k < c → μ.1 (t + 1) (r * c + k) = f r k
def up2 (f : Nat → Nat → Int32) (r k : Nat) (v : Int32) : Nat → Nat → Int32 := fun r' k' => if r' = r ∧ k' = k then v else f r' k'
theorem Tb.n_le {μ : Mm} {t c n : Nat} {f : Nat → Nat → Int32} (h : Tb μ t c n f) : n ≤ 5000 := by
  obtain ⟨-, -, ⟨h1, h2, -⟩, -⟩ := h
  have := ln_le (t + 1)
  have := Nat.le_mul_of_pos_right n h2
  omega
theorem Tb.ix {μ : Mm} {t c n : Nat} {f : Nat → Nat → Int32} (h : Tb μ t c n f) {r k : Nat} (hr : r < n) (hk : k < c) : r * c + k < ln (t + 1) := by
  obtain ⟨-, -, ⟨h1, h2, -⟩, -⟩ := h
  have : (r + 1) * c ≤ n * c := Nat.mul_le_mul_right c hr
  rw [Nat.succ_mul] at this
  omega
theorem Tb.congr {μ : Mm} {t c n : Nat} {f g : Nat → Nat → Int32} (h : Tb μ t c n f) (hg : ∀ r k, r < n → k < c → f r k = g r k) : Tb μ t c n g := ⟨h.1, h.2.1, h.2.2.1, fun r k hr hk => (h.2.2.2 r k hr hk).trans (hg r k hr hk)⟩
theorem Tb.keep {μ μ' : Mm} {t c n : Nat} {f : Nat → Nat → Int32} (h : Tb μ t c n f) (h1 : μ'.1 t = μ.1 t) (h2 : μ'.1 (t + 1) = μ.1 (t + 1)) : Tb μ' t c n f := by
  unfold Tb at h ⊢
  rw [h1, h2]
  exact h
theorem Tb.fs {S : Nat → Prop} {μ μ' : Mm} {t c n : Nat} {f : Nat → Nat → Int32} (h : Tb μ t c n f) (hF : Fs S μ μ') (h1 : ¬ S t) (h2 : ¬ S (t + 1)) : Tb μ' t c n f := h.keep (hF.1 _ h1).1 (hF.1 _ h2).1
theorem cell_inj {c r k r' k' : Nat} (hk : k < c) (hk' : k' < c) (h : r * c + k = r' * c + k') : r = r' ∧ k = k' := by
  have h1 : r = r' := by
    have e1 : (r * c + k) / c = r := by rw [Nat.mul_comm, Nat.mul_add_div (by omega), Nat.div_eq_of_lt hk]; rfl
    have e2 : (r' * c + k') / c = r' := by rw [Nat.mul_comm, Nat.mul_add_div (by omega), Nat.div_eq_of_lt hk']; rfl
    rw [← e1, ← e2, h]
  subst h1
  exact ⟨rfl, by omega⟩
theorem Tb.set {μ : Mm} {t c n : Nat} {f : Nat → Nat → Int32} (h : Tb μ t c n f) {r k : Nat} {v : Int32} (hr : r < n) (hk : k < c) : Tb (uI μ (t + 1) (r * c + k) v) t c n (up2 f r k v) := by
  have e : (uI μ (t + 1) (r * c + k) v).1 t = μ.1 t := uI_ne (by omega)
  refine ⟨by rw [e]; exact h.1, by rw [e]; exact h.2.1, h.2.2.1, fun r' k' hr' hk' => ?_⟩
  rw [uI_eq]
  show (if r' * c + k' = r * c + k then v else μ.1 (t + 1) (r' * c + k')) = up2 f r k v r' k'
  unfold up2
  by_cases e : r' = r ∧ k' = k
  · rw [if_pos e, if_pos (by rw [e.1, e.2])]
  · rw [if_neg e, if_neg (fun q => e (cell_inj hk' hk q)), h.2.2.2 r' k' hr' hk']
theorem ix_cell (r c k : Nat) : nI r * nI c + nI k = nI (r * c + k) := by rw [pk_mul, nI_add]
section TB
variable {μ : Mm} {t c n : Nat} {f : Nat → Nat → Int32}
theorem x2_get (h : Tb μ t c n f) {r k : Nat} (hr : r < n) (hk : k < c) : F_X2_get t (nI r) (nI k) μ = some (f r k) := by
  have hn := h.n_le
  unfold F_X2_get
  rw [if_neg (nI_pos (by omega)), h.2.1, if_neg (nI_ge hr (by omega)), if_neg (nI_pos (by have := h.2.2.1; omega)), h.1, if_pos (nI_lt hk (by have := h.2.2.1; omega)), aI_ok (ix_cell r c k) (h.ix hr hk), h.2.2.2 r k hr hk]
  rfl
theorem x2_getO (h : Tb μ t c n f) {i : Int32} {k : Int32} (hi : i < 0 ∨ nI n ≤ i) : F_X2_get t i k μ = some 0 := by
  unfold F_X2_get
  by_cases h0 : i < 0
  · rw [if_pos h0]
  · rw [if_neg h0, h.2.1, if_pos (hi.resolve_left h0)]
theorem x2_put (h : Tb μ t c n f) {r k : Nat} {v : Int32} (hr : r < n) (hk : k < c) : F_X2_put t (nI r) (nI k) v μ = some (uI μ (t + 1) (r * c + k) v) := by
  have hn := h.n_le
  unfold F_X2_put
  rw [if_neg (nI_pos (by omega)), h.2.1, if_neg (nI_ge hr (by omega)), if_neg (nI_pos (by have := h.2.2.1; omega)), h.1, if_neg (nI_ge hk (by have := h.2.2.1; omega)), sI_ok (ix_cell r c k) (h.ix hr hk)]
  rfl
theorem x2_putO (h : Tb μ t c n f) {i : Int32} {k v : Int32} (hi : i < 0 ∨ nI n ≤ i) : F_X2_put t i k v μ = some μ := by
  unfold F_X2_put
  by_cases h0 : i < 0
  · rw [if_pos h0]
  · rw [if_neg h0, h.2.1, if_pos (hi.resolve_left h0)]
theorem x2_inc (h : Tb μ t c n f) {r k : Nat} {v : Int32} (hr : r < n) (hk : k < c) : F_X2_increase t (nI r) (nI k) v μ = some (uI μ (t + 1) (r * c + k) (f r k + v)) := by
  have hn := h.n_le
  unfold F_X2_increase
  rw [if_neg (nI_pos (by omega)), h.2.1, if_neg (nI_ge hr (by omega)), if_neg (nI_pos (by have := h.2.2.1; omega)), h.1, if_neg (nI_ge hk (by have := h.2.2.1; omega)), aI_ok (ix_cell r c k) (h.ix hr hk), h.2.2.2 r k hr hk]
  show (sI μ (t + 1) (nI r * nI c + nI k) (f r k + v)).bind _ = _
  rw [sI_ok (ix_cell r c k) (h.ix hr hk)]
  rfl
theorem x2_has (h : Tb μ t c n f) (i : Int32) : F_X2_has t i μ = some (if 0 ≤ i ∧ i < nI n then 1 else 0) := by
  unfold F_X2_has
  by_cases h0 : i < 0
  · rw [if_pos h0, if_neg (fun q => absurd h0 (Int32.not_lt.mpr q.1))]
  · rw [if_neg h0, h.2.1]
    by_cases h1 : nI n ≤ i
    · rw [if_pos h1, if_neg (fun q => absurd q.2 (Int32.not_lt.mpr h1))]
    · rw [if_neg h1, if_pos ⟨Int32.not_lt.mp h0, Int32.not_le.mp h1⟩]
def sumF (g : Nat → Int32) : Nat → Int32
  | 0 => 0
  | n + 1 => sumF g n + g n
theorem x2_sumL (h : Tb μ t c n f) {k : Nat} (hk : k < c) : ∀ (d m i : Nat), i + d = n → d < m → F_X2_sumOf_4 t (nI k) μ m (sumF (fun r => f r k) i) (nI i) = some (sumF (fun r => f r k) n) := by
  have hn := h.n_le
  intro d
  induction d with
  | zero =>
    intro m i hi hm
    obtain ⟨m, rfl⟩ : ∃ q, m = q + 1 := ⟨m - 1, by omega⟩
    obtain rfl : i = n := by omega
    rw [F_X2_sumOf_4, h.2.1, if_pos (Int32.le_refl _)]
  | succ d ih =>
    intro m i hi hm
    obtain ⟨m, rfl⟩ : ∃ q, m = q + 1 := ⟨m - 1, by omega⟩
    rw [F_X2_sumOf_4, h.2.1, if_neg (nI_ge (by omega) (by omega)), x2_get h (by omega) hk]
    show F_X2_sumOf_4 t (nI k) μ m (sumF (fun r => f r k) i + f i k) (nI i + 1) = _
    rw [nI_1]
    exact ih m (i + 1) (by omega) (by omega)
theorem x2_sum (h : Tb μ t c n f) {k : Nat} (hk : k < c) : F_X2_sumOf t (nI k) μ = some (sumF (fun r => f r k) n) := by
  have hn := h.n_le
  unfold F_X2_sumOf
  rw [show (0 : Int32) = nI 0 from rfl]
  have e := x2_sumL h hk n qFuel 0 (by omega) (by unfold qFuel; omega)
  rw [show sumF (fun r => f r k) 0 = nI 0 from rfl] at e
  rw [e]
  rfl
/-- cells k, c + k .. of the rows from r0 on are raised by v -/
theorem x2_incL {k : Nat} {v u : Int32} : ∀ (d m i : Nat) (μ : Mm) (f : Nat → Nat → Int32), Tb μ t c n f → k < c → i + d = n → d < m → Op (F_X2_increaseFrom_20 t (nI k) v m (nI i) μ) (fun μ' => Tb μ' t c n (fun r k' => if k' = k ∧ i ≤ r then f r k' + v else f r k') ∧ Fs (fun a => a = t + 1) μ μ') := by
  intro d
  induction d with
  | zero =>
    intro m i μ f h hk hi hm
    have hn := h.n_le
    obtain ⟨m, rfl⟩ : ∃ q, m = q + 1 := ⟨m - 1, by omega⟩
    obtain rfl : i = n := by omega
    rw [F_X2_increaseFrom_20, h.2.1, if_pos (Int32.le_refl _)]
    exact op_r ⟨h.congr (fun r k' hr _ => by rw [if_neg (by omega)]), Fs.rf⟩
  | succ d ih =>
    intro m i μ f h hk hi hm
    have hn := h.n_le
    obtain ⟨m, rfl⟩ : ∃ q, m = q + 1 := ⟨m - 1, by omega⟩
    rw [F_X2_increaseFrom_20, h.2.1, if_neg (nI_ge (by omega) (by omega)), h.1]
    refine op_eb (aI_ok (ix_cell i c k) (h.ix (by omega) hk)) ?_
    refine op_eb (sI_ok (ix_cell i c k) (h.ix (by omega) hk)) ?_
    rw [nI_1, h.2.2.2 i k (by omega) hk]
    refine op_m (ih m (i + 1) _ _ (h.set (by omega) hk) hk (by omega) (by omega)) (fun μ' q => ⟨q.1.congr (fun r k' hr hk' => ?_), Fs.tr (Fs.uI rfl) q.2⟩)
    unfold up2
    by_cases e : k' = k
    · subst e
      rcases Nat.lt_trichotomy r i with e2 | e2 | e2
      · rw [if_neg (by omega), if_neg (by omega), if_neg (by omega)]
      · subst e2
        rw [if_neg (by omega), if_pos ⟨rfl, rfl⟩, if_pos ⟨rfl, Nat.le_refl _⟩]
      · rw [if_pos ⟨rfl, by omega⟩, if_neg (by omega), if_pos ⟨rfl, by omega⟩]
    · rw [if_neg (by omega), if_neg (by omega), if_neg (by omega)]
theorem x2_incF (h : Tb μ t c n f) {r0 k : Nat} {v : Int32} (hr : r0 ≤ n) (hk : k < c) : Op (F_X2_increaseFrom t (nI r0) (nI k) v μ) (fun μ' => Tb μ' t c n (fun r k' => if k' = k ∧ r0 ≤ r then f r k' + v else f r k') ∧ Fs (fun a => a = t + 1) μ μ') := by
  have hn := h.n_le
  unfold F_X2_increaseFrom
  rw [if_neg (nI_pos (by have := h.2.2.1; omega)), h.1, if_pos (nI_lt hk (by have := h.2.2.1; omega)), if_neg (nI_pos (by omega))]
  exact op_b (op_m (x2_incL (u := 0) (n - r0) qFuel r0 μ f h hk (by omega) (by unfold qFuel; omega)) (fun μ' q => op_r q))
theorem x2_zeroL : ∀ (d m i : Nat) (μ : Mm) (a : Int32), μ.1 t 0 = nI c → μ.1 t 2 = nI (n + 1) → (n + 1) * c ≤ ln (t + 1) → i + d = (n + 1) * c → d < m → Op (F_X2_addRow_43 t a m (nI i) μ) (fun μ' => (∀ j, μ'.1 (t + 1) j = if i ≤ j ∧ j < (n + 1) * c then 0 else μ.1 (t + 1) j) ∧ Fs (fun a => a = t + 1) μ μ') := by
  intro d
  induction d with
  | zero =>
    intro m i μ a h0 h2 hl hi hm
    have := ln_le (t + 1)
    obtain ⟨m, rfl⟩ : ∃ q, m = q + 1 := ⟨m - 1, by omega⟩
    rw [F_X2_addRow_43, h0, h2, pk_mul, if_pos (by rw [show i = (n + 1) * c by omega]; exact Int32.le_refl _)]
    exact op_r ⟨fun j => by rw [if_neg (by omega)], Fs.rf⟩
  | succ d ih =>
    intro m i μ a h0 h2 hl hi hm
    have := ln_le (t + 1)
    obtain ⟨m, rfl⟩ : ∃ q, m = q + 1 := ⟨m - 1, by omega⟩
    rw [F_X2_addRow_43, h0, h2, pk_mul, if_neg (nI_ge (by omega) (by omega))]
    refine op_eb (sI_ok rfl (by omega)) ?_
    rw [nI_1]
    have e : (uI μ (t + 1) i 0).1 t = μ.1 t := uI_ne (by omega)
    refine op_m (ih m (i + 1) _ a (by rw [e]; exact h0) (by rw [e]; exact h2) hl (by omega) (by omega)) (fun μ' q => ⟨fun j => ?_, Fs.tr (Fs.uI rfl) q.2⟩)
    rw [q.1 j, uI_eq]
    by_cases e1 : j = i
    · subst e1
      rw [if_neg (by omega), if_pos (by omega)]
      exact if_pos rfl
    · by_cases e2 : i + 1 ≤ j ∧ j < (n + 1) * c
      · rw [if_pos e2, if_pos (by omega)]
      · rw [if_neg e2, if_neg (by omega)]
        exact if_neg e1
theorem x2_add (h : Tb μ t c n f) (hl : (n + 1) * c ≤ ln (t + 1)) : Op (F_X2_addRow t μ) (fun o => o.1 = nI n ∧ Tb o.2 t c (n + 1) (fun r k => if r = n then 0 else f r k) ∧ Fs (fun a => a = t ∨ a = t + 1) μ o.2) := by
  have hn := h.n_le
  have := ln_le (t + 1)
  have hm : n * c ≤ (n + 1) * c := Nat.mul_le_mul_right c (by omega)
  unfold F_X2_addRow
  rw [h.1, h.2.1, nI_1, pk_mul, show Int32.ofNat (ln (t + 1)) = nI (ln (t + 1)) from rfl, if_pos (nI_le hl (by omega))]
  refine op_br ?_
  have e0 : (uI μ t 2 (nI (n + 1))).1 t 0 = nI c := by rw [uI_eq]; exact h.1
  have e2 : (uI μ t 2 (nI (n + 1))).1 t 2 = nI (n + 1) := by rw [uI_eq]; rfl
  have e1 : (uI μ t 2 (nI (n + 1))).1 (t + 1) = μ.1 (t + 1) := uI_ne (by omega)
  rw [e0, pk_mul]
  refine op_b (op_m (x2_zeroL (n := n) (c := c) ((n + 1) * c - n * c) qFuel (n * c) _ _ e0 e2 hl (by omega) (by unfold qFuel; omega)) (fun μ' q => op_r ⟨rfl, ⟨?_, ?_, ⟨hl, h.2.2.1.2⟩, fun r k hr hk => ?_⟩, Fs.tr (Fs.uI (Or.inl rfl)) (q.2.mo (fun a e => Or.inr e))⟩))
  · show μ'.1 t 0 = nI c
    rw [(q.2.1 t (by omega)).1]
    exact e0
  · show μ'.1 t 2 = nI (n + 1)
    rw [(q.2.1 t (by omega)).1]
    exact e2
  · show μ'.1 (t + 1) (r * c + k) = _
    rw [q.1, e1]
    show _ = if r = n then 0 else f r k
    by_cases e : r = n
    · subst e
      rw [if_pos ⟨by omega, by rw [Nat.succ_mul]; omega⟩, if_pos rfl]
    · have : (r + 1) * c ≤ n * c := Nat.mul_le_mul_right c (by omega)
      rw [Nat.succ_mul] at this
      rw [if_neg (by omega), if_neg e, h.2.2.2 r k (by omega) hk]
theorem x2_addO (h : Tb μ t c n f) (hl : ¬ (n + 1) * c ≤ ln (t + 1)) (hs : (n + 1) * c < 2 ^ 31) : F_X2_addRow t μ = some (-1, μ) := by
  have := ln_le (t + 1)
  unfold F_X2_addRow
  rw [h.1, h.2.1, nI_1, pk_mul, show Int32.ofNat (ln (t + 1)) = nI (ln (t + 1)) from rfl, if_neg (nI_ge (by omega) hs)]
theorem x2_rem (h : Tb μ t c n f) {r : Nat} (hr : r < n) : Op (F_X2_removeRow t (nI r) μ) (fun μ' => Tb μ' t c (n - 1) (fun r' k => if r' < r then f r' k else f (r' + 1) k) ∧ Fs (fun a => a = t ∨ a = t + 1) μ μ') := by
  have hn := h.n_le
  have := ln_le (t + 1)
  have h9 := h.2.2.1
  have hm : (r + 1) * c ≤ n * c := Nat.mul_le_mul_right c hr
  have hm2 : r * c + c = (r + 1) * c := (Nat.succ_mul r c).symm
  unfold F_X2_removeRow
  have e9 : (if 0 ≤ nI r ∧ nI r < nI n then (1 : Int32) else 0) = 1 := if_pos ⟨nI_pos' (by omega), nI_lt hr (by omega)⟩
  rw [x2_has h, e9]
  refine op_br (op_f (c := (1 : Int32) = 0) (by decide) ?_)
  rw [h.1, h.2.1]
  refine op_eb (yI_ok (sp := (r + 1) * c) (dp := r * c) (n := n * c - (r + 1) * c) (by rw [nI_1, pk_mul]) (by rw [pk_mul]) (by rw [nI_1, pk_mul, pk_mul, pk_sub hm]) (by omega) (by omega)) ?_
  refine op_br ?_
  have e : (cpI μ (t + 1) ((r + 1) * c) (t + 1) (r * c) (n * c - (r + 1) * c)).1 t = μ.1 t := cpI_ne (by omega)
  refine op_r ⟨⟨?_, ?_, ⟨?_, h9.2⟩, fun r' k hr' hk => ?_⟩, Fs.tr (Fs.cpI (Or.inr rfl)) (Fs.uI (Or.inl rfl))⟩
  · rw [uI_eq, e]
    exact h.1
  · rw [uI_eq, e, h.2.1]
    show nI n - 1 = _
    exact nI_sub1 (by omega)
  · exact Nat.le_trans (Nat.mul_le_mul_right c (by omega)) h9.1
  · rw [uI_ne (by omega)]
    have hm3 : (r' + 1) * c ≤ (n - 1) * c := Nat.mul_le_mul_right c hr'
    have hm4 : r' * c + c = (r' + 1) * c := (Nat.succ_mul r' c).symm
    have hm5 : (n - 1) * c + c = n * c := by rw [← Nat.succ_mul]; congr 1; omega
    show (if t + 1 = t + 1 ∧ r * c ≤ r' * c + k ∧ r' * c + k < r * c + (n * c - (r + 1) * c) then μ.1 (t + 1) ((r + 1) * c + (r' * c + k - r * c)) else μ.1 (t + 1) (r' * c + k)) = if r' < r then f r' k else f (r' + 1) k
    by_cases e2 : r' < r
    · have : (r' + 1) * c ≤ r * c := Nat.mul_le_mul_right c e2
      rw [if_pos e2, if_neg (by omega)]
      exact h.2.2.2 r' k (by omega) hk
    · have : r * c ≤ r' * c := Nat.mul_le_mul_right c (by omega)
      rw [if_neg e2, if_pos ⟨rfl, by omega, by omega⟩, show (r + 1) * c + (r' * c + k - r * c) = (r' + 1) * c + k by omega]
      exact h.2.2.2 (r' + 1) k (by omega) hk
theorem x2_remAll (h : Tb μ t c n f) (g : Nat → Nat → Int32) : Op (F_X2_removeAll t μ) (fun μ' => Tb μ' t c 0 g ∧ Fs (fun a => a = t) μ μ') := by
  unfold F_X2_removeAll
  refine op_br (op_r ⟨⟨?_, ?_, ⟨by omega, h.2.2.1.2⟩, fun r k hr _ => absurd hr (Nat.not_lt_zero r)⟩, Fs.uI rfl⟩)
  · rw [uI_eq]
    exact h.1
  · rw [uI_eq]
    rfl
theorem x2_copy {q : Nat} {g : Nat → Nat → Int32} {n' : Nat} (h : Tb μ q c n f) (ht : μ.1 t 0 = nI c) (hq : ln (q + 1) = ln (t + 1)) (h1 : q ≠ t + 1) (h2 : q ≠ t) (h3 : q + 1 ≠ t) : Op (F_X2_copyFrom t q μ) (fun μ' => Tb μ' t c n f ∧ Fs (fun a => a = t ∨ a = t + 1) μ μ') := by
  have hn := h.n_le
  have h9 := h.2.2.1
  have := ln_le (t + 1)
  unfold F_X2_copyFrom
  refine op_t (by rw [hq]) (op_t (by rw [h.1, ht]) ?_)
  rw [h.2.1, ht]
  refine op_eb (yI_ok (sp := 0) (dp := 0) (n := n * c) rfl rfl (pk_mul n c) (by omega) (by omega)) (op_br (op_r ?_))
  have e : (cpI μ (q + 1) 0 (t + 1) 0 (n * c)).1 t = μ.1 t := cpI_ne (by omega)
  have e2 : (cpI μ (q + 1) 0 (t + 1) 0 (n * c)).1 q = μ.1 q := cpI_ne h1
  refine ⟨⟨?_, ?_, ⟨by omega, h9.2⟩, fun r k hr hk => ?_⟩, Fs.tr (Fs.cpI (Or.inr rfl)) (Fs.uI (Or.inl rfl))⟩
  · rw [uI_eq, e]
    exact ht
  · rw [uI_eq, e2, h.2.1]
    rfl
  · have hi : r * c + k < n * c := by
      have : (r + 1) * c ≤ n * c := Nat.mul_le_mul_right c hr
      rw [Nat.succ_mul] at this
      omega
    rw [uI_ne (by omega)]
    show (if t + 1 = t + 1 ∧ 0 ≤ r * c + k ∧ r * c + k < 0 + n * c then μ.1 (q + 1) (0 + (r * c + k - 0)) else μ.1 (t + 1) (r * c + k)) = _
    rw [if_pos ⟨rfl, by omega, by omega⟩, show 0 + (r * c + k - 0) = r * c + k by omega]
    exact h.2.2.2 r k hr hk
end TB

