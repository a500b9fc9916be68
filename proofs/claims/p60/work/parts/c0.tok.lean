/-! ===== the text as a list of tokens: words (1, w), numbers (2, v), ends of lines (3, 0) ===== -/
abbrev Tok : Type := Nat × Nat
def dG (v : Nat) : List Int32 := if v < 10 then [nI (48 + v)] else if v < 100 then [nI (48 + v / 10), nI (48 + v % 10)] else [nI (48 + v / 100), nI (48 + v / 10 % 10), nI (48 + v % 10)]
def tB (k : Tok) : List Int32 := if k.1 = 1 then qByt.getD k.2 [] else if k.1 = 2 then dG k.2 else [59]
def aft (k : Tok) : Bool := decide (k.1 = 3)
def sep (b : Bool) (k : Tok) : List Int32 := if b = true ∨ k.1 = 3 then [] else [32]
def ren : Bool → List Tok → List Int32
  | _, [] => []
  | b, k :: L => sep b k ++ (tB k ++ ren (aft k) L)
def tOk (k : Tok) : Prop := (k.1 = 1 ∧ k.2 < 10) ∨ ((k.1 = 2 ∧ k.2 ≤ 999) ∨ k.1 = 3)
/-- the bytes from p on are l, and nothing behind -/
def Bt (f : Nat → Int32) (n p : Nat) (l : List Int32) : Prop := p + l.length = n ∧ ∀ i, i < l.length → f (p + i) = l.getD i 0
theorem bt_app {f : Nat → Int32} {n p : Nat} {a c : List Int32} (h : Bt f n p (a ++ c)) : (∀ i, i < a.length → f (p + i) = a.getD i 0) ∧ Bt f n (p + a.length) c := by
  obtain ⟨h1, h2⟩ := h
  rw [List.length_append] at h1
  refine ⟨fun i hi => ?_, by omega, fun i hi => ?_⟩
  · rw [h2 i (by rw [List.length_append]; omega), List.getD_eq_getElem?_getD, List.getD_eq_getElem?_getD, List.getElem?_append_left hi]
  · have := h2 (a.length + i) (by rw [List.length_append]; omega)
    rw [Nat.add_assoc, this, List.getD_eq_getElem?_getD, List.getD_eq_getElem?_getD, List.getElem?_append_right (by omega), Nat.add_sub_cancel_left]
theorem bt_hd {f : Nat → Int32} {n p : Nat} {x : Int32} {l : List Int32} (h : Bt f n p (x :: l)) : p < n ∧ f p = x := by
  obtain ⟨h1, h2⟩ := h
  rw [List.length_cons] at h1
  exact ⟨by omega, h2 0 (Nat.succ_pos _)⟩
theorem bt_nil {f : Nat → Int32} {n p : Nat} (h : Bt f n p []) : p = n := h.1
theorem ru_run {P : Int32 → Bool} {f : Nat → Int32} {n : Nat} : ∀ (d t : Nat), (∀ i, i < d → P (f (t + i)) = true) → t + d ≤ n → (t + d < n → ¬ P (f (t + d)) = true) → ru P f n t = t + d := by
  intro d
  induction d with
  | zero => intro t _ _ h; exact ru_n h
  | succ d ih =>
    intro t h1 h2 h3
    rw [ru_y (by omega) (show P (f t) = true from h1 0 (Nat.succ_pos _)), ih (t + 1) (fun i hi => by have := h1 (i + 1) (by omega); rw [show t + 1 + i = t + (i + 1) by omega]; exact this) (by omega) (fun z => by rw [show t + 1 + d = t + (d + 1) by omega]; exact h3 (by omega))]
    omega
/-! the bytes of words and numbers -/
theorem wB_all : ∀ w, w < 10 → (1 ≤ (qByt.getD w []).length ∧ ((qByt.getD w []).length = qLen.getD w 0 ∧ ∀ x, x ∈ qByt.getD w [] → letB x = true)) := by decide +kernel
theorem w_ne : ∀ w, w < 10 → ∀ v, v < 10 → wL w = wL v → (∀ i, i < wL v → wC w i = wC v i) → w = v := by decide +kernel
theorem d_all : ∀ j, j < 10 → digB (nI (48 + j)) = true ∧ (¬ letB (nI (48 + j)) = true ∧ (¬ blaB (nI (48 + j)) = true ∧ nI (48 + j) - 48 = nI j)) := by decide +kernel
theorem l_bla {x : Int32} (h : letB x = true) : ¬ blaB x = true := by
  unfold letB at h
  unfold blaB
  rw [decide_eq_true_eq] at h ⊢
  rintro (rfl | rfl | rfl)
  · exact absurd h.1 (by decide)
  · exact absurd h.1 (by decide)
  · exact absurd h.1 (by decide)
theorem dG_mem {v : Nat} (hv : v ≤ 999) {x : Int32} (h : x ∈ dG v) : ∃ j, j < 10 ∧ x = nI (48 + j) := by
  unfold dG at h
  split at h
  · obtain rfl := List.mem_singleton.mp h
    exact ⟨v, by assumption, rfl⟩
  · split at h
    · rcases List.mem_cons.mp h with rfl | h
      · exact ⟨v / 10, by omega, rfl⟩
      · obtain rfl := List.mem_singleton.mp h
        exact ⟨v % 10, by omega, rfl⟩
    · rcases List.mem_cons.mp h with rfl | h
      · exact ⟨v / 100, by omega, rfl⟩
      · rcases List.mem_cons.mp h with rfl | h
        · exact ⟨v / 10 % 10, by omega, rfl⟩
        · obtain rfl := List.mem_singleton.mp h
          exact ⟨v % 10, by omega, rfl⟩
theorem dG_len (v : Nat) : 1 ≤ (dG v).length ∧ (dG v).length ≤ 3 := by
  unfold dG
  split
  · exact ⟨Nat.le_of_ble_eq_true rfl, Nat.le_of_ble_eq_true rfl⟩
  · split
    · exact ⟨Nat.le_of_ble_eq_true rfl, Nat.le_of_ble_eq_true rfl⟩
    · exact ⟨Nat.le_of_ble_eq_true rfl, Nat.le_of_ble_eq_true rfl⟩
theorem getD_mem {l : List Int32} {i : Nat} (h : i < l.length) : l.getD i 0 ∈ l := by
  rw [List.getD_eq_getElem?_getD, List.getElem?_eq_getElem h, Option.getD_some]
  exact List.getElem_mem h
theorem tB_pos {k : Tok} (h : tOk k) : ∃ x l, tB k = x :: l ∧ ¬ blaB x = true := by
  have key : ∀ l : List Int32, 1 ≤ l.length → (∀ x, x ∈ l → ¬ blaB x = true) → ∃ x l', l = x :: l' ∧ ¬ blaB x = true := by
    intro l h1 h2
    cases l with
    | nil => exact absurd h1 (by decide)
    | cons x l => exact ⟨x, l, rfl, h2 x List.mem_cons_self⟩
  unfold tB
  rcases h with ⟨h1, h2⟩ | ⟨h1, h2⟩ | h1
  · rw [if_pos h1]
    obtain ⟨w1, -, w2⟩ := wB_all k.2 h2
    exact key _ w1 (fun x hx => l_bla (w2 x hx))
  · rw [if_neg (by omega), if_pos h1]
    refine key _ (dG_len k.2).1 (fun x hx => ?_)
    obtain ⟨j, j1, rfl⟩ := dG_mem h2 hx
    exact (d_all j j1).2.2.1
  · rw [if_neg (by omega), if_neg (by omega)]
    exact ⟨59, [], rfl, by decide⟩
/-- what stands behind a word or a number: a blank, a semicolon, nothing -/
theorem ren_f {f : Nat → Int32} {n p : Nat} {L : List Tok} (h : Bt f n p (ren false L)) (hp : p < n) : f p = 32 ∨ f p = 59 := by
  cases L with
  | nil => exact absurd (bt_nil h) (by omega)
  | cons k L =>
    rw [ren] at h
    unfold sep at h
    by_cases e : k.1 = 3
    · rw [if_pos (Or.inr e)] at h
      have e2 : tB k = [59] := by unfold tB; rw [if_neg (by omega), if_neg (by omega)]
      rw [e2] at h
      exact Or.inr (bt_hd h).2
    · rw [if_neg (by rintro (z | z); exact absurd z (by decide); exact e z)] at h
      exact Or.inl (bt_hd h).2
theorem skp_ren {f : Nat → Int32} {n p : Nat} {b : Bool} {L : List Tok} (h : Bt f n p (ren b L)) (hL : ∀ k, k ∈ L → tOk k) : Bt f n (skp f n p) (ren true L) := by
  unfold skp
  cases L with
  | nil =>
    rw [ru_o (by have := bt_nil h; omega)]
    exact h
  | cons k L =>
    obtain ⟨x, l, e, hx⟩ := tB_pos (hL k List.mem_cons_self)
    rw [ren] at h ⊢
    have e1 : sep true k = [] := if_pos (Or.inl rfl)
    rw [e1, List.nil_append]
    by_cases e2 : b = true ∨ k.1 = 3
    · have e3 : sep b k = [] := if_pos e2
      rw [e3, List.nil_append] at h
      have h' := h
      rw [e] at h'
      rw [ru_n (fun _ z => hx (by rw [(bt_hd h').2] at z; exact z))]
      exact h
    · have e3 : sep b k = [32] := if_neg e2
      rw [e3] at h
      have h1 := (bt_hd h)
      have h2 := (bt_app h).2
      have h' := h2
      rw [e] at h'
      have h9 : f (p + 1) = x := (bt_hd h').2
      rw [ru_y h1.1 (by rw [h1.2]; decide), ru_n (fun _ z => hx (by rw [h9] at z; exact z))]
      exact h2
theorem tok_1 {f : Nat → Int32} {n t : Nat} {w : Nat} {L : List Tok} (hw : w < 10) (h : Bt f n t (ren true ((1, w) :: L))) : tk f n t = 1 ∧ (te f n t = t + wL w ∧ ((∀ i, i < wL w → f (t + i) = wC w i) ∧ Bt f n (te f n t) (ren false L))) := by
  obtain ⟨w1, w2, w3⟩ := wB_all w hw
  have h' : Bt f n t (qByt.getD w [] ++ ren false L) := h
  obtain ⟨b1, b2⟩ := bt_app h'
  have hl : wL w = (qByt.getD w []).length := w2.symm
  rw [← hl] at b1 b2
  have hn : t + wL w ≤ n := by have := b2.1; omega
  have hr : ru letB f n t = t + wL w := ru_run _ t (fun i hi => by rw [b1 i hi]; exact w3 _ (getD_mem (by omega))) hn (fun z => by
    rcases ren_f b2 z with q | q
    · rw [q]; decide
    · rw [q]; decide)
  have ht : tk f n t = 1 := tk1.mpr ⟨by omega, by have := b1 0 (by omega); rw [Nat.add_zero] at this; rw [this]; exact w3 _ (getD_mem (by omega))⟩
  have he : te f n t = t + wL w := (te_let ht).trans hr
  exact ⟨ht, he, b1, by rw [he]; exact b2⟩
theorem tok_2 {f : Nat → Int32} {n t : Nat} {v : Nat} {L : List Tok} (hv : v ≤ 999) (h : Bt f n t (ren true ((2, v) :: L))) : tk f n t = 2 ∧ (te f n t = t + (dG v).length ∧ ((∀ i, i < (dG v).length → f (t + i) = (dG v).getD i 0) ∧ Bt f n (te f n t) (ren false L))) := by
  obtain ⟨w1, w2⟩ := dG_len v
  have h' : Bt f n t (dG v ++ ren false L) := h
  obtain ⟨b1, b2⟩ := bt_app h'
  have hn : t + (dG v).length ≤ n := by have := b2.1; omega
  have hd : ∀ i, i < (dG v).length → digB (f (t + i)) = true := fun i hi => by
    rw [b1 i hi]
    obtain ⟨j, j1, j2⟩ := dG_mem hv (getD_mem hi)
    rw [j2]
    exact (d_all j j1).1
  have hr : ru digB f n t = t + (dG v).length := ru_run _ t hd hn (fun z => by
    rcases ren_f b2 z with q | q
    · rw [q]; decide
    · rw [q]; decide)
  have ht : tk f n t = 2 := tk2.mpr ⟨by omega, hd 0 (by omega)⟩
  have he : te f n t = t + (dG v).length := (te_dig ht).trans hr
  exact ⟨ht, he, b1, by rw [he]; exact b2⟩
theorem tok_3 {f : Nat → Int32} {n t y : Nat} {L : List Tok} (h : Bt f n t (ren true ((3, y) :: L))) : tk f n t = 3 ∧ (te f n t = t + 1 ∧ Bt f n (te f n t) (ren true L)) := by
  have h' : Bt f n t ([59] ++ ren true L) := h
  obtain ⟨b1, b2⟩ := bt_app h'
  obtain ⟨c1, c2⟩ := bt_hd (l := ren true L) h'
  have e1 : ¬ letB (f t) = true := by rw [c2]; decide
  have e2 : ¬ digB (f t) = true := by rw [c2]; decide
  have he : te f n t = t + 1 := by unfold te; rw [if_neg (by omega), if_neg e1, if_neg e2]
  refine ⟨?_, he, by rw [he]; exact b2⟩
  unfold tk
  rw [if_neg (by omega), if_neg e1, if_neg e2, if_pos c2]
theorem tok_n {f : Nat → Int32} {n t : Nat} {k : Tok} {L : List Tok} (hk : tOk k) (hL : ∀ q, q ∈ L → tOk q) (h : Bt f n t (ren true (k :: L))) : Bt f n (skp f n (te f n t)) (ren true L) := by
  obtain ⟨a, v⟩ := k
  rcases hk with ⟨h1, h2⟩ | ⟨h1, h2⟩ | h1
  · obtain rfl : a = 1 := h1
    exact skp_ren (tok_1 h2 h).2.2.2 hL
  · obtain rfl : a = 2 := h1
    exact skp_ren (tok_2 h2 h).2.2.2 hL
  · obtain rfl : a = 3 := h1
    exact skp_ren (tok_3 h).2.2 hL
theorem wd_1 {f : Nat → Int32} {n t w v : Nat} {L : List Tok} (hw : w < 10) (hv : v < 10) (h : Bt f n t (ren true ((1, w) :: L))) : wdB f n t v = decide (w = v) := by
  obtain ⟨a1, a2, a3, a4⟩ := tok_1 hw h
  have hr : ru letB f n t = t + wL w := (te_let a1).symm.trans a2
  unfold wdB
  rw [hr]
  refine decide_eq_decide.mpr ⟨fun z => w_ne w hw v hv (by omega) (fun i hi => ?_), fun z => ?_⟩
  · rw [← a3 i (by omega), z.2 i hi]
  · subst z
    exact ⟨rfl, a3⟩
theorem wd_no {f : Nat → Int32} {n t v : Nat} (hv : v < 10) (h : tk f n t ≠ 1) : wdB f n t v = false := by
  unfold wdB
  rw [ru_nolet h]
  refine decide_eq_false (fun z => ?_)
  have := (wC_rg v hv).1.1
  omega
theorem nv_1 {f : Nat → Int32} {d a : Nat} {x : Int32} : nv f (d + 1) a x = nv f d (a + 1) (x * 10 + (f a - 48)) := rfl
theorem num_2 {f : Nat → Int32} {n t v : Nat} {L : List Tok} (hv : v ≤ 999) (h : Bt f n t (ren true ((2, v) :: L))) : nval f n t = nI v ∧ te f n t - t ≤ 3 := by
  obtain ⟨a1, a2, a3, a4⟩ := tok_2 hv h
  obtain ⟨w1, w2⟩ := dG_len v
  have he : e3 f n t - t = (dG v).length := by
    unfold e3
    split <;> omega
  refine ⟨?_, by omega⟩
  unfold nval
  rw [he]
  have d : ∀ j, j < 10 → nI (48 + j) - 48 = nI j := fun j hj => (d_all j hj).2.2.2
  have st : ∀ q j, nI q * 10 + nI j = nI (q * 10 + j) := fun q j => by rw [show (10 : Int32) = nI 10 from rfl, pk_mul, nI_add]
  unfold dG at a3 ⊢
  by_cases e1 : v < 10
  · rw [if_pos e1] at a3 ⊢
    have b0 : f t = nI (48 + v) := a3 0 (Nat.le_of_ble_eq_true rfl)
    show nv f 1 t 0 = nI v
    rw [nv_1, nv, b0, d v e1, show (0 : Int32) = nI 0 from rfl, st]
    congr 1
    omega
  · rw [if_neg e1] at a3 ⊢
    by_cases e2 : v < 100
    · rw [if_pos e2] at a3 ⊢
      have b0 : f t = nI (48 + v / 10) := a3 0 (Nat.le_of_ble_eq_true rfl)
      have b1 : f (t + 1) = nI (48 + v % 10) := a3 1 (Nat.le_of_ble_eq_true rfl)
      show nv f 2 t 0 = nI v
      rw [nv_1, nv_1, nv, b0, b1, d _ (by omega), d _ (by omega), show (0 : Int32) = nI 0 from rfl, st, st]
      congr 1
      omega
    · rw [if_neg e2] at a3 ⊢
      have b0 : f t = nI (48 + v / 100) := a3 0 (Nat.le_of_ble_eq_true rfl)
      have b1 : f (t + 1) = nI (48 + v / 10 % 10) := a3 1 (Nat.le_of_ble_eq_true rfl)
      have b2 : f (t + 2) = nI (48 + v % 10) := a3 2 (Nat.le_of_ble_eq_true rfl)
      show nv f 3 t 0 = nI v
      rw [nv_1, nv_1, nv_1, nv, b0, b1, b2, d _ (by omega), d _ (by omega), d _ (by omega), show (0 : Int32) = nI 0 from rfl, st, st, st]
      congr 1
      omega
theorem numC_2 {f : Nat → Int32} {n t v lo hi : Nat} {L : List Tok} (hv : v ≤ 999) (h : Bt f n t (ren true ((2, v) :: L))) (h1 : lo ≤ v) (h2 : v ≤ hi) (hh : hi < 2 ^ 30) : numC f n t (nI lo) (nI hi) = 0 := by
  obtain ⟨a1, a2⟩ := num_2 hv h
  unfold numC
  rw [if_pos (tok_2 hv h).1, if_neg (by omega), a1, if_neg (nI_nlt h1 (by omega)), if_pos (nI_le h2 (by omega))]
