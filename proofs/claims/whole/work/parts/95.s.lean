/-! ===== the reference's signs and words ===== -/
def BY (f : Nat → Int32) (n : Nat) : Prop := n ≤ 900 ∧ ∀ k, k < n → By (f k)
def bt (f : Nat → Int32) (n k : Nat) : Int32 := if k < n then f k &&& 255 else -1
def ML (f : Nat → Int32) (n a : Nat) (μ : Mm) : Prop := (μ.1 295 14 = nI n ∧ ∀ k, k < n → μ.1 306 k = f k) ∧ μ.1 295 15 = nI a
def K15 (μ μ' : Mm) : Prop := Fs (fun a => a = 295) μ μ' ∧ ∀ j, j ≠ 15 → μ'.1 295 j = μ.1 295 j
theorem K15.rf {μ : Mm} : K15 μ μ := ⟨Fs.rf, fun _ _ => rfl⟩
theorem K15.tr {μ μ1 μ2 : Mm} (h : K15 μ μ1) (h2 : K15 μ1 μ2) : K15 μ μ2 := ⟨h.1.tr h2.1, fun j hj => (h2.2 j hj).trans (h.2 j hj)⟩
theorem K15.u {μ : Mm} {v : Int32} : K15 μ (uI μ 295 15 v) := ⟨Fs.uI rfl, fun i hi => by rw [uI_eq]; exact if_neg hi⟩
theorem ML.fs {f : Nat → Int32} {n a : Nat} {S : Nat → Prop} {μ μ' : Mm} (h : ML f n a μ) (k : Fs S μ μ') (h5 : μ'.1 295 14 = μ.1 295 14 ∧ μ'.1 295 15 = μ.1 295 15) (h6 : ¬ S 306) : ML f n a μ' := ⟨⟨h5.1.trans h.1.1, fun i hi => by rw [(k.1 306 h6).1]; exact h.1.2 i hi⟩, h5.2.trans h.2⟩
theorem ML.at {f : Nat → Int32} {n a b : Nat} {μ : Mm} {v : Int32} (h : ML f n a μ) (hv : v = nI b) : ML f n b (uI μ 295 15 v) := ⟨⟨by rw [uI_eq]; exact (if_neg (by decide)).trans h.1.1, fun i hi => by rw [uI_ne (by decide)]; exact h.1.2 i hi⟩, by rw [uI_eq]; exact (if_pos rfl).trans hv⟩
def wL (w : Nat) : Nat := qLen.getD w 0
def wC (w i : Nat) : Int32 := (qByt.getD w []).getD i 0
theorem wC_rg : ∀ w, w < 10 → (4 ≤ wL w ∧ wL w ≤ 8) ∧ ∀ i, i < wL w → 0 ≤ wC w i ∧ wC w i < 128 := by decide +kernel
def wdB (f : Nat → Int32) (n t w : Nat) : Bool := decide (ru letB f n t = t + wL w ∧ ∀ i, i < wL w → f (t + i) = wC w i)
theorem strAt_ok {w i : Nat} (h : i < wL w) (hw : w < 10) : strAt w (nI i) = some (wC w i) := by
  have := (wC_rg w hw).1.2
  have e : inb (nI i) (qLen.getD w 0) = true := inb_nI h (by show wL w ≤ 5000; omega)
  unfold strAt
  rw [if_pos e, nI_clamp (by omega)]
  rfl
section MTOK
variable {f : Nat → Int32} {n t a w : Nat} {μ : Mm}
theorem x0_isW28 (h : CL f n t μ) (hn : n ≤ 900) (hw : w < 10) (ht : t + wL w ≤ n) : ∀ (d m i : Nat), i + d = wL w → d < m → (∀ j, j < i → f (t + j) = wC w j) → ∃ r, F_X0_isWord_28 w μ m (nI i) = some r ∧ ((r = 1 ∧ ∀ j, j < wL w → f (t + j) = wC w j) ∨ (r = 0 ∧ ¬ ∀ j, j < wL w → f (t + j) = wC w j)) := by
  have hl := (wC_rg w hw).1
  obtain ⟨h1, h2, h3, h4, h5, h6⟩ := id h
  intro d
  induction d with
  | zero =>
    intro m i hi hm hj
    obtain ⟨m, rfl⟩ : ∃ z, m = z + 1 := ⟨m - 1, by omega⟩
    rw [F_X0_isWord_28, show strLen w = nI (wL w) from rfl, if_pos (nI_le (by omega) (by omega))]
    exact ⟨1, rfl, Or.inl ⟨rfl, fun j hj2 => hj j (by omega)⟩⟩
  | succ d ih =>
    intro m i hi hm hj
    obtain ⟨m, rfl⟩ : ∃ z, m = z + 1 := ⟨m - 1, by omega⟩
    rw [F_X0_isWord_28, show strLen w = nI (wL w) from rfl, if_neg (nI_ge (by omega) (by omega)), h1.1, h5, nI_add, if_neg (nI_ge (by omega) (by omega)), tx_at h1 hn (show t + i < n by omega)]
    by_cases e : f (t + i) = wC w i
    · obtain ⟨r, r1, r2⟩ := ih m (i + 1) (by omega) (by omega) (fun j hj2 => by
        by_cases e2 : j = i
        · rw [e2]; exact e
        · exact hj j (by omega))
      refine ⟨r, be_ rfl (be_ (strAt_ok (by omega) hw) ((if_pos e).trans ?_)), r2⟩
      rw [nI_1]
      exact r1
    · exact ⟨0, be_ rfl (be_ (strAt_ok (by omega) hw) (if_neg e)), Or.inr ⟨rfl, fun z => e (z i (by omega))⟩⟩
theorem x0_isW (h : CL f n t μ) (hn : n ≤ 900) (hw : w < 10) : F_X0_isWord w μ = some (if wdB f n t w = true then 1 else 0) := by
  have hl := (wC_rg w hw).1
  obtain ⟨h1, h2, h3, h4, h5, h6⟩ := id h
  have htk := tk_le (f := f) (n := n) (t := t)
  have hte := te_le (f := f) h2
  unfold F_X0_isWord
  rw [h4, h5, h6, pk_sub hte.1, show strLen w = nI (wL w) from rfl]
  by_cases e1 : tk f n t = 1
  · rw [if_pos (by rw [e1]; rfl), te_let e1]
    have hb := ru_b (P := letB) (f := f) h2
    by_cases e2 : ru letB f n t - t = wL w
    · rw [if_pos (by rw [e2])]
      obtain ⟨r, r1, r2⟩ := x0_isW28 h hn hw (by omega) (wL w) qFuel 0 (by omega) (by unfold qFuel; omega) (fun j hj => absurd hj (Nat.not_lt_zero j))
      refine r1.trans (congrArg some ?_)
      rcases r2 with ⟨rfl, z⟩ | ⟨rfl, z⟩
      · exact (if_pos (decide_eq_true ⟨by omega, z⟩)).symm
      · exact (if_neg (fun y => z (of_decide_eq_true y).2)).symm
    · rw [if_neg (fun z => e2 (nI_inj (by omega) (by omega) z)), if_neg (fun y => e2 (by have := (of_decide_eq_true y).1; omega))]
  · rw [if_neg (show ¬ nI (tk f n t) = (1 : Int32) from fun z => e1 (nI_inj (b := 1) (by omega) (by decide) z)), if_neg (fun y => by
      have z := (of_decide_eq_true y).1
      rw [ru_nolet e1] at z
      omega)]
theorem m_byte (h : ML f n a μ) (hB : BY f n) {k : Nat} (hk : k < 2000) : F_X4_byteAt (nI k) μ = some (bt f n k) := by
  have := hB.1
  unfold F_X4_byteAt bt
  rw [h.1.1]
  by_cases e : k < n
  · rw [if_neg (nI_ge e (by omega)), if_pos e]
    refine be_ ((aI_ok (k := k) rfl (by rw [ln306]; omega)).trans (congrArg some (h.1.2 k e))) rfl
  · rw [if_pos (nI_le (by omega) (by omega)), if_neg e]
theorem bt_eq (hB : BY f n) {k : Nat} {c : Int32} (hc : 0 ≤ c) (h8 : c < 128) : bt f n k = c ↔ k < n ∧ f k = c := by
  unfold bt
  by_cases e : k < n
  · rw [if_pos e, by_eq (hB.2 k e) hc h8]
    exact ⟨fun z => ⟨e, z⟩, fun z => z.2⟩
  · rw [if_neg e]
    refine ⟨fun z => ?_, fun z => absurd z.1 e⟩
    rw [← z] at hc
    exact absurd hc (by decide)
theorem bt_in (hB : BY f n) {k : Nat} {lo hi : Int32} (hlo : 0 ≤ lo) (hhi : hi < 128) : (¬ bt f n k < lo ∧ ¬ hi < bt f n k) ↔ k < n ∧ (¬ f k < lo ∧ ¬ hi < f k) := by
  unfold bt
  by_cases e : k < n
  · rw [if_pos e, by_in (hB.2 k e) hlo hhi]
    exact ⟨fun z => ⟨e, z⟩, fun z => z.2⟩
  · rw [if_neg e]
    exact ⟨fun z => absurd (Int32.lt_of_lt_of_le (by decide) hlo) z.1, fun z => absurd z.1 e⟩
theorem m_inR {y lo hi : Int32} : F_X4_inRange y lo hi μ = some (if ¬ y < lo ∧ ¬ hi < y then 1 else 0) := by
  by_cases e : ¬ y < lo ∧ ¬ hi < y
  · rw [if_pos e]
    exact inR_y e.1 e.2
  · rw [if_neg e]
    refine inR_n ?_
    by_cases e1 : y < lo
    · exact Or.inl e1
    · exact Or.inr (Decidable.byContradiction (fun z => e ⟨e1, z⟩))
theorem m_pk0 (hB : BY f n) : ∀ (d m a : Nat) (μ : Mm), n - a = d → d < m → a < 1900 → ML f n a μ → Op (F_X4_peek_0 m μ) (fun μ' => ML f n (skp f n a) μ' ∧ K15 μ μ') := by
  have hn := hB.1
  intro d
  induction d with
  | zero =>
    intro m a μ ha hm ha2 h
    obtain ⟨m, rfl⟩ : ∃ z, m = z + 1 := ⟨m - 1, by omega⟩
    have b := m_byte h hB (k := a) (by omega)
    have nb : ∀ {c : Int32}, 0 ≤ c → c < 128 → ¬ bt f n a = c := fun {c} h1 h2 z => by
      have := ((bt_eq hB h1 h2).mp z).1
      omega
    rw [F_X4_peek_0, h.2]
    refine op_eb b (op_f (nb (by decide) (by decide)) (op_eb b (op_f (nb (by decide) (by decide)) (op_eb b (op_f (nb (by decide) (by decide)) (op_r ⟨?_, K15.rf⟩))))))
    unfold skp
    rw [ru_o (by omega)]
    exact h
  | succ d ih =>
    intro m a μ ha hm ha2 h
    obtain ⟨m, rfl⟩ : ∃ z, m = z + 1 := ⟨m - 1, by omega⟩
    have b := m_byte h hB (k := a) (by omega)
    have go : blaB (f a) = true → Op ((some (uI μ 295 15 (nI a + 1))).bind fun m6 => F_X4_peek_0 m m6) (fun μ' => ML f n (skp f n a) μ' ∧ K15 μ μ') := fun e => by
      refine op_br ?_
      unfold skp
      rw [ru_y (by omega) e]
      exact op_m (ih m (a + 1) _ (by omega) (by omega) (by omega) (h.at (nI_1 a))) (fun μ' z => ⟨z.1, K15.u.tr z.2⟩)
    have be : ∀ {c : Int32}, 0 ≤ c → c < 128 → (bt f n a = c ↔ f a = c) := fun {c} h1 h2 => (bt_eq hB h1 h2).trans ⟨fun z => z.2, fun z => ⟨by omega, z⟩⟩
    rw [F_X4_peek_0, h.2]
    refine op_eb b ?_
    by_cases e1 : f a = 9
    · exact op_t ((be (by decide) (by decide)).mpr e1) (go (decide_eq_true (Or.inr (Or.inl e1))))
    refine op_f (fun z => e1 ((be (by decide) (by decide)).mp z)) (op_eb b ?_)
    by_cases e2 : f a = 10
    · exact op_t ((be (by decide) (by decide)).mpr e2) (go (decide_eq_true (Or.inr (Or.inr e2))))
    refine op_f (fun z => e2 ((be (by decide) (by decide)).mp z)) (op_eb b ?_)
    by_cases e3 : f a = 32
    · exact op_t ((be (by decide) (by decide)).mpr e3) (go (decide_eq_true (Or.inl e3)))
    refine op_f (fun z => e3 ((be (by decide) (by decide)).mp z)) (op_r ⟨?_, K15.rf⟩)
    unfold skp
    rw [ru_n (fun _ z => (of_decide_eq_true z).elim e3 (fun y => y.elim e1 e2))]
    exact h
theorem m_peek (hB : BY f n) (h : ML f n a μ) (ha : a < 1900) : Op (F_X4_peek μ) (fun o => o.1 = bt f n (skp f n a) ∧ (ML f n (skp f n a) o.2 ∧ K15 μ o.2)) := by
  have hn := hB.1
  unfold F_X4_peek
  refine op_mb (m_pk0 hB (n - a) qFuel a μ rfl (by unfold qFuel; omega) ha h) (fun m w => ?_)
  have hs : skp f n a < 2000 := by
    by_cases e : a ≤ n
    · have := (ru_b (P := blaB) (f := f) e).2.1
      unfold skp
      omega
    · unfold skp
      rw [ru_o (by omega)]
      omega
  rw [w.1.2]
  exact op_eb (m_byte w.1 hB hs) (op_r ⟨rfl, w⟩)
theorem m_letL (hB : BY f n) (h : ML f n a μ) {u : Nat} : ∀ (d m k : Nat), n - k = d → d < m → k < 1900 → F_X4_accept_10 u μ m (nI k) = some (nI (ru letB f n k)) := by
  have hn := hB.1
  intro d
  induction d with
  | zero =>
    intro m k hk hm hk2
    obtain ⟨m, rfl⟩ : ∃ z, m = z + 1 := ⟨m - 1, by omega⟩
    rw [F_X4_accept_10]
    refine be_ (m_byte h hB (by omega)) (be_ m_inR ?_)
    rw [if_neg (show ¬ (¬ bt f n k < 97 ∧ ¬ 122 < bt f n k) from fun z => by have := ((bt_in hB (by decide) (by decide)).mp z).1; omega), if_pos rfl, ru_o (by omega)]
  | succ d ih =>
    intro m k hk hm hk2
    obtain ⟨m, rfl⟩ : ∃ z, m = z + 1 := ⟨m - 1, by omega⟩
    rw [F_X4_accept_10]
    refine be_ (m_byte h hB (by omega)) (be_ m_inR ?_)
    by_cases e : letB (f k) = true
    · rw [if_pos (show ¬ bt f n k < 97 ∧ ¬ 122 < bt f n k from (bt_in hB (by decide) (by decide)).mpr ⟨by omega, of_decide_eq_true e⟩), if_neg n10, ru_y (by omega) e, nI_1]
      exact ih m (k + 1) (by omega) (by omega) (by omega)
    · rw [if_neg (show ¬ (¬ bt f n k < 97 ∧ ¬ 122 < bt f n k) from fun z => e (decide_eq_true ((bt_in hB (by decide) (by decide)).mp z).2)), if_pos rfl, ru_n (fun _ => e)]
theorem m_ac60 (hB : BY f n) (h : ML f n t μ) (hw : w < 10) (ht : t + wL w ≤ n) : ∀ (d m i : Nat), i + d = wL w → d < m → (∀ j, j < i → f (t + j) = wC w j) → ∃ r, F_X4_accept_60 w μ m 1 (nI i) = some r ∧ ((r = 1 ∧ ∀ j, j < wL w → f (t + j) = wC w j) ∨ (r = 0 ∧ ¬ ∀ j, j < wL w → f (t + j) = wC w j)) := by
  have hn := hB.1
  have hl := (wC_rg w hw).1
  intro d
  induction d with
  | zero =>
    intro m i hi hm hj
    obtain ⟨m, rfl⟩ : ∃ z, m = z + 1 := ⟨m - 1, by omega⟩
    rw [F_X4_accept_60, show strLen w = nI (wL w) from rfl, if_pos (nI_le (by omega) (by omega))]
    exact ⟨1, rfl, Or.inl ⟨rfl, fun j hj2 => hj j (by omega)⟩⟩
  | succ d ih =>
    intro m i hi hm hj
    obtain ⟨m, rfl⟩ : ∃ z, m = z + 1 := ⟨m - 1, by omega⟩
    have hr := (wC_rg w hw).2 i (by omega)
    rw [F_X4_accept_60, show strLen w = nI (wL w) from rfl, if_neg (nI_ge (by omega) (by omega)), if_neg n10, h.2, nI_add, m_byte h hB (show t + i < 2000 by omega)]
    by_cases e : f (t + i) = wC w i
    · obtain ⟨r, r1, r2⟩ := ih m (i + 1) (by omega) (by omega) (fun j hj2 => by
        by_cases e2 : j = i
        · rw [e2]; exact e
        · exact hj j (by omega))
      refine ⟨r, be_ rfl (be_ (strAt_ok (by omega) hw) (be_ (if_pos ((bt_eq hB hr.1 hr.2).mpr ⟨by omega, e⟩)) ?_)), r2⟩
      rw [nI_1]
      exact r1
    · refine ⟨0, be_ rfl (be_ (strAt_ok (by omega) hw) (be_ (if_neg (fun z => e ((bt_eq hB hr.1 hr.2).mp z).2)) ?_)), Or.inr ⟨rfl, fun z => e (z i (by omega))⟩⟩
      rw [nI_1]
      cases m with
      | zero => omega
      | succ m =>
        rw [F_X4_accept_60]
        by_cases e3 : strLen w ≤ nI (i + 1)
        · rw [if_pos e3]
        · rw [if_neg e3, if_pos rfl]
theorem m_failed0 (h : μ.1 295 17 = 0) : F_X4_failed μ = some 0 := if_pos h
theorem m_failed1 (h : ¬ μ.1 295 17 = 0) : F_X4_failed μ = some 1 := if_neg h
theorem m_accept (hB : BY f n) (h : ML f n a μ) (ha : a ≤ n) (hw : w < 10) (h0 : μ.1 295 17 = 0) : Op (F_X4_accept w μ) (fun o => o.1 = (if wdB f n (skp f n a) w = true then 1 else 0) ∧ (ML f n (if wdB f n (skp f n a) w = true then skp f n a + wL w else skp f n a) o.2 ∧ K15 μ o.2)) := by
  have hn := hB.1
  have hl := (wC_rg w hw).1
  have hb := ru_b (P := blaB) (f := f) ha
  unfold F_X4_accept
  refine op_mb (m_peek hB h (by omega)) (fun o w1 => ?_)
  obtain ⟨w1, w2, w3⟩ := w1
  have hb : a ≤ skp f n a ∧ (skp f n a ≤ n ∧ (skp f n a < n → ¬ blaB (f (skp f n a)) = true)) := hb
  generalize skp f n a = t at *
  have hr := ru_b (P := letB) (f := f) hb.2.1
  rw [w2.2]
  refine op_eb (m_letL hB w2 (n - t) qFuel t rfl (by unfold qFuel; omega) (by omega)) (op_eb (m_failed0 ((w3.2 17 (by decide)).trans h0)) ?_)
  rw [pk_sub hr.1, show strLen w = nI (wL w) from rfl]
  have fin : ∀ {r : Int32}, (r = 1 ∨ r = 0) → (r = 1 ↔ wdB f n t w = true) → Op ((if r = 0 then (some (0 : Int32)) else (some (nI (wL w)))).bind fun o50 => (some (uI o.2 295 15 (nI t + o50))).bind fun m51 => (zb r).bind fun x53 => some (x53, m51)) (fun o => o.1 = (if wdB f n t w = true then 1 else 0) ∧ (ML f n (if wdB f n t w = true then t + wL w else t) o.2 ∧ K15 μ o.2)) := fun {r} hr1 hr2 => by
    rcases hr1 with rfl | rfl
    · have e := hr2.mp rfl
      rw [if_neg n10, if_pos e, if_pos e]
      exact op_br (op_br (op_eb (a := 1) rfl (op_r ⟨rfl, w2.at (nI_add t (wL w)), w3.tr K15.u⟩)))
    · have e : ¬ wdB f n t w = true := fun z => absurd (hr2.mpr z) (by decide)
      rw [if_pos rfl, if_neg e, if_neg e]
      exact op_br (op_br (op_eb (a := 0) rfl (op_r ⟨rfl, w2.at (Int32.add_zero (nI t)), w3.tr K15.u⟩)))
  by_cases e : ru letB f n t - t = wL w
  · rw [if_pos rfl, if_pos (by rw [e])]
    refine op_br ?_
    obtain ⟨r, r1, r2⟩ := m_ac60 hB w2 hw (by omega) (wL w) qFuel 0 (by omega) (by unfold qFuel; omega) (fun j hj => absurd hj (Nat.not_lt_zero j))
    refine op_eb r1 ?_
    rcases r2 with ⟨rfl, z⟩ | ⟨rfl, z⟩
    · exact fin (Or.inl rfl) ⟨fun _ => decide_eq_true ⟨by omega, z⟩, fun _ => rfl⟩
    · exact fin (Or.inr rfl) ⟨fun y => absurd y (by decide), fun y => absurd (of_decide_eq_true y).2 z⟩
  · rw [if_pos rfl, if_neg (fun z => e (nI_inj (by omega) (by omega) z))]
    refine op_br (op_eb (a := 0) ?_ ?_)
    · show F_X4_accept_60 w o.2 (9999 + 1) 0 0 = some 0
      rw [F_X4_accept_60, show strLen w = nI (wL w) from rfl, if_neg (show ¬ nI (wL w) ≤ (0 : Int32) from nI_nle (by omega) (by omega)), if_pos rfl]
    · exact fin (Or.inr rfl) ⟨fun y => absurd y (by decide), fun y => absurd (of_decide_eq_true y).1 (by omega)⟩
theorem m_acceptF (hB : BY f n) (h : ML f n a μ) (ha : a ≤ n) (hw : w < 10) (h0 : ¬ μ.1 295 17 = 0) : Op (F_X4_accept w μ) (fun o => o.1 = 0 ∧ (ML f n (skp f n a) o.2 ∧ (skp f n a ≤ n ∧ K15 μ o.2))) := by
  have hn := hB.1
  have hl := (wC_rg w hw).1
  have hb := ru_b (P := blaB) (f := f) ha
  unfold F_X4_accept
  refine op_mb (m_peek hB h (by omega)) (fun o w1 => ?_)
  obtain ⟨w1, w2, w3⟩ := w1
  have hb : a ≤ skp f n a ∧ (skp f n a ≤ n ∧ (skp f n a < n → ¬ blaB (f (skp f n a)) = true)) := hb
  generalize skp f n a = t at *
  rw [w2.2]
  refine op_eb (m_letL hB w2 (n - t) qFuel t rfl (by unfold qFuel; omega) (by omega)) (op_eb (m_failed1 (by rw [w3.2 17 (by decide)]; exact h0)) ?_)
  rw [if_neg n10]
  refine op_br (op_eb (a := 0) ?_ ?_)
  · show F_X4_accept_60 w o.2 (9999 + 1) 0 0 = some 0
    rw [F_X4_accept_60, show strLen w = nI (wL w) from rfl, if_neg (show ¬ nI (wL w) ≤ (0 : Int32) from nI_nle (by omega) (by omega)), if_pos rfl]
  · rw [if_pos rfl]
    exact op_br (op_br (op_eb (a := 0) rfl (op_r ⟨rfl, w2.at (Int32.add_zero (nI t)), hb.2.1, w3.tr K15.u⟩)))
end MTOK
