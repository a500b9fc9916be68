/-! ===== the reference: a claim is served ===== -/
def MV (μ : Mm) (st : Sg) : Prop := μ.1 296 = st.1 ∧ (μ.2.1 300 = st.2.1 ∧ (μ.1 307 = st.2.2.1 ∧ μ.1 308 = st.2.2.2))
theorem MV.fs {S : Nat → Prop} {μ μ' : Mm} {st : Sg} (h : MV μ st) (hF : Fs S μ μ') (h1 : ¬ S 296) (h2 : ¬ S 300) (h3 : ¬ S 307) (h4 : ¬ S 308) : MV μ' st := ⟨(hF.1 _ h1).1.trans h.1, (hF.1 _ h2).2.trans h.2.1, (hF.1 _ h3).1.trans h.2.2.1, (hF.1 _ h4).1.trans h.2.2.2⟩
theorem upd_upa {f : Nat → Int32} {k : Nat} {x : Int32} : upd f k (f k + x) = upa f k x := by
  funext j
  unfold upd upa
  by_cases e : j = k
  · rw [if_pos e, if_pos e, e]
  · rw [if_neg e, if_neg e]
section MSV
variable {μ : Mm} {st : Sg} {kp rt to : Nat}
theorem m_mayL (h : MV μ st) (hv : Rv st.1) (hfl : Flo (ct st.1 0) st.2.2.1) {x : Nat} (hr : rt ≤ 100) (hx : x ≤ 999) (ht : to < 100) : ∀ (d m q : Nat), q + d = ct st.1 0 → d < m → ((∀ j, j < ct st.1 0 → (q ≤ j → (byN kp rt to x j = 0 ∨ byN kp rt to x j + ct st.1 (14 + j) ≤ ct st.2.2.1 j))) → F_X4_mayGet_3 (nI x) (nI (backN kp rt x)) (nI to) μ m (nI q) = some 1) ∧ ((¬ ∀ j, j < ct st.1 0 → (q ≤ j → (byN kp rt to x j = 0 ∨ byN kp rt to x j + ct st.1 (14 + j) ≤ ct st.2.2.1 j))) → F_X4_mayGet_3 (nI x) (nI (backN kp rt x)) (nI to) μ m (nI q) = some 0) := by
  obtain ⟨a0, a1, a2, a3, a4, a5⟩ := id hv
  have h0 := a0.2
  have hkx : backN kp rt x ≤ x := backN_le hr
  intro d
  induction d with
  | zero =>
    intro m q hq hm
    obtain ⟨m, rfl⟩ : ∃ z, m = z + 1 := ⟨m - 1, by omega⟩
    have e : F_X4_mayGet_3 (nI x) (nI (backN kp rt x)) (nI to) μ (m + 1) (nI q) = some 1 := by
      rw [F_X4_mayGet_3]
      refine be_ (mg (k := 0) rfl (by decide)) ?_
      rw [h.1, a0.1, if_pos (nI_le (by omega) (by omega))]
    exact ⟨fun _ => e, fun z => absurd (fun j h1 h2 => by omega) z⟩
  | succ d ih =>
    intro m q hq hm
    obtain ⟨m, rfl⟩ : ∃ z, m = z + 1 := ⟨m - 1, by omega⟩
    obtain ⟨i1, i2⟩ := ih m (q + 1) (by omega) (by omega)
    have hby : byN kp rt to x q ≤ x := by unfold byN; split <;> omega
    have f1 := hfl q (by omega)
    have m1 := a4 q (by omega)
    have m2 := m1.2
    have f2 := f1.2
    have e : F_X4_mayGet_3 (nI x) (nI (backN kp rt x)) (nI to) μ (m + 1) (nI q) = if byN kp rt to x q = 0 ∨ byN kp rt to x q + ct st.1 (14 + q) ≤ ct st.2.2.1 q then F_X4_mayGet_3 (nI x) (nI (backN kp rt x)) (nI to) μ m (nI (q + 1)) else some 0 := by
      rw [F_X4_mayGet_3]
      refine be_ (mg (k := 0) rfl (by decide)) ?_
      rw [h.1, a0.1, if_neg (nI_ge (by omega) (by omega))]
      refine be_ ((m_lowers hkx ht (by omega)).trans (congrArg some (show nI (if to ≤ q then x - backN kp rt x else x) = nI (byN kp rt to x q) from rfl))) ?_
      rw [nI_1]
      by_cases e0 : byN kp rt to x q = 0
      · rw [if_pos (Or.inl e0), e0]
        exact if_pos (by decide)
      · rw [if_neg (nI_nle (by omega) (by omega))]
        refine be_ (aI_ok (k := q) rfl (by rw [ln307]; omega)) (be_ (mg (k := 14 + q) (nI_add 14 q) (by omega)) ?_)
        rw [h.1, h.2.2.1, m1.1, f1.1]
        by_cases e1 : byN kp rt to x q + ct st.1 (14 + q) ≤ ct st.2.2.1 q
        · rw [if_pos (Or.inr e1), pk_sub (by omega), if_pos (nI_le (by omega) (by omega))]
        · rw [if_neg (show ¬ (byN kp rt to x q = 0 ∨ byN kp rt to x q + ct st.1 (14 + q) ≤ ct st.2.2.1 q) from fun z => z.elim e0 e1)]
          by_cases e2 : byN kp rt to x q ≤ ct st.2.2.1 q
          · rw [pk_sub e2, if_neg (nI_ge (by omega) (by omega))]
          · refine if_neg (fun z => ?_)
            exact absurd (Int32.lt_of_le_of_lt z (pk_sneg (by omega) (by omega))) (nI_pos (by omega))
    rw [e]
    by_cases e1 : byN kp rt to x q = 0 ∨ byN kp rt to x q + ct st.1 (14 + q) ≤ ct st.2.2.1 q
    · rw [if_pos e1]
      refine ⟨fun z => i1 (fun j h1 h2 => z j h1 (by omega)), fun z => i2 (fun z2 => z (fun j h1 h2 => ?_))⟩
      by_cases e2 : j = q
      · rw [e2]; exact e1
      · exact z2 j h1 (by omega)
    · rw [if_neg e1]
      exact ⟨fun z => absurd (z q (by omega) (Nat.le_refl q)) e1, fun _ => rfl⟩
theorem m_may (h : MV μ st) (hv : Rv st.1) (hfl : Flo (ct st.1 0) st.2.2.1) {x reach : Nat} (hr : rt ≤ 100) (hx : x ≤ 999) (ht : to < 100) (hre : reach ≤ ct st.1 0) : F_X4_mayGet (nI reach) (nI x) (nI (backN kp rt x)) (nI to) μ = some (if okN (ct st.1 0) (fun q => ct st.1 (14 + q)) (fun q => ct st.2.2.1 q) reach kp rt to x = true then 1 else 0) := by
  have h6 := hv.1.2
  obtain ⟨i1, i2⟩ := m_mayL (kp := kp) h hv hfl hr hx ht (ct st.1 0 - reach) qFuel reach (by omega) (by unfold qFuel; omega)
  unfold F_X4_mayGet
  by_cases e : okN (ct st.1 0) (fun q => ct st.1 (14 + q)) (fun q => ct st.2.2.1 q) reach kp rt to x = true
  · rw [if_pos e]
    unfold okN at e
    rw [decide_eq_true_eq] at e
    exact i1 e
  · rw [if_neg e]
    unfold okN at e
    rw [decide_eq_true_eq] at e
    exact i2 e
theorem m_dnL (h : MV μ st) (hv : Rv st.1) (hfl : Flo (ct st.1 0) st.2.2.1) {reach : Nat} {u1 u2 u3 u5 u6 : Int32} (hk : kp ≤ 100) (hr : rt ≤ 100) (ht : to < 100) (hre : reach ≤ ct st.1 0) : ∀ (w m : Nat), w ≤ 999 → w < m → F_X4_serves_45 u1 u2 u3 (nI reach) u5 u6 (nI kp) (nI rt) (nI to) μ m (nI w) = some (nI (dn (okN (ct st.1 0) (fun q => ct st.1 (14 + q)) (fun q => ct st.2.2.1 q) reach kp rt to) w)) := by
  have key : ∀ (w m : Nat), w ≤ 999 → F_X4_serves_45 u1 u2 u3 (nI reach) u5 u6 (nI kp) (nI rt) (nI to) μ (m + 1) (nI w) = if okN (ct st.1 0) (fun q => ct st.1 (14 + q)) (fun q => ct st.2.2.1 q) reach kp rt to w = true then some (nI w) else F_X4_serves_45 u1 u2 u3 (nI reach) u5 u6 (nI kp) (nI rt) (nI to) μ m (nI w - 1) := by
    intro w m hw
    have k1 : w * kp ≤ w * 100 := Nat.mul_le_mul_left _ hk
    have k2 : (w - w * kp / 100) * rt ≤ (w - w * kp / 100) * 100 := Nat.mul_le_mul_left _ hr
    rw [F_X4_serves_45]
    refine be_ (m_part (by omega)) ?_
    rw [pk_sub (by omega)]
    refine be_ (m_part (by omega)) (be_ (m_may h hv hfl hr hw ht hre) ?_)
    by_cases e : okN (ct st.1 0) (fun q => ct st.1 (14 + q)) (fun q => ct st.2.2.1 q) reach kp rt to w = true
    · rw [if_pos e, if_neg (by decide), if_pos e]
    · rw [if_neg e, if_pos rfl, if_neg e, Int32.sub_eq_add_neg]
  intro w
  induction w with
  | zero =>
    intro m _ hm
    obtain ⟨m, rfl⟩ : ∃ z, m = z + 1 := ⟨m - 1, by omega⟩
    rw [key 0 m (by decide), if_pos okN_0]
    rfl
  | succ w ih =>
    intro m hw hm
    obtain ⟨m, rfl⟩ : ∃ z, m = z + 1 := ⟨m - 1, by omega⟩
    rw [key (w + 1) m hw, dn]
    by_cases e : okN (ct st.1 0) (fun q => ct st.1 (14 + q)) (fun q => ct st.2.2.1 q) reach kp rt to (w + 1) = true
    · rw [if_pos e, if_pos e]
    · rw [if_neg e, if_neg e, nI_pred]
      exact ih m (by omega) (by omega)
theorem m_floL {fl : Nat → Int32} {n reach got : Nat} {u1 u2 u3 u4 u5 u6 u11 : Int32} (hn : n ≤ 6) (hr : rt ≤ 100) (ht : to < 100) : ∀ (d m q : Nat) (μ : Mm), q + d = n → d < m → reach ≤ q → μ.1 296 0 = nI n → μ.1 307 = (fun j => if reach ≤ j ∧ j < q then fl j - nI (byN kp rt to got j) else fl j) → Op (F_X4_serves_104 u1 u2 u3 u4 u5 u6 (nI to) (nI got) u11 (nI (backN kp rt got)) m (nI q) μ) (fun μ' => μ'.1 307 = (fun j => if reach ≤ j ∧ j < n then fl j - nI (byN kp rt to got j) else fl j) ∧ Fs (fun a => a = 307) μ μ') := by
  intro d
  induction d with
  | zero =>
    intro m q μ hq hm hre e0 e1
    obtain ⟨m, rfl⟩ : ∃ z, m = z + 1 := ⟨m - 1, by omega⟩
    rw [F_X4_serves_104]
    refine op_eb (mg (k := 0) rfl (by decide)) ?_
    rw [e0, if_pos (nI_le (by omega) (by omega))]
    obtain rfl : q = n := by omega
    exact op_r ⟨e1, Fs.rf⟩
  | succ d ih =>
    intro m q μ hq hm hre e0 e1
    obtain ⟨m, rfl⟩ : ∃ z, m = z + 1 := ⟨m - 1, by omega⟩
    rw [F_X4_serves_104]
    refine op_eb (mg (k := 0) rfl (by decide)) ?_
    rw [e0, if_neg (nI_ge (by omega) (by omega))]
    refine op_eb (aI_ok (k := q) rfl (by rw [ln307]; omega)) ?_
    refine op_eb ((m_lowers (backN_le hr) ht (by omega)).trans (congrArg some (show nI (if to ≤ q then got - backN kp rt got else got) = nI (byN kp rt to got q) from rfl))) ?_
    refine op_eb (sI_ok (k := q) rfl (by rw [ln307]; omega)) ?_
    rw [nI_1]
    refine op_m (ih m (q + 1) _ (by omega) (by omega) (by omega) ?_ ?_) (fun μ' z => ⟨z.1, Fs.tr (Fs.uI (S := fun a => a = 307) rfl) z.2⟩)
    · rw [uI_ne (by decide)]; exact e0
    · rw [uI_eq, e1]
      funext j
      by_cases e : j = q
      · rw [e]
        simp only [if_true]
        rw [if_neg (by omega), if_pos (by omega)]
      · rw [if_neg e]
        show (if reach ≤ j ∧ j < q then fl j - nI (byN kp rt to got j) else fl j) = _
        by_cases e3 : reach ≤ j ∧ j < q
        · rw [if_pos e3, if_pos (by omega)]
        · rw [if_neg e3, if_neg (by omega)]
end MSV
theorem m_pays {μ : Mm} {a o : Nat} {x : Int64} (ha : a < 5) (ho : o < 5) : Op (F_X4_pays (nI a) (nI o) x μ) (fun μ' => μ'.2.1 300 = pay (μ.2.1 300) a o x ∧ Fs (fun a => a = 300) μ μ') := by
  unfold F_X4_pays
  refine op_eb (aL_ok rfl (by rw [ln300]; omega)) (op_eb (sL_ok rfl (by rw [ln300]; omega)) (op_eb (aL_ok rfl (by rw [ln300]; omega)) (op_eb (sL_ok rfl (by rw [ln300]; omega)) (op_r ⟨?_, Fs.tr (Fs.uL rfl) (Fs.uL rfl)⟩))))
  rw [uL_eq, uL_eq]
  rfl
theorem clm_upd {s : Nat → Int32} {c : Nat} {x a0 a1 a2 a3 a4 a5 a6 a7 : Int32} (hx : x = s 56 + 1) : upd (upd (upd (upd (upd (upd (upd (upd (upd s 56 x) (242 + 8 * c) a0) (242 + 8 * c + 1) a1) (242 + 8 * c + 2) a2) (242 + 8 * c + 3) a3) (242 + 8 * c + 4) a4) (242 + 8 * c + 5) a5) (242 + 8 * c + 6) a6) (242 + 8 * c + 7) a7 = sClm s c (rowF a0 a1 a2 a3 a4 a5 a6 a7) := by
  funext j
  unfold upd sClm
  by_cases e : 242 + 8 * c ≤ j ∧ j < 242 + 8 * c + 8
  · obtain ⟨k, rfl, hk⟩ : ∃ k, j = 242 + 8 * c + k ∧ k < 8 := ⟨j - (242 + 8 * c), by omega, by omega⟩
    rw [if_neg (show ¬ (242 + 8 * c + k = 56) by omega), if_pos e, show 242 + 8 * c + k - (242 + 8 * c) = k by omega]
    unfold rowF
    rcases (show k = 0 ∨ k = 1 ∨ k = 2 ∨ k = 3 ∨ k = 4 ∨ k = 5 ∨ k = 6 ∨ k = 7 by omega) with rfl | rfl | rfl | rfl | rfl | rfl | rfl | rfl <;> simp <;> (intro z; exact absurd z (by omega))
  · rw [if_neg (by omega), if_neg (by omega), if_neg (by omega), if_neg (by omega), if_neg (by omega), if_neg (by omega), if_neg (by omega), if_neg (by omega), if_neg e, hx]
set_option maxHeartbeats 4000000 in
theorem m_serves {μ : Mm} {st : Sg} (h : MV μ st) (hv : Rv st.1) (hfl : Flo (ct st.1 0) st.2.2.1) {its r acc reach w price : Nat} (hi : its ≤ 2) (ha : Ars st r acc reach w) (hp : price ≤ 99) (hc : Bn st.1 56 18) : Op (F_X4_serves (nI its) (nI r) (nI acc) (nI reach) (nI w) (nI price) μ) (fun μ' => MV μ' (srv its r acc reach w price st) ∧ Fs Fm μ μ') := by
  obtain ⟨a0, a1, a2, a3, a4, a5⟩ := id hv
  obtain ⟨b1, b2, b3, b4⟩ := ha
  obtain ⟨f0, f1, f5, f3, f4, f6, f2⟩ := a5 r b1
  have h0 := a0.2
  have h1 := a1.2
  have h2 := a2.2
  have hcc := hc.2
  have hkp : kpO its r st.1 ≤ 100 := by
    unfold kpO
    have := f6.2
    split <;> omega
  have hrt : rtO its r st.1 ≤ 100 := by
    unfold rtO
    have := f4.2
    split <;> omega
  have r4 : μ.1 296 (58 + 10 * r + 4) = nI (ct st.1 (58 + 10 * r + 4)) := by rw [h.1]; exact f4.1
  have r5 : μ.1 296 (58 + 10 * r + 5) = nI (ct st.1 (58 + 10 * r + 5)) := by rw [h.1]; exact f5.1
  have r6 : μ.1 296 (58 + 10 * r + 6) = nI (ct st.1 (58 + 10 * r + 6)) := by rw [h.1]; exact f6.1
  have ei : nI its = 0 ↔ its = 0 := nI_eq (b := 0) (by omega) (by decide)
  unfold F_X4_serves
  refine op_eb (a := nI (kpO its r st.1)) ?_ ?_
  · unfold kpO
    by_cases e : its = 0
    · rw [if_pos (ei.mpr e), if_pos e, ← r6]
      exact be_ (m_rO (k := 6) (by omega) (by decide)) rfl
    · rw [if_neg (fun z => e (ei.mp z)), if_neg e]
      rfl
  refine op_eb (a := nI (rtO its r st.1)) ?_ ?_
  · unfold rtO
    by_cases e : its = 0
    · rw [if_pos (ei.mpr e), if_pos e, ← r4]
      exact be_ (m_rO (k := 4) (by omega) (by decide)) rfl
    · rw [if_neg (fun z => e (ei.mp z)), if_neg e]
      rfl
  refine op_eb ((m_rO (k := 5) (by omega) (by decide)).trans (congrArg some r5)) ?_
  refine op_eb (m_dnL h hv hfl hkp hrt (by omega) (by omega) w qFuel b4 (by unfold qFuel; omega)) ?_
  rw [show dn (okN (ct st.1 0) (fun q => ct st.1 (14 + q)) (fun q => ct st.2.2.1 q) reach (kpO its r st.1) (rtO its r st.1) (ct st.1 (58 + 10 * r + 5))) w = gotO its r reach w st from rfl]
  have hgw : gotO its r reach w st ≤ w := dn_le _ w
  have k1 : gotO its r reach w st * kpO its r st.1 ≤ gotO its r reach w st * 100 := Nat.mul_le_mul_left _ hkp
  refine op_eb ((m_part (x := gotO its r reach w st) (k := kpO its r st.1) (by omega)).trans (congrArg some (show nI (gotO its r reach w st * kpO its r st.1 / 100) = nI (bkO its r reach w st) from rfl))) ?_
  have hbl : bkO its r reach w st ≤ gotO its r reach w st := by unfold bkO; omega
  rw [pk_sub hbl]
  have k2 : (gotO its r reach w st - bkO its r reach w st) * rtO its r st.1 ≤ (gotO its r reach w st - bkO its r reach w st) * 100 := Nat.mul_le_mul_left _ hrt
  refine op_eb ((m_part (x := gotO its r reach w st - bkO its r reach w st) (k := rtO its r st.1) (by omega)).trans (congrArg some (show nI ((gotO its r reach w st - bkO its r reach w st) * rtO its r st.1 / 100) = nI (backO its r reach w st) from rfl))) ?_
  rw [show backO its r reach w st = backN (kpO its r st.1) (rtO its r st.1) (gotO its r reach w st) from rfl]
  refine op_mb (m_floL (fl := st.2.2.1) (n := ct st.1 0) (reach := reach) h0 hrt (by omega) (ct st.1 0 - reach) qFuel reach μ (by omega) (by unfold qFuel; omega) (Nat.le_refl _) (by rw [h.1]; exact a0.1) ?_) (fun m0 w0 => ?_)
  · rw [h.2.2.1]
    funext j
    rw [if_neg (by omega)]
  rw [show backN (kpO its r st.1) (rtO its r st.1) (gotO its r reach w st) = backO its r reach w st from rfl]
  have g0 : m0.1 296 = st.1 := (w0.2.1 296 (by decide)).1.trans h.1
  refine op_eb (mg (k := 56) rfl (by decide)) (op_eb (mg (k := 56) rfl (by decide)) ?_)
  have q0 : (242 : Int32) + 8 * m0.1 296 56 = nI (242 + 8 * ct st.1 56) := by
    rw [g0, hc.1]
    show nI 242 + nI 8 * nI (ct st.1 56) = _
    rw [pk_mul, nI_add]
  rw [q0]
  refine op_mb (ms (k := 56) rfl (by decide)) (fun m1 w1 => ?_)
  refine op_mb (ms (k := 242 + 8 * ct st.1 56) rfl (by omega)) (fun m2 w2 => ?_)
  refine op_mb (ms (k := 242 + 8 * ct st.1 56 + 1) (nI_add _ 1) (by omega)) (fun m3 w3 => ?_)
  refine op_mb (ms (k := 242 + 8 * ct st.1 56 + 2) (nI_add _ 2) (by omega)) (fun m4 w4 => ?_)
  refine op_mb (ms (k := 242 + 8 * ct st.1 56 + 3) (nI_add _ 3) (by omega)) (fun m5 w5 => ?_)
  refine op_mb (ms (k := 242 + 8 * ct st.1 56 + 4) (nI_add _ 4) (by omega)) (fun m6 w6 => ?_)
  refine op_mb (ms (k := 242 + 8 * ct st.1 56 + 5) (nI_add _ 5) (by omega)) (fun m7 w7 => ?_)
  refine op_mb (ms (k := 242 + 8 * ct st.1 56 + 6) (nI_add _ 6) (by omega)) (fun m8 w8 => ?_)
  refine op_mb (ms (k := 242 + 8 * ct st.1 56 + 7) (nI_add _ 7) (by omega)) (fun m9 w9 => ?_)
  have g9 : m9.1 296 = sClm st.1 (ct st.1 56) (rowF (nI its) (nI r) (nI acc) (nI reach) (nI w) (nI (gotO its r reach w st)) (nI (bkO its r reach w st)) (nI (backO its r reach w st))) := by
    rw [w9.1, w8.1, w7.1, w6.1, w5.1, w4.1, w3.1, w2.1, w1.1, g0]
    exact clm_upd rfl
  have fr9 := (((((((w1.2.tr w2.2).tr w3.2).tr w4.2).tr w5.2).tr w6.2).tr w7.2).tr w8.2).tr w9.2
  refine op_eb (mg (k := 394 + 5 * reach + 3) (ix3 394 5 reach 3) (by omega)) ?_
  refine op_mb (ms (k := 394 + 5 * reach + 3) (ix3 394 5 reach 3) (by omega)) (fun m10 w10 => ?_)
  refine op_eb (mg (k := 394 + 5 * ct st.1 (58 + 10 * r + 5) + 4) (ix3 394 5 _ 4) (by omega)) ?_
  refine op_mb (ms (k := 394 + 5 * ct st.1 (58 + 10 * r + 5) + 4) (ix3 394 5 _ 4) (by omega)) (fun m11 w11 => ?_)
  refine op_eb m_rt ?_
  refine op_eb (mg (k := 58 + 10 * r + 7) rfl (by omega)) ?_
  refine op_mb (ms (k := 58 + 10 * r + 7) rfl (by omega)) (fun m12 w12 => ?_)
  refine op_eb m_rt ?_
  refine op_eb (mg (k := 58 + 10 * r + 8) rfl (by omega)) ?_
  refine op_mb (ms (k := 58 + 10 * r + 8) rfl (by omega)) (fun m13 w13 => ?_)
  refine op_eb (mg (k := 31 + acc) (nI_add 31 acc) (by omega)) ?_
  refine op_mb (ms (k := 31 + acc) (nI_add 31 acc) (by omega)) (fun m14 w14 => ?_)
  have g14 : m14.1 296 = upa (sRgt (sGau (sClm st.1 (ct st.1 56) (rowF (nI its) (nI r) (nI acc) (nI reach) (nI w) (nI (gotO its r reach w st)) (nI (bkO its r reach w st)) (nI (backO its r reach w st)))) reach (ct st.1 (58 + 10 * r + 5)) (nI (gotO its r reach w st)) (nI (backO its r reach w st))) r (nI (gotO its r reach w st)) (nI (backO its r reach w st))) (31 + acc) (nI (gotO its r reach w st)) := by
    rw [w14.1, upd_upa, w13.1, upd_upa, w12.1, upd_upa, w11.1, upd_upa, w10.1, upd_upa, g9]
    rfl
  have g0r : m14.1 296 (58 + 10 * r + 0) = nI (ct st.1 (58 + 10 * r + 0)) := by
    rw [g14, upa_n (by omega), sRgt_n (by omega) (by omega), sGau_n (by omega) (by omega), sClm_n (by omega) (by omega)]
    exact f0.1
  refine op_eb ((m_rO (k := 0) (by omega) (by decide)).trans (congrArg some g0r)) ?_
  refine op_eb (mg (k := 26 + ct st.1 (58 + 10 * r + 0)) (nI_add 26 _) (by omega)) ?_
  refine op_mb (ms (k := 26 + ct st.1 (58 + 10 * r + 0)) (nI_add 26 _) (by omega)) (fun m15 w15 => ?_)
  refine op_eb (mg (k := 53) rfl (by decide)) ?_
  refine op_mb (ms (k := 53) rfl (by decide)) (fun m16 w16 => ?_)
  have g16 : m16.1 296 = srvS its r acc reach w st := by
    rw [w16.1, upd_upa, w15.1, upd_upa, g14]
    rfl
  have fr16 : Fs (fun a => a = 296 ∨ a = 307) μ m16 := (w0.2.mo (fun a e => Or.inr e)).tr ((((((((fr9.tr w10.2).tr w11.2).tr w12.2).tr w13.2).tr w14.2).tr w15.2).tr w16.2).mo (fun a e => Or.inl e))
  have t16 : m16.1 307 = srvF its r reach w st := by
    rw [((((((((fr9.tr w10.2).tr w11.2).tr w12.2).tr w13.2).tr w14.2).tr w15.2).tr w16.2).1 307 (by decide)).1, w0.1]
    rfl
  have c16 : m16.1 308 = st.2.2.2 := (fr16.1 308 (by decide)).1.trans h.2.2.2
  have l16 : m16.2.1 300 = st.2.1 := (fr16.1 300 (by decide)).2.trans h.2.1
  refine op_eb (aI_ok (k := r) rfl (by rw [ln308]; omega)) ?_
  rw [c16]
  refine op_eb (a := if ¬ st.2.2.2 r = 0 ∨ gotO its r reach w st < w then 1 else 0) ?_ ?_
  · by_cases e : st.2.2.2 r = 0
    · rw [if_pos e]
      by_cases e2 : w ≤ gotO its r reach w st
      · rw [if_pos (nI_le e2 (by omega)), if_neg (fun z => z.elim (fun y => y e) (fun y => by omega))]
      · rw [if_neg (nI_ge (by omega) (by omega)), if_pos (Or.inr (by omega))]
    · rw [if_neg e, if_pos (Or.inl e)]
  refine op_eb (sZ_ok (k := r) rfl (by rw [ln308]; omega)) ?_
  have eZ : vp_nar .boolean (if ¬ st.2.2.2 r = 0 ∨ gotO its r reach w st < w then (1 : Int32) else 0) = if ¬ st.2.2.2 r = 0 ∨ gotO its r reach w st < w then 1 else 0 := by
    split <;> rfl
  rw [eZ]
  generalize hm17 : uI m16 308 r (if ¬ st.2.2.2 r = 0 ∨ gotO its r reach w st < w then (1 : Int32) else 0) = m17
  have g17 : m17.1 296 = srvS its r acc reach w st := by rw [← hm17, uI_ne (by decide)]; exact g16
  have t17 : m17.1 307 = srvF its r reach w st := by rw [← hm17, uI_ne (by decide)]; exact t16
  have c17 : m17.1 308 = srvC its r reach w st := by
    rw [← hm17, uI_eq, c16]
    rfl
  have l17 : m17.2.1 300 = st.2.1 := by rw [← hm17]; exact l16
  have fr17 : Fs Fm μ m17 := by
    rw [← hm17]
    exact (fr16.mo (fun a e => e.elim Or.inl (fun z => Or.inr (Or.inr (Or.inl z))))).tr (Fs.uI (Or.inr (Or.inr (Or.inr rfl))))
  refine op_i (fun e => ?_) (fun e => ?_)
  · refine op_r ⟨⟨g17, ?_, t17, c17⟩, fr17⟩
    show m17.2.1 300 = srvG its r acc reach w price st
    unfold srvG
    rw [if_pos (ei.mp e)]
    exact l17
  · have g0s : m17.1 296 (58 + 10 * r + 0) = nI (ct st.1 (58 + 10 * r + 0)) := by
      rw [g17, srvS_sta (by omega) (by omega) (by omega) (by omega) (by omega) (by omega) (by omega)]
      exact f0.1
    refine op_eb ((m_rO (k := 0) (by omega) (by decide)).trans (congrArg some g0s)) ?_
    rw [nI_l (by omega), nI_l (by omega), lN_mul]
    refine op_mb (m_pays (a := acc) (o := ct st.1 (58 + 10 * r + 0)) (by omega) (by omega)) (fun m18 w18 => ?_)
    refine op_eb (aL_ok (k := 5 + r) (nI_add 5 r) (by rw [ln300]; omega)) ?_
    refine op_eb (sL_ok (k := 5 + r) (nI_add 5 r) (by rw [ln300]; omega)) (op_r ⟨⟨?_, ?_, ?_, ?_⟩, (fr17.tr (w18.2.mo (fun a z => Or.inr (Or.inl z)))).tr (Fs.uL (Or.inr (Or.inl rfl)))⟩)
    · exact ((w18.2.1 296 (by decide)).1.trans g17)
    · rw [uL_eq, w18.1, l17]
      show _ = srvG its r acc reach w price st
      unfold srvG
      rw [if_neg (fun z => e (ei.mpr z))]
      rfl
    · exact ((w18.2.1 307 (by decide)).1.trans t17)
    · exact ((w18.2.1 308 (by decide)).1.trans c17)
