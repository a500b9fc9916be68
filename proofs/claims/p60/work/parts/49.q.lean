/-! ===== the class and the reference, month by month ===== -/
theorem SV.congr9 {μ : Mm} {b : Nat} {LS OS : List (Nat → Int32)} {ng : Nat} {G : Nat → Nat → Int32} {cu : Nat → Int32} {s : Nat → Int32} {g : Nat → Int64} {s' : Nat → Int32} (h : SV μ b LS OS ng G cu s g) (hc : Cnt s) (hs : ∀ j, Vis j → ¬ (58 ≤ j ∧ j < 158 ∧ (j - 58) % 10 = 9) → s' j = s j) : SV μ b LS OS ng G cu s' g := by
  obtain ⟨c0, c1, c2, c3, c4⟩ := hc
  have v : ∀ j, (j < 521 ∧ (j ≠ 3 ∧ (j ≠ 4 ∧ (j ≠ 57 ∧ (¬ (158 ≤ j ∧ j < 242) ∧ ¬ (394 ≤ j ∧ j < 424)))))) ∧ ¬ (58 ≤ j ∧ j < 158 ∧ (j - 58) % 10 = 9) → s' j = s j := fun j hj => hs j hj.1 hj.2
  have q0 : ct s' 0 = ct s 0 := ct_eq (v 0 (by omega))
  have q1 : ct s' 1 = ct s 1 := ct_eq (v 1 (by omega))
  have q2 : ct s' 2 = ct s 2 := ct_eq (v 2 (by omega))
  have q3 : ct s' 56 = ct s 56 := ct_eq (v 56 (by omega))
  have q4 : ct s' 424 = ct s 424 := ct_eq (v 424 (by omega))
  unfold SV
  rw [q0, q1, q2, q3, q4]
  refine ⟨h.rch.congr (fun r k hr hk => (v _ (by omega)).symm), h.acc.congr (fun r k hr hk => (v _ (by omega)).symm), h.rgt.congr (fun r k hr hk => ?_), h.lea, h.opt, h.clm.congr (fun r k hr hk => (v _ (by omega)).symm), h.gau, h.mon.congr (fun r k hr hk => (v _ (by omega)).symm), fun k hk => (h.sea k hk).trans (v _ (by omega)).symm, fun k hk h7 => (h.yea k hk (by have e7 := ct_eq (v 7 (by omega)); omega)).trans (v _ (by omega)).symm, h.bal, h.ear, fun k hk => (h.rnk k hk).trans (senI_eq (v 2 (by omega)) (fun o ho => v _ (by omega)) k).symm, ?_⟩
  · by_cases e9 : k = 9
    · rw [if_pos e9, if_pos e9]
    · rw [if_neg e9, if_neg e9, v _ (by omega)]
  · rw [v 7 (by omega), v 5 (by omega), v 6 (by omega), v 53 (by omega), v 54 (by omega), v 55 (by omega)]
    exact h.sca
def NV (μ : Mm) (b : Nat) (s : Nat → Int32) (g : Nat → Int64) : Prop := SV μ b (LSo s) (OSo s) (if s 57 = 0 then 0 else ct s 0) (fun q k => s (394 + 5 * q + k)) (fun r => s (58 + 10 * r + 9)) s g
section FIN
variable {M : Sg} {D : List (Nat → Int32)}
theorem fiS_lo {j : Nat} (h : j < 424) : fiS M D j = enS M D j := by
  unfold fiS reS
  rw [pk_un (by omega), pk_un (by omega), pk_un (by omega), pk_un (by omega), pk_un (by omega), shS_n (by omega)]
theorem i32_as (x : Int32) : x + 1 - 1 = x := by
  rw [Int32.sub_eq_add_neg, Int32.add_assoc, show (1 : Int32) + -1 = 0 by decide, Int32.add_zero]
theorem lossN_h {i : Nat} (hi : i < 424) : lossN (hisM (ct M.1 0) M) i = lossN M.1 i := by
  unfold lossN
  rw [ct_eq (hisM_n (n0 := ct M.1 0) (M := M) hi), ct_eq (hisM_n (n0 := ct M.1 0) (M := M) (show 6 < 424 by decide))]
theorem bkS_h {j : Nat} (hj : j < 424) (h1 : ct M.1 1 ≤ 5) : bkS (hisM (ct M.1 0) M) (ct M.1 1) j = if 26 ≤ j ∧ j < 26 + ct M.1 1 then M.1 j - nI (lossN M.1 j) else if j = 54 then M.1 54 + sumF (fun a => nI (lossN M.1 (26 + a))) (ct M.1 1) else M.1 j := by
  unfold bkS
  rw [hisM_n hj, lossN_h hj, hisM_n (show 54 < 424 by decide), sumF_congr (g := fun a => nI (lossN M.1 (26 + a))) (ct M.1 1) (fun i hi => by rw [lossN_h (by omega)])]
theorem finC_lo {j : Nat} (h : j < 424) (h1 : ct M.1 1 ≤ 5) (h0 : ct M.1 0 ≤ 6) : finC M j = if j = 5 then M.1 5 + 1 else if 20 ≤ j ∧ j < 20 + ct M.1 0 then 0 else if 26 ≤ j ∧ j < 26 + ct M.1 1 then M.1 j - nI (lossN M.1 j) else if j = 54 then M.1 54 + sumF (fun a => nI (lossN M.1 (26 + a))) (ct M.1 1) else M.1 j := by
  unfold finC tmS
  by_cases e : j = 5
  · rw [if_pos e, if_pos e]
    unfold rlS
    rw [if_neg (by omega), bkS_h (by decide) h1, if_neg (by omega), if_neg (by decide)]
  · rw [if_neg e, if_neg e]
    unfold rlS
    rw [bkS_h h h1]
theorem enS_v {j : Nat} (hD : D.length ≤ 8) (hn : ct M.1 2 ≤ 10) (h0 : ct M.1 0 ≤ 6) (h1 : ct M.1 1 ≤ 5) (a : j ≠ 3) (b : ¬ (158 ≤ j ∧ j < 206)) (c : ¬ (58 ≤ j ∧ j < 158 ∧ (j - 58) % 10 = 9)) (d : j ≠ 57) (f : ¬ (394 ≤ j ∧ j < 424 ∧ (j - 394) % 5 = 2)) : enS M D j = if j = 5 then M.1 5 + 1 else if 20 ≤ j ∧ j < 20 + ct M.1 0 then 0 else if 26 ≤ j ∧ j < 26 + ct M.1 1 then M.1 j - nI (lossN M.1 j) else if j = 54 then M.1 54 + sumF (fun a => nI (lossN M.1 (26 + a))) (ct M.1 1) else M.1 j := by
  have e3 : ∀ i, (i ≠ 3 ∧ (¬ (158 ≤ i ∧ i < 206) ∧ ¬ (58 ≤ i ∧ i < 158 ∧ (i - 58) % 10 = 9))) → en3 M D i = M.1 i := fun i hi => en3_n hD hn hi.1 hi.2.1 hi.2.2
  have el : ∀ i, 26 ≤ i → i < 31 → lossN (en3 M D) i = lossN M.1 i := fun i hi hi2 => by
    unfold lossN
    rw [ct_eq (e3 i (by omega)), ct_eq (e3 6 (by omega))]
  unfold enS
  rw [pk_un d]
  by_cases e : j = 5
  · rw [if_pos e, e, pk_us]
  rw [if_neg e, pk_un e]
  unfold flS
  by_cases e2 : 20 ≤ j ∧ j < 20 + ct M.1 0
  · rw [if_pos e2, if_pos e2]
  rw [if_neg e2, if_neg e2, if_neg (by omega)]
  unfold bkS
  by_cases e4 : 26 ≤ j ∧ j < 26 + ct M.1 1
  · rw [if_pos e4, if_pos e4, e3 j (by omega), el j e4.1 (by omega)]
  rw [if_neg e4, if_neg e4]
  by_cases e5 : j = 54
  · rw [if_pos e5, if_pos e5, e3 54 (by omega), sumF_congr (g := fun a => nI (lossN M.1 (26 + a))) (ct M.1 1) (fun i hi => by rw [el _ (by omega) (by omega)])]
  · rw [if_neg e5, if_neg e5, e3 j (by omega)]
theorem fiS_vis {j : Nat} (hD : D.length ≤ 8) (hn : ct M.1 2 ≤ 10) (h0 : ct M.1 0 ≤ 6) (h1 : ct M.1 1 ≤ 5) (hj : j < 521) (a : j ≠ 3) (b : ¬ (158 ≤ j ∧ j < 206)) (c : ¬ (58 ≤ j ∧ j < 158 ∧ (j - 58) % 10 = 9)) (d : j ≠ 57) (f : ¬ (394 ≤ j ∧ j < 424 ∧ (j - 394) % 5 = 2)) : fiS M D j = finC M j := by
  by_cases e : j < 424
  · rw [fiS_lo e, finC_lo e h1 h0, enS_v hD hn h0 h1 a b c d f]
  have en : ∀ i, 424 ≤ i → enS M D i = M.1 i := fun i hi => enS_n hD hn h0 h1 (by omega) (by omega) (by omega) (by omega) (by omega) (by omega)
  have ef : finC M j = hisM (ct M.1 0) M j := by
    unfold finC tmS
    rw [if_neg (by omega)]
    unfold rlS
    rw [if_neg (by omega)]
    unfold bkS
    rw [if_neg (by omega), if_neg (by omega)]
  rw [ef]
  unfold fiS reS hisM hiS
  by_cases e4 : j = 424
  · rw [if_pos e4, e4, pk_us, ct_eq (en 424 (by omega))]
  rw [if_neg e4, pk_un e4]
  by_cases e5 : 429 ≤ j ∧ j < 521
  · rw [if_pos e5, pk_un (by omega), pk_un (by omega), pk_un (by omega), pk_un (by omega)]
    unfold shS
    rw [if_pos (by omega), en _ (by omega)]
  rw [if_neg e5]
  rcases (show j = 425 ∨ j = 426 ∨ j = 427 ∨ j = 428 by omega) with rfl | rfl | rfl | rfl
  · rw [if_pos rfl, pk_un (by decide), pk_un (by decide), pk_un (by decide), pk_us]
    show enS M D 5 - 1 = M.1 5
    have : enS M D 5 = M.1 5 + 1 := by unfold enS; rw [pk_un (by decide), pk_us]
    rw [this, i32_as]
  · rw [if_neg (by decide), if_pos rfl, pk_un (by decide), pk_un (by decide), pk_us]
  · rw [if_neg (by decide), if_neg (by decide), if_pos rfl, pk_un (by decide), pk_us]
  · rw [if_neg (by decide), if_neg (by decide), if_neg (by decide), if_pos rfl, pk_us]
theorem fiS_3 : fiS M D 3 = nI D.length := by
  rw [fiS_lo (by decide)]
  unfold enS
  rw [pk_un (by decide), pk_un (by decide)]
  unfold flS
  rw [if_neg (by omega), if_neg (by omega)]
  unfold bkS
  rw [if_neg (by omega), if_neg (by omega)]
  unfold en3
  rw [pk_us]
theorem fiS_57 : fiS M D 57 = 1 := by
  rw [fiS_lo (by decide)]
  unfold enS
  rw [pk_us]
theorem enS_en3 {j : Nat} (h1 : ct M.1 1 ≤ 5) (h0 : ct M.1 0 ≤ 6) (h : 58 ≤ j ∧ j < 394) : enS M D j = en3 M D j := by
  unfold enS
  rw [pk_un (by omega), pk_un (by omega)]
  unfold flS
  rw [if_neg (by omega), if_neg (by omega)]
  unfold bkS
  rw [if_neg (by omega), if_neg (by omega)]
theorem fiS_lea {r k : Nat} (hD : D.length ≤ 8) (h0 : ct M.1 0 ≤ 6) (h1 : ct M.1 1 ≤ 5) (hr : r < D.length) (hk : k < 6) : fiS M D (158 + 6 * r + k) = lf D r k := by
  rw [fiS_lo (by omega), enS_en3 h1 h0 (by omega)]
  unfold en3
  rw [pk_un (by omega)]
  unfold lcS
  rw [if_pos (by omega), show (158 + 6 * r + k - 158) / 6 = r by omega, show (158 + 6 * r + k - 158) % 6 = k by omega]
theorem fiS_cut {r : Nat} (hn : ct M.1 2 ≤ 10) (h0 : ct M.1 0 ≤ 6) (h1 : ct M.1 1 ≤ 5) (hr : r < ct M.1 2) : fiS M D (58 + 10 * r + 9) = M.1 (58 + 10 * r + 9) + (if M.2.2.2 r = 0 then 0 else 1) := by
  rw [fiS_lo (by omega), enS_en3 h1 h0 (by omega)]
  unfold en3
  rw [pk_un (by omega)]
  unfold lcS
  rw [if_neg (by omega)]
  unfold cutS
  rw [if_pos (by omega), show (58 + 10 * r + 9 - 58) / 10 = r by omega]
theorem fiS_gau {q : Nat} (h0 : ct M.1 0 ≤ 6) (hq : q < ct M.1 0) : fiS M D (394 + 5 * q + 2) = M.2.2.1 q := by
  rw [fiS_lo (by omega)]
  unfold enS
  rw [pk_un (by omega), pk_un (by omega)]
  unfold flS
  rw [if_neg (by omega), if_pos (by omega), show (394 + 5 * q + 2 - 394) / 5 = q by omega]
end FIN
/-- the class behind its month is the reference behind its own -/
theorem NV.fin {μ : Mm} {b : Nat} {M : Sg} {s cu : Nat → Int32} {sil : Nat → Bool} {g fl cut} (hb : kd b = 1) (h : Mon s) (hM : M = mst (LSo s) (OSo s) sil s g fl cut)
  (hS : SV μ b (decL (LSo s)) (OSo s) (ct s 0) (GF M) (cuK (bgn (OSo s) s g fl cut) (fun r => s (58 + 10 * r + 9)) (ct s 2) M) (finC M) M.2.1) : NV μ b (fiS M (decL (LSo s))) M.2.1 := by
  obtain ⟨I, hsta⟩ := mst_facts (sil := sil) (g := g) (fl := fl) (cut := cut) h.1
  rw [← hM] at I hsta
  obtain ⟨h1, h2, h3, h4, h5, h6, h7, h8⟩ := id h.1
  have h06 := h1.1.2
  have h15 := h1.2.1.2
  have h210 := h1.2.2.1.2
  have n0 : ct M.1 0 = ct s 0 := ct_eq (hsta 0 Sta0)
  have n1 : ct M.1 1 = ct s 1 := ct_eq (hsta 1 Sta1)
  have n2 : ct M.1 2 = ct s 2 := ct_eq (hsta 2 Sta2)
  have hD : (decL (LSo s)).length ≤ 8 := by
    have := decL_len (LSo s)
    rw [show (LSo s).length = ct s 3 from rwT_len _ _] at this
    have := h.2.1.2
    omega
  have vis : ∀ j, (j < 521 ∧ (j ≠ 3 ∧ (¬ (158 ≤ j ∧ j < 206) ∧ (¬ (58 ≤ j ∧ j < 158 ∧ (j - 58) % 10 = 9) ∧ (j ≠ 57 ∧ ¬ (394 ≤ j ∧ j < 424 ∧ (j - 394) % 5 = 2)))))) → fiS M (decL (LSo s)) j = finC M j := fun j hj => fiS_vis hD (by omega) (by omega) (by omega) hj.1 hj.2.1 hj.2.2.1 hj.2.2.2.1 hj.2.2.2.2.1 hj.2.2.2.2.2
  have fM : ∀ j, (j < 424 ∧ (j ≠ 5 ∧ (¬ (20 ≤ j ∧ j < 31) ∧ j ≠ 54))) → finC M j = M.1 j := fun j hj => by
    rw [finC_lo hj.1 (by omega) (by omega), if_neg hj.2.1, if_neg (by omega), if_neg (by omega), if_neg hj.2.2.2]
  have e3 : ct (fiS M (decL (LSo s))) 3 = (decL (LSo s)).length := ct_nI fiS_3 (by omega)
  have eL : LSo (fiS M (decL (LSo s))) = decL (LSo s) := by
    show rwT (fiS M (decL (LSo s))) 158 0 (ct (fiS M (decL (LSo s))) 3) = decL (LSo s)
    rw [e3]
    exact rwT_of (decL_can _ (fun row hr => rwT_can _ _ row hr)) (fun r k hr hk => fiS_lea hD (by omega) (by omega) hr hk)
  have e4 : ct (fiS M (decL (LSo s))) 4 = ct s 4 := ct_eq ((vis 4 (by omega)).trans ((fM 4 (by omega)).trans (hsta 4 (Or.inl (by decide)))))
  have h46 := h.2.2.1.2
  have eO : OSo (fiS M (decL (LSo s))) = OSo s := by
    show rwT (fiS M (decL (LSo s))) 206 0 (ct (fiS M (decL (LSo s))) 4) = rwT s 206 0 (ct s 4)
    rw [e4]
    exact rwT_eq _ _ (fun r k _ hr hk => (vis _ (by omega)).trans ((fM _ (by omega)).trans (hsta _ (StaL (by omega)))))
  have e0 : ct (fiS M (decL (LSo s))) 0 = ct s 0 := ct_eq ((vis 0 (by omega)).trans ((fM 0 (by omega)).trans (hsta 0 Sta0)))
  have hc := hS.cnt hb
  have S2 := hS.congr9 (s' := fiS M (decL (LSo s))) hc (fun j hj h9 => by
    obtain ⟨v1, v2, v3, v4, v5, v6⟩ := hj
    exact vis j (by omega))
  unfold NV
  rw [eL, eO, fiS_57, if_neg (by decide), e0]
  have S3 := S2.gc (G' := fun q k => fiS M (decL (LSo s)) (394 + 5 * q + k)) (fun q k hq hk => by
    unfold GF
    by_cases e : k = 2
    · rw [if_pos e, e]
      exact (fiS_gau (by omega) (by omega)).symm
    · rw [if_neg e, vis _ (by omega), fM _ (by omega)])
  have e2 : ct (fiS M (decL (LSo s))) 2 = ct s 2 := ct_eq ((vis 2 (by omega)).trans ((fM 2 (by omega)).trans (hsta 2 Sta2)))
  refine S3.cuc (fun r hr => ?_)
  rw [e2] at hr
  have hr9 : Sta (58 + 10 * r + 9) := by unfold Sta; omega
  rw [fiS_cut (by omega) (by omega) (by omega) (by omega), hsta _ hr9]
  unfold cuK
  have hrk : rk (bgn (OSo s) s g fl cut).1 r < ct s 2 := by
    have e2b : ct (bgn (OSo s) s g fl cut).1 2 = ct s 2 := ct_eq (layS_sta h06 2 Sta2)
    have := rk_lt (s := (bgn (OSo s) s g fl cut).1) (r := r) (by omega)
    omega
  by_cases e : M.2.2.2 r = 0
  · rw [if_pos e, if_neg (fun z => z.2 e), Int32.add_zero]
  · rw [if_neg e, if_pos ⟨hrk, e⟩]

