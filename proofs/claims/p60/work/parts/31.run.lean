/-! ===== the class serves all claims of a month ===== -/
theorem SV.cuc {μ : Mm} {b : Nat} {LS OS : List (Nat → Int32)} {ng : Nat} {G : Nat → Nat → Int32} {cu cu' : Nat → Int32} {s : Nat → Int32} {g : Nat → Int64} (h : SV μ b LS OS ng G cu s g) (hc : ∀ r, r < ct s 2 → cu' r = cu r) : SV μ b LS OS ng G cu' s g := by
  obtain ⟨t1, t2, t3, t4⟩ := h
  refine ⟨t1, t2, t3.congr (fun r k hr hk => ?_), t4⟩
  by_cases e : k = 9
  · rw [if_pos e, if_pos e, hc r hr]
  · rw [if_neg e, if_neg e]
section RUN
variable {b : Nat} {LS OS : List (Nat → Int32)} {n0 : Nat} {cu : Nat → Int32}
set_option maxHeartbeats 2000000 in
theorem x1_srv {μ : Mm} {st : Sg} {r c : Nat} (h : SV μ b LS OS n0 (GF st) cu st.1 st.2.1) (hb : kd b = 1) (hn0 : n0 = ct st.1 0) (hc : Cst st (c + 1 + cntR r LS)) (hr : r < ct st.1 2) (hL : LRows st.1 LS) (hO : ORows st.1 OS) :
    Op (F_X1_serveClaimsOf b (nI r) μ) (fun μ' => SV μ' b LS OS n0 (GF (clR LS OS r st)) cu (clR LS OS r st).1 (clR LS OS r st).2.1 ∧ Fs (Blk b) μ μ') := by
  have hf := hc.1.2.2.2.2.2 r hr
  have h3 := hf.2.2.2.1.2
  have hlen := (h.lea_le hb).1
  have h2 := hc.1.2.2.1.2
  obtain ⟨k1, k2, k3⟩ := clL_keep LS (cut0 st r) (ct st.1 (58 + 10 * r + 3)) (c + 1) hc hr hL h3
  unfold F_X1_serveClaimsOf
  refine op_eb ((h.rgk (k := 3) hr (by decide)).trans (congrArg some hf.2.2.2.1.1)) ?_
  refine op_mb (x1_leaL (LS := LS) (OS := OS) (n0 := n0) (cu := cu) hb (r := r) LS.length qFuel 0 (ct st.1 (58 + 10 * r + 3)) (c + 1) (cut0 st r) μ (by omega) (by unfold qFuel; omega) h hn0 (by rw [List.drop_zero]; exact hc) hr hL h3) (fun o q => ?_)
  rw [List.drop_zero] at q
  obtain ⟨q1, q2, q3⟩ := q
  unfold clR
  generalize clL r LS (cut0 st r, ct st.1 (58 + 10 * r + 3)) = p at *
  obtain ⟨st1, left⟩ := p
  have q1 : o.1 = nI left := q1
  have q2 : SV o.2 b LS OS n0 (GF st1) cu st1.1 st1.2.1 := q2
  have k2 : ∀ j, Sta j → st1.1 j = st.1 j := k2
  have k1 : Cst st1 (c + 1) := k1
  have hle : left ≤ 999 := Nat.le_trans k3 h3
  have hr1 : r < ct st1.1 2 := by rw [ct_eq (k2 2 Sta2)]; exact hr
  have hn1 : n0 = ct st1.1 0 := hn0.trans (ct_eq (k2 0 Sta0)).symm
  have hO1 : ORows st1.1 OS := hO.sta k2
  have hf1 := k1.1.2.2.2.2.2 r hr1
  rw [q1]
  refine op_mb (x1_oby q2 hb k1.1.vt (by omega) (fun row hrow => ⟨(hO1 row hrow).1.1.1, by have := (hO1 row hrow).1.1.2; have := k1.1.2.2.1.2; omega⟩)) (fun z hz => ?_)
  unfold clE
  show Op _ (fun μ' => SV μ' b LS OS n0 (GF ((oby st1.1 r OS).elim (srv 0 r (ct st1.1 (58 + 10 * r + 0)) (ct st1.1 (58 + 10 * r + 1)) left 0 st1) (fun row => srv 2 r (ct row 1) (ct row 2) (wout st1.1 r left) (ct row 5) st1))) cu ((oby st1.1 r OS).elim (srv 0 r (ct st1.1 (58 + 10 * r + 0)) (ct st1.1 (58 + 10 * r + 1)) left 0 st1) (fun row => srv 2 r (ct row 1) (ct row 2) (wout st1.1 r left) (ct row 5) st1)).1 ((oby st1.1 r OS).elim (srv 0 r (ct st1.1 (58 + 10 * r + 0)) (ct st1.1 (58 + 10 * r + 1)) left 0 st1) (fun row => srv 2 r (ct row 1) (ct row 2) (wout st1.1 r left) (ct row 5) st1)).2.1 ∧ Fs (Blk b) μ μ')
  rcases hz with ⟨rfl, e⟩ | ⟨o', ho, rfl, e⟩
  · rw [e]
    refine op_t rfl ?_
    refine op_mb (x1_own q2 hb hn1 k1.1 (hn1 ▸ k1.2.1) hr1 hle k1.b56) (fun μ2 w => op_r ⟨w.1, q3.tr w.2⟩)
  · rw [e]
    have hol := (q2.lea_le hb).2.1
    have hrow := hO1 _ (rowAt_mem ho)
    have er : ct (rowAt OS o') 0 = r := (oby_mem e).2
    have g : ∀ k, k < 6 → F_X2_get (b + 14) (nI o') (nI k) o.2 = some (rowAt OS o' k) := fun k hk => x2_get q2.opt ho hk
    refine op_f (fun z => ?_) ?_
    · have := nI_pos' (n := o') (by omega)
      rw [z] at this
      exact absurd this (by decide)
    refine op_eb ((g 5 (by decide)).trans (congrArg some hrow.2.2.1)) ?_
    refine op_mb (x1_oth q2 hb hn1 k1.1 (hn1 ▸ k1.2.1) (its := 2) (Or.inr rfl) ((g 0 (by decide)).trans (congrArg some (hrow.1.1.1.trans (congrArg nI er)))) ((g 1 (by decide)).trans (congrArg some hrow.1.2.1.1)) ((g 2 (by decide)).trans (congrArg some hrow.1.2.2.1)) hr1 hrow.1.2.1.2 (by rw [hn1]; exact hrow.1.2.2.2) hle hrow.2.2.2 k1.b56) (fun μ2 w => op_r ⟨w.1, q3.tr w.2⟩)
/-- the rights' numbers of cut months behind k ranks -/
def cuK (st0 : Sg) (cu0 : Nat → Int32) (k : Nat) (st : Sg) : Nat → Int32 := fun r => if rk st0.1 r < k ∧ ¬ st.2.2.2 r = 0 then cu0 r + 1 else cu0 r
def silP (p : Int32) : Nat → Bool := fun r => decide (nI r = p)
def RunQ (b : Nat) (LS OS : List (Nat → Int32)) (n0 : Nat) (p : Int32) (st0 : Sg) (cu0 : Nat → Int32) (μ : Mm) (o : Int32 × Mm) : Prop :=
  o.1 = calN (clA LS OS (silP p) (ct st0.1 2) st0).1 (ct (clA LS OS (silP p) (ct st0.1 2) st0).1 56) ∧ (SV o.2 b LS OS n0 (GF (clA LS OS (silP p) (ct st0.1 2) st0)) (cuK st0 cu0 (ct st0.1 2) (clA LS OS (silP p) (ct st0.1 2) st0)) (clA LS OS (silP p) (ct st0.1 2) st0).1 (clA LS OS (silP p) (ct st0.1 2) st0).2.1 ∧ Fs (Blk b) μ o.2)
set_option maxHeartbeats 2000000 in
theorem x1_runL {st0 : Sg} {cu0 : Nat → Int32} {p : Int32} (hb : kd b = 1) (hd : Dst st0.1) (h0 : Rv st0.1) (hf : Flo (ct st0.1 0) st0.2.2.1) (h56 : st0.1 56 = 0) (hL : LRows st0.1 LS) (hl : LS.length ≤ 9) (hO : ORows st0.1 OS) (hn0 : n0 = ct st0.1 0) :
    ∀ (d m k : Nat) (μ : Mm), k + d = ct st0.1 2 → d < m → SV μ b LS OS n0 (GF (clA LS OS (silP p) k st0)) (cuK st0 cu0 k (clA LS OS (silP p) k st0)) (clA LS OS (silP p) k st0).1 (clA LS OS (silP p) k st0).2.1 →
      Op (F_X1_runMonth_19 b p m (calN (clA LS OS (silP p) k st0).1 (ct (clA LS OS (silP p) k st0).1 56)) (nI k) μ) (RunQ b LS OS n0 p st0 cu0 μ) := by
  have h2 := h0.2.2.1.2
  intro d
  induction d with
  | zero =>
    intro m k μ hk hm h
    obtain ⟨m, rfl⟩ : ∃ q, m = q + 1 := ⟨m - 1, by omega⟩
    have I := clA_inv (sil := silP p) hd h0 hf h56 hL hl hO k (by omega)
    have e2 : ct (clA LS OS (silP p) k st0).1 2 = ct st0.1 2 := ct_eq (I.2.1 2 Sta2)
    rw [F_X1_runMonth_19, h.rgt.2.1, if_pos (nI_le (by omega) (by omega))]
    unfold RunQ
    rw [show ct st0.1 2 = k by omega]
    exact op_r ⟨rfl, h, Fs.rf⟩
  | succ d ih =>
    intro m k μ hk hm h
    obtain ⟨m, rfl⟩ : ∃ q, m = q + 1 := ⟨m - 1, by omega⟩
    have I := clA_inv (sil := silP p) hd h0 hf h56 hL hl hO k (by omega)
    have e2 : ct (clA LS OS (silP p) k st0).1 2 = ct st0.1 2 := ct_eq (I.2.1 2 Sta2)
    have e0 : ct (clA LS OS (silP p) k st0).1 0 = ct st0.1 0 := ct_eq (I.2.1 0 Sta0)
    have hss := Sta_sen I.2.1 h2 k
    obtain ⟨r, hr1, hr2, hr3⟩ := sen_ex hd (show k < ct st0.1 2 by omega)
    have estep := clA_step (LS := LS) (OS := OS) (sil := silP p) (hss.trans hr1)
    obtain ⟨I', q1, q2⟩ := clS_keep (sil := silP p) hd h0 hL hO hr2 hr3 I
    have hrS : senI (clA LS OS (silP p) k st0).1 k = nI r := by unfold senI; rw [hss, hr1]; rfl
    have ihk := ih m (k + 1)
    rw [estep] at ihk
    rw [F_X1_runMonth_19, h.rgt.2.1, if_neg (nI_ge (by omega) (by omega))]
    refine op_eb ((x1_rnk h hb (by omega)).trans (congrArg some hrS)) ?_
    generalize hst : clA LS OS (silP p) k st0 = st at *
    have hst2 := cntK_step hr3 LS
    have hc : Cst st (((ct st0.1 2 - (k + 1)) + cntK st0.1 (k + 1) LS) + 1 + cntR r LS) := I.1.less (by omega)
    -- the claims
    have serve : Op ((if nI r = p then some μ else (F_X1_serveClaimsOf b (nI r) μ).bind fun o21 => some o21) : Option Mm) (fun μ' => SV μ' b LS OS n0 (GF (clS LS OS (silP p) r st)) (cuK st0 cu0 k st) (clS LS OS (silP p) r st).1 (clS LS OS (silP p) r st).2.1 ∧ Fs (Blk b) μ μ') := by
      unfold clS
      by_cases es : nI r = p
      · rw [if_pos (show silP p r = true from decide_eq_true es)]
        exact op_t es (op_r ⟨h, Fs.rf⟩)
      · rw [if_neg (show ¬ silP p r = true from fun z => es (of_decide_eq_true z))]
        exact op_f es (op_b (op_m (x1_srv h hb (hn0.trans e0.symm) hc (by omega) (hL.sta I.2.1) (hO.sta I.2.1)) (fun μ' w => op_r w)))
    refine op_mb serve (fun μ2 w2 => ?_)
    have ec2 : ct (clS LS OS (silP p) r st).1 2 = ct st0.1 2 := ct_eq (I'.2.1 2 Sta2)
    generalize hst' : clS LS OS (silP p) r st = st' at *
    have hcI : cutI st' r := I'.2.2.1 r hr2 (by omega)
    have rne : ∀ q, q < ct st0.1 2 → q ≠ r → (rk st0.1 q < k + 1 ↔ rk st0.1 q < k) := by
      intro q hq hne
      have : rk st0.1 q ≠ k := fun z => hne (rk_inj hd hq hr2 (z.trans hr3.symm))
      omega
    refine op_mb (x1_cut w2.1 (r := r)) (fun z hz => ?_)
    rcases hz with ⟨rfl, hx⟩ | ⟨rfl, hx⟩
    · have hcut : ¬ st'.2.2.2 r = 0 := hcI.mpr hx
      refine op_b (op_f (by decide) ?_)
      have ex2 : (if (9 : Nat) = 9 then cuK st0 cu0 k st r else st'.1 (58 + 10 * r + 9)) = cuK st0 cu0 k st r := if_pos rfl
      refine op_eb (show F_X2_increase (b + 8) (nI r) 9 1 μ2 = _ from x2_inc (k := 9) w2.1.rgt (by omega) (by decide)) ?_
      have hcK : cuK st0 cu0 k st r = cu0 r := by unfold cuK; rw [if_neg (by omega)]
      have hS3 : SV (uI μ2 (b + 8 + 1) (r * 10 + 9) ((if (9 : Nat) = 9 then cuK st0 cu0 k st r else st'.1 (58 + 10 * r + 9)) + 1)) b LS OS n0 (GF st') (cuK st0 cu0 (k + 1) st') st'.1 st'.2.1 := by
        refine SV.wRgt w2.1 (w2.1.cnt hb) (Fs.uI (Or.inr rfl)) ((w2.1.rgt.set (by omega) (by decide)).congr (fun q j hq hj => ?_)) (fun j _ _ => rfl) (fun _ _ => rfl)
        unfold up2
        by_cases e9 : q = r ∧ j = 9
        · rw [if_pos e9, if_pos e9.2, ex2, e9.1, hcK]
          unfold cuK
          rw [if_pos ⟨by omega, hcut⟩]
        · rw [if_neg e9]
          by_cases ej : j = 9
          · rw [if_pos ej]
            refine (if_pos ej).trans ?_
            have hne : q ≠ r := fun z => e9 ⟨z, ej⟩
            have := rne q (by omega) hne
            unfold cuK
            rw [q1 q hne]
            by_cases ez : rk st0.1 q < k ∧ ¬ st.2.2.2 q = 0
            · rw [if_pos ez, if_pos ⟨this.mpr ez.1, ez.2⟩]
            · rw [if_neg ez, if_neg (fun y => ez ⟨this.mp y.1, y.2⟩)]
          · rw [if_neg ej]
            exact if_neg ej
      have hfin : ∀ v : Int32, v = calN st'.1 (ct st'.1 56) → Op (F_X1_runMonth_19 b p m v (nI k + 1) (uI μ2 (b + 8 + 1) (r * 10 + 9) ((if (9 : Nat) = 9 then cuK st0 cu0 k st r else st'.1 (58 + 10 * r + 9)) + 1))) (RunQ b LS OS n0 p st0 cu0 μ) := by
        intro v hv
        rw [hv, nI_1]
        exact op_m (ihk _ (by omega) (by omega) hS3) (fun o w => ⟨w.1, w.2.1, (w2.2.tr (Fs.uI (by unfold Blk; omega))).tr w.2.2⟩)
      refine op_i (fun ev => ?_) (fun ev => ?_)
      · refine op_eb ((x2_get (k := 2) hS3.rgt (by omega) (by decide)).trans (congrArg some (if_neg (by decide)))) (op_r (hfin _ ?_))
        exact (I'.2.1 (58 + 10 * r + 2) (StaR (by omega) (by decide))).trans (q2.trans (if_pos ⟨ev, hcut⟩)).symm
      · exact op_r (hfin _ (q2.trans (if_neg (fun z => ev z.1))).symm)
    · have hcut : st'.2.2.2 r = 0 := by
        by_cases z : st'.2.2.2 r = 0
        · exact z
        · exact absurd (hcI.mp z) hx
      refine op_b (op_t rfl (op_r ?_))
      have hS3 : SV μ2 b LS OS n0 (GF st') (cuK st0 cu0 (k + 1) st') st'.1 st'.2.1 := by
        refine w2.1.cuc (fun q hq => ?_)
        unfold cuK
        by_cases e : q = r
        · rw [e, hcut, if_neg (fun z => z.2 rfl), if_neg (by omega)]
        · have := rne q (by omega) e
          rw [q1 q e]
          by_cases ez : rk st0.1 q < k ∧ ¬ st.2.2.2 q = 0
          · rw [if_pos ez, if_pos ⟨this.mpr ez.1, ez.2⟩]
          · rw [if_neg ez, if_neg (fun y => ez ⟨this.mp y.1, y.2⟩)]
      have hv : calN st.1 (ct st.1 56) = calN st'.1 (ct st'.1 56) := (q2.trans (if_neg (fun z => z.2 hcut))).symm
      show Op (F_X1_runMonth_19 b p m (calN st.1 (ct st.1 56)) (nI k + 1) μ2) _
      rw [hv, nI_1]
      exact op_m (ihk _ (by omega) (by omega) hS3) (fun o w => ⟨w.1, w.2.1, w2.2.tr w.2.2⟩)
end RUN

