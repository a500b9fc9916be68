/-! ===== a line ===== -/
section LLN
variable {f : Nat → Int32} {n t a k o t0 : Nat} {s s' : Nat → Int32} {q : Int32} {b b' μ μ' μc μm : Mm}
theorem o2_eta {α β : Type} {x : Option α} {y : Option β} {P : α → β → Prop} (h : Op2 x y P) : Op2 (x.bind fun a => some a) (y.bind fun a => some a) P := o2_b h (fun a b q => o2_rt q)
def cT (μ : Mm) : Option Mm := (F_X0_isWord 5 μ).bind fun o27 => if o27 = 0 then ((F_X0_isWord 8 μ).bind fun o32 => if o32 = 0 then ((F_X0_isWord 9 μ).bind fun o37 => if o37 = 0 then ((F_X0_fail (1 : Int32) (μ.1 45 6) μ).bind fun o42 => some o42) else ((F_X0_readOption μ).bind fun o45 => some o45)) else ((F_X0_readLease μ).bind fun o48 => some o48)) else ((F_X0_readRight μ).bind fun o51 => some o51)
def mT (p : Int32) (μ : Mm) : Option Mm := (F_X4_accept 5 μ).bind fun o38 => if o38.1 = 0 then ((F_X4_accept 8 o38.2).bind fun o44 => if o44.1 = 0 then ((F_X4_accept 9 o44.2).bind fun o50 => if o50.1 = 0 then ((F_X4_fail (1 : Int32) p o50.2).bind fun o56 => some o56) else ((F_X4_optionLine p o50.2).bind fun o59 => some o59)) else ((F_X4_leaseLine p o44.2).bind fun o62 => some o62)) else ((F_X4_rightLine p o38.2).bind fun o65 => some o65)
theorem l_tail (hB : BY f n) (C : GC f n t s b μc) (M : GM f n t s (qf s) b' μm) (R : Rok s) (htn : t < n) : Op2 (cT μc) (mT (nI t) μm) (LRs f n t b b') := by
  have ht := C.1.2.2.1
  unfold cT mT
  refine word2 hB C M ht (show 5 < 10 by decide) (fun μ1 e _ M1 => ?_) (fun μ1 e M1 => ?_)
  · rw [if_neg n10]
    show Op2 _ (if (1 : Int32) = 0 then _ else ((F_X4_rightLine (nI t) μ1).bind fun o65 => some o65)) _
    rw [if_neg n10]
    exact o2_eta (l_right hB C M1 R htn)
  rw [if_pos rfl]
  show Op2 _ (if (0 : Int32) = 0 then ((F_X4_accept 8 μ1).bind fun o44 => if o44.1 = 0 then ((F_X4_accept 9 o44.2).bind fun o50 => if o50.1 = 0 then ((F_X4_fail (1 : Int32) (nI t) o50.2).bind fun o56 => some o56) else ((F_X4_optionLine (nI t) o50.2).bind fun o59 => some o59)) else ((F_X4_leaseLine (nI t) o44.2).bind fun o62 => some o62)) else _) _
  rw [if_pos rfl]
  refine word2 hB C M1 ht (show 8 < 10 by decide) (fun μ2 e _ M2 => ?_) (fun μ2 e M2 => ?_)
  · rw [if_neg n10]
    show Op2 _ (if (1 : Int32) = 0 then _ else ((F_X4_leaseLine (nI t) μ2).bind fun o65 => some o65)) _
    rw [if_neg n10]
    exact o2_eta (l_lease hB C M2 R htn)
  rw [if_pos rfl]
  show Op2 _ (if (0 : Int32) = 0 then ((F_X4_accept 9 μ2).bind fun o50 => if o50.1 = 0 then ((F_X4_fail (1 : Int32) (nI t) o50.2).bind fun o56 => some o56) else ((F_X4_optionLine (nI t) o50.2).bind fun o59 => some o59)) else _) _
  rw [if_pos rfl]
  refine word2 hB C M2 ht (show 9 < 10 by decide) (fun μ3 e _ M3 => ?_) (fun μ3 e M3 => ?_)
  · rw [if_neg n10]
    show Op2 _ (if (1 : Int32) = 0 then _ else ((F_X4_optionLine (nI t) μ3).bind fun o65 => some o65)) _
    rw [if_neg n10]
    exact o2_eta (l_option hB C M3 R htn)
  rw [if_pos rfl]
  show Op2 _ (if (0 : Int32) = 0 then ((F_X4_fail (1 : Int32) (nI t) μ3).bind fun o56 => some o56) else _) _
  rw [if_pos rfl, C.1.2.2.2.2.1]
  exact o2_eta (o2_of (gc_fail (k := 1) (o := t) C ⟨by decide, by decide⟩) (gm_fail (k := 1) (o := t) M3 ⟨by decide, by decide⟩) (fun _ _ X Y => lrX X Y))
theorem gm_no (hB : BY f n) (M : GM f n t s q b μ) (ht : skp f n t = t) {w : Nat} (hw : w < 10) (e : ¬ wdB f n t w = true) : Op (F_X4_accept w μ) (fun z => z.1 = 0 ∧ GM f n t s q b z.2) := by
  refine op_m (m_accept hB M.1 M.2.1 hw M.2.2.1.1) (fun z w => ?_)
  obtain ⟨w1, w2, w3⟩ := w
  rw [ht, if_neg e] at w1 w2
  exact ⟨w1, M.mv w2 M.2.1 w3⟩
theorem l_tailX (hB : BY f n) (M : GM f n t s q b μ) (ht : skp f n t = t) (e : wdB f n t 4 = true) : Op (mT (nI t) μ) (MX f n 1 t b) := by
  have e1 := (of_decide_eq_true e).1
  have no : ∀ w, wL w ≠ wL 4 → ¬ wdB f n t w = true := fun w hw z => by
    have := (of_decide_eq_true z).1
    omega
  unfold mT
  refine op_mb (gm_no hB M ht (show 5 < 10 by decide) (no 5 (by decide))) (fun z1 w1 => op_t w1.1 ?_)
  refine op_mb (gm_no hB w1.2 ht (show 8 < 10 by decide) (no 8 (by decide))) (fun z2 w2 => op_t w2.1 ?_)
  refine op_mb (gm_no hB w2.2 ht (show 9 < 10 by decide) (no 9 (by decide))) (fun z3 w3 => op_t w3.1 ?_)
  exact op_mb (gm_fail (k := 1) (o := t) w3.2 ⟨by decide, by decide⟩) (fun m w => op_r w)
theorem l_line (hB : BY f n) (C : GC f n t s b μc) (M : GM f n t s (qf s) b' μm) (R : Rok s) (htn : t < n) : Op2 (F_X0_readLine μc) (F_X4_line μm) (LRs f n t b b') := by
  have ht := C.1.2.2.1
  have hn := hB.1
  have r2 := R.1.2.2.1
  have r210 := r2.2
  unfold F_X0_readLine F_X4_line
  refine o2_rb (m_peek hB M.1 (by omega)) (fun z w => ?_)
  rw [ht] at w
  have M0 : GM f n t s (qf s) b' z.2 := M.mv w.2.1 M.2.1 w.2.2
  rw [w.2.1.2]
  generalize z.2 = μ0 at *
  refine word2 hB C M0 ht (show 0 < 10 by decide) (fun μ1 e _ M1 => ?_) (fun μ1 e M1 => ?_)
  · rw [if_neg n10]
    show Op2 _ (if (1 : Int32) = 0 then _ else ((F_X4_reachLine (nI t) μ1).bind fun o65 => some o65)) _
    rw [if_neg n10]
    exact o2_eta (l_reach hB C M1 R htn)
  rw [if_pos rfl]
  refine o2_m ?_ (fun _ _ h => h)
  show Op2 _ (if (0 : Int32) = 0 then _ else _) _
  rw [if_pos rfl]
  refine word2 hB C M1 ht (show 1 < 10 by decide) (fun μ2 e _ M2 => ?_) (fun μ2 e M2 => ?_)
  · rw [if_neg n10]
    show Op2 _ (if (1 : Int32) = 0 then _ else ((F_X4_numbers (36 : Int32) (12 : Int32) μ2).bind fun o116 => some o116.2)) _
    rw [if_neg n10]
    have q := l_season hB C M2 R htn
    exact o2_m (show Op2 ((F_X0_readSeason μc).bind fun a => some a) (nsL 36 12 (fun o116 => some o116.2) qFuel 0 1 μ2) (LRs f n t b b') from by
      rw [show ((F_X0_readSeason μc).bind fun a => some a) = F_X0_readSeason μc from by cases F_X0_readSeason μc <;> rfl]
      exact q) (fun _ _ h => h)
  rw [if_pos rfl]
  show Op2 _ (if (0 : Int32) = 0 then _ else _) _
  rw [if_pos rfl]
  refine word2 hB C M2 ht (show 2 < 10 by decide) (fun μ3 e _ M3 => ?_) (fun μ3 e M3 => ?_)
  · rw [if_neg n10]
    show Op2 _ (if (1 : Int32) = 0 then _ else ((F_X4_numbers (48 : Int32) (5 : Int32) μ3).bind fun o110 => (sI o110.2 297 (7 : Int32) o110.1).bind fun m113 => some m113)) _
    rw [if_neg n10]
    have q := l_years hB C M3 R htn
    exact o2_m (show Op2 ((F_X0_readYears μc).bind fun a => some a) (nsL 48 5 yK qFuel 0 1 μ3) (LRs f n t b b') from by
      rw [show ((F_X0_readYears μc).bind fun a => some a) = F_X0_readYears μc from by cases F_X0_readYears μc <;> rfl]
      exact q) (fun _ _ h => h)
  rw [if_pos rfl]
  show Op2 _ (if (0 : Int32) = 0 then _ else _) _
  rw [if_pos rfl]
  refine word2 hB C M3 ht (show 3 < 10 by decide) (fun μ4 e _ M4 => ?_) (fun μ4 e M4 => ?_)
  · rw [if_neg n10]
    show Op2 _ (if (1 : Int32) = 0 then _ else (moA μ4)) _
    rw [if_neg n10]
    exact l_loss hB C M4 R htn
  rw [if_pos rfl]
  show Op2 _ (if (0 : Int32) = 0 then (if (μ4.1 295 19) = 0 then ((F_X4_accept 4 μ4).bind fun o32 => if o32.1 = 0 then mT (nI t) o32.2 else mcA o32.2) else mT (nI t) μ4) else _) _
  rw [if_pos rfl, M4.2.2.2.2.1]
  by_cases e2 : ct s 2 = 0
  · have eq : qf s = 0 := by unfold qf; rw [if_pos e2]
    rw [if_pos eq]
    refine word2 hB C M4 ht (show 4 < 10 by decide) (fun μ5 e _ M5 => ?_) (fun μ5 e M5 => ?_)
    · rw [if_neg n10]
      show Op2 _ (if (1 : Int32) = 0 then _ else (mcA μ5)) _
      rw [if_neg n10]
      have q := l_accounts hB C M5 R htn e2
      have e3 : ((F_X0_readAccounts μc).bind fun o54 => some o54) = (F_X0_nextToken μc).bind acA := by
        have h0 : μc.1 55 2 ≤ 0 := by rw [C.2.2.1.2.2.1.2.1, e2]; decide
        have : F_X0_readAccounts μc = (F_X0_nextToken μc).bind acA := if_pos h0
        rw [this]
        cases (F_X0_nextToken μc).bind acA <;> rfl
      rw [e3]
      exact q
    · rw [if_pos rfl]
      show Op2 (cT μc) (if (0 : Int32) = 0 then mT (nI t) μ5 else _) _
      rw [if_pos rfl]
      exact l_tail hB C M5 R htn
  · have eq : ¬ qf s = 0 := by unfold qf; rw [if_neg e2]; exact n10
    rw [if_neg eq]
    have e4 := x0_isW (w := 4) C.1 hn (by decide)
    refine o2_l e4 ?_
    by_cases e : wdB f n t 4 = true
    · rw [if_pos e, if_neg n10]
      have e3 : F_X0_readAccounts μc = (F_X0_fail (1 : Int32) (μc.1 45 6) μc).bind fun o23 => some o23 := if_neg (by rw [C.2.2.1.2.2.1.2.1]; exact nI_nle (by omega) (by omega))
      rw [e3, C.1.2.2.2.2.1]
      exact o2_of (op_b (op_mb (gc_fail (k := 1) (o := t) C ⟨by decide, by decide⟩) (fun m w => op_r (op_r w)))) (l_tailX hB M4 ht e) (fun _ _ X Y => lrX X Y)
    · rw [if_neg e, if_pos rfl]
      exact l_tail hB C M4 R htn
end LLN
