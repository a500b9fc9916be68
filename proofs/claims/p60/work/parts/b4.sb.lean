/-! ===== Integer.getChars ===== -/
def pt (f : Nat → Int32) (v n e : Nat) : Nat → Int32 := fun j => if e - n ≤ j ∧ j < e then nI (48 + v / 10 ^ (e - 1 - j) % 10) else f j
def putN (μ : Mm) (v n e : Nat) : Mm := uN μ μ.2.2.1 μ.2.2.2.1 (pt μ.2.2.2.2 v n e)
theorem Dn.big {v n : Nat} (h : Dn v n) (hv : 100 ≤ v) : 3 ≤ n ∧ Dn (v / 100) (n - 2) := by
  obtain ⟨h1, h2, h3⟩ := h
  have n3 : 3 ≤ n := by
    rcases (show n = 1 ∨ n = 2 ∨ 3 ≤ n by omega) with rfl | rfl | h
    · omega
    · omega
    · exact h
  refine ⟨n3, by omega, ?_, Or.inr ?_⟩
  · obtain ⟨q, rfl⟩ : ∃ q, n = q + 2 := ⟨n - 2, by omega⟩
    rw [Nat.add_sub_cancel]
    rw [Nat.pow_add] at h2
    exact Nat.div_lt_of_lt_mul (by rw [Nat.mul_comm]; exact h2)
  · rcases h3 with e | e
    · omega
    · obtain ⟨q, rfl⟩ : ∃ q, n = q + 3 := ⟨n - 3, by omega⟩
      rw [show q + 3 - 1 = q + 2 by omega, Nat.pow_add] at e
      rw [show q + 3 - 2 - 1 = q by omega]
      exact (Nat.le_div_iff_mul_le (by decide)).mpr e
theorem Dn.one {v n : Nat} (h : Dn v n) (hv : v < 10) : n = 1 := by
  obtain ⟨h1, h2, h3⟩ := h
  rcases h3 with e | e
  · exact e
  · rcases (show n = 1 ∨ 2 ≤ n by omega) with e2 | e2
    · exact e2
    · obtain ⟨q, rfl⟩ : ∃ q, n = q + 2 := ⟨n - 2, by omega⟩
      rw [show q + 2 - 1 = q + 1 by omega, Nat.pow_succ] at e
      have := Nat.one_le_pow q 10 (by decide)
      omega
theorem Dn.two {v n : Nat} (h : Dn v n) (hv : 10 ≤ v) (hv2 : v < 100) : n = 2 := by
  obtain ⟨h1, h2, h3⟩ := h
  rcases (show n = 1 ∨ n = 2 ∨ 3 ≤ n by omega) with rfl | e2 | e2
  · omega
  · exact e2
  · rcases h3 with e | e
    · omega
    · obtain ⟨q, rfl⟩ : ∃ q, n = q + 3 := ⟨n - 3, by omega⟩
      rw [show q + 3 - 1 = q + 2 by omega, Nat.pow_add] at e
      have := Nat.one_le_pow q 10 (by decide)
      omega
theorem pt_2 {f : Nat → Int32} {v n e : Nat} (hn : 3 ≤ n) (he : n ≤ e) : pt (upd (upd f (e - 1) (nI (48 + v % 100 % 10))) (e - 2) (nI (48 + v % 100 / 10))) (v / 100) (n - 2) (e - 2) = pt f v n e := by
  funext j
  unfold pt
  by_cases e1 : e - 2 - (n - 2) ≤ j ∧ j < e - 2
  · rw [if_pos e1, if_pos (by omega)]
    obtain ⟨q, hq⟩ : ∃ q, e - 1 - j = q + 2 := ⟨e - 1 - j - 2, by omega⟩
    rw [hq, show e - 2 - 1 - j = q by omega, Nat.pow_add, Nat.div_div_eq_div_mul, Nat.mul_comm (10 ^ q)]
  · rw [if_neg e1]
    by_cases e2 : j = e - 2
    · rw [e2, pk_us, if_pos (by omega), show e - 1 - (e - 2) = 1 by omega, show v / 10 ^ 1 % 10 = v % 100 / 10 by omega]
    · rw [pk_un e2]
      by_cases e3 : j = e - 1
      · rw [e3, pk_us, if_pos (by omega), show e - 1 - (e - 1) = 0 by omega, show v / 10 ^ 0 % 10 = v % 100 % 10 by rw [Nat.pow_zero, Nat.div_one]; omega]
      · rw [pk_un e3, if_neg (by omega)]
theorem pt_1 {f : Nat → Int32} {v e : Nat} (hv : v < 10) (he : 1 ≤ e) : upd f (e - 1) (nI (48 + v)) = pt f v 1 e := by
  funext j
  unfold pt
  by_cases e3 : j = e - 1
  · rw [e3, pk_us, if_pos (by omega), show e - 1 - (e - 1) = 0 by omega, show v / 10 ^ 0 % 10 = v by rw [Nat.pow_zero, Nat.div_one]; omega]
  · rw [pk_un e3, if_neg (by omega)]
theorem pt_12 {f : Nat → Int32} {v e : Nat} (hv : v < 100) (he : 2 ≤ e) : upd (upd f (e - 1) (nI (48 + v % 10))) (e - 2) (nI (48 + v / 10)) = pt f v 2 e := by
  funext j
  unfold pt
  by_cases e2 : j = e - 2
  · rw [e2, pk_us, if_pos (by omega), show e - 1 - (e - 2) = 1 by omega, show v / 10 ^ 1 % 10 = v / 10 by omega]
  · rw [pk_un e2]
    by_cases e3 : j = e - 1
    · rw [e3, pk_us, if_pos (by omega), show e - 1 - (e - 1) = 0 by omega, show v / 10 ^ 0 % 10 = v % 10 by rw [Nat.pow_zero, Nat.div_one]]
    · rw [pk_un e3, if_neg (by omega)]
theorem dec_1 {e : Nat} (h : 0 < e) : nI e + Int32.ofInt (-1) = nI (e - 1) := by
  rw [← nI_sub1 h, Int32.sub_eq_add_neg]
  rfl
theorem neg_toInt {a : Nat} (h : a < 2 ^ 31) : (-nI a).toInt = -(a : Int) := by
  rw [Int32.toInt_neg, nI_toInt h]
  exact Int.bmod_eq_of_le (by omega) (by omega)
theorem neg_div {v : Nat} (h : v < 2 ^ 31) : -nI v / 100 = -nI (v / 100) := by
  apply Int32.toInt_inj.mp
  rw [Int32.toInt_div, neg_toInt h, neg_toInt (by omega), show (100 : Int32).toInt = 100 by decide, Int.neg_tdiv]
  have : (v : Int).tdiv 100 = ((v / 100 : Nat) : Int) := rfl
  rw [this]
  exact Int.bmod_eq_of_le (by omega) (by omega)
theorem neg_rem {v : Nat} (h : v < 2 ^ 31) : -nI (v / 100) * 100 - -nI v = nI (v % 100) := by
  rw [Int32.neg_mul, show nI (v / 100) * 100 = nI (v / 100 * 100) from pk_mul _ _, Int32.sub_neg, Int32.add_comm, ← Int32.sub_eq_add_neg, pk_sub (by omega)]
  congr 1
  omega
theorem dig_b : ∀ j, j < 100 → vp_nar .byte (Int32.ofNat (48 + j % 10)) = nI (48 + j % 10) ∧ vp_nar .byte (Int32.ofNat (48 + j / 10)) = nI (48 + j / 10) := by decide +kernel
section SBG
variable {l : Launch} {E : Ev} {μ : Mm}
set_option maxHeartbeats 4000000 in
set_option maxRecDepth 100000 in
theorem c_J6_getChars_ba4f3 {v n e : Nat} (hN : 295 < eN E) (hv : v < 2 ^ 30) (hD : Dn v n) (he : n ≤ e) (hc : e ≤ μ.2.2.2.1) (hcap : μ.2.2.2.1 < 2 ^ 30) : Ct l E yJ6_getChars_ba4f3 (Cond.code yJ6_getChars_ba4f3 cJ6_getChars_ba4f3 7 (some .int) :: GW) rm_00 [.int (nI v), .int (nI e), .ref μ.2.2.1] μ (some (.int (nI (e - n)))) (putN μ v n e) := by
  refine ct_of (by decide) (Nat.le_of_ble_eq_true rfl) (fun p ev s m args below meth c C hr => ?_)
  have C : Cq E p s m args meth c cJ6_getChars_ba4f3 7 RJ6 := C
  refine gq_lv (lv' := [(0, .int (nI v)), (1, .int (nI e)), (2, .ref μ.2.2.1)]) rfl ?_
  refine gq_iload_n (i := 1) C dJ6_getChars_ba4f3_0 rfl 1 rfl ?_
  refine gq_istore (i := 5) C dJ6_getChars_ba4f3_1 (by decide) rfl ?_
  refine gq_iload_n (i := 0) C dJ6_getChars_ba4f3_3 rfl 1 rfl ?_
  refine gq_if_ge_t (tgt := 11) C dJ6_getChars_ba4f3_4 (by decide) (nI_pos' (by omega)) ?_
  refine gq_iconst (v := 0) C dJ6_getChars_ba4f3_11 (by decide) ?_
  refine gq_istore (i := 6) C dJ6_getChars_ba4f3_12 (by decide) rfl ?_
  refine gq_iload (i := 6) C dJ6_getChars_ba4f3_14 0 rfl ?_
  refine gq_if_ne_f (tgt := 22) C dJ6_getChars_ba4f3_16 (by decide) rfl ?_
  refine gq_iload_n (i := 0) C dJ6_getChars_ba4f3_19 rfl 2 rfl ?_
  refine gq_ineg C dJ6_getChars_ba4f3_20 ?_
  refine gq_istore_n (i := 0) C dJ6_getChars_ba4f3_21 rfl (by decide) rfl ?_
  have e100 : (-100 : Int32) = -nI 100 := by decide
  have e9 : (-9 : Int32) = -nI 9 := by decide
  have loop : ∀ d v, v < d → ∀ (n e : Nat) (μ : Mm), v < 2 ^ 30 → Dn v n → n ≤ e → e ≤ μ.2.2.2.1 → μ.2.2.2.1 < 2 ^ 30 → ∀ a, a = μ.2.2.1 → Gq E p l ev rm_00 s m args below meth c 0 0 7 (MQ below (qQ E (some (.int (nI (e - n)))) (putN μ v n e)) args s 0 0 (eA E)) 22 [(0, .int (-nI v)), (6, .int 0), (5, .int (nI e)), (2, .ref a)] [] μ := by
    intro d
    induction d with
    | zero => intro v h; omega
    | succ d ih =>
      intro v hd n e μ hv hD he hc hcap a ha
      subst ha
      have h1n := hD.1
      refine gq_iload_n (i := 0) C dJ6_getChars_ba4f3_22 rfl 0 rfl ?_
      refine gq_bipush (v := -100) C dJ6_getChars_ba4f3_23 (by decide) ?_
      by_cases e1 : 100 ≤ v
      · obtain ⟨n3, hD'⟩ := hD.big e1
        have hm := Nat.mod_lt v (show 0 < 100 by decide)
        obtain ⟨b1, b2⟩ := dig_b (v % 100) hm
        refine gq_icmp_gt_f (tgt := 72) C dJ6_getChars_ba4f3_25 (by decide) (by rw [e100]; exact Int32.not_lt.mpr ((neg_le (by omega) (by decide)).mpr e1)) ?_
        refine gq_iload_n (i := 0) C dJ6_getChars_ba4f3_28 rfl 0 rfl ?_
        refine gq_bipush (v := 100) C dJ6_getChars_ba4f3_29 (by decide) ?_
        refine gq_idiv C dJ6_getChars_ba4f3_31 (by decide) ?_
        rw [neg_div (by omega)]
        refine gq_istore_n (i := 3) C dJ6_getChars_ba4f3_32 rfl (by decide) rfl ?_
        refine gq_iload_n (i := 3) C dJ6_getChars_ba4f3_33 rfl 0 rfl ?_
        refine gq_bipush (v := 100) C dJ6_getChars_ba4f3_34 (by decide) ?_
        refine gq_imul C dJ6_getChars_ba4f3_36 ?_
        refine gq_iload_n (i := 0) C dJ6_getChars_ba4f3_37 rfl 1 rfl ?_
        refine gq_isub C dJ6_getChars_ba4f3_38 ?_
        rw [neg_rem (by omega)]
        refine gq_istore (i := 4) C dJ6_getChars_ba4f3_39 (by decide) rfl ?_
        refine gq_iload_n (i := 3) C dJ6_getChars_ba4f3_41 rfl 1 rfl ?_
        refine gq_istore_n (i := 0) C dJ6_getChars_ba4f3_42 rfl (by decide) rfl ?_
        refine gq_lv (lv' := [(0, .int (-nI (v / 100))), (4, .int (nI (v % 100))), (3, .int (-nI (v / 100))), (6, .int 0), (5, .int (nI e)), (2, .ref μ.2.2.1)]) rfl ?_
        refine gq_aload_n (i := 2) C dJ6_getChars_ba4f3_43 rfl 5 rfl ?_
        refine gq_iinc (i := 5) (q := 4) (v := nI (e - 1)) C dJ6_getChars_ba4f3_44 rfl (dec_1 (by omega)) (by decide) rfl ?_
        refine gq_iload (i := 5) C dJ6_getChars_ba4f3_47 0 rfl ?_
        refine gq_getsZ C C.2.2.2.2.2.2.2.2.2.2.2.2.2.1 wk_3_235 (fun _ h => h) dJ6_getChars_ba4f3_49 ?_
        refine gq_iload (i := 4) C dJ6_getChars_ba4f3_52 2 rfl ?_
        refine gq_tb (v := .int (Int32.ofNat (48 + v % 100 % 10))) C C.2.2.2.2.2.2.2.2.2.2.2.2.2.2.1 (vp_in_nI hm (by decide)) (by rw [nI_clamp (by omega)]; rfl) dJ6_getChars_ba4f3_54 ?_
        refine gq_sbst (μ' := uB μ (e - 1) (nI (48 + v % 100 % 10))) C hN (vp_in_nI (by omega) (by omega)) (by rw [nI_clamp (by omega), b1]) dJ6_getChars_ba4f3_55 ?_
        refine gq_aload_n (i := 2) C dJ6_getChars_ba4f3_56 rfl 5 rfl ?_
        refine gq_iinc (i := 5) (q := 0) (v := nI (e - 2)) C dJ6_getChars_ba4f3_57 rfl ((dec_1 (by omega)).trans (by rw [show e - 1 - 1 = e - 2 by omega])) (by decide) rfl ?_
        refine gq_iload (i := 5) C dJ6_getChars_ba4f3_60 0 rfl ?_
        refine gq_getsZ C C.2.2.2.2.2.2.2.2.2.2.2.2.2.2.2.1 wk_3_237 (fun _ h => h) dJ6_getChars_ba4f3_62 ?_
        refine gq_iload (i := 4) C dJ6_getChars_ba4f3_65 2 rfl ?_
        refine gq_tb (v := .int (Int32.ofNat (48 + v % 100 / 10))) C C.2.2.2.2.2.2.2.2.2.2.2.2.2.2.2.2.1 (vp_in_nI hm (by decide)) (by rw [nI_clamp (by omega)]; rfl) dJ6_getChars_ba4f3_67 ?_
        refine gq_sbst (μ := uB μ (e - 1) (nI (48 + v % 100 % 10))) (μ' := uB (uB μ (e - 1) (nI (48 + v % 100 % 10))) (e - 2) (nI (48 + v % 100 / 10))) C hN (vp_in_nI (N := μ.2.2.2.1) (by omega) (by omega)) (by rw [nI_clamp (by omega), b2]) dJ6_getChars_ba4f3_68 ?_
        refine gq_goto (tgt := 22) C dJ6_getChars_ba4f3_69 (by decide) ?_
        refine gq_sub [1, 4, 0, 5] rfl ?_
        have key := ih (v / 100) (by omega) (n - 2) (e - 2) (uB (uB μ (e - 1) (nI (48 + v % 100 % 10))) (e - 2) (nI (48 + v % 100 / 10))) (by omega) hD' (by omega) (show e - 2 ≤ μ.2.2.2.1 by omega) hcap μ.2.2.1 rfl
        have em : putN (uB (uB μ (e - 1) (nI (48 + v % 100 % 10))) (e - 2) (nI (48 + v % 100 / 10))) (v / 100) (n - 2) (e - 2) = putN μ v n e := by
          unfold putN
          show uN μ μ.2.2.1 μ.2.2.2.1 (pt (upd (upd μ.2.2.2.2 (e - 1) (nI (48 + v % 100 % 10))) (e - 2) (nI (48 + v % 100 / 10))) (v / 100) (n - 2) (e - 2)) = _
          rw [pt_2 n3 he]
        rw [em, show e - 2 - (n - 2) = e - n by omega] at key
        exact key
      · have hm : v < 100 := by omega
        obtain ⟨b1, b2⟩ := dig_b v hm
        refine gq_icmp_gt_t (tgt := 72) C dJ6_getChars_ba4f3_25 (by decide) (by rw [e100]; exact Int32.not_le.mp (fun z => by have := (neg_le (by omega) (by decide)).mp z; omega)) ?_
        refine gq_aload_n (i := 2) C dJ6_getChars_ba4f3_72 rfl 3 rfl ?_
        refine gq_iinc (i := 5) (q := 2) (v := nI (e - 1)) C dJ6_getChars_ba4f3_73 rfl (dec_1 (by omega)) (by decide) rfl ?_
        refine gq_iload (i := 5) C dJ6_getChars_ba4f3_76 0 rfl ?_
        refine gq_getsZ C C.2.2.2.2.2.2.2.2.2.2.2.2.2.1 wk_3_235 (fun _ h => h) dJ6_getChars_ba4f3_78 ?_
        refine gq_iload_n (i := 0) C dJ6_getChars_ba4f3_81 rfl 1 rfl ?_
        refine gq_ineg C dJ6_getChars_ba4f3_82 ?_
        rw [Int32.neg_neg]
        refine gq_tb (v := .int (Int32.ofNat (48 + v % 10))) C C.2.2.2.2.2.2.2.2.2.2.2.2.2.2.1 (vp_in_nI hm (by decide)) (by rw [nI_clamp (by omega)]; rfl) dJ6_getChars_ba4f3_83 ?_
        refine gq_sbst (μ' := uB μ (e - 1) (nI (48 + v % 10))) C hN (vp_in_nI (by omega) (by omega)) (by rw [nI_clamp (by omega), b1]) dJ6_getChars_ba4f3_84 ?_
        refine gq_iload_n (i := 0) C dJ6_getChars_ba4f3_85 rfl 1 rfl ?_
        refine gq_bipush (v := -9) C dJ6_getChars_ba4f3_86 (by decide) ?_
        by_cases e2 : v < 10
        · obtain rfl := hD.one e2
          refine gq_icmp_ge_t (tgt := 104) C dJ6_getChars_ba4f3_88 (by decide) (by rw [e9]; exact (neg_le (by decide) (by omega)).mpr (by omega)) ?_
          refine gq_iload (i := 6) C dJ6_getChars_ba4f3_104 2 rfl ?_
          refine gq_if_eq_t (tgt := 118) C dJ6_getChars_ba4f3_106 (by decide) rfl ?_
          refine gq_iload (i := 5) C dJ6_getChars_ba4f3_118 0 rfl ?_
          have em : uB μ (e - 1) (nI (48 + v % 10)) = putN μ v 1 e := by
            unfold putN
            rw [← pt_1 e2 (by omega), show v % 10 = v by omega]
            rfl
          rw [em]
          exact gq_iret C hr dJ6_getChars_ba4f3_120 (Nat.le_of_ble_eq_true rfl) (Nat.le_of_ble_eq_true rfl)
        · obtain rfl := hD.two (by omega) hm
          refine gq_icmp_ge_f (tgt := 104) C dJ6_getChars_ba4f3_88 (by decide) (by rw [e9]; exact fun z => by have := (neg_le (by decide) (by omega)).mp z; omega) ?_
          refine gq_aload_n (i := 2) C dJ6_getChars_ba4f3_91 rfl 3 rfl ?_
          refine gq_iinc (i := 5) (q := 0) (v := nI (e - 2)) C dJ6_getChars_ba4f3_92 rfl ((dec_1 (by omega)).trans (by rw [show e - 1 - 1 = e - 2 by omega])) (by decide) rfl ?_
          refine gq_iload (i := 5) C dJ6_getChars_ba4f3_95 0 rfl ?_
          refine gq_getsZ C C.2.2.2.2.2.2.2.2.2.2.2.2.2.2.2.1 wk_3_237 (fun _ h => h) dJ6_getChars_ba4f3_97 ?_
          refine gq_iload_n (i := 0) C dJ6_getChars_ba4f3_100 rfl 1 rfl ?_
          refine gq_ineg C dJ6_getChars_ba4f3_101 ?_
          rw [Int32.neg_neg]
          refine gq_tb (v := .int (Int32.ofNat (48 + v / 10))) C C.2.2.2.2.2.2.2.2.2.2.2.2.2.2.2.2.1 (vp_in_nI hm (by decide)) (by rw [nI_clamp (by omega)]; rfl) dJ6_getChars_ba4f3_102 ?_
          refine gq_sbst (μ := uB μ (e - 1) (nI (48 + v % 10))) (μ' := uB (uB μ (e - 1) (nI (48 + v % 10))) (e - 2) (nI (48 + v / 10))) C hN (vp_in_nI (N := μ.2.2.2.1) (by omega) (by omega)) (by rw [nI_clamp (by omega), b2]) dJ6_getChars_ba4f3_103 ?_
          refine gq_iload (i := 6) C dJ6_getChars_ba4f3_104 2 rfl ?_
          refine gq_if_eq_t (tgt := 118) C dJ6_getChars_ba4f3_106 (by decide) rfl ?_
          refine gq_iload (i := 5) C dJ6_getChars_ba4f3_118 0 rfl ?_
          have em : uB (uB μ (e - 1) (nI (48 + v % 10))) (e - 2) (nI (48 + v / 10)) = putN μ v 2 e := by
            unfold putN
            rw [← pt_12 hm (by omega)]
            rfl
          rw [em]
          exact gq_iret C hr dJ6_getChars_ba4f3_120 (Nat.le_of_ble_eq_true rfl) (Nat.le_of_ble_eq_true rfl)
  exact gq_sub [0, 1, 2, 4] rfl (loop (v + 1) v (Nat.lt_succ_self v) n e μ hv hD he hc hcap μ.2.2.1 rfl)
end SBG

