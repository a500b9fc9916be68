/-! ===== lines that are right ===== -/
/-- the class reads: it stands at the first of the tokens L, has read s -/
def GT (f : Nat → Int32) (n : Nat) (L : List Tok) (s : Nat → Int32) (b μ : Mm) : Prop := ∃ t, GC f n t s b μ ∧ (Bt f n t (ren true L) ∧ ∀ k, k ∈ L → tOk k)
section LN
variable {f : Nat → Int32} {n : Nat} {L : List Tok} {k : Tok} {s s' : Nat → Int32} {b μ : Mm}
theorem GT.er (h : GT f n L s b μ) : μ.1 45 4 = 0 := by
  obtain ⟨t, h, -⟩ := h
  exact h.2.1.1
theorem GT.rd (h : GT f n L s b μ) : RdT μ s := by
  obtain ⟨t, h, -⟩ := h
  exact h.2.2.1
theorem GT.of (h : GT f n L s b μ) {μ' : Mm} (hg : ∀ t, GC f n t s b μ → GC f n t s' b μ') : GT f n L s' b μ' := by
  obtain ⟨t, h1, h2⟩ := h
  exact ⟨t, hg t h1, h2⟩
theorem GT.op (h : GT f n L s b μ) {x : Option Mm} (hg : ∀ t, GC f n t s b μ → Op x (GC f n t s' b)) : Op x (GT f n L s' b) := by
  obtain ⟨t, h1, h2⟩ := h
  exact op_m (hg t h1) (fun m w => ⟨t, w, h2⟩)
theorem gt_next (hB : BY f n) (h : GT f n (k :: L) s b μ) : Op (F_X0_nextToken μ) (GT f n L s b) := by
  obtain ⟨t, h1, h2, h3⟩ := h
  exact op_m (gc_next hB h1) (fun m w => ⟨_, w, tok_n (h3 k List.mem_cons_self) (fun q hq => h3 q (List.mem_cons_of_mem _ hq)) h2, fun q hq => h3 q (List.mem_cons_of_mem _ hq)⟩)
theorem gt_isW (hB : BY f n) (h : GT f n (k :: L) s b μ) {v : Nat} (hv : v < 10) : F_X0_isWord v μ = some (if k = (1, v) then 1 else 0) := by
  obtain ⟨t, h1, h2, h3⟩ := h
  rw [x0_isW h1.1 hB.1 hv]
  obtain ⟨a, w⟩ := k
  have hk := h3 _ List.mem_cons_self
  rcases hk with ⟨k1, k2⟩ | ⟨k1, k2⟩ | k1
  · obtain rfl : a = 1 := k1
    have k2 : w < 10 := k2
    rw [wd_1 k2 hv h2]
    by_cases e : w = v
    · subst e
      rw [if_pos (decide_eq_true rfl), if_pos rfl]
    · rw [if_neg (fun z => e (of_decide_eq_true z)), if_neg (fun z => e (congrArg Prod.snd z))]
  · obtain rfl : a = 2 := k1
    rw [wd_no hv (by rw [(tok_2 k2 h2).1]; decide), if_neg (by decide), if_neg (fun z => absurd (congrArg Prod.fst z) (show ¬ (2 : Nat) = 1 by decide))]
  · obtain rfl : a = 3 := k1
    rw [wd_no hv (by rw [(tok_3 h2).1]; decide), if_neg (by decide), if_neg (fun z => absurd (congrArg Prod.fst z) (show ¬ (3 : Nat) = 1 by decide))]
theorem gt_yes (hB : BY f n) {v : Nat} (h : GT f n ((1, v) :: L) s b μ) (hv : v < 10) : F_X0_isWord v μ = some 1 := (gt_isW hB h hv).trans (congrArg some (if_pos rfl))
theorem gt_not (hB : BY f n) (h : GT f n (k :: L) s b μ) {v : Nat} (hv : v < 10) (hk : k ≠ (1, v)) : F_X0_isWord v μ = some 0 := (gt_isW hB h hv).trans (congrArg some (if_neg hk))
theorem gt_num (hB : BY f n) {v lo hi : Nat} (h : GT f n ((2, v) :: L) s b μ) (h1 : lo ≤ v) (h2 : v ≤ hi) (hh : hi < 2 ^ 30) : Op (F_X0_takeNumber (nI lo) (nI hi) μ) (fun o => o.1 = nI v ∧ GT f n L s b o.2) := by
  obtain ⟨t, g1, g2, g3⟩ := h
  have hv : v ≤ 999 := by
    rcases g3 _ List.mem_cons_self with ⟨k1, -⟩ | ⟨-, k2⟩ | k1
    · exact absurd k1 (show ¬ (2 : Nat) = 1 by decide)
    · exact k2
    · exact absurd k1 (show ¬ (2 : Nat) = 3 by decide)
  refine op_m (x0_num (lo := nI lo) (hi := nI hi) g1.1 hB.1 g1.2.1.1) (fun o w => ?_)
  obtain ⟨w1, w2, w3⟩ := w.1 (numC_2 hv g2 h1 h2 hh)
  exact ⟨w1.trans (num_2 hv g2).1, _, g1.mv w2 w3, tok_n (g3 _ List.mem_cons_self) (fun q hq => g3 q (List.mem_cons_of_mem _ hq)) g2, fun q hq => g3 q (List.mem_cons_of_mem _ hq)⟩
/-- a number below how many there are of something -/
theorem gt_numR (hB : BY f n) {v c : Nat} {x : Int32} (h : GT f n ((2, v) :: L) s b μ) (hx : x = nI c) (h2 : v < c) (hc : c < 2 ^ 30) : Op (F_X0_takeNumber (0 : Int32) (x - (1 : Int32)) μ) (fun o => o.1 = nI v ∧ GT f n L s b o.2) := by
  subst hx
  rw [nI_sub1 (by omega)]
  exact gt_num (lo := 0) hB h (Nat.zero_le _) (by omega) (by omega)
theorem gt_numS (hB : BY f n) {v lo c : Nat} {x : Int32} (h : GT f n ((2, v) :: L) s b μ) (hx : x = nI c) (h1 : lo ≤ v) (h2 : v < c) (hc : c < 2 ^ 30) : Op (F_X0_takeNumber (nI lo) (x - (1 : Int32)) μ) (fun o => o.1 = nI v ∧ GT f n L s b o.2) := by
  subst hx
  rw [nI_sub1 (by omega)]
  exact gt_num (lo := lo) hB h h1 (by omega) (by omega)
theorem gt_numK (hB : BY f n) {v : Nat} (h : GT f n ((2, v) :: L) s b μ) (h2 : v ≤ 200) : Op (F_X0_takeNumber (0 : Int32) (200 : Int32) μ) (fun o => o.1 = nI v ∧ (GT f n L s b o.2 ∧ Fs (fun a => a = 45) μ o.2)) := by
  obtain ⟨t, g1, g2, g3⟩ := h
  refine op_m (x0_num (lo := nI 0) (hi := nI 200) g1.1 hB.1 g1.2.1.1) (fun o w => ?_)
  obtain ⟨w1, w2, w3⟩ := w.1 (numC_2 (lo := 0) (hi := 200) (by omega) g2 (Nat.zero_le _) h2 (by decide))
  exact ⟨w1.trans (num_2 (by omega) g2).1, ⟨_, g1.mv w2 w3, tok_n (g3 _ List.mem_cons_self) (fun q hq => g3 q (List.mem_cons_of_mem _ hq)) g2, fun q hq => g3 q (List.mem_cons_of_mem _ hq)⟩, w3.1⟩
theorem gt_row (hB : BY f n) {q c m : Nat} (h : GT f n (k :: L) s b μ) (hr : μ.1 q 2 = nI c) (hc : c < m) (hm : m < 2 ^ 30) : Op (F_X0_takeRowWord q (nI m) μ) (GT f n L s b) := by
  unfold F_X0_takeRowWord
  rw [hr]
  refine op_t (nI_lt hc (by omega)) (op_mb (gt_next hB h) (fun m w => op_r w))
theorem gt_n2 {y : Nat} (h : GT f n ((3, y) :: L) s b μ) : ¬ μ.1 45 5 = 2 := by
  obtain ⟨t, g1, g2, g3⟩ := h
  rw [g1.1.2.2.2.1, (tok_3 g2).1]
  decide
theorem gt_3 {y : Nat} (h : GT f n ((3, y) :: L) s b μ) : μ.1 45 5 = 3 := by
  obtain ⟨t, g1, g2, g3⟩ := h
  rw [g1.1.2.2.2.1, (tok_3 g2).1]
  rfl
theorem gt_2 {v : Nat} (h : GT f n ((2, v) :: L) s b μ) : μ.1 45 5 = 2 := by
  obtain ⟨t, g1, g2, g3⟩ := h
  have hv : v ≤ 999 := by
    rcases g3 _ List.mem_cons_self with ⟨k1, -⟩ | ⟨-, k2⟩ | k1
    · exact absurd k1 (show ¬ (2 : Nat) = 1 by decide)
    · exact k2
    · exact absurd k1 (show ¬ (2 : Nat) = 3 by decide)
  rw [g1.1.2.2.2.1, (tok_2 hv g2).1]
  rfl
/-- one line: its tokens, ahead of the semicolon; what it makes of the numbers -/
def Ln (K : List Tok) (s s' : Nat → Int32) : Prop := Rok s → Rok s' ∧ ∀ (f : Nat → Int32) (n y : Nat) (L : List Tok) (b μ : Mm), BY f n → GT f n (K ++ (3, y) :: L) s b μ → Op (F_X0_readLine μ) (GT f n ((3, y) :: L) s' b)
theorem ne_w {k : Tok} {v : Nat} (h : k.1 ≠ 1 ∨ k.2 ≠ v) : k ≠ (1, v) := fun z => h.elim (fun q => q (congrArg Prod.fst z)) (fun q => q (congrArg Prod.snd z))
theorem n01 : ¬ (1 : Int32) = 0 := by decide
/-- the words ahead of the right one are not taken -/
theorem rl_0 (hB : BY f n) (h : GT f n ((1, 0) :: L) s b μ) : F_X0_readLine μ = (F_X0_readReach μ).bind some := by
  unfold F_X0_readLine
  refine be_ (gt_yes hB h (by decide)) ((if_neg n01).trans ?_)
  rfl
theorem rl_1 (hB : BY f n) (h : GT f n ((1, 1) :: L) s b μ) : F_X0_readLine μ = (F_X0_readSeason μ).bind some := by
  unfold F_X0_readLine
  refine be_ (gt_not hB h (by decide) (ne_w (Or.inr (by decide)))) ((if_pos rfl).trans ?_)
  refine be_ (gt_yes hB h (by decide)) ((if_neg n01).trans ?_)
  rfl
theorem rl_2 (hB : BY f n) (h : GT f n ((1, 2) :: L) s b μ) : F_X0_readLine μ = (F_X0_readYears μ).bind some := by
  unfold F_X0_readLine
  refine be_ (gt_not hB h (by decide) (ne_w (Or.inr (by decide)))) ((if_pos rfl).trans ?_)
  refine be_ (gt_not hB h (by decide) (ne_w (Or.inr (by decide)))) ((if_pos rfl).trans ?_)
  refine be_ (gt_yes hB h (by decide)) ((if_neg n01).trans ?_)
  rfl
theorem rl_3 (hB : BY f n) (h : GT f n ((1, 3) :: L) s b μ) : F_X0_readLine μ = (F_X0_nextToken μ).bind loA := by
  unfold F_X0_readLine
  refine be_ (gt_not hB h (by decide) (ne_w (Or.inr (by decide)))) ((if_pos rfl).trans ?_)
  refine be_ (gt_not hB h (by decide) (ne_w (Or.inr (by decide)))) ((if_pos rfl).trans ?_)
  refine be_ (gt_not hB h (by decide) (ne_w (Or.inr (by decide)))) ((if_pos rfl).trans ?_)
  refine be_ (gt_yes hB h (by decide)) ((if_neg n01).trans ?_)
  rfl
theorem rl_4 (hB : BY f n) (h : GT f n ((1, 4) :: L) s b μ) : F_X0_readLine μ = (F_X0_readAccounts μ).bind some := by
  unfold F_X0_readLine
  refine be_ (gt_not hB h (by decide) (ne_w (Or.inr (by decide)))) ((if_pos rfl).trans ?_)
  refine be_ (gt_not hB h (by decide) (ne_w (Or.inr (by decide)))) ((if_pos rfl).trans ?_)
  refine be_ (gt_not hB h (by decide) (ne_w (Or.inr (by decide)))) ((if_pos rfl).trans ?_)
  refine be_ (gt_not hB h (by decide) (ne_w (Or.inr (by decide)))) ((if_pos rfl).trans ?_)
  refine be_ (gt_yes hB h (by decide)) ((if_neg n01).trans ?_)
  rfl
theorem rl_5 (hB : BY f n) (h : GT f n ((1, 5) :: L) s b μ) : F_X0_readLine μ = (F_X0_readRight μ).bind some := by
  unfold F_X0_readLine
  refine be_ (gt_not hB h (by decide) (ne_w (Or.inr (by decide)))) ((if_pos rfl).trans ?_)
  refine be_ (gt_not hB h (by decide) (ne_w (Or.inr (by decide)))) ((if_pos rfl).trans ?_)
  refine be_ (gt_not hB h (by decide) (ne_w (Or.inr (by decide)))) ((if_pos rfl).trans ?_)
  refine be_ (gt_not hB h (by decide) (ne_w (Or.inr (by decide)))) ((if_pos rfl).trans ?_)
  refine be_ (gt_not hB h (by decide) (ne_w (Or.inr (by decide)))) ((if_pos rfl).trans ?_)
  refine be_ (gt_yes hB h (by decide)) ((if_neg n01).trans ?_)
  rfl
theorem rl_8 (hB : BY f n) (h : GT f n ((1, 8) :: L) s b μ) : F_X0_readLine μ = (F_X0_readLease μ).bind some := by
  unfold F_X0_readLine
  refine be_ (gt_not hB h (by decide) (ne_w (Or.inr (by decide)))) ((if_pos rfl).trans ?_)
  refine be_ (gt_not hB h (by decide) (ne_w (Or.inr (by decide)))) ((if_pos rfl).trans ?_)
  refine be_ (gt_not hB h (by decide) (ne_w (Or.inr (by decide)))) ((if_pos rfl).trans ?_)
  refine be_ (gt_not hB h (by decide) (ne_w (Or.inr (by decide)))) ((if_pos rfl).trans ?_)
  refine be_ (gt_not hB h (by decide) (ne_w (Or.inr (by decide)))) ((if_pos rfl).trans ?_)
  refine be_ (gt_not hB h (by decide) (ne_w (Or.inr (by decide)))) ((if_pos rfl).trans ?_)
  refine be_ (gt_yes hB h (by decide)) ((if_neg n01).trans ?_)
  rfl
theorem rl_9 (hB : BY f n) (h : GT f n ((1, 9) :: L) s b μ) : F_X0_readLine μ = (F_X0_readOption μ).bind some := by
  unfold F_X0_readLine
  refine be_ (gt_not hB h (by decide) (ne_w (Or.inr (by decide)))) ((if_pos rfl).trans ?_)
  refine be_ (gt_not hB h (by decide) (ne_w (Or.inr (by decide)))) ((if_pos rfl).trans ?_)
  refine be_ (gt_not hB h (by decide) (ne_w (Or.inr (by decide)))) ((if_pos rfl).trans ?_)
  refine be_ (gt_not hB h (by decide) (ne_w (Or.inr (by decide)))) ((if_pos rfl).trans ?_)
  refine be_ (gt_not hB h (by decide) (ne_w (Or.inr (by decide)))) ((if_pos rfl).trans ?_)
  refine be_ (gt_not hB h (by decide) (ne_w (Or.inr (by decide)))) ((if_pos rfl).trans ?_)
  refine be_ (gt_not hB h (by decide) (ne_w (Or.inr (by decide)))) ((if_pos rfl).trans ?_)
  refine be_ (gt_yes hB h (by decide)) ((if_neg n01).trans ?_)
  rfl
theorem op_some {x : Option Mm} {P : Mm → Prop} (h : Op x P) : Op (x.bind some) P := op_mb h (fun _ w => op_r w)
end LN
section LNK
variable {s : Nat → Int32}
/-! a reach -/
theorem ln_reach {x y : Nat} (hx : x ≤ 999) (hy : y ≤ 999) (hc : ct s 0 < 6) : Ln [(1, 0), (2, x), (2, y)] s (reS2 s (nI x) (nI y)) := fun R => ⟨rok_reach R hc hx hy, fun f n q L b μ hB h => by
  rw [rl_0 hB h, rr_eq]
  refine op_some (op_mb (gt_row (m := 6) hB h h.rd.1.2.1 hc (by decide)) (fun m1 h1 => ?_))
  unfold rrC
  refine op_mb (gt_num (lo := 0) (hi := 999) hB h1 (Nat.zero_le _) hx (by decide)) (fun o2 w2 => ?_)
  obtain ⟨e2, h2⟩ := w2
  unfold rrB
  refine op_mb (gt_num (lo := 0) (hi := 999) hB h2 (Nat.zero_le _) hy (by decide)) (fun o3 w3 => ?_)
  obtain ⟨e3, h3⟩ := w3
  rw [e2, e3]
  exact h3.op (fun t g => gc_rrA g R hc)⟩
/-! the loss -/
theorem rok_loss {x : Nat} (R : Rok s) (hx : x ≤ 50) : Rok (upd s 6 (nI x)) := by
  have ev : ∀ j, j ≠ 6 → upd s 6 (nI x) j = s j := fun j hj => pk_un hj
  exact R.nz (lo := 6) (hi := 7) (fun j hj => ev j (by omega)) (Or.inr (Or.inr (Or.inl ⟨rfl, rfl⟩))) (Bn.mk pk_us hx (by decide)) (R.1.2.2.2.2.2.2.1.eq (ev 7 (by decide))) (by rw [ct_eq (ev 7 (by decide))]; exact R.1.2.2.2.2.2.2.2) (fun k hk => (R.2.1.2.2.1 k hk).eq (ev _ (by omega))) (fun k hk => (R.2.1.2.2.2 k hk).eq (ev _ (by omega)))
theorem ln_loss {x : Nat} (hx : x ≤ 50) : Ln [(1, 3), (2, x)] s (upd s 6 (nI x)) := fun R => ⟨rok_loss R hx, fun f n q L b μ hB h => by
  have ev : ∀ j, j ≠ 6 → upd s 6 (nI x) j = s j := fun j hj => pk_un hj
  rw [rl_3 hB h]
  refine op_mb (gt_next hB h) (fun m1 h1 => ?_)
  unfold loA
  refine op_mb (gt_num (lo := 0) (hi := 50) hB h1 (Nat.zero_le _) hx (by decide)) (fun o2 w2 => ?_)
  obtain ⟨e2, h2⟩ := w2
  rw [e2]
  refine op_br (op_r (h2.of (fun t C2 => ?_)))
  obtain ⟨g1, g2, g3, g4, g5, g6, g7, g8, g9⟩ := C2.2.2.1
  refine C2.cel (s' := upd s 6 (nI x)) (Or.inl ⟨rfl, Or.inr rfl⟩) (fun i hi => ev i (by omega)) (fun k hk => ?_) (fun k hk hk7 => ?_) ?_ ?_
  · rw [uI_ne (by decide), ev _ (by omega)]; exact g6 k hk
  · rw [uI_ne (by decide), ev _ (by omega)]; exact g7 k hk (by rw [ct_eq (ev 7 (by decide))] at hk7; exact hk7)
  · rw [uI_eq, ev 7 (by decide)]; exact (if_neg (by decide)).trans g8
  · rw [uI_eq, pk_us]; rfl⟩
end LNK
section LNA
variable {s : Nat → Int32}
/-! the number of accounts -/
theorem rok_acc {x : Nat} (R : Rok s) (hx1 : 1 ≤ x) (hx : x ≤ 5) (h2 : ct s 2 = 0) : Rok (upd s 1 (nI x)) := by
  have ev : ∀ j, j ≠ 1 → upd s 1 (nI x) j = s j := fun j hj => pk_un hj
  have c1 : ct (upd s 1 (nI x)) 1 = x := ct_nI pk_us (by omega)
  have e2 : ct (upd s 1 (nI x)) 2 = ct s 2 := ct_eq (ev 2 (by decide))
  have e3 : ct (upd s 1 (nI x)) 3 = ct s 3 := ct_eq (ev 3 (by decide))
  have e4 : ct (upd s 1 (nI x)) 4 = ct s 4 := ct_eq (ev 4 (by decide))
  have e0 : ct (upd s 1 (nI x)) 0 = ct s 0 := ct_eq (ev 0 (by decide))
  obtain ⟨hn3, hn4⟩ := R.no h2
  obtain ⟨⟨r0, ⟨r1, r1'⟩, r2, r3, r4, r6, r7, r7'⟩, ⟨r8, r14, r36, r48⟩, ⟨rr, rd⟩, rl, ro, rz⟩ := id R
  exact R.up (r0.eq (ev 0 (by decide))) (by omega) (Bn.mk pk_us hx (by decide)) (by omega) (Or.inl h2) (r2.eq (ev 2 (by decide))) (by omega) (r3.eq (ev 3 (by decide))) (r4.eq (ev 4 (by decide))) (r6.eq (ev 6 (by decide))) (r7.eq (ev 7 (by decide))) (by rw [ct_eq (ev 7 (by decide))]; exact r7') (fun q hq => (r8 q hq).eq (ev _ (by omega))) (fun q hq => (r14 q hq).eq (ev _ (by omega))) (fun k hk => (r36 k hk).eq (ev _ (by omega))) (fun k hk => (r48 k hk).eq (ev _ (by omega))) (fun r k hr hk => ev _ (by omega)) (fun r q1 q2 => by omega) (fun c d hc hd q => by omega) (fun l k hl hk => ev _ (by omega)) (fun l q1 q2 => by omega) (fun l k hl hk => ev _ (by omega)) (fun l q1 q2 => by omega) (fun j hj hz => by
    rw [e2] at hz
    rw [ev j (by omega)]
    exact rz j hj hz)
theorem ln_acc {x : Nat} (hx1 : 1 ≤ x) (hx : x ≤ 5) (h2 : ct s 2 = 0) : Ln [(1, 4), (2, x)] s (upd s 1 (nI x)) := fun R => ⟨rok_acc R hx1 hx h2, fun f n q L b μ hB h => by
  have ev : ∀ j, j ≠ 1 → upd s 1 (nI x) j = s j := fun j hj => pk_un hj
  have c1 : ct (upd s 1 (nI x)) 1 = x := ct_nI pk_us (by omega)
  have e2 : ct (upd s 1 (nI x)) 2 = ct s 2 := ct_eq (ev 2 (by decide))
  have e3 : ct (upd s 1 (nI x)) 3 = ct s 3 := ct_eq (ev 3 (by decide))
  have e4 : ct (upd s 1 (nI x)) 4 = ct s 4 := ct_eq (ev 4 (by decide))
  have e0 : ct (upd s 1 (nI x)) 0 = ct s 0 := ct_eq (ev 0 (by decide))
  obtain ⟨⟨r0, ⟨r1, r1'⟩, r2, r3, r4, r6, r7, r7'⟩, ⟨r8, r14, r36, r48⟩, ⟨rr, rd⟩, rl, ro, rz⟩ := id R
  rw [rl_4 hB h]
  refine op_some ?_
  unfold F_X0_readAccounts
  rw [h.rd.2.2.1.2.1, h2]
  refine op_t (by decide) (op_mb (gt_next hB h) (fun m1 h1 => ?_))
  refine op_mb (gt_num (lo := 1) (hi := 5) hB h1 hx1 hx (by decide)) (fun o2 w2 => ?_)
  obtain ⟨e5, h5⟩ := w2
  rw [e5]
  refine op_mb (x2_remAll h5.rd.2.1 (fun _ _ => 0)) (fun m3 w3 => ?_)
  refine op_b (op_m (x0_accL hx x qFuel 0 m3 (by omega) (by unfold qFuel; omega) w3.1) (fun m4 w4 => op_r ?_))
  have fr : Fs (fun a => a = 52 ∨ a = 52 + 1) o2.2 m4 := (w3.2.mo (fun a e => Or.inl e)).tr w4.2
  have n9 : ∀ a, (a < 52 ∨ 54 ≤ a) → ¬ (a = 52 ∨ a = 52 + 1) := fun a ha => by omega
  have r46 := r4.2
  have r38 := r3.2
  have r06 := r0.2
  refine h5.of (fun t C2 => ?_)
  obtain ⟨g1, g2, g3, g4, g5, g6, g7, g8, g9⟩ := C2.2.2.1
  refine C2.tab fr ⟨by decide, by unfold LSg; omega, by unfold LSg; omega⟩ ⟨?_, ?_, ?_, ?_, ?_, ?_, ?_, ?_, ?_⟩
  · rw [e0]
    exact (g1.fs fr (n9 _ (by omega)) (n9 _ (by omega))).congr (fun r k hr hk => (ev _ (by omega)).symm)
  · rw [c1]
    refine w4.1.congr (fun r k hr hk => ?_)
    rw [ev _ (by omega)]
    exact (rz _ (by omega) (by omega)).symm
  · rw [e2]
    exact (g3.fs fr (n9 _ (by omega)) (n9 _ (by omega))).congr (fun r k hr hk => (ev _ (by omega)).symm)
  · rw [e3]
    exact (g4.fs fr (n9 _ (by omega)) (n9 _ (by omega))).congr (fun r k hr hk => (ev _ (by omega)).symm)
  · rw [e4]
    exact (g5.fs fr (n9 _ (by omega)) (n9 _ (by omega))).congr (fun r k hr hk => (ev _ (by omega)).symm)
  · rw [(fr.1 50 (n9 _ (by omega))).1]
    exact fun k hk => (g6 k hk).trans (ev _ (by omega)).symm
  · rw [(fr.1 51 (n9 _ (by omega))).1, ct_eq (ev 7 (by omega))]
    exact fun k hk hk7 => (g7 k hk hk7).trans (ev _ (by omega)).symm
  · rw [(fr.1 47 (n9 _ (by omega))).1, ev 7 (by omega)]; exact g8
  · rw [(fr.1 47 (n9 _ (by omega))).1, ev 6 (by omega)]; exact g9⟩
/-! season percentages -/
def tnum (V : List Nat) : List Tok := V.map (fun v => (2, v))
def seaS (s : Nat → Int32) (i : Nat) : List Nat → Nat → Int32
  | [] => s
  | v :: V => seaS (upd s (36 + i) (nI v)) (i + 1) V
theorem rok_sea : ∀ (V : List Nat) (s : Nat → Int32) (i : Nat), Rok s → i + V.length ≤ 12 → (∀ v, v ∈ V → v ≤ 200) → Rok (seaS s i V) := by
  intro V
  induction V with
  | nil => intro s i R _ _; exact R
  | cons v V ih =>
    intro s i R hl hv
    rw [List.length_cons] at hl
    exact ih _ (i + 1) (rok_36 R (by omega) (hv v List.mem_cons_self)) (by omega) (fun q hq => hv q (List.mem_cons_of_mem _ hq))
theorem gt_seE {f : Nat → Int32} {n y : Nat} {L : List Tok} {s : Nat → Int32} {b μ : Mm} (h : GT f n ((3, y) :: L) s b μ) : Op (seE μ) (GT f n ((3, y) :: L) s b) := by
  unfold seE
  rw [if_neg (gt_n2 h)]
  exact op_r h
theorem gt_seaL {f : Nat → Int32} {n y : Nat} {L : List Tok} {b : Mm} (hB : BY f n) : ∀ (V : List Nat) (m i : Nat) (s : Nat → Int32) (μ : Mm), i + V.length ≤ 12 → V.length < m → (∀ v, v ∈ V → v ≤ 200) → GT f n (tnum V ++ (3, y) :: L) s b μ → Op (seL m (nI i) μ) (GT f n ((3, y) :: L) (seaS s i V) b) := by
  intro V
  induction V with
  | nil =>
    intro m i s μ hi hm _ h
    obtain ⟨m, rfl⟩ : ∃ q, m = q + 1 := ⟨m - 1, by have : ([] : List Nat).length = 0 := rfl; omega⟩
    rw [seL_s]
    have h : GT f n ((3, y) :: L) s b μ := h
    by_cases e : (12 : Int32) ≤ nI i
    · rw [if_pos e]; exact gt_seE h
    · rw [if_neg e, if_neg (gt_n2 h)]; exact gt_seE h
  | cons v V ih =>
    intro m i s μ hi hm hv h
    rw [List.length_cons] at hi hm
    obtain ⟨m, rfl⟩ : ∃ q, m = q + 1 := ⟨m - 1, by omega⟩
    have h : GT f n ((2, v) :: (tnum V ++ (3, y) :: L)) s b μ := h
    rw [seL_s, if_neg (show ¬ (12 : Int32) ≤ nI i from nI_ge (b := 12) (by omega) (by decide)), if_pos (gt_2 h), if_pos h.er]
    refine op_mb (gt_num (lo := 0) (hi := 200) hB h (Nat.zero_le _) (hv v List.mem_cons_self) (by decide)) (fun o w => ?_)
    obtain ⟨e1, h1⟩ := w
    rw [e1]
    refine op_mb (h1.op (fun t g => gc_s50 g (show i < 12 by omega))) (fun m2 h2 => ?_)
    rw [nI_1]
    exact ih m (i + 1) _ m2 (by omega) (by omega) (fun q hq => hv q (List.mem_cons_of_mem _ hq)) h2
theorem ln_sea {v : Nat} {V : List Nat} (hl : V.length ≤ 11) (hv : ∀ q, q ∈ v :: V → q ≤ 200) : Ln ((1, 1) :: tnum (v :: V)) s (seaS s 0 (v :: V)) := fun R => ⟨rok_sea (v :: V) s 0 R (by rw [List.length_cons]; omega) hv, fun f n y L b μ hB h => by
  have h : GT f n ((1, 1) :: ((2, v) :: (tnum V ++ (3, y) :: L))) s b μ := h
  rw [rl_1 hB h, se_eq]
  refine op_some (op_mb (gt_next hB h) (fun m1 h1 => ?_))
  unfold seA
  refine op_mb (gt_num (lo := 0) (hi := 200) hB h1 (Nat.zero_le _) (hv v List.mem_cons_self) (by decide)) (fun o w => ?_)
  obtain ⟨e2, h2⟩ := w
  rw [e2]
  refine op_mb (h2.op (fun t g => gc_s50 (i := 0) g (by decide))) (fun m3 h3 => ?_)
  exact gt_seaL hB V qFuel 1 _ m3 (by omega) (by unfold qFuel; omega) (fun q hq => hv q (List.mem_cons_of_mem _ hq)) h3⟩
/-! year percentages -/
def yeaS (s : Nat → Int32) (i : Nat) : List Nat → Nat → Int32
  | [] => s
  | v :: V => yeaS (upd (upd s (48 + i) (nI v)) 7 (nI (i + 1))) (i + 1) V
theorem rok_yea : ∀ (V : List Nat) (s : Nat → Int32) (i : Nat), Rok s → i + V.length ≤ 5 → (∀ v, v ∈ V → v ≤ 200) → Rok (yeaS s i V) := by
  intro V
  induction V with
  | nil => intro s i R _ _; exact R
  | cons v V ih =>
    intro s i R hl hv
    rw [List.length_cons] at hl
    exact ih _ (i + 1) (rok_7 (rok_48 R (by omega) (hv v List.mem_cons_self)) (by omega) (by omega)) (by omega) (fun q hq => hv q (List.mem_cons_of_mem _ hq))
theorem gt_yeaL {f : Nat → Int32} {n y : Nat} {L : List Tok} {b : Mm} (hB : BY f n) : ∀ (V : List Nat) (m i : Nat) (s : Nat → Int32) (μ : Mm), i + V.length ≤ 5 → V.length < m → (∀ v, v ∈ V → v ≤ 200) → (∀ k, k < i → μ.1 51 k = s (48 + k)) → GT f n (tnum V ++ (3, y) :: L) s b μ → Op (yeL m (nI i) μ) (GT f n ((3, y) :: L) (yeaS s i V) b) := by
  intro V
  induction V with
  | nil =>
    intro m i s μ hi hm _ _ h
    obtain ⟨m, rfl⟩ : ∃ q, m = q + 1 := ⟨m - 1, by have : ([] : List Nat).length = 0 := rfl; omega⟩
    rw [yeL_s]
    have h : GT f n ((3, y) :: L) s b μ := h
    by_cases e : (5 : Int32) ≤ nI i
    · rw [if_pos e]; exact gt_seE h
    · rw [if_neg e, if_neg (gt_n2 h)]; exact gt_seE h
  | cons v V ih =>
    intro m i s μ hi hm hv hk h
    rw [List.length_cons] at hi hm
    obtain ⟨m, rfl⟩ : ∃ q, m = q + 1 := ⟨m - 1, by omega⟩
    have h : GT f n ((2, v) :: (tnum V ++ (3, y) :: L)) s b μ := h
    rw [yeL_s, if_neg (show ¬ (5 : Int32) ≤ nI i from nI_ge (b := 5) (by omega) (by decide)), if_pos (gt_2 h), if_pos h.er]
    refine op_mb (gt_numK hB h (hv v List.mem_cons_self)) (fun o w => ?_)
    obtain ⟨e1, h1, f1⟩ := w
    rw [e1]
    refine op_eb (sI_ok (k := i) rfl (by rw [ln51]; omega)) (op_br ?_)
    rw [nI_1]
    have hk1 : ∀ k, k < i → o.2.1 51 k = s (48 + k) := fun k q => by rw [(f1.1 51 (by decide)).1]; exact hk k q
    have h2 := h1.of (fun t g => gc_yr (v := nI v) g (fun _ _ => rfl) (show i < 5 by omega) hk1)
    refine ih m (i + 1) _ _ (by omega) (by omega) (fun q hq => hv q (List.mem_cons_of_mem _ hq)) (fun k q => ?_) h2
    have c7 : ct (upd (upd s (48 + i) (nI v)) 7 (nI (i + 1))) 7 = i + 1 := ct_nI pk_us (by omega)
    exact h2.rd.2.2.2.2.2.2.1 k (by omega) (by omega)
theorem ln_yea {v : Nat} {V : List Nat} (hl : V.length ≤ 4) (hv : ∀ q, q ∈ v :: V → q ≤ 200) : Ln ((1, 2) :: tnum (v :: V)) s (yeaS s 0 (v :: V)) := fun R => ⟨rok_yea (v :: V) s 0 R (by rw [List.length_cons]; omega) hv, fun f n y L b μ hB h => by
  have h : GT f n ((1, 2) :: ((2, v) :: (tnum V ++ (3, y) :: L))) s b μ := h
  rw [rl_2 hB h, ye_eq]
  refine op_some (op_mb (gt_next hB h) (fun m1 h1 => ?_))
  unfold yeA
  refine op_mb (gt_num (lo := 0) (hi := 200) hB h1 (Nat.zero_le _) (hv v List.mem_cons_self) (by decide)) (fun o w => ?_)
  obtain ⟨e2, h2⟩ := w
  rw [e2]
  refine op_eb (sI_ok (k := 0) rfl (by rw [ln51]; decide)) (op_br ?_)
  have h3 := h2.of (fun t g => gc_yr (i := 0) (v := nI v) g (fun _ _ => rfl) (by decide) (fun k q => absurd q (Nat.not_lt_zero k)))
  refine gt_yeaL hB V qFuel 1 _ _ (by omega) (by unfold qFuel; omega) (fun q hq => hv q (List.mem_cons_of_mem _ hq)) (fun k q => ?_) h3
  have c7 : ct (upd (upd s (48 + 0) (nI v)) 7 (nI (0 + 1))) 7 = 0 + 1 := ct_nI pk_us (by omega)
  exact h3.rd.2.2.2.2.2.2.1 k (by omega) (by omega)⟩
end LNA
