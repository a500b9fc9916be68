/-! ===== load: the end ===== -/
section LDB
variable {μ ν μ' b : Mm} {f : Nat → Int32} {n t k o : Nat} {s : Nat → Int32}
theorem ct_0 {j : Nat} (h : s j = 0) : ct s j = 0 := ct_nI (n := 0) h (by decide)
theorem c_post (hR : RdT μ s) (R : Rok s) (hb : NV b 47 sE gE) (hF : Fs LSg b μ) (h47 : ∀ j, j ≠ 3 → j ≠ 15 → μ.1 47 j = b.1 47 j) : Op (F_X1_rankRights 47 μ) (fun μ' => NV μ' 47 s gE ∧ Fs (fun a => a = 57) μ μ') := by
  obtain ⟨t0, t1, t2, t3, t4, h50, h51, h3, h15⟩ := hR
  have r2 := R.1.2.2.1.2
  have hD := R.2.2.1.2
  have Z : ∀ j, j < 521 → (j = 5 ∨ ((20 ≤ j ∧ j < 36) ∨ ((53 ≤ j ∧ j < 58) ∨ (242 ≤ j ∨ ((58 + 10 * ct s 2 ≤ j ∧ j < 158) ∨ (58 ≤ j ∧ (j < 158 ∧ 7 ≤ (j - 58) % 10))))))) → s j = 0 := R.2.2.2.2.2
  refine op_m (x1_rank (s := s) (b := 47) kd_47 t2 (fun q _ => rfl) r2 rfl) (fun μ' w => ⟨?_, w.2⟩)
  have n : ∀ a, a ≠ 57 → ¬ a = 57 := fun a h => h
  have e : ∀ j, j ≠ 57 → μ'.1 j = μ.1 j := fun j hj => (w.2.1 j hj).1
  have nl : ∀ a, (a = 54 ∨ (a = 57 ∨ (a = 58 ∨ 63 ≤ a))) → ¬ LSg a := fun a h z => by unfold LSg at z; omega
  unfold NV SV
  rw [if_pos (Z 57 (by decide) (by omega)), ct_0 (Z 56 (by decide) (by omega)), ct_0 (Z 424 (by decide) (by omega)), show (LSo s).length = ct s 3 from rwT_len _ _, show (OSo s).length = ct s 4 from rwT_len _ _]
  refine ⟨t0.fs w.2 (by decide) (by decide), t1.fs w.2 (by decide) (by decide), (t2.fs w.2 (by decide) (by decide)).congr (fun r k hr hk => ?_), (t3.fs w.2 (by decide) (by decide)).congr (fun r k hr hk => ?_), (t4.fs w.2 (by decide) (by decide)).congr (fun r k hr hk => ?_), ?_, ?_, ?_, ?_, ?_, ?_, ?_, w.1 hD, ?_⟩
  · by_cases e9 : k = 9
    · rw [if_pos e9, e9]
    · rw [if_neg e9]
  · have := rwT_lf (s := s) (base := 158) (i := 0) hr hk
    rw [Nat.zero_add] at this
    exact this.symm
  · have := rwT_lf (s := s) (base := 206) (i := 0) hr hk
    rw [Nat.zero_add] at this
    exact this.symm
  · have q := hb.clm
    rw [show ct sE 56 = 0 by decide] at q
    exact ((q.fs hF (nl _ (by decide)) (nl _ (by decide))).fs w.2 (by decide) (by decide)).congr (fun r k hr _ => absurd hr (Nat.not_lt_zero r))
  · have q := hb.gau
    rw [if_pos (show sE 57 = 0 by decide)] at q
    exact ((q.fs hF (nl _ (by decide)) (nl _ (by decide))).fs w.2 (by decide) (by decide)).congr (fun r k hr _ => absurd hr (Nat.not_lt_zero r))
  · have q := hb.mon
    rw [show ct sE 424 = 0 by decide] at q
    exact ((q.fs hF (nl _ (by decide)) (nl _ (by decide))).fs w.2 (by decide) (by decide)).congr (fun r k hr _ => absurd hr (Nat.not_lt_zero r))
  · rw [e _ (by decide)]; exact h50
  · rw [e _ (by decide)]; exact h51
  · rw [(w.2.1 54 (by decide)).2, (hF.1 54 (nl _ (by decide))).2]
    exact fun k hk => hb.bal k hk
  · rw [(w.2.1 58 (by decide)).2, (hF.1 58 (nl _ (by decide))).2]
    exact fun k hk => hb.ear k hk
  · obtain ⟨-, b5, -, b53, b54, b55⟩ := hb.sca
    rw [e 47 (by decide), h47 14 (by decide) (by decide), h47 16 (by decide) (by decide), h47 17 (by decide) (by decide), h47 18 (by decide) (by decide), b5, b53, b54, b55, Z 5 (by decide) (by omega), Z 53 (by decide) (by omega), Z 54 (by decide) (by omega), Z 55 (by decide) (by omega)]
    exact ⟨h3, rfl, h15, rfl, rfl, rfl⟩
theorem rwT_memr {base : Nat} {row : Nat → Int32} : ∀ d i, row ∈ rwT s base i d → ∃ r, r < d ∧ row = rwR s base (i + r) := by
  intro d
  induction d with
  | zero => intro i h; exact absurd h List.not_mem_nil
  | succ d ih =>
    intro i h
    rw [rwT] at h
    rcases List.mem_cons.mp h with e | e
    · exact ⟨0, Nat.succ_pos d, e⟩
    · obtain ⟨r, r1, r2⟩ := ih (i + 1) e
      exact ⟨r + 1, by omega, by rw [r2]; congr 1; omega⟩
theorem Rok.ok (R : Rok s) : Ok 0 s := by
  obtain ⟨⟨r0, ⟨r1, r1'⟩, r2, r3, r4, r6, r7, r7'⟩, ⟨r8, r14, r36, r48⟩, ⟨rr, rd⟩, rl, ro, rz⟩ := R
  have Z : ∀ j, j < 521 → (j = 5 ∨ ((20 ≤ j ∧ j < 36) ∨ ((53 ≤ j ∧ j < 58) ∨ (242 ≤ j ∨ ((58 + 10 * ct s 2 ≤ j ∧ j < 158) ∨ (58 ≤ j ∧ (j < 158 ∧ 7 ≤ (j - 58) % 10))))))) → s j = 0 := rz
  have r75 := r7.2
  have r06 := r0.2
  have c5 : ct s 5 = 0 := ct_0 (Z 5 (by decide) (by omega))
  have c56 : ct s 56 = 0 := ct_0 (Z 56 (by decide) (by omega))
  have bz : ∀ {j m : Nat}, s j = 0 → Bn s j m := fun {j m} h => by
    have := ct_0 h
    exact ⟨by rw [this]; exact h, by rw [this]; exact Nat.zero_le m⟩
  have nz : ∀ {j : Nat}, s j = 0 → s j = nI (ct s j) := fun {j} h => by rw [ct_0 h]; exact h
  refine ⟨⟨⟨r0, r1, r2, ⟨nz (Z 5 (by decide) (by omega)), by omega, r7.1, r7', r75⟩, fun q hq => r14 q (by omega), rr⟩, rd, fun row hrow => ?_, fun row hrow => ?_, r3, r4, r6, r8, r36, r48⟩, ⟨bz (Z 424 (by decide) (by omega)), ⟨nz (Z 56 (by decide) (by omega)), by omega⟩, fun a ha => ⟨nz (Z _ (by omega) (by omega)), ?_⟩, fun q hq => nz (Z _ (by omega) (by omega)), ?_, fun r hr => ⟨nz (Z _ (by omega) (by omega)), ?_⟩, Or.inl (Z 57 (by decide) (by omega)), fun _ q k hq hk => Z _ (by omega) (by omega), fun _ => Z 56 (by decide) (by omega), fun q hq => ⟨nz (Z _ (by omega) (by omega)), ?_⟩, fun c hc => by omega⟩, by omega⟩
  · obtain ⟨l, l1, rfl⟩ := rwT_memr _ _ hrow
    rw [Nat.zero_add]
    exact rl l l1
  · obtain ⟨l, l1, rfl⟩ := rwT_memr _ _ hrow
    rw [Nat.zero_add]
    exact ro l l1
  · rw [ct_0 (Z (26 + a) (by omega) (by omega)), Nat.zero_mul]
    decide
  · have h1 : rsum s = 0 := by
      unfold rsum
      have hq : ∀ q, q < 6 → ct s (20 + q) = 0 := fun q hq => ct_0 (Z _ (by omega) (by omega))
      show 0 + ct s (20 + 0) + ct s (20 + 1) + ct s (20 + 2) + ct s (20 + 3) + ct s (20 + 4) + ct s (20 + 5) = 0
      rw [hq 0 (by decide), hq 1 (by decide), hq 2 (by decide), hq 3 (by decide), hq 4 (by decide), hq 5 (by decide)]
    have h2 : bsum s = 0 := by
      unfold bsum
      rw [ct_0 (Z 26 (by decide) (by omega)), ct_0 (Z 27 (by decide) (by omega)), ct_0 (Z 28 (by decide) (by omega)), ct_0 (Z 29 (by decide) (by omega)), ct_0 (Z 30 (by decide) (by omega))]
    omega
  · rw [ct_0 (Z (58 + 10 * r + 7) (by omega) (by omega))]
    exact Nat.zero_le _
  · rw [ct_0 (Z (394 + 5 * q + 2) (by omega) (by omega))]
    decide
theorem c_l51 : ∀ (d m i : Nat) (μ : Mm), i + d = 2 → d < m → (∀ j, j < i → μ.1 292 j = 0) → Op (F_X3_load_51 m (nI i) μ) (fun μ' => (∀ j, j < 2 → μ'.1 292 j = 0) ∧ Fs (fun a => a = 292) μ μ') := by
  intro d
  induction d with
  | zero =>
    intro m i μ hi hm hj
    obtain ⟨m, rfl⟩ : ∃ z, m = z + 1 := ⟨m - 1, by omega⟩
    rw [F_X3_load_51, if_pos (show (2 : Int32) ≤ nI i from nI_le (a := 2) (by omega) (by omega))]
    exact op_r ⟨fun j h => hj j (by omega), Fs.rf⟩
  | succ d ih =>
    intro m i μ hi hm hj
    obtain ⟨m, rfl⟩ : ∃ z, m = z + 1 := ⟨m - 1, by omega⟩
    rw [F_X3_load_51, if_neg (show ¬ (2 : Int32) ≤ nI i from nI_ge (b := 2) (by omega) (by decide))]
    refine op_eb ((sZ_ok (k := i) rfl (by rw [ln292]; omega)).trans rfl) ?_
    rw [nI_1]
    refine op_m (ih m (i + 1) _ (by omega) (by omega) (fun j h => ?_)) (fun μ' z => ⟨z.1, (Fs.uI (S := fun a => a = 292) rfl).tr z.2⟩)
    rw [uI_eq]
    show (if j = i then _ else μ.1 292 j) = 0
    by_cases e : j = i
    · rw [if_pos e]; rfl
    · rw [if_neg e]; exact hj j (by omega)
end LDB

