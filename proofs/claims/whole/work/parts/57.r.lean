/-! ===== the next exercise; what the reference lays aside ===== -/
section QUERY4
variable {μ : Mm} {s : Nat → Int32} {g : Nat → Int64} {T : Nat}
theorem q_nextExercise (h : Bo T μ s g) : QP (F_X3_nextExercise μ) (F_X4_nextExercise μ) μ := by
  have h4b := h.2.2.2.1.1.2.2.2.2.2.1
  have h46 := h4b.2
  have hv := h.2.2.2.1.1.1.vt
  have hlen : (OSo s).length = ct s 4 := rwT_len _ _
  have e4 : aI (uI μ 295 0 0) 296 4 = some (nI (ct s 4)) := (mg (k := 4) rfl (by decide)).trans (congrArg some (by rw [th296, h.2.1]; exact h4b.1))
  have ht := h.1.sca.2.1
  have inner : ∀ (d m m' i k : Nat), i + d = ct s 4 → d < m → d < m' → k < 100 → (F_X3_nextExercise_10 (nI k) μ m (nI i) = some (.inl (nI k)) ∧ F_X4_nextExercise_15 (nI k) (uI μ 295 0 0) m' (nI i) = some (.inl (nI k, uI μ 295 0 0))) ∨ (F_X3_nextExercise_10 (nI k) μ m (nI i) = some (.inr ()) ∧ F_X4_nextExercise_15 (nI k) (uI μ 295 0 0) m' (nI i) = some (.inr ())) := by
    intro d
    induction d with
    | zero =>
      intro m m' i k hi hm hm' hk
      obtain ⟨m, rfl⟩ : ∃ z, m = z + 1 := ⟨m - 1, by omega⟩
      obtain ⟨m', rfl⟩ : ∃ z, m' = z + 1 := ⟨m' - 1, by omega⟩
      refine Or.inr ⟨?_, ?_⟩
      · rw [F_X3_nextExercise_10, show μ.1 15 2 = nI (ct s 4) from hlen ▸ h.1.opt.2.1]
        exact if_pos (nI_le (by omega) (by omega))
      · rw [F_X4_nextExercise_15]
        exact be_ e4 (if_pos (nI_le (by omega) (by omega)))
    | succ d ih =>
      intro m m' i k hi hm hm' hk
      obtain ⟨m, rfl⟩ : ∃ z, m = z + 1 := ⟨m - 1, by omega⟩
      obtain ⟨m', rfl⟩ : ∃ z, m' = z + 1 := ⟨m' - 1, by omega⟩
      have hv2 := hv.2.1
      have c1 : F_X3_nextExercise_10 (nI k) μ (m + 1) (nI i) = if yrP s ((ct s 5 + k) / 12) < s (206 + 6 * i + 3) then some (.inl (nI k)) else F_X3_nextExercise_10 (nI k) μ m (nI (i + 1)) := by
        rw [F_X3_nextExercise_10, show μ.1 15 2 = nI (ct s 4) from hlen ▸ h.1.opt.2.1]
        refine (if_neg (nI_ge (by omega) (by omega))).trans ?_
        rw [show μ.1 1 14 = nI (ct s 5) from ht.trans hv.1, nI_add, nI_1]
        refine be_ (x1_exe h.1 kd1 hv (o := i) (t := ct s 5 + k) (by rw [hlen]; omega) (by omega)) ?_
        rw [show lf (OSo s) i 3 = s (206 + 6 * i + 3) from (rwT_lf (by omega) (by decide)).trans (by rw [Nat.zero_add])]
        by_cases e2 : yrP s ((ct s 5 + k) / 12) < s (206 + 6 * i + 3)
        · rw [if_pos e2, if_pos e2, if_neg (by decide)]
        · rw [if_neg e2, if_neg e2, if_pos rfl]
      have c2 : F_X4_nextExercise_15 (nI k) (uI μ 295 0 0) (m' + 1) (nI i) = if yrP s ((ct s 5 + k) / 12) < s (206 + 6 * i + 3) then some (.inl (nI k, uI μ 295 0 0)) else F_X4_nextExercise_15 (nI k) (uI μ 295 0 0) m' (nI (i + 1)) := by
        rw [F_X4_nextExercise_15]
        refine be_ e4 ((if_neg (nI_ge (by omega) (by omega))).trans (be_ (m_exe (k := k) (by rw [th296, h.2.1]; exact hv) (by omega) hk) ?_))
        rw [th296, h.2.1, nI_1]
        by_cases e2 : yrP s ((ct s 5 + k) / 12) < s (206 + 6 * i + 3)
        · rw [if_pos e2, if_pos e2, if_neg (by decide)]
        · rw [if_neg e2, if_neg e2, if_pos rfl]
      rw [c1, c2]
      by_cases e2 : yrP s ((ct s 5 + k) / 12) < s (206 + 6 * i + 3)
      · rw [if_pos e2, if_pos e2]
        exact Or.inl ⟨rfl, rfl⟩
      · rw [if_neg e2, if_neg e2]
        exact ih m m' (i + 1) k (by omega) (by omega) (by omega) hk
  have outer : ∀ (d m m' k : Nat), k + d = 61 → d < m → d < m' → ∃ r, F_X3_nextExercise_2 μ m (nI k) = some r ∧ F_X4_nextExercise_7 (uI μ 295 0 0) m' (nI k) = some (r, uI μ 295 0 0) := by
    intro d
    induction d with
    | zero =>
      intro m m' k hk hm hm'
      obtain ⟨m, rfl⟩ : ∃ z, m = z + 1 := ⟨m - 1, by omega⟩
      obtain ⟨m', rfl⟩ : ∃ z, m' = z + 1 := ⟨m' - 1, by omega⟩
      obtain rfl : k = 61 := by omega
      refine ⟨-1, ?_, ?_⟩
      · rw [F_X3_nextExercise_2]
        exact if_pos (by decide)
      · rw [F_X4_nextExercise_7]
        exact if_pos (by decide)
    | succ d ih =>
      intro m m' k hk hm hm'
      obtain ⟨m, rfl⟩ : ∃ z, m = z + 1 := ⟨m - 1, by omega⟩
      obtain ⟨m', rfl⟩ : ∃ z, m' = z + 1 := ⟨m' - 1, by omega⟩
      rw [F_X3_nextExercise_2, F_X4_nextExercise_7, if_neg (show ¬ (60 : Int32) < nI k from nI_nlt (a := 60) (b := k) (by omega) (by omega)), if_neg (show ¬ (60 : Int32) < nI k from nI_nlt (a := 60) (b := k) (by omega) (by omega))]
      rcases inner (ct s 4) qFuel qFuel 0 k (by omega) (by unfold qFuel; omega) (by unfold qFuel; omega) (by omega) with ⟨i1, i2⟩ | ⟨i1, i2⟩
      · exact ⟨nI k, be_ i1 rfl, be_ i2 rfl⟩
      · obtain ⟨r, r1, r2⟩ := ih m m' (k + 1) (by omega) (by omega) (by omega)
        rw [← nI_1] at r1 r2
        exact ⟨r, be_ i1 r1, be_ i2 r2⟩
  obtain ⟨r, r1, r2⟩ := outer 61 qFuel qFuel 0 (by omega) (by decide) (by decide)
  exact QPm ⟨r, r1, r2⟩
end QUERY4
/-! rows are copied -/
def cpT (f0 f : Nat → Int32) (a n : Nat) : Nat → Int32 := fun j => if a ≤ j ∧ j < a + n then f (j - a) else f0 j
def cpTL (f0 f : Nat → Int64) (a n : Nat) : Nat → Int64 := fun j => if a ≤ j ∧ j < a + n then f (j - a) else f0 j
theorem cpT_s {f0 f : Nat → Int32} {a n : Nat} : upd (cpT f0 f a n) (a + n) (f n) = cpT f0 f a (n + 1) := by
  funext j
  unfold upd cpT
  by_cases e : j = a + n
  · rw [if_pos e, if_pos (by omega), e, show a + n - a = n by omega]
  · rw [if_neg e]
    by_cases e2 : a ≤ j ∧ j < a + n
    · rw [if_pos e2, if_pos (by omega)]
    · rw [if_neg e2, if_neg (by omega)]
theorem cpTL_s {f0 f : Nat → Int64} {a n : Nat} : vp_updL (cpTL f0 f a n) (a + n) (f n) = cpTL f0 f a (n + 1) := by
  funext j
  unfold vp_updL cpTL
  by_cases e : j = a + n
  · rw [if_pos e, if_pos (by omega), e, show a + n - a = n by omega]
  · rw [if_neg e]
    by_cases e2 : a ≤ j ∧ j < a + n
    · rw [if_pos e2, if_pos (by omega)]
    · rw [if_neg e2, if_neg (by omega)]
theorem cpT_0 {f0 f : Nat → Int32} {a : Nat} : cpT f0 f a 0 = f0 := by
  funext j
  unfold cpT
  rw [if_neg (by omega)]
theorem cpTL_0 {f0 f : Nat → Int64} {a : Nat} : cpTL f0 f a 0 = f0 := by
  funext j
  unfold cpTL
  rw [if_neg (by omega)]
section PUT
/-- a loop that copies cells: src, dst, the index' way -/
theorem cpLoop {loop : Nat → Int32 → Mm → Option Mm} {src dst N a : Nat} {ix : Int32 → Int32} {jx : Mm → Int32 → Int32} (hn : N < 2 ^ 30) (hne : src ≠ dst)
  (step : ∀ m v μ, loop (m + 1) v μ = if nI N ≤ v then some μ else (aI μ src (ix v)).bind fun x => (sI μ dst (jx μ v) x).bind fun m3 => loop m (v + 1) m3)
  {off : Nat} (hix : ∀ k, k < N → ix (nI k) = nI (off + k)) (hs : off + N ≤ ln src) (hd : a + N ≤ ln dst) {R : Mm → Prop} (hjx : ∀ μ k, R μ → k < N → jx μ (nI k) = nI (a + k)) (hR : ∀ μ k v, R μ → R (uI μ dst k v))
  {f f0 : Nat → Int32} : ∀ (d m k : Nat) (μ : Mm), k + d = N → d < m → R μ → μ.1 src = f → μ.1 dst = cpT f0 (fun i => f (off + i)) a k → Op (loop m (nI k) μ) (fun μ' => μ'.1 dst = cpT f0 (fun i => f (off + i)) a N ∧ (R μ' ∧ Fs (fun b => b = dst) μ μ')) := by
  intro d
  induction d with
  | zero =>
    intro m k μ hk hm hr e1 e2
    obtain ⟨m, rfl⟩ : ∃ z, m = z + 1 := ⟨m - 1, by omega⟩
    rw [step, if_pos (nI_le (by omega) (by omega))]
    obtain rfl : k = N := by omega
    exact op_r ⟨e2, hr, Fs.rf⟩
  | succ d ih =>
    intro m k μ hk hm hr e1 e2
    obtain ⟨m, rfl⟩ : ∃ z, m = z + 1 := ⟨m - 1, by omega⟩
    rw [step, if_neg (nI_ge (by omega) (by omega))]
    refine op_eb (aI_ok (k := off + k) (hix k (by omega)) (by omega)) ?_
    refine op_eb (sI_ok (k := a + k) (hjx μ k hr (by omega)) (by omega)) ?_
    rw [nI_1]
    refine op_m (ih m (k + 1) _ (by omega) (by omega) (hR μ _ _ hr) ?_ ?_) (fun μ' z => ⟨z.1, z.2.1, Fs.tr (Fs.uI (S := fun b => b = dst) rfl) z.2.2⟩)
    · rw [uI_ne hne]; exact e1
    · rw [uI_eq, e1, e2]
      exact cpT_s
theorem cpLoopL {loop : Nat → Int32 → Mm → Option Mm} {src dst N a : Nat} {ix : Int32 → Int32} {jx : Mm → Int32 → Int32} (hn : N < 2 ^ 30) (hne : src ≠ dst)
  (step : ∀ m v μ, loop (m + 1) v μ = if nI N ≤ v then some μ else (aL μ src (ix v)).bind fun x => (sL μ dst (jx μ v) x).bind fun m3 => loop m (v + 1) m3)
  {off : Nat} (hix : ∀ k, k < N → ix (nI k) = nI (off + k)) (hs : off + N ≤ ln src) (hd : a + N ≤ ln dst) {R : Mm → Prop} (hjx : ∀ μ k, R μ → k < N → jx μ (nI k) = nI (a + k)) (hR : ∀ μ k v, R μ → R (uL μ dst k v))
  {f f0 : Nat → Int64} : ∀ (d m k : Nat) (μ : Mm), k + d = N → d < m → R μ → μ.2.1 src = f → μ.2.1 dst = cpTL f0 (fun i => f (off + i)) a k → Op (loop m (nI k) μ) (fun μ' => μ'.2.1 dst = cpTL f0 (fun i => f (off + i)) a N ∧ (R μ' ∧ Fs (fun b => b = dst) μ μ')) := by
  intro d
  induction d with
  | zero =>
    intro m k μ hk hm hr e1 e2
    obtain ⟨m, rfl⟩ : ∃ z, m = z + 1 := ⟨m - 1, by omega⟩
    rw [step, if_pos (nI_le (by omega) (by omega))]
    obtain rfl : k = N := by omega
    exact op_r ⟨e2, hr, Fs.rf⟩
  | succ d ih =>
    intro m k μ hk hm hr e1 e2
    obtain ⟨m, rfl⟩ : ∃ z, m = z + 1 := ⟨m - 1, by omega⟩
    rw [step, if_neg (nI_ge (by omega) (by omega))]
    refine op_eb (aL_ok (k := off + k) (hix k (by omega)) (by omega)) ?_
    refine op_eb (sL_ok (k := a + k) (hjx μ k hr (by omega)) (by omega)) ?_
    rw [nI_1]
    refine op_m (ih m (k + 1) _ (by omega) (by omega) (hR μ _ _ hr) ?_ ?_) (fun μ' z => ⟨z.1, z.2.1, Fs.tr (Fs.uL (S := fun b => b = dst) rfl) z.2.2⟩)
    · rw [uL_ne hne]; exact e1
    · rw [uL_eq, e1, e2]
      exact cpTL_s
/-- all 521 numbers, all 15 long ones -/
def al5 (f0 f : Nat → Int32) : Nat → Int32 := cpT f0 f 0 521
def al15 (f0 f : Nat → Int64) : Nat → Int64 := cpTL f0 f 0 15
theorem m_putsAside (μ : Mm) : Op (F_X4_putsAside μ) (fun μ' => μ'.1 298 = al5 (μ.1 298) (μ.1 296) ∧ (μ'.2.1 301 = al15 (μ.2.1 301) (μ.2.1 300) ∧ Fs (fun a => a = 298 ∨ a = 301) μ μ')) := by
  unfold F_X4_putsAside
  refine op_mb (cpLoop (loop := F_X4_putsAside_2) (src := 296) (dst := 298) (N := 521) (a := 0) (ix := fun v => v) (jx := fun _ v => v) (by decide) (by decide) (fun m v μ => by rw [F_X4_putsAside_2]; rfl) (off := 0) (fun k _ => by rw [Nat.zero_add]) (by rw [ln296]; decide) (by rw [ln298]; decide) (R := fun _ => True) (fun μ k _ _ => by rw [Nat.zero_add]) (fun _ _ _ _ => trivial) (f := μ.1 296) (f0 := μ.1 298) 521 qFuel 0 μ (by decide) (by decide) trivial rfl cpT_0.symm) (fun m1 w1 => ?_)
  refine op_mb (cpLoopL (loop := F_X4_putsAside_29) (src := 300) (dst := 301) (N := 15) (a := 0) (ix := fun v => v) (jx := fun _ v => v) (by decide) (by decide) (fun m v μ => by rw [F_X4_putsAside_29]; rfl) (off := 0) (fun k _ => by rw [Nat.zero_add]) (by rw [ln300]; decide) (by rw [ln301]; decide) (R := fun _ => True) (fun μ k _ _ => by rw [Nat.zero_add]) (fun _ _ _ _ => trivial) (f := μ.2.1 300) (f0 := μ.2.1 301) 15 qFuel 0 m1 (by decide) (by decide) trivial (w1.2.2.1 300 (by decide)).2 ((w1.2.2.1 301 (by decide)).2.trans cpTL_0.symm)) (fun m2 w2 => op_r ⟨?_, ?_, (w1.2.2.mo (fun a e => Or.inl e)).tr (w2.2.2.mo (fun a e => Or.inr e))⟩)
  · rw [(w2.2.2.1 298 (by decide)).1, w1.1]
    unfold al5
    rw [show (fun i => μ.1 296 (0 + i)) = μ.1 296 from funext (fun i => by rw [Nat.zero_add])]
  · rw [w2.1]
    unfold al15
    rw [show (fun i => μ.2.1 300 (0 + i)) = μ.2.1 300 from funext (fun i => by rw [Nat.zero_add])]
theorem m_takesBack (μ : Mm) : Op (F_X4_takesBack μ) (fun μ' => μ'.1 296 = al5 (μ.1 296) (μ.1 298) ∧ (μ'.2.1 300 = al15 (μ.2.1 300) (μ.2.1 301) ∧ Fs (fun a => a = 296 ∨ a = 300) μ μ')) := by
  unfold F_X4_takesBack
  refine op_mb (cpLoop (loop := F_X4_takesBack_2) (src := 298) (dst := 296) (N := 521) (a := 0) (ix := fun v => v) (jx := fun _ v => v) (by decide) (by decide) (fun m v μ => by rw [F_X4_takesBack_2]; rfl) (off := 0) (fun k _ => by rw [Nat.zero_add]) (by rw [ln298]; decide) (by rw [ln296]; decide) (R := fun _ => True) (fun μ k _ _ => by rw [Nat.zero_add]) (fun _ _ _ _ => trivial) (f := μ.1 298) (f0 := μ.1 296) 521 qFuel 0 μ (by decide) (by decide) trivial rfl cpT_0.symm) (fun m1 w1 => ?_)
  refine op_mb (cpLoopL (loop := F_X4_takesBack_29) (src := 301) (dst := 300) (N := 15) (a := 0) (ix := fun v => v) (jx := fun _ v => v) (by decide) (by decide) (fun m v μ => by rw [F_X4_takesBack_29]; rfl) (off := 0) (fun k _ => by rw [Nat.zero_add]) (by rw [ln301]; decide) (by rw [ln300]; decide) (R := fun _ => True) (fun μ k _ _ => by rw [Nat.zero_add]) (fun _ _ _ _ => trivial) (f := μ.2.1 301) (f0 := μ.2.1 300) 15 qFuel 0 m1 (by decide) (by decide) trivial (w1.2.2.1 301 (by decide)).2 ((w1.2.2.1 300 (by decide)).2.trans cpTL_0.symm)) (fun m2 w2 => op_r ⟨?_, ?_, (w1.2.2.mo (fun a e => Or.inl e)).tr (w2.2.2.mo (fun a e => Or.inr e))⟩)
  · rw [(w2.2.2.1 296 (by decide)).1, w1.1]
    unfold al5
    rw [show (fun i => μ.1 298 (0 + i)) = μ.1 298 from funext (fun i => by rw [Nat.zero_add])]
  · rw [w2.1]
    unfold al15
    rw [show (fun i => μ.2.1 301 (0 + i)) = μ.2.1 301 from funext (fun i => by rw [Nat.zero_add])]
end PUT
