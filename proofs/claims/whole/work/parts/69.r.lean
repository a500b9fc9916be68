/-! ===== what stands at each call ===== -/
def sr (μ : Mm) (i : Nat) : Nat → Int32 := fun j => μ.1 303 (521 * i + j)
def sl (μ : Mm) (i : Nat) : Nat → Int64 := fun j => μ.2.1 304 (15 * i + j)
def Past (k : Nat) (μ : Mm) : Prop := ∃ c p S, PC μ c p S ∧ (PM μ c S ∧ ∀ i, i < c → Ok (36 * k) (S i).1)
def Slo (k : Nat) (μ : Mm) : Prop := ∀ i, i < 2 → μ.1 247 i = nI (248 + 22 * i) ∧ (μ.1 292 i = μ.1 305 i ∧ ((μ.1 292 i = 0 ∨ μ.1 292 i = 1) ∧ (μ.1 292 i = 1 → NV μ (248 + 22 * i) (sr μ i) (sl μ i) ∧ Ok (36 * k) (sr μ i))))
def Cor (k : Nat) (μ : Mm) : Prop := Bo (36 * k) μ (μ.1 296) (μ.2.1 300) ∧ ((∀ b, kd b = 1 → KB μ b) ∧ (Fl μ ∧ (Past k μ ∧ Slo k μ)))
theorem Ok.mono {T T' : Nat} {s : Nat → Int32} (h : Ok T s) (hT : T ≤ T') : Ok T' s := ⟨h.1, h.2.1, by have := h.2.2; omega⟩
theorem Past.mono {k : Nat} {μ : Mm} (h : Past k μ) : Past (k + 1) μ := by
  obtain ⟨c, p, S, h1, h2, h3⟩ := h
  exact ⟨c, p, S, h1, h2, fun i hi => (h3 i hi).mono (by omega)⟩
theorem Slo.mono {k : Nat} {μ : Mm} (h : Slo k μ) : Slo (k + 1) μ := fun i hi => ⟨(h i hi).1, (h i hi).2.1, (h i hi).2.2.1, fun e => ⟨((h i hi).2.2.2 e).1, ((h i hi).2.2.2 e).2.mono (by omega)⟩⟩
theorem Cor.mono {k : Nat} {μ : Mm} (h : Cor k μ) (hk : k < 512) : Cor (k + 1) μ := ⟨⟨h.1.1, h.1.2.1, h.1.2.2.1, h.1.2.2.2.1.mono (by omega), by omega⟩, h.2.1, h.2.2.1, h.2.2.2.1.mono, h.2.2.2.2.mono⟩
theorem Slo.fs {k : Nat} {Q : Nat → Prop} {μ μ' : Mm} (h : Slo k μ) (hF : Fs Q μ μ') (hq : ∀ a, (247 ≤ a ∧ a < 293) ∨ (303 ≤ a ∧ a < 306) → ¬ Q a) : Slo k μ' := by
  intro i hi
  obtain ⟨h1, h2, h3, h4⟩ := h i hi
  unfold sr sl
  rw [(hF.1 247 (hq _ (by decide))).1, (hF.1 292 (hq _ (by decide))).1, (hF.1 305 (hq _ (by decide))).1, (hF.1 303 (hq _ (by decide))).1, (hF.1 304 (hq _ (by decide))).2]
  exact ⟨h1, h2, h3, fun e => ⟨SV.fs (h4 e).1 hF (fun a a1 a2 => hq a (by omega)), (h4 e).2⟩⟩
theorem Past.fs {k : Nat} {Q : Nat → Prop} {μ μ' : Mm} (h : Past k μ) (hF : Fs Q μ μ') (h8 : μ'.1 295 8 = μ.1 295 8) (hq : ∀ a, a = 0 ∨ ((70 ≤ a ∧ a < 248) ∨ (a = 299 ∨ a = 302)) → ¬ Q a) : Past k μ' := by
  obtain ⟨c, p, S, h1, h2, h3⟩ := h
  exact ⟨c, p, S, h1.fs hF (hq _ (by decide)) (hq _ (by decide)) (fun a a1 a2 => hq a (by omega)), h2.fs hF h8 (hq _ (by decide)) (hq _ (by decide)), h3⟩
theorem Cor.q {k : Nat} {μ μ' : Mm} (h : Cor k μ) (hk : KQ μ μ') : Cor k μ' := by
  obtain ⟨⟨h1, -, -, h4, h5⟩, hb, hf, hp, hs⟩ := h
  obtain ⟨k1, k2, k3, k4, k5⟩ := hk
  have n : ∀ a, (a < 23 ∨ ((45 ≤ a ∧ a < 69) ∨ ((69 < a ∧ a < 295) ∨ (a = 297 ∨ (a = 299 ∨ (302 ≤ a ∧ a < 307)))))) → ¬ QS a := fun a ha z => by unfold QS Blk at z; omega
  refine ⟨⟨NV.e5 (SV.fs h1 k1 (fun a a1 a2 => n a (by omega))) kd1 h4 k2 k3, rfl, rfl, h4.e5 k2, h5⟩, fun b hb' => ?_, ⟨?_, ?_, ?_⟩, hp.fs k1 (k4 8 (by decide) (by decide) (by decide)) (fun a ha => n a (by omega)), hs.fs k1 (fun a ha => n a (by omega))⟩
  · by_cases e : b = 23
    · rw [e]; exact k5
    · have := kd_all b (kd1_lt hb') hb'
      exact (hb b hb').fs k1 (fun a a1 a2 => n a (by omega))
  · rw [k4 22 (by decide) (by decide) (by decide)]; exact hf.1
  · rw [k4 24 (by decide) (by decide) (by decide)]; exact hf.2.1
  · rw [k4 26 (by decide) (by decide) (by decide)]; exact hf.2.2
theorem Cor.th {k : Nat} {μ : Mm} {x : Int32} (h : Cor k μ) : Cor k (uI μ 295 0 x) := h.q (KQ.th (h.2.1 23 kd23))
/-- what an action changes -/
def AS (a : Nat) : Prop := a < 23 ∨ ((70 ≤ a ∧ a < 247) ∨ (a = 295 ∨ (a = 296 ∨ (a = 299 ∨ (a = 300 ∨ (a = 302 ∨ (a = 307 ∨ a = 308)))))))
def K5 (μ μ' : Mm) : Prop := ∀ j, j ≠ 0 → (j ≠ 8 → μ'.1 295 j = μ.1 295 j)
theorem Cor.act {k : Nat} {μ μ' : Mm} (h : Cor k μ) (hk : k < 512) (hF : Fs AS μ μ') (h5 : K5 μ μ') (hn : NV μ' 1 (μ'.1 296) (μ'.2.1 300)) (ho : Ok (36 * (k + 1)) (μ'.1 296)) (hp : Past (k + 1) μ') : Cor (k + 1) μ' := by
  obtain ⟨⟨h1, -, -, h4, h5'⟩, hb, hf, -, hs⟩ := h
  have n : ∀ a, (23 ≤ a ∧ a < 70) ∨ ((247 ≤ a ∧ a < 295) ∨ (303 ≤ a ∧ a < 307)) → ¬ AS a := fun a ha z => by unfold AS at z; omega
  refine ⟨⟨hn, rfl, rfl, ho, by omega⟩, fun b hb' => ?_, ⟨?_, ?_, ?_⟩, hp, (hs.fs hF (fun a ha => n a (by omega))).mono⟩
  · have := kd_all b (kd1_lt hb') hb'
    by_cases e : b = 1
    · rw [e]; exact hn.kb
    · by_cases e2 : 71 ≤ b ∧ b < 247
      · obtain ⟨c, p, S, ⟨q1, q2, q3, q4, q5⟩, -⟩ := hp
        -- the pool's blocks are eight, and the places' are eight
        have hpo : pool b := by
          rcases this with rfl | rfl | rfl | rfl | rfl | rfl | rfl | rfl | rfl | rfl | rfl | rfl | rfl <;> first | (exfalso; omega) | exact ⟨0, by decide, rfl⟩ | exact ⟨1, by decide, rfl⟩ | exact ⟨2, by decide, rfl⟩ | exact ⟨3, by decide, rfl⟩ | exact ⟨4, by decide, rfl⟩ | exact ⟨5, by decide, rfl⟩ | exact ⟨6, by decide, rfl⟩ | exact ⟨7, by decide, rfl⟩
        obtain ⟨q, q8, hq⟩ := hpo
        obtain ⟨i, i1, i2⟩ := onto (n := 8) (f := fun i => (p i - 71) / 22) (fun r hr => by
          obtain ⟨z, z1, z2⟩ := (q3 r hr).2.1
          show (p r - 71) / 22 < 8
          omega) (fun a b' ha hb2 e => q4 a b' ha hb2 (by
          obtain ⟨z, z1, z2⟩ := (q3 a ha).2.1
          obtain ⟨y, y1, y2⟩ := (q3 b' hb2).2.1
          have e : (p a - 71) / 22 = (p b' - 71) / 22 := e
          omega)) q8
        obtain ⟨z, z1, z2⟩ := (q3 i i1).2.1
        have i2 : (p i - 71) / 22 = q := i2
        have : p i = b := by omega
        rw [← this]
        exact (q3 i i1).2.2
      · exact (hb b hb').fs hF (fun a a1 a2 => n a (by omega))
  · rw [h5 22 (by decide) (by decide)]; exact hf.1
  · rw [h5 24 (by decide) (by decide)]; exact hf.2.1
  · rw [h5 26 (by decide) (by decide)]; exact hf.2.2
/-- an action: the class' answer, the reference's on what it left -/
def AI {α : Type} (M : List (Nat × Nat)) (k : Nat) (a : Option (Nat × α × Mm)) (b : Mm → Option (α × Mm)) (μ : Mm) : Prop := ∃ e t v w μ1 μ2, a = some (e, v, μ1) ∧ (b μ1 = some (w, μ2) ∧ ((e, t) ∈ M ∧ (μ2.1 295 0 = nI t ∧ ((e = 0 → v = w) ∧ (Cor (k + 1) μ2 ∧ (Fs AS μ μ2 ∧ K5 μ μ2))))))
