/-! ===== the run's start: the memories ===== -/
section IVZ
variable {E : Ev}
theorem kb_Z {b : Nat} (hb : kd b = 1) : KB (mZ E) b := by
  have f := st_f b (kd1_lt hb) hb
  have z : ∀ j, j < 22 → (mZ E).1 (b + j) 0 = stC.getD j 0 := fun j hj => by
    obtain ⟨-, -, f3, f4⟩ := f j hj
    show zI (b + j) 0 = _
    rw [zI_n f4]
    exact (if_pos rfl).trans f3
  exact ⟨(z 1 (by decide)).trans rfl, (z 5 (by decide)).trans rfl, (z 8 (by decide)).trans rfl, (z 12 (by decide)).trans rfl, (z 14 (by decide)).trans rfl, (z 16 (by decide)).trans rfl, (z 18 (by decide)).trans rfl, (z 20 (by decide)).trans rfl⟩
set_option maxHeartbeats 4000000 in
theorem iv_start : ∃ μ1 μ2 μ3, F_X1_makeEmpty 1 (mZ E) = some μ1 ∧ (F_X4_clears μ1 = some μ2 ∧ (F_X4_begins μ2 = some μ3 ∧ (HZ μ1 ∧ (μ1.2.2 = (mZ E).2.2 ∧ (μ3.2.2 = (mZ E).2.2 ∧ (μ3.2.1 311 = (fun _ => 0) ∧ Iv 0 μ3)))))) := by
  obtain ⟨μ1, e1, N1, F1⟩ := x1_empty (μ := mZ E) kd1 (kb_Z kd1)
  obtain ⟨μ2, e2, s2, F2, v2⟩ := m_clears (μ := μ1)
  obtain ⟨μ3, e3, s3, m3, v3, b3, F3⟩ := m_begins (μ := μ2)
  have FM : Fs (fun a => a = 295 ∨ (a = 296 ∨ (a = 297 ∨ (a = 300 ∨ a = 305)))) μ1 μ3 := (F2.mo (fun a e => by omega)).tr (F3.mo (fun a e => by omega))
  have FT : Fs (fun a => a < 23 ∨ (a = 295 ∨ (a = 296 ∨ (a = 297 ∨ (a = 300 ∨ a = 305))))) (mZ E) μ3 := (F1.mo (fun a e => by unfold Blk at e; omega)).tr (FM.mo (fun a e => Or.inr e))
  have v295 : ∀ j, μ3.1 295 j = if j = 8 then 0 else if j = 19 then 0 else zI 295 j := fun j => by
    rw [v3, v2, (F1.1 295 (by unfold Blk; omega)).1]
    rfl
  have ft : ∀ a, ¬ (a < 23 ∨ (a = 295 ∨ (a = 296 ∨ (a = 297 ∨ (a = 300 ∨ a = 305))))) → μ3.1 a = zI a := fun a ha => (FT.1 a ha).1
  have E5s : E5 sE (μ3.1 296) := fun j hj => (s3 j hj).trans (s2 j hj)
  have hO : Ok 0 sE := (rok_E (s := sE) (fun _ _ => rfl)).1.ok
  have g15 : ∀ j, j < 15 → μ3.2.1 300 j = gE j := fun j hj => (m3 j hj).trans rfl
  have N3 : NV μ3 1 sE gE := SV.fs N1 FM (fun a x y => by omega)
  have c0 : μ3.1 0 5 = nI 0 := (congrFun ((FM.1 0 (by omega)).1.trans (F1.1 0 (by unfold Blk; omega)).1) 5).trans rfl
  have kb : ∀ b, kd b = 1 → KB μ3 b := fun b hb => by
    by_cases e : b = 1
    · rw [e]; exact SV.kb N3
    · have := kd_all b (kd1_lt hb) hb
      exact (kb_Z (E := E) hb).fs FT (fun a x y => by omega)
  refine ⟨μ1, μ2, μ3, e1, e2, e3, fun a ha => ⟨(F1.1 a (by unfold Blk; omega)).1, (F1.1 a (by unfold Blk; omega)).2⟩, F1.2, FT.2, (FT.1 311 (by omega)).2, ?_, ?_, ?_⟩
  · refine ⟨⟨N3.e5 kd1 hO E5s g15, rfl, rfl, (hO.e5 E5s).mono (Nat.zero_le _), by omega⟩, kb, ⟨(v295 22).trans rfl, (v295 24).trans rfl, (v295 26).trans rfl⟩, ⟨0, fun i => 71 + 22 * i, fun _ => (sE, gE), ⟨c0, by omega, fun i hi => ⟨?_, ⟨i, hi, rfl⟩, kb _ ((show ∀ i, i < 8 → kd (71 + 22 * i) = 1 by decide +kernel) i hi)⟩, fun i j _ _ e => by have e : 71 + 22 * i = 71 + 22 * j := e; omega, fun i hi => absurd hi (Nat.not_lt_zero i)⟩, ⟨(v295 8).trans rfl, by omega, fun i hi => absurd hi (Nat.not_lt_zero i)⟩, fun i hi => absurd hi (Nat.not_lt_zero i)⟩, fun i hi => ?_⟩
    · rw [ft 70 (by omega)]
      exact if_pos rfl
    · have h292 : μ3.1 292 i = 0 := by
        rw [ft 292 (by omega), zI_0 (by unfold NS; omega) (by decide +kernel)]
      refine ⟨?_, by rw [h292, b3 i hi], Or.inl h292, fun e => ?_⟩
      · rw [ft 247 (by omega)]
        exact (if_neg (by omega)).trans (if_pos rfl)
      · rw [h292] at e
        exact absurd e (by decide)
  · refine ⟨0, Nat.zero_le _, ?_, (v295 13).trans rfl, fun k hk => absurd hk (Nat.not_lt_zero k), ?_, ?_⟩
    · rw [ft 45 (by omega)]; rfl
    · rw [ft 45 (by omega), v295 16]; rfl
    · rw [ft 45 (by omega), v295 17]; rfl
  · refine ⟨(0, fun _ => 0), fun k hk => absurd hk (Nat.not_lt_zero k), ⟨?_, ?_, Nat.zero_le _, ?_, ?_, fun k hk => absurd hk (Nat.not_lt_zero k)⟩, ⟨(v295 29).trans rfl, by decide, fun k hk => absurd hk (Nat.not_lt_zero k)⟩, ?_⟩
    · rw [ft 293 (by omega)]; rfl
    · rw [ft 293 (by omega)]; rfl
    · rw [FT.2]; exact Nat.le_of_ble_eq_true rfl
    · rw [FT.2]; intro k; exact fit_0
    · rw [FT.2]; exact Nat.le_refl 16
end IVZ
