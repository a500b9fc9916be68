/-! ===== an action's end; run ===== -/
section ACT
variable {μ : Mm} {s : Nat → Int32} {g : Nat → Int64} {k : Nat}
theorem pS_ok {c : Nat} {S : Nat → Sh} {T T' : Nat} (h : ∀ i, i < c → Ok T (S i).1) (hs : Ok T s) (hT : T ≤ T') (hc : c ≤ 8) : ∀ i, i < pC c → Ok T' (pS c S (s, g) i).1 := by
  intro i hi
  unfold pC at hi
  unfold pS
  by_cases e : c < 8
  · rw [if_pos e] at hi ⊢
    by_cases e2 : i = c
    · rw [if_pos e2]; exact hs.mono hT
    · rw [if_neg e2]; exact (h i (by omega)).mono hT
  · rw [if_neg e] at hi ⊢
    by_cases e2 : i < 7
    · rw [if_pos e2]; exact (h (i + 1) (by omega)).mono hT
    · rw [if_neg e2]; exact hs.mono hT
/-- the sum of some months -/
def evs : Nat → Sg → Int32 → Int32
  | 0, _, v => v
  | n + 1, st, v => evs n (ev (-1) st) (v + evS (-1) st)
theorem x3_runL {n T : Nat} (hT : T + n ≤ 20000) (hn : n ≤ 36) : ∀ (d m i : Nat) (v : Int32) (μ : Mm) (st : Sg), i + d = n → d < m → NV μ 1 st.1 st.2.1 → Ok (T + i) st.1 → Op (F_X3_run_19 (nI n) m v (nI i) μ) (fun o => o.1 = evs d st v ∧ (NV o.2 1 (evn d st).1 (evn d st).2.1 ∧ (Ok (T + n) (evn d st).1 ∧ Fs (Blk 1) μ o.2))) := by
  intro d
  induction d with
  | zero =>
    intro m i v μ st hi hm h ho
    obtain ⟨m, rfl⟩ : ∃ z, m = z + 1 := ⟨m - 1, by omega⟩
    obtain rfl : i = n := by omega
    rw [F_X3_run_19]
    exact op_t (nI_le (by omega) (by omega)) (op_r ⟨rfl, h, ho, Fs.rf⟩)
  | succ d ih =>
    intro m i v μ st hi hm h ho
    obtain ⟨m, rfl⟩ : ∃ z, m = z + 1 := ⟨m - 1, by omega⟩
    rw [F_X3_run_19]
    refine op_f (nI_ge (by omega) (by omega)) (op_mb (x1_ev h kd1 ho (by omega)) (fun o w => ?_))
    rw [nI_1, w.1]
    exact op_m (ih m (i + 1) _ o.2 (ev (-1) st) (by omega) (by omega) w.2.1 (by rw [← Nat.add_assoc]; exact ho.ev (by omega))) (fun o' z => ⟨z.1, z.2.1, z.2.2.1, w.2.2.tr z.2.2.2⟩)
end ACT

