/-! ===== lease ===== -/
section LSE2
variable {μ ν : Mm} {s s' : Nat → Int32} {g : Nat → Int64} {k T : Nat}
theorem m_ros {row : Nat → Int32} {n : Nat} {m0 : Mm} (hn : n < 8) (h0 : m0.1 296 = s) {a0 a1 a2 a3 a4 a5 : Int32} (h3 : s 3 = nI n) (hr : row = rw6 a0 a1 a2 a3 a4 a5) : Op ((aI m0 296 (3 : Int32)).bind fun x52 =>
  (sI m0 296 (((158 : Int32) + ((6 : Int32) * x52)) + (0 : Int32)) a0).bind fun m54 =>
  (sI m54 296 (((158 : Int32) + ((6 : Int32) * x52)) + (1 : Int32)) a1).bind fun m56 =>
  (sI m56 296 (((158 : Int32) + ((6 : Int32) * x52)) + (2 : Int32)) a2).bind fun m58 =>
  (sI m58 296 (((158 : Int32) + ((6 : Int32) * x52)) + (3 : Int32)) a3).bind fun m60 =>
  (sI m60 296 (((158 : Int32) + ((6 : Int32) * x52)) + (4 : Int32)) a4).bind fun m62 =>
  (sI m62 296 (((158 : Int32) + ((6 : Int32) * x52)) + (5 : Int32)) a5).bind fun m64 =>
  (aI m64 296 (3 : Int32)).bind fun x66 =>
  (sI m64 296 (3 : Int32) (x66 + (1 : Int32))).bind fun m68 =>
  (aI m68 296 (3 : Int32)).bind fun x70 =>
  some ((x70 - (1 : Int32)), m68)) (fun o => o.1 = nI n ∧ (o.2.1 296 = leS s n row ∧ Fs F296 m0 o.2)) := by
  refine op_eb (mg (k := 3) rfl (by decide)) ?_
  rw [h0, h3]
  refine op_mb (ms (k := 158 + 6 * n + 0) (ix3 158 6 n 0) (by omega)) (fun m1 w1 => ?_)
  refine op_mb (ms (k := 158 + 6 * n + 1) (ix3 158 6 n 1) (by omega)) (fun m2 w2 => ?_)
  refine op_mb (ms (k := 158 + 6 * n + 2) (ix3 158 6 n 2) (by omega)) (fun m3 w3 => ?_)
  refine op_mb (ms (k := 158 + 6 * n + 3) (ix3 158 6 n 3) (by omega)) (fun m4 w4 => ?_)
  refine op_mb (ms (k := 158 + 6 * n + 4) (ix3 158 6 n 4) (by omega)) (fun m5 w5 => ?_)
  refine op_mb (ms (k := 158 + 6 * n + 5) (ix3 158 6 n 5) (by omega)) (fun m6 w6 => ?_)
  have e6 : m6.1 296 = roS s n row 6 := by
    rw [w6.1, w5.1, w4.1, w3.1, w2.1, w1.1, h0, hr]
    funext j
    unfold upd roS
    by_cases e : 158 + 6 * n ≤ j ∧ j < 158 + 6 * n + 6
    · obtain ⟨i, rfl, hi⟩ : ∃ i, j = 158 + 6 * n + i ∧ i < 6 := ⟨j - (158 + 6 * n), by omega, by omega⟩
      rw [if_pos e, show 158 + 6 * n + i - (158 + 6 * n) = i by omega]
      unfold rw6
      rcases (show i = 0 ∨ i = 1 ∨ i = 2 ∨ i = 3 ∨ i = 4 ∨ i = 5 by omega) with rfl | rfl | rfl | rfl | rfl | rfl <;> simp
    · rw [if_neg e, if_neg (by omega), if_neg (by omega), if_neg (by omega), if_neg (by omega), if_neg (by omega), if_neg (by omega)]
  have e63 : m6.1 296 3 = nI n := by
    rw [e6]
    unfold roS
    rw [if_neg (by omega)]
    exact h3
  refine op_eb (mg (k := 3) rfl (by decide)) ?_
  rw [e63, nI_1]
  refine op_mb (ms (k := 3) rfl (by decide)) (fun m7 w7 => ?_)
  refine op_eb (mg (k := 3) rfl (by decide)) (op_r ⟨?_, ?_, (((((w1.2.tr w2.2).tr w3.2).tr w4.2).tr w5.2).tr w6.2).tr w7.2⟩)
  · show m7.1 296 3 - 1 = _
    rw [w7.1, pk_us]
    exact nI_pred n
  · rw [w7.1, e6]
    rfl
theorem lease_row {a b c d e m : Nat} (hs : Stc s) (ha : a < ct s 2) (hb : b < ct s 1) (hc : c < ct s 0) (hd : d ≤ 999) (he : e ≤ 99) : LRow s (rw6 (nI a) (nI b) (nI c) (nI d) (nI e) (nI m)) ∧ Can (rw6 (nI a) (nI b) (nI c) (nI d) (nI e) (nI m)) := by
  have h2 := hs.1.2.2.1.2
  have h1 := hs.1.2.1.2
  have h0 := hs.1.1.2
  have x0 : (rw6 (nI a) (nI b) (nI c) (nI d) (nI e) (nI m)) 0 = nI a := rfl
  have x1 : (rw6 (nI a) (nI b) (nI c) (nI d) (nI e) (nI m)) 1 = nI b := rfl
  have x2 : (rw6 (nI a) (nI b) (nI c) (nI d) (nI e) (nI m)) 2 = nI c := rfl
  have x3 : (rw6 (nI a) (nI b) (nI c) (nI d) (nI e) (nI m)) 3 = nI d := rfl
  have x4 : (rw6 (nI a) (nI b) (nI c) (nI d) (nI e) (nI m)) 4 = nI e := rfl
  have cn : Can (rw6 (nI a) (nI b) (nI c) (nI d) (nI e) (nI m)) := fun j hj => by
    unfold rw6
    rw [if_neg (by omega), if_neg (by omega), if_neg (by omega), if_neg (by omega), if_neg (by omega), if_neg (by omega)]
  generalize rw6 (nI a) (nI b) (nI c) (nI d) (nI e) (nI m) = x at *
  have c0 := ct_nI x0 (by omega)
  have c1 := ct_nI x1 (by omega)
  have c2 := ct_nI x2 (by omega)
  have c3 := ct_nI x3 (by omega)
  have c4 := ct_nI x4 (by omega)
  exact ⟨⟨⟨⟨by rw [c0]; exact x0, by rw [c0]; exact ha⟩, ⟨by rw [c1]; exact x1, by rw [c1]; exact hb⟩, ⟨by rw [c2]; exact x2, by rw [c2]; exact hc⟩⟩, ⟨by rw [c3]; exact x3, by rw [c3]; exact hd⟩, ⟨by rw [c4]; exact x4, by rw [c4]; exact he⟩⟩, cn⟩
end LSE2
