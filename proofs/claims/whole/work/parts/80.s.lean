/-! ===== release, in one ===== -/
section REL3
variable {μ : Mm} {k : Nat}
theorem m_rel {s : Nat → Int32} {m0 : Mm} {a r : Nat} {v : Int32} (h0 : m0.1 296 = s) (ha : a < 5) (hr : r < 6) : Op ((aI m0 296 ((26 : Int32) + nI a)).bind fun x28 =>
  (sI m0 296 ((26 : Int32) + nI a) (x28 - v)).bind fun m30 =>
  (aI m30 296 ((20 : Int32) + nI r)).bind fun x32 =>
  (sI m30 296 ((20 : Int32) + nI r) (x32 + v)).bind fun m34 =>
  (aI m34 296 (55 : Int32)).bind fun x36 =>
  (sI m34 296 (55 : Int32) (x36 + v)).bind fun m38 =>
  (aI m38 296 ((26 : Int32) + nI a)).bind fun x40 =>
  some (x40, m38)) (fun o => o.1 = s (26 + a) - v ∧ (o.2.1 296 = reL s a r v ∧ Fs F296 m0 o.2)) := by
  refine op_eb (mg (k := 26 + a) (nI_add 26 a) (by omega)) ?_
  rw [h0]
  refine op_mb (ms (k := 26 + a) (nI_add 26 a) (by omega)) (fun m1 w1 => ?_)
  refine op_eb (mg (k := 20 + r) (nI_add 20 r) (by omega)) ?_
  have e1 : m1.1 296 (20 + r) = s (20 + r) := by rw [w1.1, pk_un (by omega), h0]
  rw [e1]
  refine op_mb (ms (k := 20 + r) (nI_add 20 r) (by omega)) (fun m2 w2 => ?_)
  refine op_eb (mg (k := 55) rfl (by decide)) ?_
  have e2 : m2.1 296 55 = s 55 := by rw [w2.1, pk_un (by omega), w1.1, pk_un (by omega), h0]
  rw [e2]
  refine op_mb (ms (k := 55) rfl (by decide)) (fun m3 w3 => ?_)
  refine op_eb (mg (k := 26 + a) (nI_add 26 a) (by omega)) (op_r ⟨?_, ?_, (w1.2.tr w2.2).tr w3.2⟩)
  · show m3.1 296 (26 + a) = _
    rw [w3.1, pk_un (by omega), w2.1, pk_un (by omega), w1.1, pk_us]
  · show m3.1 296 = _
    rw [w3.1, w2.1, w1.1, h0]
    rfl
theorem x3_rel {s : Nat → Int32} {g : Nat → Int64} {ma : Mm} {a r : Nat} {v : Int32} (h : NV ma 1 s g) (ho : Stc s) (ha : a < ct s 1) (hr : r < ct s 0) : Op ((F_X2_increase 6 (nI a) (0 : Int32) (-v) ma).bind fun o25 =>
  (F_X2_increase 2 (nI r) (2 : Int32) v o25).bind fun o28 =>
  (some (uI o28 1 18 ((o28.1 1 18) + v))).bind fun m30 =>
  (F_X2_get 6 (nI a) (0 : Int32) m30).bind fun o33 =>
  some ((0 : Nat), o33, m30)) (fun o => o.1 = 0 ∧ (o.2.1 = s (26 + a) - v ∧ (NV o.2.2 1 (reL s a r v) g ∧ Fs (Blk 1) ma o.2.2))) := by
  have h06 := ho.1.1.2
  have h15 := ho.1.2.1.2
  have h210 := ho.1.2.2.1.2
  have ev : s (26 + a) + -v = s (26 + a) - v := (Int32.sub_eq_add_neg _ _).symm
  refine op_eb (x2_inc (t := 6) (k := 0) h.acc ha (by decide)) ?_
  have S1 := x1_acc (v := s (26 + a) - v) (s' := upd s (26 + a) (s (26 + a) - v)) h kd1 ha h15 rfl
  have q1 : (s (26 + 5 * 0 + a) + -v) = s (26 + a) - v := ev
  rw [q1]
  have c0 : ct (upd s (26 + a) (s (26 + a) - v)) 0 = ct s 0 := ct_eq (pk_un (by omega))
  have c1 : ct (upd s (26 + a) (s (26 + a) - v)) 1 = ct s 1 := ct_eq (pk_un (by omega))
  refine op_eb (x2_inc (t := 2) (k := 2) S1.rch (by rw [c0]; exact hr) (by decide)) ?_
  have q2 : upd s (26 + a) (s (26 + a) - v) (8 + 6 * 2 + r) = s (20 + r) := by rw [pk_un (by omega), show 8 + 6 * 2 + r = 20 + r by omega]
  rw [q2]
  have S2 := x1_rch (v := s (20 + r) + v) (s' := upd (upd s (26 + a) (s (26 + a) - v)) (20 + r) (s (20 + r) + v)) S1 kd1 (by rw [c0]; exact hr) (by rw [c0]; exact h06) rfl
  refine op_br ?_
  have q3 := S2.sca.2.2.2.2.2
  rw [pk_un (by omega), pk_un (by omega)] at q3
  have q3' : (uI (uI ma (6 + 1) (a * 2 + 0) (s (26 + a) - v)) (2 + 1) (r * 3 + 2) (s (20 + r) + v)).1 1 18 = s 55 := q3
  rw [q3']
  have S3 := x1_55 (v := s 55 + v) (s' := reL s a r v) S2 kd1 rfl
  have c1' : ct (reL s a r v) 1 = ct s 1 := ct_eq (reL_n (by omega) (by omega) (by omega))
  refine op_eb (x2_get (t := 6) (k := 0) S3.acc (by rw [c1']; exact ha) (by decide)) (op_r ⟨rfl, ?_, ?_, ?_⟩)
  · show reL s a r v (26 + 5 * 0 + a) = _
    unfold reL
    rw [show 26 + 5 * 0 + a = 26 + a by omega, pk_un (by omega), pk_un (by omega), pk_us]
  · exact NV.mk2 (s := s) S3 ho.2.2.2.2.1.2 ho.2.2.2.2.2.1.2 h06 h210 (fun j hj => reL_n (by omega) (by omega) (by omega))
  · exact ((Fs.uI (by unfold Blk; omega)).tr (Fs.uI (by unfold Blk; omega))).tr (Fs.uI (by unfold Blk; omega))
end REL3
