/-! ===== release ===== -/
section REL2
variable {μ : Mm} {k : Nat}
theorem x1_acc {b : Nat} {ma : Mm} {s s' : Nat → Int32} {g : Nat → Int64} {LS OS : List (Nat → Int32)} {ng : Nat} {G : Nat → Nat → Int32} {cu : Nat → Int32} {a : Nat} {v : Int32} (h : SV ma b LS OS ng G cu s g) (hb : kd b = 1) (ha : a < ct s 1) (h5 : ct s 1 ≤ 5) (hs : s' = upd s (26 + a) v) : SV (uI ma (b + 5 + 1) (a * 2 + 0) v) b LS OS ng G cu s' g := by
  have e : ∀ j, j ≠ 26 + a → s' j = s j := fun j hj => by rw [hs]; exact pk_un hj
  have e1 : ct s' 1 = ct s 1 := ct_eq (e 1 (by omega))
  refine SV.wAcc h (SV.cnt h hb) (Fs.uI (Or.inr rfl)) ?_ (fun j hj hj2 => e j (by omega))
  rw [e1]
  refine (Tb.set h.acc ha (by decide)).congr (fun q k hq hk => ?_)
  unfold up2
  by_cases e3 : q = a ∧ k = 0
  · rw [if_pos e3, e3.1, e3.2, hs]
    exact pk_us.symm
  · rw [if_neg e3, e _ (by omega)]
theorem x1_rch {b : Nat} {ma : Mm} {s s' : Nat → Int32} {g : Nat → Int64} {LS OS : List (Nat → Int32)} {ng : Nat} {G : Nat → Nat → Int32} {cu : Nat → Int32} {r : Nat} {v : Int32} (h : SV ma b LS OS ng G cu s g) (hb : kd b = 1) (hr : r < ct s 0) (h6 : ct s 0 ≤ 6) (hs : s' = upd s (20 + r) v) : SV (uI ma (b + 1 + 1) (r * 3 + 2) v) b LS OS ng G cu s' g := by
  have e : ∀ j, j ≠ 20 + r → s' j = s j := fun j hj => by rw [hs]; exact pk_un hj
  have e0 : ct s' 0 = ct s 0 := ct_eq (e 0 (by omega))
  refine SV.wRch h (SV.cnt h hb) (Fs.uI (Or.inr rfl)) ?_ (fun j hj hj2 => e j (by omega))
  rw [e0]
  refine (Tb.set h.rch hr (by decide)).congr (fun q k hq hk => ?_)
  unfold up2
  by_cases e3 : q = r ∧ k = 2
  · rw [if_pos e3, e3.1, e3.2, hs, show 8 + 6 * 2 + r = 20 + r by omega]
    exact pk_us.symm
  · rw [if_neg e3, e _ (by omega)]
theorem x1_55 {b : Nat} {ma : Mm} {s s' : Nat → Int32} {g : Nat → Int64} {LS OS : List (Nat → Int32)} {ng : Nat} {G : Nat → Nat → Int32} {cu : Nat → Int32} {v : Int32} (h : SV ma b LS OS ng G cu s g) (hb : kd b = 1) (hs : s' = upd s 55 v) : SV (uI ma b 18 v) b LS OS ng G cu s' g := by
  have e : ∀ j, j ≠ 55 → s' j = s j := fun j hj => by rw [hs]; exact pk_un hj
  have q := h.sca
  refine SV.wSca h (SV.cnt h hb) (Fs.uI rfl) ?_ (fun j hj hj2 => e j (by omega))
  rw [uI_eq, e 7 (by decide), e 5 (by decide), e 6 (by decide), e 53 (by decide), e 54 (by decide), hs, pk_us]
  exact ⟨q.1, q.2.1, q.2.2.1, q.2.2.2.1, q.2.2.2.2.1, rfl⟩
end REL2
