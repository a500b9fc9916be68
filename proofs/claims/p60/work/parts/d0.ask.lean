/-! ===== what the class answers ===== -/
section ASK
variable {μ : Mm} {s : Nat → Int32} {g : Nat → Int64} {T : Nat}
theorem row_y {t c n k : Nat} {f : Nat → Nat → Int32} (h : Tb μ t c n f) (hk : k < n) : F_X3_needRow t (nI k) μ = some 0 := by
  have hn := h.n_le
  unfold F_X3_needRow
  refine be_ ((x2_has h _).trans (congrArg some (if_pos ⟨nI_pos' (by omega), nI_lt hk (by omega)⟩))) ?_
  rw [if_neg (by decide)]
theorem what_y {k n : Nat} (hk : k < n) (hn : n < 2 ^ 31) : F_X3_needWhat (nI k) (nI n) μ = some 0 := by
  unfold F_X3_needWhat
  rw [if_neg (nI_pos (by omega)), if_pos (nI_lt hk hn)]
theorem x3_com (h : NV μ 1 s g) (hv : Vt s) {r : Nat} (hr : r < ct s 0) : F_X3_coming (nI r) μ = some (0, comN s r) := by
  unfold F_X3_coming
  exact be_ (row_y h.rch hr) ((if_pos rfl).trans (be_ (x1_com h kd1 hv hr) rfl))
theorem x3_rea (h : NV μ 1 s g) {r k : Nat} (hr : r < ct s 0) (hk : k < 3) : F_X3_reach (nI r) (nI k) μ = some (0, s (8 + 6 * k + r)) := by
  unfold F_X3_reach
  exact be_ (row_y h.rch hr) ((if_pos rfl).trans (be_ (what_y (n := 3) hk (by decide)) ((if_pos rfl).trans (be_ (x2_get (t := 2) h.rch hr hk) rfl))))
theorem x3_rig (h : NV μ 1 s g) {r k : Nat} (hr : r < ct s 2) (hk : k < 10) : F_X3_right (nI r) (nI k) μ = some (0, s (58 + 10 * r + k)) := by
  unfold F_X3_right
  refine be_ (row_y h.rgt hr) ((if_pos rfl).trans (be_ (what_y (n := 10) hk (by decide)) ((if_pos rfl).trans (be_ ((x2_get (t := 9) h.rgt hr hk).trans (congrArg some ?_)) rfl))))
  by_cases e : k = 9
  · rw [if_pos e, e]
  · rw [if_neg e]
theorem x3_gau (h : NV μ 1 s g) (h7 : ¬ s 57 = 0) {q k : Nat} (hq : q < ct s 0) (hk : k < 5) : F_X3_gauge (nI q) (nI k) μ = some (0, s (394 + 5 * q + k)) := by
  have hg := h.gau
  rw [if_neg h7] at hg
  unfold F_X3_gauge
  exact be_ (row_y h.rch hq) ((if_pos rfl).trans (be_ (what_y (n := 5) hk (by decide)) ((if_pos rfl).trans (be_ (x2_get (t := 19) hg hq hk) rfl))))
theorem x3_cls (h : NV μ 1 s g) : F_X3_claims μ = some (nI (ct s 56)) := congrArg some h.clm.2.1
theorem x3_clm (h : NV μ 1 s g) {c k : Nat} (hc : c < ct s 56) (hk : k < 8) : F_X3_claim (nI c) (nI k) μ = some (0, s (242 + 8 * c + k)) := by
  unfold F_X3_claim
  exact be_ (row_y h.clm hc) ((if_pos rfl).trans (be_ (what_y (n := 8) hk (by decide)) ((if_pos rfl).trans (be_ (x2_get (t := 17) h.clm hc hk) rfl))))
theorem x3_out (h : NV μ 1 s g) (h7 : ¬ s 57 = 0) (h0 : ct s 0 ≠ 0) : F_X3_outflow μ = some (s (394 + 5 * (ct s 0 - 1) + 2)) := by
  unfold F_X3_outflow
  refine be_ ((x1_out h kd1).trans (congrArg some ?_)) rfl
  rw [if_neg h7, if_neg h0]
theorem x3_cn0 (h : NV μ 1 s g) : F_X3_count 0 μ = some (0, nI (ct s 0)) := congrArg (fun x => some (0, x)) h.rch.2.1
theorem x3_cn4 (h : NV μ 1 s g) : F_X3_count 4 μ = some (0, nI (ct s 4)) := by
  have ho : (OSo s).length = ct s 4 := rwT_len _ _
  have e : μ.1 15 2 = nI (ct s 4) := by rw [← ho]; exact h.opt.2.1
  exact congrArg (fun x => some (0, x)) e
theorem x3_cn5 (h : NV μ 1 s g) : F_X3_count 5 μ = some (0, s 5) := congrArg (fun x => some (0, x)) h.sca.2.1
/-- one month is run -/
theorem x3_run1 {c : Nat} {p : Nat → Nat} {S : Nat → Sh} {fl cut : Nat → Int32} (hP : PC μ c p S) (h : NV μ 1 s g) (ho : Ok T s) (hT : T + 1 ≤ 20000) (h0 : ct s 0 ≠ 0) :
    ∃ μ', F_X3_run 1 μ = some (0, evS (-1) (s, g, fl, cut), μ') ∧ (NV μ' 1 (ev (-1) (s, g, fl, cut)).1 (ev (-1) (s, g, fl, cut)).2.1 ∧ (Ok (T + 1) (ev (-1) (s, g, fl, cut)).1 ∧ ((∃ c' p' S', PC μ' c' p' S') ∧ Fs (fun a => P70 a ∨ Blk 1 a) μ μ'))) := by
  have h06 := ho.1.1.1.2
  obtain ⟨ma, x1, ⟨p', x2⟩, x3, x4⟩ := x3_record hP h
  obtain ⟨ob, y1, y2, y3, y4, y5⟩ := x3_runL (T := T) (n := 1) hT (by decide) 1 qFuel 0 0 ma (s, g, fl, cut) (by decide) (by decide) x3 ho
  have e0 : evS (-1) (s, g, fl, cut) = ob.1 := by
    rw [y2]
    show _ = 0 + evS (-1) (s, g, fl, cut)
    rw [Int32.zero_add]
  refine ⟨ob.2, ?_, y3, y4, ⟨_, _, _, x2.fs y5 (by unfold Blk; omega) (by unfold Blk; omega) (fun a x y => by unfold Blk; omega)⟩, (x4.mo (fun a e => Or.inl e)).tr (y5.mo (fun a e => Or.inr e))⟩
  unfold F_X3_run
  refine be_ (show F_X3_needRange 1 1 36 μ = some 0 by unfold F_X3_needRange; rw [if_neg (by decide), if_pos (by decide)]) ((if_pos rfl).trans (be_ (show F_X3_needReaches μ = some 0 from ?_) ((if_pos rfl).trans (be_ x1 (be_ y1 ?_)))))
  · unfold F_X3_needReaches
    rw [show μ.1 2 2 = nI (ct s 0) from h.rch.2.1, if_neg (nI_ne0 (by omega) (by omega))]
  · rw [e0]
end ASK
