/-! ===== a state is copied ===== -/
theorem kd_all : ∀ a, a < 295 → kd a = 1 → a = 1 ∨ (a = 23 ∨ (a = 47 ∨ (a = 71 ∨ (a = 93 ∨ (a = 115 ∨ (a = 137 ∨ (a = 159 ∨ (a = 181 ∨ (a = 203 ∨ (a = 225 ∨ (a = 248 ∨ a = 270))))))))))) := by decide +kernel
theorem kd_dis {a b : Nat} (ha : kd a = 1) (hb : kd b = 1) (h : a ≠ b) : a + 22 ≤ b ∨ b + 22 ≤ a := by
  have h1 := kd_all a (kd1_lt ha) ha
  have h2 := kd_all b (kd1_lt hb) hb
  omega
def KB (μ : Mm) (b : Nat) : Prop := μ.1 (b + 1) 0 = nI 3 ∧ (μ.1 (b + 5) 0 = nI 2 ∧ (μ.1 (b + 8) 0 = nI 10 ∧ (μ.1 (b + 12) 0 = nI 6 ∧ (μ.1 (b + 14) 0 = nI 6 ∧ (μ.1 (b + 16) 0 = nI 8 ∧ (μ.1 (b + 18) 0 = nI 5 ∧ μ.1 (b + 20) 0 = nI 4))))))
theorem KB.fs {S : Nat → Prop} {μ μ' : Mm} {b : Nat} (h : KB μ b) (hF : Fs S μ μ') (hd : ∀ a, b ≤ a → a < b + 22 → ¬ S a) : KB μ' b := by
  unfold KB at h ⊢
  rw [(hF.1 (b + 1) (hd _ (by omega) (by omega))).1, (hF.1 (b + 5) (hd _ (by omega) (by omega))).1, (hF.1 (b + 8) (hd _ (by omega) (by omega))).1, (hF.1 (b + 12) (hd _ (by omega) (by omega))).1, (hF.1 (b + 14) (hd _ (by omega) (by omega))).1, (hF.1 (b + 16) (hd _ (by omega) (by omega))).1, (hF.1 (b + 18) (hd _ (by omega) (by omega))).1, (hF.1 (b + 20) (hd _ (by omega) (by omega))).1]
  exact h
theorem SV.kb {μ : Mm} {b : Nat} {LS OS : List (Nat → Int32)} {ng : Nat} {G : Nat → Nat → Int32} {cu : Nat → Int32} {s : Nat → Int32} {g : Nat → Int64} (h : SV μ b LS OS ng G cu s g) : KB μ b := ⟨h.rch.1, h.acc.1, h.rgt.1, h.lea.1, h.opt.1, h.clm.1, h.gau.1, h.mon.1⟩
/-- from a cell of a block on, and its fields -/
def Up (t lo : Nat) : Nat → Prop := fun a => a = t ∨ (t + lo ≤ a ∧ a < t + 22)
theorem st_len (j : Nat) {a b : Nat} (ha : kd a = 1) (hb : kd b = 1) (hj : j < 22) : ln (a + j) = ln (b + j) := (st_ln ha j hj).trans (st_ln hb j hj).symm
theorem cp_get {μ : Mm} {a b n : Nat} (h : a ≠ b) (k : Nat) (hk : k < n) : (cpI μ a 0 b 0 n).1 b k = μ.1 a k := by
  show (if b = b ∧ 0 ≤ k ∧ k < 0 + n then μ.1 a (0 + (k - 0)) else μ.1 b k) = _
  rw [if_pos ⟨rfl, by omega, by omega⟩, show 0 + (k - 0) = k by omega]
theorem cpl_get {μ : Mm} {a b n : Nat} (h : a ≠ b) (k : Nat) (hk : k < n) : (cpL μ a 0 b 0 n).2.1 b k = μ.2.1 a k := by
  show (if b = b ∧ 0 ≤ k ∧ k < 0 + n then μ.2.1 a (0 + (k - 0)) else μ.2.1 b k) = _
  rw [if_pos ⟨rfl, by omega, by omega⟩, show 0 + (k - 0) = k by omega]
set_option maxHeartbeats 4000000 in
theorem x1_copy {μ : Mm} {t q : Nat} {LS OS : List (Nat → Int32)} {ng : Nat} {G : Nat → Nat → Int32} {cu : Nat → Int32} {s : Nat → Int32} {g : Nat → Int64} (h : SV μ q LS OS ng G cu s g) (ht : kd t = 1) (hq : kd q = 1) (hne : t ≠ q) (hk : KB μ t) : Op (F_X1_copyFrom t q μ) (fun μ' => SV μ' t LS OS ng G cu s g ∧ Fs (Blk t) μ μ') := by
  have hd := kd_dis ht hq hne
  obtain ⟨k1, k5, k8, k12, k14, k16, k18, k20⟩ := hk
  have l := fun j (hj : j < 22) => st_ln ht j hj
  have l' := fun j (hj : j < 22) => st_ln hq j hj
  unfold F_X1_copyFrom
  refine op_mb (x2_copy (g := fun _ _ => 0) (n' := 0) (t := t + 1) h.rch k1 (st_len 2 hq ht (by decide)) (by omega) (by omega) (by omega)) (fun m1 w1 => ?_)
  have f1 : Fs (fun a => a = t + 1 ∨ a = t + 2) μ m1 := w1.2
  refine op_eb (yI_ok (sp := 0) (dp := 0) (n := 12) rfl rfl rfl (by rw [l' 3 (by decide)]; decide) (by rw [l 3 (by decide)]; decide)) ?_
  generalize hm2 : cpI m1 (q + 3) 0 (t + 3) 0 12 = m2
  have f2 : Fs (fun a => a = t + 3) m1 m2 := by rw [← hm2]; exact Fs.cpI rfl
  have v2 : ∀ k, k < 12 → m2.1 (t + 3) k = μ.1 (q + 3) k := fun k hk => by rw [← hm2, cp_get (by omega) k hk, (f1.1 (q + 3) (by omega)).1]
  have g2 := (f1.mo (T := fun a => t < a ∧ a ≤ t + 3) (fun a e => by omega)).tr (f2.mo (fun a e => by omega))
  refine op_eb (yI_ok (sp := 0) (dp := 0) (n := 5) rfl rfl rfl (by rw [l' 4 (by decide)]; decide) (by rw [l 4 (by decide)]; decide)) ?_
  generalize hm3 : cpI m2 (q + 4) 0 (t + 4) 0 5 = m3
  have f3 : Fs (fun a => a = t + 4) m2 m3 := by rw [← hm3]; exact Fs.cpI rfl
  have v3 : ∀ k, k < 5 → m3.1 (t + 4) k = μ.1 (q + 4) k := fun k hk => by rw [← hm3, cp_get (by omega) k hk, (g2.1 (q + 4) (by omega)).1]
  have g3 := (g2.mo (T := fun a => t < a ∧ a ≤ t + 4) (fun a e => by omega)).tr (f3.mo (fun a e => by omega))
  refine op_br ?_
  generalize hm4 : uI m3 t 3 (m3.1 q 3) = m4
  have f4 : Fs (fun a => a = t) m3 m4 := by rw [← hm4]; exact Fs.uI rfl
  have g4 := (g3.mo (T := fun a => t ≤ a ∧ a ≤ t + 4) (fun a e => by omega)).tr (f4.mo (fun a e => by omega))
  refine op_mb (x2_copy (g := fun _ _ => 0) (n' := 0) (t := t + 5) (h.acc.fs g4 (by omega) (by omega)) ((congrFun (g4.1 (t + 5) (by omega)).1 0).trans k5) (st_len 6 hq ht (by decide)) (by omega) (by omega) (by omega)) (fun m5 w5 => ?_)
  have f5 : Fs (fun a => a = t + 5 ∨ a = t + 6) m4 m5 := w5.2
  have g5 := (g4.mo (T := fun a => t ≤ a ∧ a ≤ t + 6) (fun a e => by omega)).tr (f5.mo (fun a e => by omega))
  refine op_eb (yL_ok (sp := 0) (dp := 0) (n := 5) rfl rfl rfl (by rw [l' 7 (by decide)]; decide) (by rw [l 7 (by decide)]; decide)) ?_
  generalize hm6 : cpL m5 (q + 7) 0 (t + 7) 0 5 = m6
  have f6 : Fs (fun a => a = t + 7) m5 m6 := by rw [← hm6]; exact Fs.cpL rfl
  have v6 : ∀ k, k < 5 → m6.2.1 (t + 7) k = μ.2.1 (q + 7) k := fun k hk => by rw [← hm6, cpl_get (by omega) k hk, (g5.1 (q + 7) (by omega)).2]
  have g6 := (g5.mo (T := fun a => t ≤ a ∧ a ≤ t + 7) (fun a e => by omega)).tr (f6.mo (fun a e => by omega))
  refine op_mb (x2_copy (g := fun _ _ => 0) (n' := 0) (t := t + 8) (h.rgt.fs g6 (by omega) (by omega)) ((congrFun (g6.1 (t + 8) (by omega)).1 0).trans k8) (st_len 9 hq ht (by decide)) (by omega) (by omega) (by omega)) (fun m7 w7 => ?_)
  have f7 : Fs (fun a => a = t + 8 ∨ a = t + 9) m6 m7 := w7.2
  have g7 := (g6.mo (T := fun a => t ≤ a ∧ a ≤ t + 9) (fun a e => by omega)).tr (f7.mo (fun a e => by omega))
  refine op_eb (yI_ok (sp := 0) (dp := 0) (n := 10) rfl rfl rfl (by rw [l' 10 (by decide)]; decide) (by rw [l 10 (by decide)]; decide)) ?_
  generalize hm8 : cpI m7 (q + 10) 0 (t + 10) 0 10 = m8
  have f8 : Fs (fun a => a = t + 10) m7 m8 := by rw [← hm8]; exact Fs.cpI rfl
  have v8 : ∀ k, k < 10 → m8.1 (t + 10) k = μ.1 (q + 10) k := fun k hk => by rw [← hm8, cp_get (by omega) k hk, (g7.1 (q + 10) (by omega)).1]
  have g8 := (g7.mo (T := fun a => t ≤ a ∧ a ≤ t + 10) (fun a e => by omega)).tr (f8.mo (fun a e => by omega))
  refine op_eb (yL_ok (sp := 0) (dp := 0) (n := 10) rfl rfl rfl (by rw [l' 11 (by decide)]; decide) (by rw [l 11 (by decide)]; decide)) ?_
  generalize hm9 : cpL m8 (q + 11) 0 (t + 11) 0 10 = m9
  have f9 : Fs (fun a => a = t + 11) m8 m9 := by rw [← hm9]; exact Fs.cpL rfl
  have v9 : ∀ k, k < 10 → m9.2.1 (t + 11) k = μ.2.1 (q + 11) k := fun k hk => by rw [← hm9, cpl_get (by omega) k hk, (g8.1 (q + 11) (by omega)).2]
  have g9 := (g8.mo (T := fun a => t ≤ a ∧ a ≤ t + 11) (fun a e => by omega)).tr (f9.mo (fun a e => by omega))
  refine op_mb (x2_copy (g := fun _ _ => 0) (n' := 0) (t := t + 12) (h.lea.fs g9 (by omega) (by omega)) ((congrFun (g9.1 (t + 12) (by omega)).1 0).trans k12) (st_len 13 hq ht (by decide)) (by omega) (by omega) (by omega)) (fun m10 w10 => ?_)
  have f10 : Fs (fun a => a = t + 12 ∨ a = t + 13) m9 m10 := w10.2
  have g10 := (g9.mo (T := fun a => t ≤ a ∧ a ≤ t + 13) (fun a e => by omega)).tr (f10.mo (fun a e => by omega))
  refine op_mb (x2_copy (g := fun _ _ => 0) (n' := 0) (t := t + 14) (h.opt.fs g10 (by omega) (by omega)) ((congrFun (g10.1 (t + 14) (by omega)).1 0).trans k14) (st_len 15 hq ht (by decide)) (by omega) (by omega) (by omega)) (fun m11 w11 => ?_)
  have f11 : Fs (fun a => a = t + 14 ∨ a = t + 15) m10 m11 := w11.2
  have g11 := (g10.mo (T := fun a => t ≤ a ∧ a ≤ t + 15) (fun a e => by omega)).tr (f11.mo (fun a e => by omega))
  refine op_mb (x2_copy (g := fun _ _ => 0) (n' := 0) (t := t + 16) (h.clm.fs g11 (by omega) (by omega)) ((congrFun (g11.1 (t + 16) (by omega)).1 0).trans k16) (st_len 17 hq ht (by decide)) (by omega) (by omega) (by omega)) (fun m12 w12 => ?_)
  have f12 : Fs (fun a => a = t + 16 ∨ a = t + 17) m11 m12 := w12.2
  have g12 := (g11.mo (T := fun a => t ≤ a ∧ a ≤ t + 17) (fun a e => by omega)).tr (f12.mo (fun a e => by omega))
  refine op_mb (x2_copy (g := fun _ _ => 0) (n' := 0) (t := t + 18) (h.gau.fs g12 (by omega) (by omega)) ((congrFun (g12.1 (t + 18) (by omega)).1 0).trans k18) (st_len 19 hq ht (by decide)) (by omega) (by omega) (by omega)) (fun m13 w13 => ?_)
  have f13 : Fs (fun a => a = t + 18 ∨ a = t + 19) m12 m13 := w13.2
  have g13 := (g12.mo (T := fun a => t ≤ a ∧ a ≤ t + 19) (fun a e => by omega)).tr (f13.mo (fun a e => by omega))
  refine op_mb (x2_copy (g := fun _ _ => 0) (n' := 0) (t := t + 20) (h.mon.fs g13 (by omega) (by omega)) ((congrFun (g13.1 (t + 20) (by omega)).1 0).trans k20) (st_len 21 hq ht (by decide)) (by omega) (by omega) (by omega)) (fun m14 w14 => ?_)
  have f14 : Fs (fun a => a = t + 20 ∨ a = t + 21) m13 m14 := w14.2
  have g14 := (g13.mo (T := fun a => t ≤ a ∧ a ≤ t + 21) (fun a e => by omega)).tr (f14.mo (fun a e => by omega))
  refine op_br (op_br (op_br (op_br (op_br (op_r ?_)))))
  generalize hm15 : uI m14 t 14 (m14.1 q 14) = m15
  generalize hm16 : uI m15 t 15 (m15.1 q 15) = m16
  generalize hm17 : uI m16 t 16 (m16.1 q 16) = m17
  generalize hm18 : uI m17 t 17 (m17.1 q 17) = m18
  generalize hm19 : uI m18 t 18 (m18.1 q 18) = m19
  have a15 : Fs (fun a => a = t) m14 m15 := by rw [← hm15]; exact Fs.uI rfl
  have a16 : Fs (fun a => a = t) m15 m16 := by rw [← hm16]; exact Fs.uI rfl
  have a17 : Fs (fun a => a = t) m16 m17 := by rw [← hm17]; exact Fs.uI rfl
  have a18 : Fs (fun a => a = t) m17 m18 := by rw [← hm18]; exact Fs.uI rfl
  have a19 : Fs (fun a => a = t) m18 m19 := by rw [← hm19]; exact Fs.uI rfl
  have e14 : m14.1 q = μ.1 q := (g14.1 q (by omega)).1
  have e15 : m15.1 q = μ.1 q := (a15.1 q (by omega)).1.trans e14
  have e16 : m16.1 q = μ.1 q := (a16.1 q (by omega)).1.trans e15
  have e17 : m17.1 q = μ.1 q := (a17.1 q (by omega)).1.trans e16
  have e18 : m18.1 q = μ.1 q := (a18.1 q (by omega)).1.trans e17
  -- what comes behind each step
  have z14 : Fs (Up t 22) m14 m19 := (((((a15.tr a16).tr a17).tr a18).tr a19).mo (fun a e => Or.inl e))
  have z13 : Fs (Up t 20) m13 m19 := (f14.mo (fun a e => by unfold Up; omega)).tr (z14.mo (fun a e => by unfold Up at *; omega))
  have z12 : Fs (Up t 18) m12 m19 := (f13.mo (fun a e => by unfold Up; omega)).tr (z13.mo (fun a e => by unfold Up at *; omega))
  have z11 : Fs (Up t 16) m11 m19 := (f12.mo (fun a e => by unfold Up; omega)).tr (z12.mo (fun a e => by unfold Up at *; omega))
  have z10 : Fs (Up t 14) m10 m19 := (f11.mo (fun a e => by unfold Up; omega)).tr (z11.mo (fun a e => by unfold Up at *; omega))
  have z9 : Fs (Up t 12) m9 m19 := (f10.mo (fun a e => by unfold Up; omega)).tr (z10.mo (fun a e => by unfold Up at *; omega))
  have z8 : Fs (Up t 11) m8 m19 := (f9.mo (fun a e => by unfold Up; omega)).tr (z9.mo (fun a e => by unfold Up at *; omega))
  have z7 : Fs (Up t 10) m7 m19 := (f8.mo (fun a e => by unfold Up; omega)).tr (z8.mo (fun a e => by unfold Up at *; omega))
  have z6 : Fs (Up t 8) m6 m19 := (f7.mo (fun a e => by unfold Up; omega)).tr (z7.mo (fun a e => by unfold Up at *; omega))
  have z5 : Fs (Up t 7) m5 m19 := (f6.mo (fun a e => by unfold Up; omega)).tr (z6.mo (fun a e => by unfold Up at *; omega))
  have z4 : Fs (fun a => t + 5 ≤ a ∧ a < t + 22) m4 m14 := ((((((((f5.mo (fun a e => by omega)).tr (f6.mo (fun a e => by omega))).tr (f7.mo (fun a e => by omega))).tr (f8.mo (fun a e => by omega))).tr (f9.mo (fun a e => by omega))).tr (f10.mo (fun a e => by omega))).tr (f11.mo (fun a e => by omega))).tr (f12.mo (fun a e => by omega))).tr ((f13.mo (fun a e => by omega)).tr (f14.mo (fun a e => by omega)))
  have z4' : Fs (Up t 5) m4 m19 := (z4.mo (fun a e => by unfold Up; omega)).tr (z14.mo (fun a e => by unfold Up at *; omega))
  have z3 : Fs (Up t 5) m3 m19 := (f4.mo (fun a e => by unfold Up; omega)).tr z4'
  have z2 : Fs (Up t 4) m2 m19 := (f3.mo (fun a e => by unfold Up; omega)).tr (z3.mo (fun a e => by unfold Up at *; omega))
  have z1 : Fs (Up t 3) m1 m19 := (f2.mo (fun a e => by unfold Up; omega)).tr (z2.mo (fun a e => by unfold Up at *; omega))
  have u : ∀ {lo a : Nat}, t < a → a < t + lo → ¬ Up t lo a := fun {lo a} h1 h2 z => by unfold Up at z; omega
  refine ⟨⟨w1.1.fs z1 (u (by omega) (by omega)) (u (by omega) (by omega)), w5.1.fs z5 (u (by omega) (by omega)) (u (by omega) (by omega)), w7.1.fs z7 (u (by omega) (by omega)) (u (by omega) (by omega)), w10.1.fs z10 (u (by omega) (by omega)) (u (by omega) (by omega)), w11.1.fs z11 (u (by omega) (by omega)) (u (by omega) (by omega)), w12.1.fs z12 (u (by omega) (by omega)) (u (by omega) (by omega)), w13.1.fs z13 (u (by omega) (by omega)) (u (by omega) (by omega)), w14.1.fs z14 (u (by omega) (by omega)) (u (by omega) (by omega)), ?_, ?_, ?_, ?_, ?_, ?_⟩, ?_⟩
  · exact fun k hk => (congrFun (z2.1 (t + 3) (u (by omega) (by omega))).1 k).trans ((v2 k hk).trans (h.sea k hk))
  · exact fun k hk h7 => (congrFun (z3.1 (t + 4) (u (by omega) (by omega))).1 k).trans ((v3 k hk).trans (h.yea k hk h7))
  · exact fun k hk => (congrFun (z6.1 (t + 7) (u (by omega) (by omega))).2 k).trans ((v6 k hk).trans (h.bal k hk))
  · exact fun k hk => (congrFun (z9.1 (t + 11) (u (by omega) (by omega))).2 k).trans ((v9 k hk).trans (h.ear k hk))
  · have h10 := (h.cnt hq).2.2.1
    exact fun k hk => (congrFun (z8.1 (t + 10) (u (by omega) (by omega))).1 k).trans ((v8 k (by omega)).trans (h.rnk k hk))
  · have hs := h.sca
    have t3 : m19.1 t 3 = μ.1 q 3 := by
      rw [← hm19, uI_eq, ← hm18, uI_eq, ← hm17, uI_eq, ← hm16, uI_eq, ← hm15, uI_eq]
      show m14.1 t 3 = _
      rw [(z4.1 t (by omega)).1, ← hm4, uI_eq]
      show m3.1 q 3 = _
      rw [(g3.1 q (by omega)).1]
    refine ⟨t3.trans hs.1, ?_, ?_, ?_, ?_, ?_⟩
    · rw [← hm19, uI_eq, ← hm18, uI_eq, ← hm17, uI_eq, ← hm16, uI_eq, ← hm15, uI_eq]
      show m14.1 q 14 = _
      rw [e14]; exact hs.2.1
    · rw [← hm19, uI_eq, ← hm18, uI_eq, ← hm17, uI_eq, ← hm16, uI_eq]
      show m15.1 q 15 = _
      rw [e15]; exact hs.2.2.1
    · rw [← hm19, uI_eq, ← hm18, uI_eq, ← hm17, uI_eq]
      show m16.1 q 16 = _
      rw [e16]; exact hs.2.2.2.1
    · rw [← hm19, uI_eq, ← hm18, uI_eq]
      show m17.1 q 17 = _
      rw [e17]; exact hs.2.2.2.2.1
    · rw [← hm19, uI_eq]
      show m18.1 q 18 = _
      rw [e18]; exact hs.2.2.2.2.2
  · exact (g14.mo (fun a e => by unfold Blk; omega)).tr (z14.mo (fun a e => by unfold Up at e; unfold Blk; omega))

