/-! ===== the reference does not see cell 311: all of it ===== -/
def Pv {α : Type} (v : Int64) (o : α × Mm) : α × Mm := (o.1, Kv v o.2)
def Pw {α β : Type} (v : Int64) (o : α × (β × Mm)) : α × (β × Mm) := (o.1, (o.2.1, Kv v o.2.2))
section BLE
variable {μ : Mm} {v : Int64}
theorem pv_1 {α : Type} {o : α × Mm} : (Pv v o).1 = o.1 := rfl
theorem pv_2 {α : Type} {o : α × Mm} : (Pv v o).2 = Kv v o.2 := rfl
theorem pw_1 {α β : Type} {o : α × (β × Mm)} : (Pw v o).1 = o.1 := rfl
theorem pw_2 {α β : Type} {o : α × (β × Mm)} : (Pw v o).2.1 = o.2.1 := rfl
theorem pw_3 {α β : Type} {o : α × (β × Mm)} : (Pw v o).2.2 = Kv v o.2.2 := rfl
theorem bsx {α β : Type} (x : α) (f : α → Option β) : (some x).bind f = f x := by cases h : f x <;> simp [h]
theorem ite_bnd {α β : Type} {c : Prop} [Decidable c] {x y : Option α} {g : α → Option β} : (if c then x else y).bind g = if c then x.bind g else y.bind g := by split <;> rfl
theorem bnd_bnd {α β γ : Type} {x : Option α} {f : α → Option β} {g : β → Option γ} : (x.bind f).bind g = x.bind fun a => (f a).bind g := by cases x <;> rfl
theorem pv_mk {α : Type} {x : α} {m : Mm} : Pv v (x, m) = (x, Kv v m) := rfl
theorem pw_mk {α β : Type} {x : α} {y : β} {m : Mm} : Pw v (x, (y, m)) = (x, (y, Kv v m)) := rfl
theorem map_p {α : Type} {x : α} {m : Mm} : (some (x, m)).map (Pv v) = some (x, Kv v m) := rfl
theorem map_w {α β : Type} {x : α} {y : β} {m : Mm} : (some (x, (y, m))).map (Pw v) = some (x, (y, Kv v m)) := rfl
theorem k_aL300 {i : Int32} : aL (Kv v μ) 300 i = aL μ 300 i := k_aL (by decide)
theorem k_sL300 {i : Int32} {x : Int64} : sL (Kv v μ) 300 i x = (sL μ 300 i x).map (Kv v) := k_sL (by decide)
theorem k_aL301 {i : Int32} : aL (Kv v μ) 301 i = aL μ 301 i := k_aL (by decide)
theorem k_sL301 {i : Int32} {x : Int64} : sL (Kv v μ) 301 i x = (sL μ 301 i x).map (Kv v) := k_sL (by decide)
theorem k_aL302 {i : Int32} : aL (Kv v μ) 302 i = aL μ 302 i := k_aL (by decide)
theorem k_sL302 {i : Int32} {x : Int64} : sL (Kv v μ) 302 i x = (sL μ 302 i x).map (Kv v) := k_sL (by decide)
theorem k_aL304 {i : Int32} : aL (Kv v μ) 304 i = aL μ 304 i := k_aL (by decide)
theorem k_sL304 {i : Int32} {x : Int64} : sL (Kv v μ) 304 i x = (sL μ 304 i x).map (Kv v) := k_sL (by decide)
set_option maxRecDepth 100000 in
theorem b_X4_thrown  : F_X4_thrown (Kv v μ) = F_X4_thrown μ := by
  simp only [F_X4_thrown, ite_bnd, bnd_bnd, k_1, k_aI, k_sI, k_sZ, k_sB, k_uI, k_aL300, k_aL301, k_aL302, k_aL304, k_sL300, k_sL301, k_sL302, k_sL304, map_ite, map_bnd, bnd_map, map_some', map_p, map_w, pv_mk, pw_mk, pv_1, pv_2, pw_1, pw_2, pw_3, Option.bind_some]
  try rfl
set_option maxRecDepth 100000 in
theorem b_X4_inRange {p1 : Int32} {p2 : Int32} {p3 : Int32} : F_X4_inRange p1 p2 p3 (Kv v μ) = F_X4_inRange p1 p2 p3 μ := by
  simp only [F_X4_inRange, ite_bnd, bnd_bnd, k_1, k_aI, k_sI, k_sZ, k_sB, k_uI, k_aL300, k_aL301, k_aL302, k_aL304, k_sL300, k_sL301, k_sL302, k_sL304, map_ite, map_bnd, bnd_map, map_some', map_p, map_w, pv_mk, pw_mk, pv_1, pv_2, pw_1, pw_2, pw_3, Option.bind_some]
  try rfl
set_option maxRecDepth 100000 in
theorem b_X4_lesser {p1 : Int32} {p2 : Int32} : F_X4_lesser p1 p2 (Kv v μ) = F_X4_lesser p1 p2 μ := by
  simp only [F_X4_lesser, ite_bnd, bnd_bnd, k_1, k_aI, k_sI, k_sZ, k_sB, k_uI, k_aL300, k_aL301, k_aL302, k_aL304, k_sL300, k_sL301, k_sL302, k_sL304, map_ite, map_bnd, bnd_map, map_some', map_p, map_w, pv_mk, pw_mk, pv_1, pv_2, pw_1, pw_2, pw_3, Option.bind_some]
  try rfl
set_option maxRecDepth 100000 in
theorem b_X4_rightAt {p1 : Int32} {p2 : Int32} : F_X4_rightAt p1 p2 (Kv v μ) = F_X4_rightAt p1 p2 μ := by
  simp only [F_X4_rightAt, ite_bnd, bnd_bnd, k_1, k_aI, k_sI, k_sZ, k_sB, k_uI, k_aL300, k_aL301, k_aL302, k_aL304, k_sL300, k_sL301, k_sL302, k_sL304, map_ite, map_bnd, bnd_map, map_some', map_p, map_w, pv_mk, pw_mk, pv_1, pv_2, pw_1, pw_2, pw_3, Option.bind_some]
  try rfl
set_option maxRecDepth 100000 in
theorem b_X4_rightOf {p1 : Int32} {p2 : Int32} : F_X4_rightOf p1 p2 (Kv v μ) = F_X4_rightOf p1 p2 μ := by
  simp only [F_X4_rightOf, ite_bnd, bnd_bnd, k_1, k_aI, k_sI, k_sZ, k_sB, k_uI, k_aL300, k_aL301, k_aL302, k_aL304, k_sL300, k_sL301, k_sL302, k_sL304, map_ite, map_bnd, bnd_map, map_some', map_p, map_w, pv_mk, pw_mk, pv_1, pv_2, pw_1, pw_2, pw_3, Option.bind_some, b_X4_rightAt]
  try rfl
set_option maxRecDepth 100000 in
theorem b_X4_leaseOf {p1 : Int32} {p2 : Int32} : F_X4_leaseOf p1 p2 (Kv v μ) = F_X4_leaseOf p1 p2 μ := by
  simp only [F_X4_leaseOf, ite_bnd, bnd_bnd, k_1, k_aI, k_sI, k_sZ, k_sB, k_uI, k_aL300, k_aL301, k_aL302, k_aL304, k_sL300, k_sL301, k_sL302, k_sL304, map_ite, map_bnd, bnd_map, map_some', map_p, map_w, pv_mk, pw_mk, pv_1, pv_2, pw_1, pw_2, pw_3, Option.bind_some]
  try rfl
set_option maxRecDepth 100000 in
theorem b_X4_optionOf {p1 : Int32} {p2 : Int32} : F_X4_optionOf p1 p2 (Kv v μ) = F_X4_optionOf p1 p2 μ := by
  simp only [F_X4_optionOf, ite_bnd, bnd_bnd, k_1, k_aI, k_sI, k_sZ, k_sB, k_uI, k_aL300, k_aL301, k_aL302, k_aL304, k_sL300, k_sL301, k_sL302, k_sL304, map_ite, map_bnd, bnd_map, map_some', map_p, map_w, pv_mk, pw_mk, pv_1, pv_2, pw_1, pw_2, pw_3, Option.bind_some]
  try rfl
set_option maxRecDepth 100000 in
theorem b_X4_append_23 {u1 : Int32} {u2 : Int32} {u3 : Int32} {u4 : Int32} {u5 : Int32} : ∀ (n : Nat) (x1 : Int32) (μ : Mm), F_X4_append_23 u1 u2 u3 u4 u5 n x1 (Kv v μ) = (F_X4_append_23 u1 u2 u3 u4 u5 n x1 μ).map (Kv v) := by
  intro n
  induction n with
  | zero => intros; rfl
  | succ n ih =>
    intros
    simp only [F_X4_append_23, ite_bnd, bnd_bnd, k_1, k_aI, k_sI, k_sZ, k_sB, k_uI, k_aL300, k_aL301, k_aL302, k_aL304, k_sL300, k_sL301, k_sL302, k_sL304, map_ite, map_bnd, bnd_map, map_some', map_p, map_w, pv_mk, pw_mk, pv_1, pv_2, pw_1, pw_2, pw_3, Option.bind_some, ih]
    try rfl
set_option maxRecDepth 100000 in
theorem b_X4_append {p1 : Int32} {p2 : Int32} {p3 : Int32} {p4 : Int32} {p5 : Int32} : F_X4_append p1 p2 p3 p4 p5 (Kv v μ) = (F_X4_append p1 p2 p3 p4 p5 μ).map (Pv v) := by
  simp only [F_X4_append, ite_bnd, bnd_bnd, k_1, k_aI, k_sI, k_sZ, k_sB, k_uI, k_aL300, k_aL301, k_aL302, k_aL304, k_sL300, k_sL301, k_sL302, k_sL304, map_ite, map_bnd, bnd_map, map_some', map_p, map_w, pv_mk, pw_mk, pv_1, pv_2, pw_1, pw_2, pw_3, Option.bind_some, b_X4_append_23]
  try rfl
set_option maxRecDepth 100000 in
theorem b_X4_truncate {p1 : Int32} : F_X4_truncate p1 (Kv v μ) = (F_X4_truncate p1 μ).map (Pv v) := by
  simp only [F_X4_truncate, ite_bnd, bnd_bnd, k_1, k_aI, k_sI, k_sZ, k_sB, k_uI, k_aL300, k_aL301, k_aL302, k_aL304, k_sL300, k_sL301, k_sL302, k_sL304, map_ite, map_bnd, bnd_map, map_some', map_p, map_w, pv_mk, pw_mk, pv_1, pv_2, pw_1, pw_2, pw_3, Option.bind_some]
  try rfl
set_option maxRecDepth 100000 in
theorem b_X4_byteAt {p1 : Int32} : F_X4_byteAt p1 (Kv v μ) = F_X4_byteAt p1 μ := by
  simp only [F_X4_byteAt, ite_bnd, bnd_bnd, k_1, k_aI, k_sI, k_sZ, k_sB, k_uI, k_aL300, k_aL301, k_aL302, k_aL304, k_sL300, k_sL301, k_sL302, k_sL304, map_ite, map_bnd, bnd_map, map_some', map_p, map_w, pv_mk, pw_mk, pv_1, pv_2, pw_1, pw_2, pw_3, Option.bind_some]
  try rfl
set_option maxRecDepth 100000 in
theorem b_X4_peek_0  : ∀ (n : Nat) (μ : Mm), F_X4_peek_0 n (Kv v μ) = (F_X4_peek_0 n μ).map (Kv v) := by
  intro n
  induction n with
  | zero => intros; rfl
  | succ n ih =>
    intros
    simp only [F_X4_peek_0, ite_bnd, bnd_bnd, k_1, k_aI, k_sI, k_sZ, k_sB, k_uI, k_aL300, k_aL301, k_aL302, k_aL304, k_sL300, k_sL301, k_sL302, k_sL304, map_ite, map_bnd, bnd_map, map_some', map_p, map_w, pv_mk, pw_mk, pv_1, pv_2, pw_1, pw_2, pw_3, Option.bind_some, ih, b_X4_byteAt]
    try rfl
set_option maxRecDepth 100000 in
theorem b_X4_peek  : F_X4_peek (Kv v μ) = (F_X4_peek μ).map (Pv v) := by
  simp only [F_X4_peek, ite_bnd, bnd_bnd, k_1, k_aI, k_sI, k_sZ, k_sB, k_uI, k_aL300, k_aL301, k_aL302, k_aL304, k_sL300, k_sL301, k_sL302, k_sL304, map_ite, map_bnd, bnd_map, map_some', map_p, map_w, pv_mk, pw_mk, pv_1, pv_2, pw_1, pw_2, pw_3, Option.bind_some, b_X4_byteAt, b_X4_peek_0]
  try rfl
set_option maxRecDepth 100000 in
theorem b_X4_failed  : F_X4_failed (Kv v μ) = F_X4_failed μ := by
  simp only [F_X4_failed, ite_bnd, bnd_bnd, k_1, k_aI, k_sI, k_sZ, k_sB, k_uI, k_aL300, k_aL301, k_aL302, k_aL304, k_sL300, k_sL301, k_sL302, k_sL304, map_ite, map_bnd, bnd_map, map_some', map_p, map_w, pv_mk, pw_mk, pv_1, pv_2, pw_1, pw_2, pw_3, Option.bind_some]
  try rfl
set_option maxRecDepth 100000 in
theorem b_X4_fail {p1 : Int32} {p2 : Int32} : F_X4_fail p1 p2 (Kv v μ) = (F_X4_fail p1 p2 μ).map (Kv v) := by
  simp only [F_X4_fail, ite_bnd, bnd_bnd, k_1, k_aI, k_sI, k_sZ, k_sB, k_uI, k_aL300, k_aL301, k_aL302, k_aL304, k_sL300, k_sL301, k_sL302, k_sL304, map_ite, map_bnd, bnd_map, map_some', map_p, map_w, pv_mk, pw_mk, pv_1, pv_2, pw_1, pw_2, pw_3, Option.bind_some]
  try rfl
set_option maxRecDepth 100000 in
theorem b_X4_accept_10 {w1 : Nat} : ∀ (n : Nat) (x1 : Int32), F_X4_accept_10 w1 (Kv v μ) n x1 = F_X4_accept_10 w1 μ n x1 := by
  intro n
  induction n with
  | zero => intros; rfl
  | succ n ih =>
    intros
    simp only [F_X4_accept_10, ite_bnd, bnd_bnd, k_1, k_aI, k_sI, k_sZ, k_sB, k_uI, k_aL300, k_aL301, k_aL302, k_aL304, k_sL300, k_sL301, k_sL302, k_sL304, map_ite, map_bnd, bnd_map, map_some', map_p, map_w, pv_mk, pw_mk, pv_1, pv_2, pw_1, pw_2, pw_3, Option.bind_some, ih, b_X4_byteAt, b_X4_inRange]
    try rfl
set_option maxRecDepth 100000 in
theorem b_X4_accept_60 {w1 : Nat} : ∀ (n : Nat) (x1 : Int32) (x2 : Int32), F_X4_accept_60 w1 (Kv v μ) n x1 x2 = F_X4_accept_60 w1 μ n x1 x2 := by
  intro n
  induction n with
  | zero => intros; rfl
  | succ n ih =>
    intros
    simp only [F_X4_accept_60, ite_bnd, bnd_bnd, k_1, k_aI, k_sI, k_sZ, k_sB, k_uI, k_aL300, k_aL301, k_aL302, k_aL304, k_sL300, k_sL301, k_sL302, k_sL304, map_ite, map_bnd, bnd_map, map_some', map_p, map_w, pv_mk, pw_mk, pv_1, pv_2, pw_1, pw_2, pw_3, Option.bind_some, ih, b_X4_byteAt]
    try rfl
set_option maxRecDepth 100000 in
theorem b_X4_accept {w1 : Nat} : F_X4_accept w1 (Kv v μ) = (F_X4_accept w1 μ).map (Pv v) := by
  simp only [F_X4_accept, ite_bnd, bnd_bnd, k_1, k_aI, k_sI, k_sZ, k_sB, k_uI, k_aL300, k_aL301, k_aL302, k_aL304, k_sL300, k_sL301, k_sL302, k_sL304, map_ite, map_bnd, bnd_map, map_some', map_p, map_w, pv_mk, pw_mk, pv_1, pv_2, pw_1, pw_2, pw_3, Option.bind_some, b_X4_accept_10, b_X4_accept_60, b_X4_failed, b_X4_peek]
  try rfl
set_option maxRecDepth 100000 in
theorem b_X4_isDigitHere  : F_X4_isDigitHere (Kv v μ) = (F_X4_isDigitHere μ).map (Pv v) := by
  simp only [F_X4_isDigitHere, ite_bnd, bnd_bnd, k_1, k_aI, k_sI, k_sZ, k_sB, k_uI, k_aL300, k_aL301, k_aL302, k_aL304, k_sL300, k_sL301, k_sL302, k_sL304, map_ite, map_bnd, bnd_map, map_some', map_p, map_w, pv_mk, pw_mk, pv_1, pv_2, pw_1, pw_2, pw_3, Option.bind_some, b_X4_failed, b_X4_inRange, b_X4_peek]
  try rfl
set_option maxRecDepth 100000 in
theorem b_X4_number_24 {u1 : Int32} {u2 : Int32} : ∀ (n : Nat) (x1 : Int32) (μ : Mm), F_X4_number_24 u1 u2 n x1 (Kv v μ) = (F_X4_number_24 u1 u2 n x1 μ).map (Pv v) := by
  intro n
  induction n with
  | zero => intros; rfl
  | succ n ih =>
    intros
    simp only [F_X4_number_24, ite_bnd, bnd_bnd, k_1, k_aI, k_sI, k_sZ, k_sB, k_uI, k_aL300, k_aL301, k_aL302, k_aL304, k_sL300, k_sL301, k_sL302, k_sL304, map_ite, map_bnd, bnd_map, map_some', map_p, map_w, pv_mk, pw_mk, pv_1, pv_2, pw_1, pw_2, pw_3, Option.bind_some, ih, b_X4_byteAt, b_X4_inRange]
    try rfl
set_option maxRecDepth 100000 in
theorem b_X4_number {p1 : Int32} {p2 : Int32} : F_X4_number p1 p2 (Kv v μ) = (F_X4_number p1 p2 μ).map (Pv v) := by
  simp only [F_X4_number, ite_bnd, bnd_bnd, k_1, k_aI, k_sI, k_sZ, k_sB, k_uI, k_aL300, k_aL301, k_aL302, k_aL304, k_sL300, k_sL301, k_sL302, k_sL304, map_ite, map_bnd, bnd_map, map_some', map_p, map_w, pv_mk, pw_mk, pv_1, pv_2, pw_1, pw_2, pw_3, Option.bind_some, b_X4_fail, b_X4_failed, b_X4_inRange, b_X4_number_24, b_X4_peek]
  try rfl
set_option maxRecDepth 100000 in
theorem b_X4_clears_2  : ∀ (n : Nat) (x1 : Int32) (μ : Mm), F_X4_clears_2 n x1 (Kv v μ) = (F_X4_clears_2 n x1 μ).map (Kv v) := by
  intro n
  induction n with
  | zero => intros; rfl
  | succ n ih =>
    intros
    simp only [F_X4_clears_2, ite_bnd, bnd_bnd, k_1, k_aI, k_sI, k_sZ, k_sB, k_uI, k_aL300, k_aL301, k_aL302, k_aL304, k_sL300, k_sL301, k_sL302, k_sL304, map_ite, map_bnd, bnd_map, map_some', map_p, map_w, pv_mk, pw_mk, pv_1, pv_2, pw_1, pw_2, pw_3, Option.bind_some, ih]
    try rfl
set_option maxRecDepth 100000 in
theorem b_X4_clears_48  : ∀ (n : Nat) (x1 : Int32) (μ : Mm), F_X4_clears_48 n x1 (Kv v μ) = (F_X4_clears_48 n x1 μ).map (Kv v) := by
  intro n
  induction n with
  | zero => intros; rfl
  | succ n ih =>
    intros
    simp only [F_X4_clears_48, ite_bnd, bnd_bnd, k_1, k_aI, k_sI, k_sZ, k_sB, k_uI, k_aL300, k_aL301, k_aL302, k_aL304, k_sL300, k_sL301, k_sL302, k_sL304, map_ite, map_bnd, bnd_map, map_some', map_p, map_w, pv_mk, pw_mk, pv_1, pv_2, pw_1, pw_2, pw_3, Option.bind_some, ih]
    try rfl
set_option maxRecDepth 100000 in
theorem b_X4_clears  : F_X4_clears (Kv v μ) = (F_X4_clears μ).map (Kv v) := by
  simp only [F_X4_clears, ite_bnd, bnd_bnd, k_1, k_aI, k_sI, k_sZ, k_sB, k_uI, k_aL300, k_aL301, k_aL302, k_aL304, k_sL300, k_sL301, k_sL302, k_sL304, map_ite, map_bnd, bnd_map, map_some', map_p, map_w, pv_mk, pw_mk, pv_1, pv_2, pw_1, pw_2, pw_3, Option.bind_some, b_X4_clears_2, b_X4_clears_48]
  try rfl
set_option maxRecDepth 100000 in
theorem b_X4_numbers_5 {u1 : Int32} {u2 : Int32} : ∀ (n : Nat) (x1 : Int32) (x2 : Int32) (μ : Mm), F_X4_numbers_5 u1 u2 n x1 x2 (Kv v μ) = (F_X4_numbers_5 u1 u2 n x1 x2 μ).map (Pv v) := by
  intro n
  induction n with
  | zero => intros; rfl
  | succ n ih =>
    intros
    simp only [F_X4_numbers_5, ite_bnd, bnd_bnd, k_1, k_aI, k_sI, k_sZ, k_sB, k_uI, k_aL300, k_aL301, k_aL302, k_aL304, k_sL300, k_sL301, k_sL302, k_sL304, map_ite, map_bnd, bnd_map, map_some', map_p, map_w, pv_mk, pw_mk, pv_1, pv_2, pw_1, pw_2, pw_3, Option.bind_some, ih, b_X4_fail, b_X4_failed, b_X4_isDigitHere, b_X4_number]
    try rfl
set_option maxRecDepth 100000 in
theorem b_X4_numbers {p1 : Int32} {p2 : Int32} : F_X4_numbers p1 p2 (Kv v μ) = (F_X4_numbers p1 p2 μ).map (Pv v) := by
  simp only [F_X4_numbers, ite_bnd, bnd_bnd, k_1, k_aI, k_sI, k_sZ, k_sB, k_uI, k_aL300, k_aL301, k_aL302, k_aL304, k_sL300, k_sL301, k_sL302, k_sL304, map_ite, map_bnd, bnd_map, map_some', map_p, map_w, pv_mk, pw_mk, pv_1, pv_2, pw_1, pw_2, pw_3, Option.bind_some, b_X4_numbers_5]
  try rfl
set_option maxRecDepth 100000 in
theorem b_X4_isRoom {p1 : Int32} {p2 : Int32} {p3 : Int32} : F_X4_isRoom p1 p2 p3 (Kv v μ) = (F_X4_isRoom p1 p2 p3 μ).map (Pv v) := by
  simp only [F_X4_isRoom, ite_bnd, bnd_bnd, k_1, k_aI, k_sI, k_sZ, k_sB, k_uI, k_aL300, k_aL301, k_aL302, k_aL304, k_sL300, k_sL301, k_sL302, k_sL304, map_ite, map_bnd, bnd_map, map_some', map_p, map_w, pv_mk, pw_mk, pv_1, pv_2, pw_1, pw_2, pw_3, Option.bind_some, b_X4_fail, b_X4_failed]
  try rfl
set_option maxRecDepth 100000 in
theorem b_X4_reachHere {p1 : Int32} : F_X4_reachHere p1 (Kv v μ) = (F_X4_reachHere p1 μ).map (Pv v) := by
  simp only [F_X4_reachHere, ite_bnd, bnd_bnd, k_1, k_aI, k_sI, k_sZ, k_sB, k_uI, k_aL300, k_aL301, k_aL302, k_aL304, k_sL300, k_sL301, k_sL302, k_sL304, map_ite, map_bnd, bnd_map, map_some', map_p, map_w, pv_mk, pw_mk, pv_1, pv_2, pw_1, pw_2, pw_3, Option.bind_some, b_X4_number]
  try rfl
set_option maxRecDepth 100000 in
theorem b_X4_accountHere  : F_X4_accountHere (Kv v μ) = (F_X4_accountHere μ).map (Pv v) := by
  simp only [F_X4_accountHere, ite_bnd, bnd_bnd, k_1, k_aI, k_sI, k_sZ, k_sB, k_uI, k_aL300, k_aL301, k_aL302, k_aL304, k_sL300, k_sL301, k_sL302, k_sL304, map_ite, map_bnd, bnd_map, map_some', map_p, map_w, pv_mk, pw_mk, pv_1, pv_2, pw_1, pw_2, pw_3, Option.bind_some, b_X4_number]
  try rfl
set_option maxRecDepth 100000 in
theorem b_X4_priorityHere_10 {u1 : Int32} : ∀ (n : Nat) (x1 : Int32) (μ : Mm), F_X4_priorityHere_10 u1 n x1 (Kv v μ) = (F_X4_priorityHere_10 u1 n x1 μ).map (Kv v) := by
  intro n
  induction n with
  | zero => intros; rfl
  | succ n ih =>
    intros
    simp only [F_X4_priorityHere_10, ite_bnd, bnd_bnd, k_1, k_aI, k_sI, k_sZ, k_sB, k_uI, k_aL300, k_aL301, k_aL302, k_aL304, k_sL300, k_sL301, k_sL302, k_sL304, map_ite, map_bnd, bnd_map, map_some', map_p, map_w, pv_mk, pw_mk, pv_1, pv_2, pw_1, pw_2, pw_3, Option.bind_some, ih, b_X4_fail, b_X4_rightAt]
    try rfl
set_option maxRecDepth 100000 in
theorem b_X4_priorityHere  : F_X4_priorityHere (Kv v μ) = (F_X4_priorityHere μ).map (Pv v) := by
  simp only [F_X4_priorityHere, ite_bnd, bnd_bnd, k_1, k_aI, k_sI, k_sZ, k_sB, k_uI, k_aL300, k_aL301, k_aL302, k_aL304, k_sL300, k_sL301, k_sL302, k_sL304, map_ite, map_bnd, bnd_map, map_some', map_p, map_w, pv_mk, pw_mk, pv_1, pv_2, pw_1, pw_2, pw_3, Option.bind_some, b_X4_number, b_X4_priorityHere_10]
  try rfl
def rl1 (x r : Int32) (o : Int32 × Mm) : Option Mm := if o.1 = 0 then some o.2 else (F_X4_rightAt x 4 o.2).bind fun o62 => (F_X4_number 0 90 o.2).bind fun o65 => (sI o65.2 297 o62 o65.1).bind fun m68 => (F_X4_rightAt x 5 m68).bind fun o71 => (F_X4_reachHere r m68).bind fun o74 => (sI o74.2 297 o71 o74.1).bind fun m77 => some m77
def rl2 (x : Int32) (o : Int32 × Mm) : Option Mm := if o.1 = 0 then some o.2 else (F_X4_rightAt x 6 o.2).bind fun o90 => (F_X4_number 0 100 o.2).bind fun o93 => (sI o93.2 297 o90 o93.1).bind fun m96 => some m96
def rl0 (m7 : Mm) : Option Mm := (aI m7 297 2).bind fun x9 => (F_X4_rightAt x9 0 m7).bind fun o12 => (F_X4_accountHere m7).bind fun o15 => (sI o15.2 297 o12 o15.1).bind fun m18 => (F_X4_reachHere 0 m18).bind fun o21 => (F_X4_rightAt x9 1 o21.2).bind fun o25 => (sI o21.2 297 o25 o21.1).bind fun m27 => (F_X4_rightAt x9 2 m27).bind fun o30 => (F_X4_priorityHere m27).bind fun o33 => (sI o33.2 297 o30 o33.1).bind fun m36 => (F_X4_rightAt x9 3 m36).bind fun o39 => (F_X4_number 1 999 m36).bind fun o42 => (sI o42.2 297 o39 o42.1).bind fun m45 => (F_X4_rightAt x9 5 m45).bind fun o48 => (sI m45 297 o48 o21.1).bind fun m50 => (F_X4_accept 6 m50).bind fun o53 => (rl1 x9 o21.1 o53).bind fun o79 => (F_X4_accept 7 o79).bind fun o81 => (rl2 x9 o81).bind fun o98 => (aI o98 297 2).bind fun x99 => (sI o98 297 2 (x99 + 1)).bind fun m101 => some m101
theorem b_rl1 {x r : Int32} {o : Int32 × Mm} : rl1 x r (Pv v o) = (rl1 x r o).map (Kv v) := by
  simp only [rl1, k_1, k_aI, k_sI, k_sZ, k_sB, k_uI, k_aL300, k_aL301, k_aL302, k_aL304, k_sL300, k_sL301, k_sL302, k_sL304, map_ite, map_bnd, bnd_map, map_some', map_p, map_w, pv_mk, pw_mk, pv_1, pv_2, pw_1, pw_2, pw_3, Option.bind_some, b_X4_rightAt, b_X4_number, b_X4_reachHere]
  try rfl
theorem b_rl2 {x : Int32} {o : Int32 × Mm} : rl2 x (Pv v o) = (rl2 x o).map (Kv v) := by
  simp only [rl2, k_1, k_aI, k_sI, k_sZ, k_sB, k_uI, k_aL300, k_aL301, k_aL302, k_aL304, k_sL300, k_sL301, k_sL302, k_sL304, map_ite, map_bnd, bnd_map, map_some', map_p, map_w, pv_mk, pw_mk, pv_1, pv_2, pw_1, pw_2, pw_3, Option.bind_some, b_X4_rightAt, b_X4_number]
  try rfl
theorem b_rl0 : rl0 (Kv v μ) = (rl0 μ).map (Kv v) := by
  simp only [rl0, k_1, k_aI, k_sI, k_sZ, k_sB, k_uI, k_aL300, k_aL301, k_aL302, k_aL304, k_sL300, k_sL301, k_sL302, k_sL304, map_ite, map_bnd, bnd_map, map_some', map_p, map_w, pv_mk, pw_mk, pv_1, pv_2, pw_1, pw_2, pw_3, Option.bind_some, b_X4_rightAt, b_X4_accountHere, b_X4_reachHere, b_X4_priorityHere, b_X4_number, b_X4_accept, b_rl1, b_rl2]
theorem b_X4_rightLine {p1 : Int32} : F_X4_rightLine p1 (Kv v μ) = (F_X4_rightLine p1 μ).map (Kv v) := by
  have e : ∀ μ : Mm, F_X4_rightLine p1 μ = (F_X4_isRoom 2 10 p1 μ).bind fun o2 => if o2.1 = 0 then some o2.2 else rl0 (uI o2.2 295 19 1) := fun μ => by
    simp only [F_X4_rightLine, bsx]
    rfl
  rw [e, e]
  simp only [k_1, k_aI, k_sI, k_sZ, k_sB, k_uI, k_aL300, k_aL301, k_aL302, k_aL304, k_sL300, k_sL301, k_sL302, k_sL304, map_ite, map_bnd, bnd_map, map_some', map_p, map_w, pv_mk, pw_mk, pv_1, pv_2, pw_1, pw_2, pw_3, Option.bind_some, b_X4_isRoom, b_rl0]
  try rfl
set_option maxRecDepth 100000 in
theorem b_X4_tradeFields_23 {u1 : Int32} {u2 : Int32} : ∀ (n : Nat) (x1 : Int32) (μ : Mm), F_X4_tradeFields_23 u1 u2 n x1 (Kv v μ) = (F_X4_tradeFields_23 u1 u2 n x1 μ).map (Kv v) := by
  intro n
  induction n with
  | zero => intros; rfl
  | succ n ih =>
    intros
    simp only [F_X4_tradeFields_23, ite_bnd, bnd_bnd, k_1, k_aI, k_sI, k_sZ, k_sB, k_uI, k_aL300, k_aL301, k_aL302, k_aL304, k_sL300, k_sL301, k_sL302, k_sL304, map_ite, map_bnd, bnd_map, map_some', map_p, map_w, pv_mk, pw_mk, pv_1, pv_2, pw_1, pw_2, pw_3, Option.bind_some, ih, b_X4_fail, b_X4_failed]
    try rfl
set_option maxRecDepth 100000 in
theorem b_X4_tradeFields {p1 : Int32} {p2 : Int32} : F_X4_tradeFields p1 p2 (Kv v μ) = (F_X4_tradeFields p1 p2 μ).map (Kv v) := by
  simp only [F_X4_tradeFields, ite_bnd, bnd_bnd, k_1, k_aI, k_sI, k_sZ, k_sB, k_uI, k_aL300, k_aL301, k_aL302, k_aL304, k_sL300, k_sL301, k_sL302, k_sL304, map_ite, map_bnd, bnd_map, map_some', map_p, map_w, pv_mk, pw_mk, pv_1, pv_2, pw_1, pw_2, pw_3, Option.bind_some, b_X4_accountHere, b_X4_number, b_X4_reachHere, b_X4_tradeFields_23]
  try rfl
set_option maxRecDepth 100000 in
theorem b_X4_leaseLine {p1 : Int32} : F_X4_leaseLine p1 (Kv v μ) = (F_X4_leaseLine p1 μ).map (Kv v) := by
  simp only [F_X4_leaseLine, ite_bnd, bnd_bnd, k_1, k_aI, k_sI, k_sZ, k_sB, k_uI, k_aL300, k_aL301, k_aL302, k_aL304, k_sL300, k_sL301, k_sL302, k_sL304, map_ite, map_bnd, bnd_map, map_some', map_p, map_w, pv_mk, pw_mk, pv_1, pv_2, pw_1, pw_2, pw_3, Option.bind_some, b_X4_isRoom, b_X4_tradeFields]
  try rfl
set_option maxRecDepth 100000 in
theorem b_X4_optionLine {p1 : Int32} : F_X4_optionLine p1 (Kv v μ) = (F_X4_optionLine p1 μ).map (Kv v) := by
  simp only [F_X4_optionLine, ite_bnd, bnd_bnd, k_1, k_aI, k_sI, k_sZ, k_sB, k_uI, k_aL300, k_aL301, k_aL302, k_aL304, k_sL300, k_sL301, k_sL302, k_sL304, map_ite, map_bnd, bnd_map, map_some', map_p, map_w, pv_mk, pw_mk, pv_1, pv_2, pw_1, pw_2, pw_3, Option.bind_some, b_X4_isRoom, b_X4_tradeFields]
  try rfl
set_option maxRecDepth 100000 in
theorem b_X4_reachLine {p1 : Int32} : F_X4_reachLine p1 (Kv v μ) = (F_X4_reachLine p1 μ).map (Kv v) := by
  simp only [F_X4_reachLine, ite_bnd, bnd_bnd, k_1, k_aI, k_sI, k_sZ, k_sB, k_uI, k_aL300, k_aL301, k_aL302, k_aL304, k_sL300, k_sL301, k_sL302, k_sL304, map_ite, map_bnd, bnd_map, map_some', map_p, map_w, pv_mk, pw_mk, pv_1, pv_2, pw_1, pw_2, pw_3, Option.bind_some, b_X4_isRoom, b_X4_number]
  try rfl
set_option maxRecDepth 100000 in
theorem b_X4_line  : F_X4_line (Kv v μ) = (F_X4_line μ).map (Kv v) := by
  simp only [F_X4_line, ite_bnd, bnd_bnd, k_1, k_aI, k_sI, k_sZ, k_sB, k_uI, k_aL300, k_aL301, k_aL302, k_aL304, k_sL300, k_sL301, k_sL302, k_sL304, map_ite, map_bnd, bnd_map, map_some', map_p, map_w, pv_mk, pw_mk, pv_1, pv_2, pw_1, pw_2, pw_3, Option.bind_some, b_X4_accept, b_X4_fail, b_X4_leaseLine, b_X4_number, b_X4_numbers, b_X4_optionLine, b_X4_peek, b_X4_reachLine, b_X4_rightLine]
  try rfl
set_option maxRecDepth 100000 in
theorem b_X4_begins_2  : ∀ (n : Nat) (x1 : Int32) (μ : Mm), F_X4_begins_2 n x1 (Kv v μ) = (F_X4_begins_2 n x1 μ).map (Kv v) := by
  intro n
  induction n with
  | zero => intros; rfl
  | succ n ih =>
    intros
    simp only [F_X4_begins_2, ite_bnd, bnd_bnd, k_1, k_aI, k_sI, k_sZ, k_sB, k_uI, k_aL300, k_aL301, k_aL302, k_aL304, k_sL300, k_sL301, k_sL302, k_sL304, map_ite, map_bnd, bnd_map, map_some', map_p, map_w, pv_mk, pw_mk, pv_1, pv_2, pw_1, pw_2, pw_3, Option.bind_some, ih]
    try rfl
set_option maxRecDepth 100000 in
theorem b_X4_begins_29  : ∀ (n : Nat) (x1 : Int32) (μ : Mm), F_X4_begins_29 n x1 (Kv v μ) = (F_X4_begins_29 n x1 μ).map (Kv v) := by
  intro n
  induction n with
  | zero => intros; rfl
  | succ n ih =>
    intros
    simp only [F_X4_begins_29, ite_bnd, bnd_bnd, k_1, k_aI, k_sI, k_sZ, k_sB, k_uI, k_aL300, k_aL301, k_aL302, k_aL304, k_sL300, k_sL301, k_sL302, k_sL304, map_ite, map_bnd, bnd_map, map_some', map_p, map_w, pv_mk, pw_mk, pv_1, pv_2, pw_1, pw_2, pw_3, Option.bind_some, ih]
    try rfl
end BLE
