/-! ===== the reference does not see cell 311 (5) ===== -/
section BLE
variable {μ : Mm} {v : Int64}
set_option maxRecDepth 100000 in
theorem b_X4_transfer {p1 : Int32} {p2 : Int32} {p3 : Int32} : F_X4_transfer p1 p2 p3 (Kv v μ) = (F_X4_transfer p1 p2 p3 μ).map (Pv v) := by
  simp only [F_X4_transfer, ite_bnd, bnd_bnd, k_1, k_aI, k_sI, k_sZ, k_sB, k_uI, k_aL300, k_aL301, k_aL302, k_aL304, k_sL300, k_sL301, k_sL302, k_sL304, map_ite, map_bnd, bnd_map, map_some', map_p, map_w, pv_mk, pw_mk, pv_1, pv_2, pw_1, pw_2, pw_3, bsx, b_X4_inRange, b_X4_isAccount, b_X4_isRight, b_X4_pays, b_X4_rightAt, b_X4_sets]
  try rfl
set_option maxRecDepth 100000 in
theorem b_X4_swap {p1 : Int32} {p2 : Int32} : F_X4_swap p1 p2 (Kv v μ) = (F_X4_swap p1 p2 μ).map (Pv v) := by
  simp only [F_X4_swap, ite_bnd, bnd_bnd, k_1, k_aI, k_sI, k_sZ, k_sB, k_uI, k_aL300, k_aL301, k_aL302, k_aL304, k_sL300, k_sL301, k_sL302, k_sL304, map_ite, map_bnd, bnd_map, map_some', map_p, map_w, pv_mk, pw_mk, pv_1, pv_2, pw_1, pw_2, pw_3, bsx, b_X4_isRight, b_X4_rightAt, b_X4_rightOf, b_X4_sets]
  try rfl
set_option maxRecDepth 100000 in
theorem b_X4_save_43 {u1 : Int32} {u2 : Int32} : ∀ (n : Nat) (x1 : Int32) (μ : Mm), F_X4_save_43 u1 u2 n x1 (Kv v μ) = (F_X4_save_43 u1 u2 n x1 μ).map (Kv v) := by
  intro n
  induction n with
  | zero => intros; rfl
  | succ n ih =>
    intros
    simp only [F_X4_save_43, ite_bnd, bnd_bnd, k_1, k_aI, k_sI, k_sZ, k_sB, k_uI, k_aL300, k_aL301, k_aL302, k_aL304, k_sL300, k_sL301, k_sL302, k_sL304, map_ite, map_bnd, bnd_map, map_some', map_p, map_w, pv_mk, pw_mk, pv_1, pv_2, pw_1, pw_2, pw_3, bsx, ih]
    try rfl
set_option maxRecDepth 100000 in
theorem b_X4_save_76 {u1 : Int32} {u2 : Int32} : ∀ (n : Nat) (x1 : Int32) (μ : Mm), F_X4_save_76 u1 u2 n x1 (Kv v μ) = (F_X4_save_76 u1 u2 n x1 μ).map (Kv v) := by
  intro n
  induction n with
  | zero => intros; rfl
  | succ n ih =>
    intros
    simp only [F_X4_save_76, ite_bnd, bnd_bnd, k_1, k_aI, k_sI, k_sZ, k_sB, k_uI, k_aL300, k_aL301, k_aL302, k_aL304, k_sL300, k_sL301, k_sL302, k_sL304, map_ite, map_bnd, bnd_map, map_some', map_p, map_w, pv_mk, pw_mk, pv_1, pv_2, pw_1, pw_2, pw_3, bsx, ih]
    try rfl
set_option maxRecDepth 100000 in
theorem b_X4_save {p1 : Int32} : F_X4_save p1 (Kv v μ) = (F_X4_save p1 μ).map (Pv v) := by
  simp only [F_X4_save, ite_bnd, bnd_bnd, k_1, k_aI, k_sI, k_sZ, k_sB, k_uI, k_aL300, k_aL301, k_aL302, k_aL304, k_sL300, k_sL301, k_sL302, k_sL304, map_ite, map_bnd, bnd_map, map_some', map_p, map_w, pv_mk, pw_mk, pv_1, pv_2, pw_1, pw_2, pw_3, bsx, b_X4_inRange, b_X4_save_43, b_X4_save_76]
  try rfl
set_option maxRecDepth 100000 in
theorem b_X4_restore_42 {u1 : Int32} : ∀ (n : Nat) (x1 : Int32) (μ : Mm), F_X4_restore_42 u1 n x1 (Kv v μ) = (F_X4_restore_42 u1 n x1 μ).map (Kv v) := by
  intro n
  induction n with
  | zero => intros; rfl
  | succ n ih =>
    intros
    simp only [F_X4_restore_42, ite_bnd, bnd_bnd, k_1, k_aI, k_sI, k_sZ, k_sB, k_uI, k_aL300, k_aL301, k_aL302, k_aL304, k_sL300, k_sL301, k_sL302, k_sL304, map_ite, map_bnd, bnd_map, map_some', map_p, map_w, pv_mk, pw_mk, pv_1, pv_2, pw_1, pw_2, pw_3, bsx, ih]
    try rfl
set_option maxRecDepth 100000 in
theorem b_X4_restore_75 {u1 : Int32} : ∀ (n : Nat) (x1 : Int32) (μ : Mm), F_X4_restore_75 u1 n x1 (Kv v μ) = (F_X4_restore_75 u1 n x1 μ).map (Kv v) := by
  intro n
  induction n with
  | zero => intros; rfl
  | succ n ih =>
    intros
    simp only [F_X4_restore_75, ite_bnd, bnd_bnd, k_1, k_aI, k_sI, k_sZ, k_sB, k_uI, k_aL300, k_aL301, k_aL302, k_aL304, k_sL300, k_sL301, k_sL302, k_sL304, map_ite, map_bnd, bnd_map, map_some', map_p, map_w, pv_mk, pw_mk, pv_1, pv_2, pw_1, pw_2, pw_3, bsx, ih]
    try rfl
set_option maxRecDepth 100000 in
theorem b_X4_restore {p1 : Int32} : F_X4_restore p1 (Kv v μ) = (F_X4_restore p1 μ).map (Pv v) := by
  simp only [F_X4_restore, ite_bnd, bnd_bnd, k_1, k_aI, k_sI, k_sZ, k_sB, k_uI, k_aL300, k_aL301, k_aL302, k_aL304, k_sL300, k_sL301, k_sL302, k_sL304, map_ite, map_bnd, bnd_map, map_some', map_p, map_w, pv_mk, pw_mk, pv_1, pv_2, pw_1, pw_2, pw_3, bsx, b_X4_inRange, b_X4_restore_42, b_X4_restore_75]
  try rfl
set_option maxRecDepth 100000 in
theorem b_X4_undo_26  : ∀ (n : Nat) (x1 : Int32) (μ : Mm), F_X4_undo_26 n x1 (Kv v μ) = (F_X4_undo_26 n x1 μ).map (Kv v) := by
  intro n
  induction n with
  | zero => intros; rfl
  | succ n ih =>
    intros
    simp only [F_X4_undo_26, ite_bnd, bnd_bnd, k_1, k_aI, k_sI, k_sZ, k_sB, k_uI, k_aL300, k_aL301, k_aL302, k_aL304, k_sL300, k_sL301, k_sL302, k_sL304, map_ite, map_bnd, bnd_map, map_some', map_p, map_w, pv_mk, pw_mk, pv_1, pv_2, pw_1, pw_2, pw_3, bsx, ih]
    try rfl
set_option maxRecDepth 100000 in
theorem b_X4_undo_62  : ∀ (n : Nat) (x1 : Int32) (μ : Mm), F_X4_undo_62 n x1 (Kv v μ) = (F_X4_undo_62 n x1 μ).map (Kv v) := by
  intro n
  induction n with
  | zero => intros; rfl
  | succ n ih =>
    intros
    simp only [F_X4_undo_62, ite_bnd, bnd_bnd, k_1, k_aI, k_sI, k_sZ, k_sB, k_uI, k_aL300, k_aL301, k_aL302, k_aL304, k_sL300, k_sL301, k_sL302, k_sL304, map_ite, map_bnd, bnd_map, map_some', map_p, map_w, pv_mk, pw_mk, pv_1, pv_2, pw_1, pw_2, pw_3, bsx, ih]
    try rfl
set_option maxRecDepth 100000 in
theorem b_X4_undo  : F_X4_undo (Kv v μ) = (F_X4_undo μ).map (Pv v) := by
  simp only [F_X4_undo, ite_bnd, bnd_bnd, k_1, k_aI, k_sI, k_sZ, k_sB, k_uI, k_aL300, k_aL301, k_aL302, k_aL304, k_sL300, k_sL301, k_sL302, k_sL304, map_ite, map_bnd, bnd_map, map_some', map_p, map_w, pv_mk, pw_mk, pv_1, pv_2, pw_1, pw_2, pw_3, bsx, b_X4_undo_26, b_X4_undo_62]
  try rfl
set_option maxRecDepth 100000 in
theorem b_X4_undoDepth  : F_X4_undoDepth (Kv v μ) = (F_X4_undoDepth μ).map (Pv v) := by
  simp only [F_X4_undoDepth, ite_bnd, bnd_bnd, k_1, k_aI, k_sI, k_sZ, k_sB, k_uI, k_aL300, k_aL301, k_aL302, k_aL304, k_sL300, k_sL301, k_sL302, k_sL304, map_ite, map_bnd, bnd_map, map_some', map_p, map_w, pv_mk, pw_mk, pv_1, pv_2, pw_1, pw_2, pw_3, bsx]
  try rfl
set_option maxRecDepth 100000 in
theorem b_X4_says {p1 : Int32} : F_X4_says p1 (Kv v μ) = (F_X4_says p1 μ).map (Kv v) := by
  simp only [F_X4_says, ite_bnd, bnd_bnd, k_1, k_aI, k_sI, k_sZ, k_sB, k_uI, k_aL300, k_aL301, k_aL302, k_aL304, k_sL300, k_sL301, k_sL302, k_sL304, map_ite, map_bnd, bnd_map, map_some', map_p, map_w, pv_mk, pw_mk, pv_1, pv_2, pw_1, pw_2, pw_3, bsx]
  try rfl
set_option maxRecDepth 100000 in
theorem b_X4_saysNumber_2 {u1 : Int32} : ∀ (n : Nat) (x1 : Int32), F_X4_saysNumber_2 u1 (Kv v μ) n x1 = F_X4_saysNumber_2 u1 μ n x1 := by
  intro n
  induction n with
  | zero => intros; rfl
  | succ n ih =>
    intros
    simp only [F_X4_saysNumber_2, ite_bnd, bnd_bnd, k_1, k_aI, k_sI, k_sZ, k_sB, k_uI, k_aL300, k_aL301, k_aL302, k_aL304, k_sL300, k_sL301, k_sL302, k_sL304, map_ite, map_bnd, bnd_map, map_some', map_p, map_w, pv_mk, pw_mk, pv_1, pv_2, pw_1, pw_2, pw_3, bsx, ih]
    try rfl
set_option maxRecDepth 100000 in
theorem b_X4_saysNumber_18 {u1 : Int32} : ∀ (n : Nat) (x1 : Int32) (μ : Mm), F_X4_saysNumber_18 u1 n x1 (Kv v μ) = (F_X4_saysNumber_18 u1 n x1 μ).map (Kv v) := by
  intro n
  induction n with
  | zero => intros; rfl
  | succ n ih =>
    intros
    simp only [F_X4_saysNumber_18, ite_bnd, bnd_bnd, k_1, k_aI, k_sI, k_sZ, k_sB, k_uI, k_aL300, k_aL301, k_aL302, k_aL304, k_sL300, k_sL301, k_sL302, k_sL304, map_ite, map_bnd, bnd_map, map_some', map_p, map_w, pv_mk, pw_mk, pv_1, pv_2, pw_1, pw_2, pw_3, bsx, ih, b_X4_says]
    try rfl
set_option maxRecDepth 100000 in
theorem b_X4_saysNumber {p1 : Int32} : F_X4_saysNumber p1 (Kv v μ) = (F_X4_saysNumber p1 μ).map (Kv v) := by
  simp only [F_X4_saysNumber, ite_bnd, bnd_bnd, k_1, k_aI, k_sI, k_sZ, k_sB, k_uI, k_aL300, k_aL301, k_aL302, k_aL304, k_sL300, k_sL301, k_sL302, k_sL304, map_ite, map_bnd, bnd_map, map_some', map_p, map_w, pv_mk, pw_mk, pv_1, pv_2, pw_1, pw_2, pw_3, bsx, b_X4_saysNumber_18, b_X4_saysNumber_2]
  try rfl
set_option maxRecDepth 100000 in
theorem b_X4_formatClaims_12  : ∀ (n : Nat) (x1 : Int32) (μ : Mm), F_X4_formatClaims_12 n x1 (Kv v μ) = (F_X4_formatClaims_12 n x1 μ).map (Kv v) := by
  intro n
  induction n with
  | zero => intros; rfl
  | succ n ih =>
    intros
    simp only [F_X4_formatClaims_12, ite_bnd, bnd_bnd, k_1, k_aI, k_sI, k_sZ, k_sB, k_uI, k_aL300, k_aL301, k_aL302, k_aL304, k_sL300, k_sL301, k_sL302, k_sL304, map_ite, map_bnd, bnd_map, map_some', map_p, map_w, pv_mk, pw_mk, pv_1, pv_2, pw_1, pw_2, pw_3, bsx, ih, b_X4_claimOf, b_X4_says, b_X4_saysNumber]
    try rfl
set_option maxRecDepth 100000 in
theorem b_X4_formatClaims  : F_X4_formatClaims (Kv v μ) = (F_X4_formatClaims μ).map (Pv v) := by
  simp only [F_X4_formatClaims, ite_bnd, bnd_bnd, k_1, k_aI, k_sI, k_sZ, k_sB, k_uI, k_aL300, k_aL301, k_aL302, k_aL304, k_sL300, k_sL301, k_sL302, k_sL304, map_ite, map_bnd, bnd_map, map_some', map_p, map_w, pv_mk, pw_mk, pv_1, pv_2, pw_1, pw_2, pw_3, bsx, b_X4_formatClaims_12]
  try rfl
set_option maxRecDepth 100000 in
theorem b_X4_formatRiver_12  : ∀ (n : Nat) (x1 : Int32) (μ : Mm), F_X4_formatRiver_12 n x1 (Kv v μ) = (F_X4_formatRiver_12 n x1 μ).map (Kv v) := by
  intro n
  induction n with
  | zero => intros; rfl
  | succ n ih =>
    intros
    simp only [F_X4_formatRiver_12, ite_bnd, bnd_bnd, k_1, k_aI, k_sI, k_sZ, k_sB, k_uI, k_aL300, k_aL301, k_aL302, k_aL304, k_sL300, k_sL301, k_sL302, k_sL304, map_ite, map_bnd, bnd_map, map_some', map_p, map_w, pv_mk, pw_mk, pv_1, pv_2, pw_1, pw_2, pw_3, bsx, ih, b_X4_gaugeOf, b_X4_says, b_X4_saysNumber]
    try rfl
set_option maxRecDepth 100000 in
theorem b_X4_formatRiver  : F_X4_formatRiver (Kv v μ) = (F_X4_formatRiver μ).map (Pv v) := by
  simp only [F_X4_formatRiver, ite_bnd, bnd_bnd, k_1, k_aI, k_sI, k_sZ, k_sB, k_uI, k_aL300, k_aL301, k_aL302, k_aL304, k_sL300, k_sL301, k_sL302, k_sL304, map_ite, map_bnd, bnd_map, map_some', map_p, map_w, pv_mk, pw_mk, pv_1, pv_2, pw_1, pw_2, pw_3, bsx, b_X4_formatRiver_12]
  try rfl
set_option maxRecDepth 100000 in
theorem b_X4_formattedByte {p1 : Int32} : F_X4_formattedByte p1 (Kv v μ) = (F_X4_formattedByte p1 μ).map (Pv v) := by
  simp only [F_X4_formattedByte, ite_bnd, bnd_bnd, k_1, k_aI, k_sI, k_sZ, k_sB, k_uI, k_aL300, k_aL301, k_aL302, k_aL304, k_sL300, k_sL301, k_sL302, k_sL304, map_ite, map_bnd, bnd_map, map_some', map_p, map_w, pv_mk, pw_mk, pv_1, pv_2, pw_1, pw_2, pw_3, bsx, b_X4_inRange]
  try rfl
end BLE
