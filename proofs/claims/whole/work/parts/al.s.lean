/-! ===== the reference does not see cell 311 (2) ===== -/
section BLE
variable {μ : Mm} {v : Int64}
set_option maxRecDepth 100000 in
theorem b_X4_begins  : F_X4_begins (Kv v μ) = (F_X4_begins μ).map (Kv v) := by
  simp only [F_X4_begins, ite_bnd, bnd_bnd, k_1, k_aI, k_sI, k_sZ, k_sB, k_uI, k_aL300, k_aL301, k_aL302, k_aL304, k_sL300, k_sL301, k_sL302, k_sL304, map_ite, map_bnd, bnd_map, map_some', map_p, map_w, pv_mk, pw_mk, pv_1, pv_2, pw_1, pw_2, pw_3, bsx, b_X4_begins_2, b_X4_begins_29]
  try rfl
set_option maxRecDepth 100000 in
theorem b_X4_load_37  : ∀ (n : Nat) (μ : Mm), F_X4_load_37 n (Kv v μ) = (F_X4_load_37 n μ).map (Kv v) := by
  intro n
  induction n with
  | zero => intros; rfl
  | succ n ih =>
    intros
    simp only [F_X4_load_37, ite_bnd, bnd_bnd, k_1, k_aI, k_sI, k_sZ, k_sB, k_uI, k_aL300, k_aL301, k_aL302, k_aL304, k_sL300, k_sL301, k_sL302, k_sL304, map_ite, map_bnd, bnd_map, map_some', map_p, map_w, pv_mk, pw_mk, pv_1, pv_2, pw_1, pw_2, pw_3, bsx, ih, b_X4_fail, b_X4_failed, b_X4_line, b_X4_peek]
    try rfl
set_option maxRecDepth 100000 in
theorem b_X4_load  : F_X4_load (Kv v μ) = (F_X4_load μ).map (Pv v) := by
  simp only [F_X4_load, ite_bnd, bnd_bnd, k_1, k_aI, k_sI, k_sZ, k_sB, k_uI, k_aL300, k_aL301, k_aL302, k_aL304, k_sL300, k_sL301, k_sL302, k_sL304, map_ite, map_bnd, bnd_map, map_some', map_p, map_w, pv_mk, pw_mk, pv_1, pv_2, pw_1, pw_2, pw_3, bsx, b_X4_begins, b_X4_clears, b_X4_failed, b_X4_load_37]
  try rfl
set_option maxRecDepth 100000 in
theorem b_X4_errorOffset  : F_X4_errorOffset (Kv v μ) = (F_X4_errorOffset μ).map (Pv v) := by
  simp only [F_X4_errorOffset, ite_bnd, bnd_bnd, k_1, k_aI, k_sI, k_sZ, k_sB, k_uI, k_aL300, k_aL301, k_aL302, k_aL304, k_sL300, k_sL301, k_sL302, k_sL304, map_ite, map_bnd, bnd_map, map_some', map_p, map_w, pv_mk, pw_mk, pv_1, pv_2, pw_1, pw_2, pw_3, bsx]
  try rfl
set_option maxRecDepth 100000 in
theorem b_X4_errorKind  : F_X4_errorKind (Kv v μ) = (F_X4_errorKind μ).map (Pv v) := by
  simp only [F_X4_errorKind, ite_bnd, bnd_bnd, k_1, k_aI, k_sI, k_sZ, k_sB, k_uI, k_aL300, k_aL301, k_aL302, k_aL304, k_sL300, k_sL301, k_sL302, k_sL304, map_ite, map_bnd, bnd_map, map_some', map_p, map_w, pv_mk, pw_mk, pv_1, pv_2, pw_1, pw_2, pw_3, bsx]
  try rfl
set_option maxRecDepth 100000 in
theorem b_X4_isReach {p1 : Int32} : F_X4_isReach p1 (Kv v μ) = F_X4_isReach p1 μ := by
  simp only [F_X4_isReach, ite_bnd, bnd_bnd, k_1, k_aI, k_sI, k_sZ, k_sB, k_uI, k_aL300, k_aL301, k_aL302, k_aL304, k_sL300, k_sL301, k_sL302, k_sL304, map_ite, map_bnd, bnd_map, map_some', map_p, map_w, pv_mk, pw_mk, pv_1, pv_2, pw_1, pw_2, pw_3, bsx, b_X4_inRange]
  try rfl
set_option maxRecDepth 100000 in
theorem b_X4_isAccount {p1 : Int32} : F_X4_isAccount p1 (Kv v μ) = F_X4_isAccount p1 μ := by
  simp only [F_X4_isAccount, ite_bnd, bnd_bnd, k_1, k_aI, k_sI, k_sZ, k_sB, k_uI, k_aL300, k_aL301, k_aL302, k_aL304, k_sL300, k_sL301, k_sL302, k_sL304, map_ite, map_bnd, bnd_map, map_some', map_p, map_w, pv_mk, pw_mk, pv_1, pv_2, pw_1, pw_2, pw_3, bsx, b_X4_inRange]
  try rfl
set_option maxRecDepth 100000 in
theorem b_X4_isRight {p1 : Int32} : F_X4_isRight p1 (Kv v μ) = F_X4_isRight p1 μ := by
  simp only [F_X4_isRight, ite_bnd, bnd_bnd, k_1, k_aI, k_sI, k_sZ, k_sB, k_uI, k_aL300, k_aL301, k_aL302, k_aL304, k_sL300, k_sL301, k_sL302, k_sL304, map_ite, map_bnd, bnd_map, map_some', map_p, map_w, pv_mk, pw_mk, pv_1, pv_2, pw_1, pw_2, pw_3, bsx, b_X4_inRange]
  try rfl
set_option maxRecDepth 100000 in
theorem b_X4_isLease {p1 : Int32} : F_X4_isLease p1 (Kv v μ) = F_X4_isLease p1 μ := by
  simp only [F_X4_isLease, ite_bnd, bnd_bnd, k_1, k_aI, k_sI, k_sZ, k_sB, k_uI, k_aL300, k_aL301, k_aL302, k_aL304, k_sL300, k_sL301, k_sL302, k_sL304, map_ite, map_bnd, bnd_map, map_some', map_p, map_w, pv_mk, pw_mk, pv_1, pv_2, pw_1, pw_2, pw_3, bsx, b_X4_inRange]
  try rfl
set_option maxRecDepth 100000 in
theorem b_X4_isMonths {p1 : Int32} : F_X4_isMonths p1 (Kv v μ) = F_X4_isMonths p1 μ := by
  simp only [F_X4_isMonths, ite_bnd, bnd_bnd, k_1, k_aI, k_sI, k_sZ, k_sB, k_uI, k_aL300, k_aL301, k_aL302, k_aL304, k_sL300, k_sL301, k_sL302, k_sL304, map_ite, map_bnd, bnd_map, map_some', map_p, map_w, pv_mk, pw_mk, pv_1, pv_2, pw_1, pw_2, pw_3, bsx, b_X4_inRange]
  try rfl
set_option maxRecDepth 100000 in
theorem b_X4_count {p1 : Int32} : F_X4_count p1 (Kv v μ) = (F_X4_count p1 μ).map (Pv v) := by
  simp only [F_X4_count, ite_bnd, bnd_bnd, k_1, k_aI, k_sI, k_sZ, k_sB, k_uI, k_aL300, k_aL301, k_aL302, k_aL304, k_sL300, k_sL301, k_sL302, k_sL304, map_ite, map_bnd, bnd_map, map_some', map_p, map_w, pv_mk, pw_mk, pv_1, pv_2, pw_1, pw_2, pw_3, bsx, b_X4_inRange]
  try rfl
set_option maxRecDepth 100000 in
theorem b_X4_season {p1 : Int32} : F_X4_season p1 (Kv v μ) = (F_X4_season p1 μ).map (Pv v) := by
  simp only [F_X4_season, ite_bnd, bnd_bnd, k_1, k_aI, k_sI, k_sZ, k_sB, k_uI, k_aL300, k_aL301, k_aL302, k_aL304, k_sL300, k_sL301, k_sL302, k_sL304, map_ite, map_bnd, bnd_map, map_some', map_p, map_w, pv_mk, pw_mk, pv_1, pv_2, pw_1, pw_2, pw_3, bsx, b_X4_inRange]
  try rfl
set_option maxRecDepth 100000 in
theorem b_X4_percentOf {p1 : Int32} : F_X4_percentOf p1 (Kv v μ) = F_X4_percentOf p1 μ := by
  simp only [F_X4_percentOf, ite_bnd, bnd_bnd, k_1, k_aI, k_sI, k_sZ, k_sB, k_uI, k_aL300, k_aL301, k_aL302, k_aL304, k_sL300, k_sL301, k_sL302, k_sL304, map_ite, map_bnd, bnd_map, map_some', map_p, map_w, pv_mk, pw_mk, pv_1, pv_2, pw_1, pw_2, pw_3, bsx]
  try rfl
set_option maxRecDepth 100000 in
theorem b_X4_yearPercent {p1 : Int32} : F_X4_yearPercent p1 (Kv v μ) = (F_X4_yearPercent p1 μ).map (Pv v) := by
  simp only [F_X4_yearPercent, ite_bnd, bnd_bnd, k_1, k_aI, k_sI, k_sZ, k_sB, k_uI, k_aL300, k_aL301, k_aL302, k_aL304, k_sL300, k_sL301, k_sL302, k_sL304, map_ite, map_bnd, bnd_map, map_some', map_p, map_w, pv_mk, pw_mk, pv_1, pv_2, pw_1, pw_2, pw_3, bsx, b_X4_percentOf]
  try rfl
set_option maxRecDepth 100000 in
theorem b_X4_reach {p1 : Int32} {p2 : Int32} : F_X4_reach p1 p2 (Kv v μ) = (F_X4_reach p1 p2 μ).map (Pv v) := by
  simp only [F_X4_reach, ite_bnd, bnd_bnd, k_1, k_aI, k_sI, k_sZ, k_sB, k_uI, k_aL300, k_aL301, k_aL302, k_aL304, k_sL300, k_sL301, k_sL302, k_sL304, map_ite, map_bnd, bnd_map, map_some', map_p, map_w, pv_mk, pw_mk, pv_1, pv_2, pw_1, pw_2, pw_3, bsx, b_X4_inRange, b_X4_isReach]
  try rfl
set_option maxRecDepth 100000 in
theorem b_X4_comingTo {p1 : Int32} : F_X4_comingTo p1 (Kv v μ) = F_X4_comingTo p1 μ := by
  simp only [F_X4_comingTo, ite_bnd, bnd_bnd, k_1, k_aI, k_sI, k_sZ, k_sB, k_uI, k_aL300, k_aL301, k_aL302, k_aL304, k_sL300, k_sL301, k_sL302, k_sL304, map_ite, map_bnd, bnd_map, map_some', map_p, map_w, pv_mk, pw_mk, pv_1, pv_2, pw_1, pw_2, pw_3, bsx, b_X4_percentOf]
  try rfl
set_option maxRecDepth 100000 in
theorem b_X4_coming {p1 : Int32} : F_X4_coming p1 (Kv v μ) = (F_X4_coming p1 μ).map (Pv v) := by
  simp only [F_X4_coming, ite_bnd, bnd_bnd, k_1, k_aI, k_sI, k_sZ, k_sB, k_uI, k_aL300, k_aL301, k_aL302, k_aL304, k_sL300, k_sL301, k_sL302, k_sL304, map_ite, map_bnd, bnd_map, map_some', map_p, map_w, pv_mk, pw_mk, pv_1, pv_2, pw_1, pw_2, pw_3, bsx, b_X4_comingTo, b_X4_isReach]
  try rfl
set_option maxRecDepth 100000 in
theorem b_X4_balance {p1 : Int32} : F_X4_balance p1 (Kv v μ) = (F_X4_balance p1 μ).map (Pv v) := by
  simp only [F_X4_balance, ite_bnd, bnd_bnd, k_1, k_aI, k_sI, k_sZ, k_sB, k_uI, k_aL300, k_aL301, k_aL302, k_aL304, k_sL300, k_sL301, k_sL302, k_sL304, map_ite, map_bnd, bnd_map, map_some', map_p, map_w, pv_mk, pw_mk, pv_1, pv_2, pw_1, pw_2, pw_3, bsx, b_X4_isAccount]
  try rfl
set_option maxRecDepth 100000 in
theorem b_X4_bank {p1 : Int32} : F_X4_bank p1 (Kv v μ) = (F_X4_bank p1 μ).map (Pv v) := by
  simp only [F_X4_bank, ite_bnd, bnd_bnd, k_1, k_aI, k_sI, k_sZ, k_sB, k_uI, k_aL300, k_aL301, k_aL302, k_aL304, k_sL300, k_sL301, k_sL302, k_sL304, map_ite, map_bnd, bnd_map, map_some', map_p, map_w, pv_mk, pw_mk, pv_1, pv_2, pw_1, pw_2, pw_3, bsx, b_X4_isAccount]
  try rfl
set_option maxRecDepth 100000 in
theorem b_X4_right {p1 : Int32} {p2 : Int32} : F_X4_right p1 p2 (Kv v μ) = (F_X4_right p1 p2 μ).map (Pv v) := by
  simp only [F_X4_right, ite_bnd, bnd_bnd, k_1, k_aI, k_sI, k_sZ, k_sB, k_uI, k_aL300, k_aL301, k_aL302, k_aL304, k_sL300, k_sL301, k_sL302, k_sL304, map_ite, map_bnd, bnd_map, map_some', map_p, map_w, pv_mk, pw_mk, pv_1, pv_2, pw_1, pw_2, pw_3, bsx, b_X4_inRange, b_X4_isRight, b_X4_rightOf]
  try rfl
set_option maxRecDepth 100000 in
theorem b_X4_seniorAt_17 {u1 : Int32} {u2 : Int32} : ∀ (n : Nat) (x1 : Int32) (x2 : Int32), F_X4_seniorAt_17 u1 u2 (Kv v μ) n x1 x2 = F_X4_seniorAt_17 u1 u2 μ n x1 x2 := by
  intro n
  induction n with
  | zero => intros; rfl
  | succ n ih =>
    intros
    simp only [F_X4_seniorAt_17, ite_bnd, bnd_bnd, k_1, k_aI, k_sI, k_sZ, k_sB, k_uI, k_aL300, k_aL301, k_aL302, k_aL304, k_sL300, k_sL301, k_sL302, k_sL304, map_ite, map_bnd, bnd_map, map_some', map_p, map_w, pv_mk, pw_mk, pv_1, pv_2, pw_1, pw_2, pw_3, bsx, ih, b_X4_rightOf]
    try rfl
set_option maxRecDepth 100000 in
theorem b_X4_seniorAt_2 {u1 : Int32} : ∀ (n : Nat) (x1 : Int32), F_X4_seniorAt_2 u1 (Kv v μ) n x1 = F_X4_seniorAt_2 u1 μ n x1 := by
  intro n
  induction n with
  | zero => intros; rfl
  | succ n ih =>
    intros
    simp only [F_X4_seniorAt_2, ite_bnd, bnd_bnd, k_1, k_aI, k_sI, k_sZ, k_sB, k_uI, k_aL300, k_aL301, k_aL302, k_aL304, k_sL300, k_sL301, k_sL302, k_sL304, map_ite, map_bnd, bnd_map, map_some', map_p, map_w, pv_mk, pw_mk, pv_1, pv_2, pw_1, pw_2, pw_3, bsx, ih, b_X4_seniorAt_17]
    try rfl
set_option maxRecDepth 100000 in
theorem b_X4_seniorAt {p1 : Int32} : F_X4_seniorAt p1 (Kv v μ) = F_X4_seniorAt p1 μ := by
  simp only [F_X4_seniorAt, ite_bnd, bnd_bnd, k_1, k_aI, k_sI, k_sZ, k_sB, k_uI, k_aL300, k_aL301, k_aL302, k_aL304, k_sL300, k_sL301, k_sL302, k_sL304, map_ite, map_bnd, bnd_map, map_some', map_p, map_w, pv_mk, pw_mk, pv_1, pv_2, pw_1, pw_2, pw_3, bsx, b_X4_seniorAt_2]
  try rfl
set_option maxRecDepth 100000 in
theorem b_X4_bySeniority {p1 : Int32} : F_X4_bySeniority p1 (Kv v μ) = (F_X4_bySeniority p1 μ).map (Pv v) := by
  simp only [F_X4_bySeniority, ite_bnd, bnd_bnd, k_1, k_aI, k_sI, k_sZ, k_sB, k_uI, k_aL300, k_aL301, k_aL302, k_aL304, k_sL300, k_sL301, k_sL302, k_sL304, map_ite, map_bnd, bnd_map, map_some', map_p, map_w, pv_mk, pw_mk, pv_1, pv_2, pw_1, pw_2, pw_3, bsx, b_X4_seniorAt]
  try rfl
set_option maxRecDepth 100000 in
theorem b_X4_leaseField {p1 : Int32} {p2 : Int32} : F_X4_leaseField p1 p2 (Kv v μ) = (F_X4_leaseField p1 p2 μ).map (Pv v) := by
  simp only [F_X4_leaseField, ite_bnd, bnd_bnd, k_1, k_aI, k_sI, k_sZ, k_sB, k_uI, k_aL300, k_aL301, k_aL302, k_aL304, k_sL300, k_sL301, k_sL302, k_sL304, map_ite, map_bnd, bnd_map, map_some', map_p, map_w, pv_mk, pw_mk, pv_1, pv_2, pw_1, pw_2, pw_3, bsx, b_X4_inRange, b_X4_isLease, b_X4_leaseOf]
  try rfl
set_option maxRecDepth 100000 in
theorem b_X4_isExercised {p1 : Int32} {p2 : Int32} : F_X4_isExercised p1 p2 (Kv v μ) = F_X4_isExercised p1 p2 μ := by
  simp only [F_X4_isExercised, ite_bnd, bnd_bnd, k_1, k_aI, k_sI, k_sZ, k_sB, k_uI, k_aL300, k_aL301, k_aL302, k_aL304, k_sL300, k_sL301, k_sL302, k_sL304, map_ite, map_bnd, bnd_map, map_some', map_p, map_w, pv_mk, pw_mk, pv_1, pv_2, pw_1, pw_2, pw_3, bsx, b_X4_optionOf, b_X4_percentOf]
  try rfl
set_option maxRecDepth 100000 in
theorem b_X4_optionField {p1 : Int32} {p2 : Int32} : F_X4_optionField p1 p2 (Kv v μ) = (F_X4_optionField p1 p2 μ).map (Pv v) := by
  simp only [F_X4_optionField, ite_bnd, bnd_bnd, k_1, k_aI, k_sI, k_sZ, k_sB, k_uI, k_aL300, k_aL301, k_aL302, k_aL304, k_sL300, k_sL301, k_sL302, k_sL304, map_ite, map_bnd, bnd_map, map_some', map_p, map_w, pv_mk, pw_mk, pv_1, pv_2, pw_1, pw_2, pw_3, bsx, b_X4_inRange, b_X4_isExercised, b_X4_optionOf]
  try rfl
set_option maxRecDepth 100000 in
theorem b_X4_gaugeOf {p1 : Int32} {p2 : Int32} : F_X4_gaugeOf p1 p2 (Kv v μ) = F_X4_gaugeOf p1 p2 μ := by
  simp only [F_X4_gaugeOf, ite_bnd, bnd_bnd, k_1, k_aI, k_sI, k_sZ, k_sB, k_uI, k_aL300, k_aL301, k_aL302, k_aL304, k_sL300, k_sL301, k_sL302, k_sL304, map_ite, map_bnd, bnd_map, map_some', map_p, map_w, pv_mk, pw_mk, pv_1, pv_2, pw_1, pw_2, pw_3, bsx]
  try rfl
set_option maxRecDepth 100000 in
theorem b_X4_laysFlows_4  : ∀ (n : Nat) (x1 : Int32) (x2 : Int32) (μ : Mm), F_X4_laysFlows_4 n x1 x2 (Kv v μ) = (F_X4_laysFlows_4 n x1 x2 μ).map (Kv v) := by
  intro n
  induction n with
  | zero => intros; rfl
  | succ n ih =>
    intros
    simp only [F_X4_laysFlows_4, ite_bnd, bnd_bnd, k_1, k_aI, k_sI, k_sZ, k_sB, k_uI, k_aL300, k_aL301, k_aL302, k_aL304, k_sL300, k_sL301, k_sL302, k_sL304, map_ite, map_bnd, bnd_map, map_some', map_p, map_w, pv_mk, pw_mk, pv_1, pv_2, pw_1, pw_2, pw_3, bsx, ih, b_X4_comingTo]
    try rfl
set_option maxRecDepth 100000 in
theorem b_X4_laysFlows  : F_X4_laysFlows (Kv v μ) = (F_X4_laysFlows μ).map (Kv v) := by
  simp only [F_X4_laysFlows, ite_bnd, bnd_bnd, k_1, k_aI, k_sI, k_sZ, k_sB, k_uI, k_aL300, k_aL301, k_aL302, k_aL304, k_sL300, k_sL301, k_sL302, k_sL304, map_ite, map_bnd, bnd_map, map_some', map_p, map_w, pv_mk, pw_mk, pv_1, pv_2, pw_1, pw_2, pw_3, bsx, b_X4_laysFlows_4]
  try rfl
set_option maxRecDepth 100000 in
theorem b_X4_part {p1 : Int32} {p2 : Int32} : F_X4_part p1 p2 (Kv v μ) = F_X4_part p1 p2 μ := by
  simp only [F_X4_part, ite_bnd, bnd_bnd, k_1, k_aI, k_sI, k_sZ, k_sB, k_uI, k_aL300, k_aL301, k_aL302, k_aL304, k_sL300, k_sL301, k_sL302, k_sL304, map_ite, map_bnd, bnd_map, map_some', map_p, map_w, pv_mk, pw_mk, pv_1, pv_2, pw_1, pw_2, pw_3, bsx]
  try rfl
set_option maxRecDepth 100000 in
theorem b_X4_lowers {p1 : Int32} {p2 : Int32} {p3 : Int32} {p4 : Int32} : F_X4_lowers p1 p2 p3 p4 (Kv v μ) = F_X4_lowers p1 p2 p3 p4 μ := by
  simp only [F_X4_lowers, ite_bnd, bnd_bnd, k_1, k_aI, k_sI, k_sZ, k_sB, k_uI, k_aL300, k_aL301, k_aL302, k_aL304, k_sL300, k_sL301, k_sL302, k_sL304, map_ite, map_bnd, bnd_map, map_some', map_p, map_w, pv_mk, pw_mk, pv_1, pv_2, pw_1, pw_2, pw_3, bsx]
  try rfl
set_option maxRecDepth 100000 in
theorem b_X4_mayGet_3 {u2 : Int32} {u3 : Int32} {u4 : Int32} : ∀ (n : Nat) (x1 : Int32), F_X4_mayGet_3 u2 u3 u4 (Kv v μ) n x1 = F_X4_mayGet_3 u2 u3 u4 μ n x1 := by
  intro n
  induction n with
  | zero => intros; rfl
  | succ n ih =>
    intros
    simp only [F_X4_mayGet_3, ite_bnd, bnd_bnd, k_1, k_aI, k_sI, k_sZ, k_sB, k_uI, k_aL300, k_aL301, k_aL302, k_aL304, k_sL300, k_sL301, k_sL302, k_sL304, map_ite, map_bnd, bnd_map, map_some', map_p, map_w, pv_mk, pw_mk, pv_1, pv_2, pw_1, pw_2, pw_3, bsx, ih, b_X4_lowers]
    try rfl
set_option maxRecDepth 100000 in
theorem b_X4_mayGet {p1 : Int32} {p2 : Int32} {p3 : Int32} {p4 : Int32} : F_X4_mayGet p1 p2 p3 p4 (Kv v μ) = F_X4_mayGet p1 p2 p3 p4 μ := by
  simp only [F_X4_mayGet, ite_bnd, bnd_bnd, k_1, k_aI, k_sI, k_sZ, k_sB, k_uI, k_aL300, k_aL301, k_aL302, k_aL304, k_sL300, k_sL301, k_sL302, k_sL304, map_ite, map_bnd, bnd_map, map_some', map_p, map_w, pv_mk, pw_mk, pv_1, pv_2, pw_1, pw_2, pw_3, bsx, b_X4_mayGet_3]
  try rfl
set_option maxRecDepth 100000 in
theorem b_X4_pays {p1 : Int32} {p2 : Int32} {p3 : Int64} : F_X4_pays p1 p2 p3 (Kv v μ) = (F_X4_pays p1 p2 p3 μ).map (Kv v) := by
  simp only [F_X4_pays, ite_bnd, bnd_bnd, k_1, k_aI, k_sI, k_sZ, k_sB, k_uI, k_aL300, k_aL301, k_aL302, k_aL304, k_sL300, k_sL301, k_sL302, k_sL304, map_ite, map_bnd, bnd_map, map_some', map_p, map_w, pv_mk, pw_mk, pv_1, pv_2, pw_1, pw_2, pw_3, bsx]
  try rfl
set_option maxRecDepth 100000 in
theorem b_X4_serves_45 {u1 : Int32} {u2 : Int32} {u3 : Int32} {u4 : Int32} {u5 : Int32} {u6 : Int32} {u7 : Int32} {u8 : Int32} {u9 : Int32} : ∀ (n : Nat) (x1 : Int32), F_X4_serves_45 u1 u2 u3 u4 u5 u6 u7 u8 u9 (Kv v μ) n x1 = F_X4_serves_45 u1 u2 u3 u4 u5 u6 u7 u8 u9 μ n x1 := by
  intro n
  induction n with
  | zero => intros; rfl
  | succ n ih =>
    intros
    simp only [F_X4_serves_45, ite_bnd, bnd_bnd, k_1, k_aI, k_sI, k_sZ, k_sB, k_uI, k_aL300, k_aL301, k_aL302, k_aL304, k_sL300, k_sL301, k_sL302, k_sL304, map_ite, map_bnd, bnd_map, map_some', map_p, map_w, pv_mk, pw_mk, pv_1, pv_2, pw_1, pw_2, pw_3, bsx, ih, b_X4_mayGet, b_X4_part]
    try rfl
set_option maxRecDepth 100000 in
theorem b_X4_serves_104 {u1 : Int32} {u2 : Int32} {u3 : Int32} {u4 : Int32} {u5 : Int32} {u6 : Int32} {u9 : Int32} {u10 : Int32} {u11 : Int32} {u12 : Int32} : ∀ (n : Nat) (x1 : Int32) (μ : Mm), F_X4_serves_104 u1 u2 u3 u4 u5 u6 u9 u10 u11 u12 n x1 (Kv v μ) = (F_X4_serves_104 u1 u2 u3 u4 u5 u6 u9 u10 u11 u12 n x1 μ).map (Kv v) := by
  intro n
  induction n with
  | zero => intros; rfl
  | succ n ih =>
    intros
    simp only [F_X4_serves_104, ite_bnd, bnd_bnd, k_1, k_aI, k_sI, k_sZ, k_sB, k_uI, k_aL300, k_aL301, k_aL302, k_aL304, k_sL300, k_sL301, k_sL302, k_sL304, map_ite, map_bnd, bnd_map, map_some', map_p, map_w, pv_mk, pw_mk, pv_1, pv_2, pw_1, pw_2, pw_3, bsx, ih, b_X4_lowers]
    try rfl
set_option maxRecDepth 100000 in
theorem b_X4_serves {p1 : Int32} {p2 : Int32} {p3 : Int32} {p4 : Int32} {p5 : Int32} {p6 : Int32} : F_X4_serves p1 p2 p3 p4 p5 p6 (Kv v μ) = (F_X4_serves p1 p2 p3 p4 p5 p6 μ).map (Kv v) := by
  simp only [F_X4_serves, ite_bnd, bnd_bnd, k_1, k_aI, k_sI, k_sZ, k_sB, k_uI, k_aL300, k_aL301, k_aL302, k_aL304, k_sL300, k_sL301, k_sL302, k_sL304, map_ite, map_bnd, bnd_map, map_some', map_p, map_w, pv_mk, pw_mk, pv_1, pv_2, pw_1, pw_2, pw_3, bsx, b_X4_part, b_X4_pays, b_X4_rightAt, b_X4_rightOf, b_X4_serves_104, b_X4_serves_45]
  try rfl
set_option maxRecDepth 100000 in
theorem b_X4_without {p1 : Int32} {p2 : Int32} : F_X4_without p1 p2 (Kv v μ) = F_X4_without p1 p2 μ := by
  simp only [F_X4_without, ite_bnd, bnd_bnd, k_1, k_aI, k_sI, k_sZ, k_sB, k_uI, k_aL300, k_aL301, k_aL302, k_aL304, k_sL300, k_sL301, k_sL302, k_sL304, map_ite, map_bnd, bnd_map, map_some', map_p, map_w, pv_mk, pw_mk, pv_1, pv_2, pw_1, pw_2, pw_3, bsx, b_X4_rightOf]
  try rfl
set_option maxRecDepth 100000 in
theorem b_X4_optionBy_2 {u1 : Int32} : ∀ (n : Nat) (x1 : Int32), F_X4_optionBy_2 u1 (Kv v μ) n x1 = F_X4_optionBy_2 u1 μ n x1 := by
  intro n
  induction n with
  | zero => intros; rfl
  | succ n ih =>
    intros
    simp only [F_X4_optionBy_2, ite_bnd, bnd_bnd, k_1, k_aI, k_sI, k_sZ, k_sB, k_uI, k_aL300, k_aL301, k_aL302, k_aL304, k_sL300, k_sL301, k_sL302, k_sL304, map_ite, map_bnd, bnd_map, map_some', map_p, map_w, pv_mk, pw_mk, pv_1, pv_2, pw_1, pw_2, pw_3, bsx, ih, b_X4_isExercised, b_X4_optionOf]
    try rfl
end BLE
