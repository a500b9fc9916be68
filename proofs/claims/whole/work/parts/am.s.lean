/-! ===== the reference does not see cell 311 (3) ===== -/
section BLE
variable {μ : Mm} {v : Int64}
set_option maxRecDepth 100000 in
theorem b_X4_optionBy {p1 : Int32} : F_X4_optionBy p1 (Kv v μ) = F_X4_optionBy p1 μ := by
  simp only [F_X4_optionBy, ite_bnd, bnd_bnd, k_1, k_aI, k_sI, k_sZ, k_sB, k_uI, k_aL300, k_aL301, k_aL302, k_aL304, k_sL300, k_sL301, k_sL302, k_sL304, map_ite, map_bnd, bnd_map, map_some', map_p, map_w, pv_mk, pw_mk, pv_1, pv_2, pw_1, pw_2, pw_3, bsx, b_X4_optionBy_2]
  try rfl
set_option maxRecDepth 100000 in
theorem b_X4_claimsOf_57 {u1 : Int32} : ∀ (n : Nat) (x1 : Int32) (x2 : Int32) (μ : Mm), F_X4_claimsOf_57 u1 n x1 x2 (Kv v μ) = (F_X4_claimsOf_57 u1 n x1 x2 μ).map (Pv v) := by
  intro n
  induction n with
  | zero => intros; rfl
  | succ n ih =>
    intros
    simp only [F_X4_claimsOf_57, ite_bnd, bnd_bnd, k_1, k_aI, k_sI, k_sZ, k_sB, k_uI, k_aL300, k_aL301, k_aL302, k_aL304, k_sL300, k_sL301, k_sL302, k_sL304, map_ite, map_bnd, bnd_map, map_some', map_p, map_w, pv_mk, pw_mk, pv_1, pv_2, pw_1, pw_2, pw_3, bsx, ih, b_X4_leaseOf, b_X4_lesser, b_X4_serves, b_X4_without]
    try rfl
set_option maxRecDepth 100000 in
theorem b_X4_claimsOf {p1 : Int32} : F_X4_claimsOf p1 (Kv v μ) = (F_X4_claimsOf p1 μ).map (Kv v) := by
  simp only [F_X4_claimsOf, ite_bnd, bnd_bnd, k_1, k_aI, k_sI, k_sZ, k_sB, k_uI, k_aL300, k_aL301, k_aL302, k_aL304, k_sL300, k_sL301, k_sL302, k_sL304, map_ite, map_bnd, bnd_map, map_some', map_p, map_w, pv_mk, pw_mk, pv_1, pv_2, pw_1, pw_2, pw_3, bsx, b_X4_claimsOf_57, b_X4_lesser, b_X4_optionBy, b_X4_optionOf, b_X4_rightOf, b_X4_serves, b_X4_without]
  try rfl
set_option maxRecDepth 100000 in
theorem b_X4_endsMonth_26 {u1 : Int32} {u2 : Int32} {u3 : Int32} : ∀ (n : Nat) (x1 : Int32) (μ : Mm), F_X4_endsMonth_26 u1 u2 u3 n x1 (Kv v μ) = (F_X4_endsMonth_26 u1 u2 u3 n x1 μ).map (Kv v) := by
  intro n
  induction n with
  | zero => intros; rfl
  | succ n ih =>
    intros
    simp only [F_X4_endsMonth_26, ite_bnd, bnd_bnd, k_1, k_aI, k_sI, k_sZ, k_sB, k_uI, k_aL300, k_aL301, k_aL302, k_aL304, k_sL300, k_sL301, k_sL302, k_sL304, map_ite, map_bnd, bnd_map, map_some', map_p, map_w, pv_mk, pw_mk, pv_1, pv_2, pw_1, pw_2, pw_3, bsx, ih, b_X4_leaseOf]
    try rfl
set_option maxRecDepth 100000 in
theorem b_X4_endsMonth_4  : ∀ (n : Nat) (x1 : Int32) (x2 : Int32) (μ : Mm), F_X4_endsMonth_4 n x1 x2 (Kv v μ) = (F_X4_endsMonth_4 n x1 x2 μ).map (Pv v) := by
  intro n
  induction n with
  | zero => intros; rfl
  | succ n ih =>
    intros
    simp only [F_X4_endsMonth_4, ite_bnd, bnd_bnd, k_1, k_aI, k_sI, k_sZ, k_sB, k_uI, k_aL300, k_aL301, k_aL302, k_aL304, k_sL300, k_sL301, k_sL302, k_sL304, map_ite, map_bnd, bnd_map, map_some', map_p, map_w, pv_mk, pw_mk, pv_1, pv_2, pw_1, pw_2, pw_3, bsx, ih, b_X4_endsMonth_26, b_X4_leaseOf]
    try rfl
set_option maxRecDepth 100000 in
theorem b_X4_endsMonth_103  : ∀ (n : Nat) (x1 : Int32) (μ : Mm), F_X4_endsMonth_103 n x1 (Kv v μ) = (F_X4_endsMonth_103 n x1 μ).map (Kv v) := by
  intro n
  induction n with
  | zero => intros; rfl
  | succ n ih =>
    intros
    simp only [F_X4_endsMonth_103, ite_bnd, bnd_bnd, k_1, k_aI, k_sI, k_sZ, k_sB, k_uI, k_aL300, k_aL301, k_aL302, k_aL304, k_sL300, k_sL301, k_sL302, k_sL304, map_ite, map_bnd, bnd_map, map_some', map_p, map_w, pv_mk, pw_mk, pv_1, pv_2, pw_1, pw_2, pw_3, bsx, ih]
    try rfl
set_option maxRecDepth 100000 in
theorem b_X4_endsMonth_169  : ∀ (n : Nat) (x1 : Int32) (μ : Mm), F_X4_endsMonth_169 n x1 (Kv v μ) = (F_X4_endsMonth_169 n x1 μ).map (Kv v) := by
  intro n
  induction n with
  | zero => intros; rfl
  | succ n ih =>
    intros
    simp only [F_X4_endsMonth_169, ite_bnd, bnd_bnd, k_1, k_aI, k_sI, k_sZ, k_sB, k_uI, k_aL300, k_aL301, k_aL302, k_aL304, k_sL300, k_sL301, k_sL302, k_sL304, map_ite, map_bnd, bnd_map, map_some', map_p, map_w, pv_mk, pw_mk, pv_1, pv_2, pw_1, pw_2, pw_3, bsx, ih]
    try rfl
set_option maxRecDepth 100000 in
theorem b_X4_endsMonth  : F_X4_endsMonth (Kv v μ) = (F_X4_endsMonth μ).map (Kv v) := by
  simp only [F_X4_endsMonth, ite_bnd, bnd_bnd, k_1, k_aI, k_sI, k_sZ, k_sB, k_uI, k_aL300, k_aL301, k_aL302, k_aL304, k_sL300, k_sL301, k_sL302, k_sL304, map_ite, map_bnd, bnd_map, map_some', map_p, map_w, pv_mk, pw_mk, pv_1, pv_2, pw_1, pw_2, pw_3, bsx, b_X4_endsMonth_103, b_X4_endsMonth_169, b_X4_endsMonth_4]
  try rfl
set_option maxRecDepth 100000 in
theorem b_X4_claimOf {p1 : Int32} {p2 : Int32} : F_X4_claimOf p1 p2 (Kv v μ) = F_X4_claimOf p1 p2 μ := by
  simp only [F_X4_claimOf, ite_bnd, bnd_bnd, k_1, k_aI, k_sI, k_sZ, k_sB, k_uI, k_aL300, k_aL301, k_aL302, k_aL304, k_sL300, k_sL301, k_sL302, k_sL304, map_ite, map_bnd, bnd_map, map_some', map_p, map_w, pv_mk, pw_mk, pv_1, pv_2, pw_1, pw_2, pw_3, bsx]
  try rfl
set_option maxRecDepth 100000 in
theorem b_X4_outflowNow  : F_X4_outflowNow (Kv v μ) = F_X4_outflowNow μ := by
  simp only [F_X4_outflowNow, ite_bnd, bnd_bnd, k_1, k_aI, k_sI, k_sZ, k_sB, k_uI, k_aL300, k_aL301, k_aL302, k_aL304, k_sL300, k_sL301, k_sL302, k_sL304, map_ite, map_bnd, bnd_map, map_some', map_p, map_w, pv_mk, pw_mk, pv_1, pv_2, pw_1, pw_2, pw_3, bsx, b_X4_gaugeOf]
  try rfl
set_option maxRecDepth 100000 in
theorem b_X4_calledNow_4  : ∀ (n : Nat) (x1 : Int32) (x2 : Int32), F_X4_calledNow_4 (Kv v μ) n x1 x2 = F_X4_calledNow_4 μ n x1 x2 := by
  intro n
  induction n with
  | zero => intros; rfl
  | succ n ih =>
    intros
    simp only [F_X4_calledNow_4, ite_bnd, bnd_bnd, k_1, k_aI, k_sI, k_sZ, k_sB, k_uI, k_aL300, k_aL301, k_aL302, k_aL304, k_sL300, k_sL301, k_sL302, k_sL304, map_ite, map_bnd, bnd_map, map_some', map_p, map_w, pv_mk, pw_mk, pv_1, pv_2, pw_1, pw_2, pw_3, bsx, ih, b_X4_claimOf, b_X4_rightOf]
    try rfl
set_option maxRecDepth 100000 in
theorem b_X4_calledNow  : F_X4_calledNow (Kv v μ) = F_X4_calledNow μ := by
  simp only [F_X4_calledNow, ite_bnd, bnd_bnd, k_1, k_aI, k_sI, k_sZ, k_sB, k_uI, k_aL300, k_aL301, k_aL302, k_aL304, k_sL300, k_sL301, k_sL302, k_sL304, map_ite, map_bnd, bnd_map, map_some', map_p, map_w, pv_mk, pw_mk, pv_1, pv_2, pw_1, pw_2, pw_3, bsx, b_X4_calledNow_4]
  try rfl
set_option maxRecDepth 100000 in
theorem b_X4_remembers_4 {u1 : Int32} : ∀ (n : Nat) (x1 : Int32) (μ : Mm), F_X4_remembers_4 u1 n x1 (Kv v μ) = (F_X4_remembers_4 u1 n x1 μ).map (Kv v) := by
  intro n
  induction n with
  | zero => intros; rfl
  | succ n ih =>
    intros
    simp only [F_X4_remembers_4, ite_bnd, bnd_bnd, k_1, k_aI, k_sI, k_sZ, k_sB, k_uI, k_aL300, k_aL301, k_aL302, k_aL304, k_sL300, k_sL301, k_sL302, k_sL304, map_ite, map_bnd, bnd_map, map_some', map_p, map_w, pv_mk, pw_mk, pv_1, pv_2, pw_1, pw_2, pw_3, bsx, ih]
    try rfl
set_option maxRecDepth 100000 in
theorem b_X4_remembers {p1 : Int32} : F_X4_remembers p1 (Kv v μ) = (F_X4_remembers p1 μ).map (Kv v) := by
  simp only [F_X4_remembers, ite_bnd, bnd_bnd, k_1, k_aI, k_sI, k_sZ, k_sB, k_uI, k_aL300, k_aL301, k_aL302, k_aL304, k_sL300, k_sL301, k_sL302, k_sL304, map_ite, map_bnd, bnd_map, map_some', map_p, map_w, pv_mk, pw_mk, pv_1, pv_2, pw_1, pw_2, pw_3, bsx, b_X4_calledNow, b_X4_lesser, b_X4_outflowNow, b_X4_remembers_4]
  try rfl
set_option maxRecDepth 100000 in
theorem b_X4_month_14  : ∀ (n : Nat) (x1 : Int32) (μ : Mm), F_X4_month_14 n x1 (Kv v μ) = (F_X4_month_14 n x1 μ).map (Kv v) := by
  intro n
  induction n with
  | zero => intros; rfl
  | succ n ih =>
    intros
    simp only [F_X4_month_14, ite_bnd, bnd_bnd, k_1, k_aI, k_sI, k_sZ, k_sB, k_uI, k_aL300, k_aL301, k_aL302, k_aL304, k_sL300, k_sL301, k_sL302, k_sL304, map_ite, map_bnd, bnd_map, map_some', map_p, map_w, pv_mk, pw_mk, pv_1, pv_2, pw_1, pw_2, pw_3, bsx, ih, b_X4_optionOf, b_X4_pays, b_X4_rightOf]
    try rfl
set_option maxRecDepth 100000 in
theorem b_X4_month_72  : ∀ (n : Nat) (x1 : Int32) (μ : Mm), F_X4_month_72 n x1 (Kv v μ) = (F_X4_month_72 n x1 μ).map (Kv v) := by
  intro n
  induction n with
  | zero => intros; rfl
  | succ n ih =>
    intros
    simp only [F_X4_month_72, ite_bnd, bnd_bnd, k_1, k_aI, k_sI, k_sZ, k_sB, k_uI, k_aL300, k_aL301, k_aL302, k_aL304, k_sL300, k_sL301, k_sL302, k_sL304, map_ite, map_bnd, bnd_map, map_some', map_p, map_w, pv_mk, pw_mk, pv_1, pv_2, pw_1, pw_2, pw_3, bsx, ih, b_X4_claimsOf, b_X4_seniorAt]
    try rfl
set_option maxRecDepth 100000 in
theorem b_X4_month_99  : ∀ (n : Nat) (x1 : Int32) (μ : Mm), F_X4_month_99 n x1 (Kv v μ) = (F_X4_month_99 n x1 μ).map (Kv v) := by
  intro n
  induction n with
  | zero => intros; rfl
  | succ n ih =>
    intros
    simp only [F_X4_month_99, ite_bnd, bnd_bnd, k_1, k_aI, k_sI, k_sZ, k_sB, k_uI, k_aL300, k_aL301, k_aL302, k_aL304, k_sL300, k_sL301, k_sL302, k_sL304, map_ite, map_bnd, bnd_map, map_some', map_p, map_w, pv_mk, pw_mk, pv_1, pv_2, pw_1, pw_2, pw_3, bsx, ih, b_X4_rightAt]
    try rfl
set_option maxRecDepth 100000 in
theorem b_X4_month_151  : ∀ (n : Nat) (x1 : Int32) (x2 : Int32), F_X4_month_151 (Kv v μ) n x1 x2 = F_X4_month_151 μ n x1 x2 := by
  intro n
  induction n with
  | zero => intros; rfl
  | succ n ih =>
    intros
    simp only [F_X4_month_151, ite_bnd, bnd_bnd, k_1, k_aI, k_sI, k_sZ, k_sB, k_uI, k_aL300, k_aL301, k_aL302, k_aL304, k_sL300, k_sL301, k_sL302, k_sL304, map_ite, map_bnd, bnd_map, map_some', map_p, map_w, pv_mk, pw_mk, pv_1, pv_2, pw_1, pw_2, pw_3, bsx, ih, b_X4_claimOf]
    try rfl
set_option maxRecDepth 100000 in
theorem b_X4_month  : F_X4_month (Kv v μ) = (F_X4_month μ).map (Pv v) := by
  simp only [F_X4_month, ite_bnd, bnd_bnd, k_1, k_aI, k_sI, k_sZ, k_sB, k_uI, k_aL300, k_aL301, k_aL302, k_aL304, k_sL300, k_sL301, k_sL302, k_sL304, map_ite, map_bnd, bnd_map, map_some', map_p, map_w, pv_mk, pw_mk, pv_1, pv_2, pw_1, pw_2, pw_3, bsx, b_X4_endsMonth, b_X4_laysFlows, b_X4_month_14, b_X4_month_151, b_X4_month_72, b_X4_month_99, b_X4_remembers]
  try rfl
set_option maxRecDepth 100000 in
theorem b_X4_claims  : F_X4_claims (Kv v μ) = (F_X4_claims μ).map (Pv v) := by
  simp only [F_X4_claims, ite_bnd, bnd_bnd, k_1, k_aI, k_sI, k_sZ, k_sB, k_uI, k_aL300, k_aL301, k_aL302, k_aL304, k_sL300, k_sL301, k_sL302, k_sL304, map_ite, map_bnd, bnd_map, map_some', map_p, map_w, pv_mk, pw_mk, pv_1, pv_2, pw_1, pw_2, pw_3, bsx]
  try rfl
set_option maxRecDepth 100000 in
theorem b_X4_claim {p1 : Int32} {p2 : Int32} : F_X4_claim p1 p2 (Kv v μ) = (F_X4_claim p1 p2 μ).map (Pv v) := by
  simp only [F_X4_claim, ite_bnd, bnd_bnd, k_1, k_aI, k_sI, k_sZ, k_sB, k_uI, k_aL300, k_aL301, k_aL302, k_aL304, k_sL300, k_sL301, k_sL302, k_sL304, map_ite, map_bnd, bnd_map, map_some', map_p, map_w, pv_mk, pw_mk, pv_1, pv_2, pw_1, pw_2, pw_3, bsx, b_X4_claimOf, b_X4_inRange]
  try rfl
set_option maxRecDepth 100000 in
theorem b_X4_gauge {p1 : Int32} {p2 : Int32} : F_X4_gauge p1 p2 (Kv v μ) = (F_X4_gauge p1 p2 μ).map (Pv v) := by
  simp only [F_X4_gauge, ite_bnd, bnd_bnd, k_1, k_aI, k_sI, k_sZ, k_sB, k_uI, k_aL300, k_aL301, k_aL302, k_aL304, k_sL300, k_sL301, k_sL302, k_sL304, map_ite, map_bnd, bnd_map, map_some', map_p, map_w, pv_mk, pw_mk, pv_1, pv_2, pw_1, pw_2, pw_3, bsx, b_X4_gaugeOf, b_X4_inRange, b_X4_isReach]
  try rfl
set_option maxRecDepth 100000 in
theorem b_X4_call  : F_X4_call (Kv v μ) = (F_X4_call μ).map (Pv v) := by
  simp only [F_X4_call, ite_bnd, bnd_bnd, k_1, k_aI, k_sI, k_sZ, k_sB, k_uI, k_aL300, k_aL301, k_aL302, k_aL304, k_sL300, k_sL301, k_sL302, k_sL304, map_ite, map_bnd, bnd_map, map_some', map_p, map_w, pv_mk, pw_mk, pv_1, pv_2, pw_1, pw_2, pw_3, bsx]
  try rfl
set_option maxRecDepth 100000 in
theorem b_X4_history {p1 : Int32} {p2 : Int32} : F_X4_history p1 p2 (Kv v μ) = (F_X4_history p1 p2 μ).map (Pv v) := by
  simp only [F_X4_history, ite_bnd, bnd_bnd, k_1, k_aI, k_sI, k_sZ, k_sB, k_uI, k_aL300, k_aL301, k_aL302, k_aL304, k_sL300, k_sL301, k_sL302, k_sL304, map_ite, map_bnd, bnd_map, map_some', map_p, map_w, pv_mk, pw_mk, pv_1, pv_2, pw_1, pw_2, pw_3, bsx, b_X4_inRange]
  try rfl
set_option maxRecDepth 100000 in
theorem b_X4_meanGot_9  : ∀ (n : Nat) (x1 : Int32) (x2 : Int32), F_X4_meanGot_9 (Kv v μ) n x1 x2 = F_X4_meanGot_9 μ n x1 x2 := by
  intro n
  induction n with
  | zero => intros; rfl
  | succ n ih =>
    intros
    simp only [F_X4_meanGot_9, ite_bnd, bnd_bnd, k_1, k_aI, k_sI, k_sZ, k_sB, k_uI, k_aL300, k_aL301, k_aL302, k_aL304, k_sL300, k_sL301, k_sL302, k_sL304, map_ite, map_bnd, bnd_map, map_some', map_p, map_w, pv_mk, pw_mk, pv_1, pv_2, pw_1, pw_2, pw_3, bsx, ih]
    try rfl
set_option maxRecDepth 100000 in
theorem b_X4_meanGot  : F_X4_meanGot (Kv v μ) = (F_X4_meanGot μ).map (Pv v) := by
  simp only [F_X4_meanGot, ite_bnd, bnd_bnd, k_1, k_aI, k_sI, k_sZ, k_sB, k_uI, k_aL300, k_aL301, k_aL302, k_aL304, k_sL300, k_sL301, k_sL302, k_sL304, map_ite, map_bnd, bnd_map, map_some', map_p, map_w, pv_mk, pw_mk, pv_1, pv_2, pw_1, pw_2, pw_3, bsx, b_X4_meanGot_9]
  try rfl
set_option maxRecDepth 100000 in
theorem b_X4_dryGauges_9  : ∀ (n : Nat) (x1 : Int32) (x2 : Int32), F_X4_dryGauges_9 (Kv v μ) n x1 x2 = F_X4_dryGauges_9 μ n x1 x2 := by
  intro n
  induction n with
  | zero => intros; rfl
  | succ n ih =>
    intros
    simp only [F_X4_dryGauges_9, ite_bnd, bnd_bnd, k_1, k_aI, k_sI, k_sZ, k_sB, k_uI, k_aL300, k_aL301, k_aL302, k_aL304, k_sL300, k_sL301, k_sL302, k_sL304, map_ite, map_bnd, bnd_map, map_some', map_p, map_w, pv_mk, pw_mk, pv_1, pv_2, pw_1, pw_2, pw_3, bsx, ih, b_X4_gaugeOf]
    try rfl
set_option maxRecDepth 100000 in
theorem b_X4_dryGauges  : F_X4_dryGauges (Kv v μ) = (F_X4_dryGauges μ).map (Pv v) := by
  simp only [F_X4_dryGauges, ite_bnd, bnd_bnd, k_1, k_aI, k_sI, k_sZ, k_sB, k_uI, k_aL300, k_aL301, k_aL302, k_aL304, k_sL300, k_sL301, k_sL302, k_sL304, map_ite, map_bnd, bnd_map, map_some', map_p, map_w, pv_mk, pw_mk, pv_1, pv_2, pw_1, pw_2, pw_3, bsx, b_X4_dryGauges_9]
  try rfl
set_option maxRecDepth 100000 in
theorem b_X4_served_11  : ∀ (n : Nat) (x1 : Int32) (x2 : Int32) (x3 : Int32), F_X4_served_11 (Kv v μ) n x1 x2 x3 = F_X4_served_11 μ n x1 x2 x3 := by
  intro n
  induction n with
  | zero => intros; rfl
  | succ n ih =>
    intros
    simp only [F_X4_served_11, ite_bnd, bnd_bnd, k_1, k_aI, k_sI, k_sZ, k_sB, k_uI, k_aL300, k_aL301, k_aL302, k_aL304, k_sL300, k_sL301, k_sL302, k_sL304, map_ite, map_bnd, bnd_map, map_some', map_p, map_w, pv_mk, pw_mk, pv_1, pv_2, pw_1, pw_2, pw_3, bsx, ih, b_X4_claimOf]
    try rfl
set_option maxRecDepth 100000 in
theorem b_X4_served  : F_X4_served (Kv v μ) = (F_X4_served μ).map (Pv v) := by
  simp only [F_X4_served, ite_bnd, bnd_bnd, k_1, k_aI, k_sI, k_sZ, k_sB, k_uI, k_aL300, k_aL301, k_aL302, k_aL304, k_sL300, k_sL301, k_sL302, k_sL304, map_ite, map_bnd, bnd_map, map_some', map_p, map_w, pv_mk, pw_mk, pv_1, pv_2, pw_1, pw_2, pw_3, bsx, b_X4_served_11]
  try rfl
set_option maxRecDepth 100000 in
theorem b_X4_outflow  : F_X4_outflow (Kv v μ) = (F_X4_outflow μ).map (Pv v) := by
  simp only [F_X4_outflow, ite_bnd, bnd_bnd, k_1, k_aI, k_sI, k_sZ, k_sB, k_uI, k_aL300, k_aL301, k_aL302, k_aL304, k_sL300, k_sL301, k_sL302, k_sL304, map_ite, map_bnd, bnd_map, map_some', map_p, map_w, pv_mk, pw_mk, pv_1, pv_2, pw_1, pw_2, pw_3, bsx, b_X4_outflowNow]
  try rfl
set_option maxRecDepth 100000 in
theorem b_X4_isBalanced_9  : ∀ (n : Nat) (x1 : Int32) (x2 : Int32), F_X4_isBalanced_9 (Kv v μ) n x1 x2 = (F_X4_isBalanced_9 μ n x1 x2).map (Pv v) := by
  intro n
  induction n with
  | zero => intros; rfl
  | succ n ih =>
    intros
    simp only [F_X4_isBalanced_9, ite_bnd, bnd_bnd, k_1, k_aI, k_sI, k_sZ, k_sB, k_uI, k_aL300, k_aL301, k_aL302, k_aL304, k_sL300, k_sL301, k_sL302, k_sL304, map_ite, map_bnd, bnd_map, map_some', map_p, map_w, pv_mk, pw_mk, pv_1, pv_2, pw_1, pw_2, pw_3, bsx, ih, b_X4_gaugeOf]
    try rfl
set_option maxRecDepth 100000 in
theorem b_X4_isBalanced  : F_X4_isBalanced (Kv v μ) = (F_X4_isBalanced μ).map (Pv v) := by
  simp only [F_X4_isBalanced, ite_bnd, bnd_bnd, k_1, k_aI, k_sI, k_sZ, k_sB, k_uI, k_aL300, k_aL301, k_aL302, k_aL304, k_sL300, k_sL301, k_sL302, k_sL304, map_ite, map_bnd, bnd_map, map_some', map_p, map_w, pv_mk, pw_mk, pv_1, pv_2, pw_1, pw_2, pw_3, bsx, b_X4_isBalanced_9]
  try rfl
set_option maxRecDepth 100000 in
theorem b_X4_got {p1 : Int32} : F_X4_got p1 (Kv v μ) = (F_X4_got p1 μ).map (Pv v) := by
  simp only [F_X4_got, ite_bnd, bnd_bnd, k_1, k_aI, k_sI, k_sZ, k_sB, k_uI, k_aL300, k_aL301, k_aL302, k_aL304, k_sL300, k_sL301, k_sL302, k_sL304, map_ite, map_bnd, bnd_map, map_some', map_p, map_w, pv_mk, pw_mk, pv_1, pv_2, pw_1, pw_2, pw_3, bsx, b_X4_isAccount]
  try rfl
set_option maxRecDepth 100000 in
theorem b_X4_earned {p1 : Int32} : F_X4_earned p1 (Kv v μ) = (F_X4_earned p1 μ).map (Pv v) := by
  simp only [F_X4_earned, ite_bnd, bnd_bnd, k_1, k_aI, k_sI, k_sZ, k_sB, k_uI, k_aL300, k_aL301, k_aL302, k_aL304, k_sL300, k_sL301, k_sL302, k_sL304, map_ite, map_bnd, bnd_map, map_some', map_p, map_w, pv_mk, pw_mk, pv_1, pv_2, pw_1, pw_2, pw_3, bsx, b_X4_isRight]
  try rfl
set_option maxRecDepth 100000 in
theorem b_X4_bankedInAll  : F_X4_bankedInAll (Kv v μ) = (F_X4_bankedInAll μ).map (Pv v) := by
  simp only [F_X4_bankedInAll, ite_bnd, bnd_bnd, k_1, k_aI, k_sI, k_sZ, k_sB, k_uI, k_aL300, k_aL301, k_aL302, k_aL304, k_sL300, k_sL301, k_sL302, k_sL304, map_ite, map_bnd, bnd_map, map_some', map_p, map_w, pv_mk, pw_mk, pv_1, pv_2, pw_1, pw_2, pw_3, bsx]
  try rfl
set_option maxRecDepth 100000 in
theorem b_X4_lostInAll  : F_X4_lostInAll (Kv v μ) = (F_X4_lostInAll μ).map (Pv v) := by
  simp only [F_X4_lostInAll, ite_bnd, bnd_bnd, k_1, k_aI, k_sI, k_sZ, k_sB, k_uI, k_aL300, k_aL301, k_aL302, k_aL304, k_sL300, k_sL301, k_sL302, k_sL304, map_ite, map_bnd, bnd_map, map_some', map_p, map_w, pv_mk, pw_mk, pv_1, pv_2, pw_1, pw_2, pw_3, bsx]
  try rfl
set_option maxRecDepth 100000 in
theorem b_X4_releasedInAll  : F_X4_releasedInAll (Kv v μ) = (F_X4_releasedInAll μ).map (Pv v) := by
  simp only [F_X4_releasedInAll, ite_bnd, bnd_bnd, k_1, k_aI, k_sI, k_sZ, k_sB, k_uI, k_aL300, k_aL301, k_aL302, k_aL304, k_sL300, k_sL301, k_sL302, k_sL304, map_ite, map_bnd, bnd_map, map_some', map_p, map_w, pv_mk, pw_mk, pv_1, pv_2, pw_1, pw_2, pw_3, bsx]
  try rfl
set_option maxRecDepth 100000 in
theorem b_X4_areAccountsRight_12  : ∀ (n : Nat) (x1 : Int32) (x2 : Int64) (x3 : Int32), F_X4_areAccountsRight_12 (Kv v μ) n x1 x2 x3 = F_X4_areAccountsRight_12 μ n x1 x2 x3 := by
  intro n
  induction n with
  | zero => intros; rfl
  | succ n ih =>
    intros
    simp only [F_X4_areAccountsRight_12, ite_bnd, bnd_bnd, k_1, k_aI, k_sI, k_sZ, k_sB, k_uI, k_aL300, k_aL301, k_aL302, k_aL304, k_sL300, k_sL301, k_sL302, k_sL304, map_ite, map_bnd, bnd_map, map_some', map_p, map_w, pv_mk, pw_mk, pv_1, pv_2, pw_1, pw_2, pw_3, bsx, ih]
    try rfl
set_option maxRecDepth 100000 in
theorem b_X4_areAccountsRight  : F_X4_areAccountsRight (Kv v μ) = (F_X4_areAccountsRight μ).map (Pv v) := by
  simp only [F_X4_areAccountsRight, ite_bnd, bnd_bnd, k_1, k_aI, k_sI, k_sZ, k_sB, k_uI, k_aL300, k_aL301, k_aL302, k_aL304, k_sL300, k_sL301, k_sL302, k_sL304, map_ite, map_bnd, bnd_map, map_some', map_p, map_w, pv_mk, pw_mk, pv_1, pv_2, pw_1, pw_2, pw_3, bsx, b_X4_areAccountsRight_12]
  try rfl
end BLE
