/-! ===== the reference does not see cell 311 (4) ===== -/
section BLE
variable {μ : Mm} {v : Int64}
set_option maxRecDepth 100000 in
theorem b_X4_richest_9  : ∀ (n : Nat) (x1 : Int32) (x2 : Int32), F_X4_richest_9 (Kv v μ) n x1 x2 = F_X4_richest_9 μ n x1 x2 := by
  intro n
  induction n with
  | zero => intros; rfl
  | succ n ih =>
    intros
    simp only [F_X4_richest_9, ite_bnd, bnd_bnd, k_1, k_aI, k_sI, k_sZ, k_sB, k_uI, k_aL300, k_aL301, k_aL302, k_aL304, k_sL300, k_sL301, k_sL302, k_sL304, map_ite, map_bnd, bnd_map, map_some', map_p, map_w, pv_mk, pw_mk, pv_1, pv_2, pw_1, pw_2, pw_3, bsx, ih]
    try rfl
set_option maxRecDepth 100000 in
theorem b_X4_richest  : F_X4_richest (Kv v μ) = (F_X4_richest μ).map (Pv v) := by
  simp only [F_X4_richest, ite_bnd, bnd_bnd, k_1, k_aI, k_sI, k_sZ, k_sB, k_uI, k_aL300, k_aL301, k_aL302, k_aL304, k_sL300, k_sL301, k_sL302, k_sL304, map_ite, map_bnd, bnd_map, map_some', map_p, map_w, pv_mk, pw_mk, pv_1, pv_2, pw_1, pw_2, pw_3, bsx, b_X4_richest_9]
  try rfl
set_option maxRecDepth 100000 in
theorem b_X4_putsAside_2  : ∀ (n : Nat) (x1 : Int32) (μ : Mm), F_X4_putsAside_2 n x1 (Kv v μ) = (F_X4_putsAside_2 n x1 μ).map (Kv v) := by
  intro n
  induction n with
  | zero => intros; rfl
  | succ n ih =>
    intros
    simp only [F_X4_putsAside_2, ite_bnd, bnd_bnd, k_1, k_aI, k_sI, k_sZ, k_sB, k_uI, k_aL300, k_aL301, k_aL302, k_aL304, k_sL300, k_sL301, k_sL302, k_sL304, map_ite, map_bnd, bnd_map, map_some', map_p, map_w, pv_mk, pw_mk, pv_1, pv_2, pw_1, pw_2, pw_3, bsx, ih]
    try rfl
set_option maxRecDepth 100000 in
theorem b_X4_putsAside_29  : ∀ (n : Nat) (x1 : Int32) (μ : Mm), F_X4_putsAside_29 n x1 (Kv v μ) = (F_X4_putsAside_29 n x1 μ).map (Kv v) := by
  intro n
  induction n with
  | zero => intros; rfl
  | succ n ih =>
    intros
    simp only [F_X4_putsAside_29, ite_bnd, bnd_bnd, k_1, k_aI, k_sI, k_sZ, k_sB, k_uI, k_aL300, k_aL301, k_aL302, k_aL304, k_sL300, k_sL301, k_sL302, k_sL304, map_ite, map_bnd, bnd_map, map_some', map_p, map_w, pv_mk, pw_mk, pv_1, pv_2, pw_1, pw_2, pw_3, bsx, ih]
    try rfl
set_option maxRecDepth 100000 in
theorem b_X4_putsAside  : F_X4_putsAside (Kv v μ) = (F_X4_putsAside μ).map (Kv v) := by
  simp only [F_X4_putsAside, ite_bnd, bnd_bnd, k_1, k_aI, k_sI, k_sZ, k_sB, k_uI, k_aL300, k_aL301, k_aL302, k_aL304, k_sL300, k_sL301, k_sL302, k_sL304, map_ite, map_bnd, bnd_map, map_some', map_p, map_w, pv_mk, pw_mk, pv_1, pv_2, pw_1, pw_2, pw_3, bsx, b_X4_putsAside_2, b_X4_putsAside_29]
  try rfl
set_option maxRecDepth 100000 in
theorem b_X4_takesBack_2  : ∀ (n : Nat) (x1 : Int32) (μ : Mm), F_X4_takesBack_2 n x1 (Kv v μ) = (F_X4_takesBack_2 n x1 μ).map (Kv v) := by
  intro n
  induction n with
  | zero => intros; rfl
  | succ n ih =>
    intros
    simp only [F_X4_takesBack_2, ite_bnd, bnd_bnd, k_1, k_aI, k_sI, k_sZ, k_sB, k_uI, k_aL300, k_aL301, k_aL302, k_aL304, k_sL300, k_sL301, k_sL302, k_sL304, map_ite, map_bnd, bnd_map, map_some', map_p, map_w, pv_mk, pw_mk, pv_1, pv_2, pw_1, pw_2, pw_3, bsx, ih]
    try rfl
set_option maxRecDepth 100000 in
theorem b_X4_takesBack_29  : ∀ (n : Nat) (x1 : Int32) (μ : Mm), F_X4_takesBack_29 n x1 (Kv v μ) = (F_X4_takesBack_29 n x1 μ).map (Kv v) := by
  intro n
  induction n with
  | zero => intros; rfl
  | succ n ih =>
    intros
    simp only [F_X4_takesBack_29, ite_bnd, bnd_bnd, k_1, k_aI, k_sI, k_sZ, k_sB, k_uI, k_aL300, k_aL301, k_aL302, k_aL304, k_sL300, k_sL301, k_sL302, k_sL304, map_ite, map_bnd, bnd_map, map_some', map_p, map_w, pv_mk, pw_mk, pv_1, pv_2, pw_1, pw_2, pw_3, bsx, ih]
    try rfl
set_option maxRecDepth 100000 in
theorem b_X4_takesBack  : F_X4_takesBack (Kv v μ) = (F_X4_takesBack μ).map (Kv v) := by
  simp only [F_X4_takesBack, ite_bnd, bnd_bnd, k_1, k_aI, k_sI, k_sZ, k_sB, k_uI, k_aL300, k_aL301, k_aL302, k_aL304, k_sL300, k_sL301, k_sL302, k_sL304, map_ite, map_bnd, bnd_map, map_some', map_p, map_w, pv_mk, pw_mk, pv_1, pv_2, pw_1, pw_2, pw_3, bsx, b_X4_takesBack_2, b_X4_takesBack_29]
  try rfl
set_option maxRecDepth 100000 in
theorem b_X4_months_2 {u1 : Int32} : ∀ (n : Nat) (x1 : Int32) (μ : Mm), F_X4_months_2 u1 n x1 (Kv v μ) = (F_X4_months_2 u1 n x1 μ).map (Kv v) := by
  intro n
  induction n with
  | zero => intros; rfl
  | succ n ih =>
    intros
    simp only [F_X4_months_2, ite_bnd, bnd_bnd, k_1, k_aI, k_sI, k_sZ, k_sB, k_uI, k_aL300, k_aL301, k_aL302, k_aL304, k_sL300, k_sL301, k_sL302, k_sL304, map_ite, map_bnd, bnd_map, map_some', map_p, map_w, pv_mk, pw_mk, pv_1, pv_2, pw_1, pw_2, pw_3, bsx, ih, b_X4_month]
    try rfl
set_option maxRecDepth 100000 in
theorem b_X4_months {p1 : Int32} : F_X4_months p1 (Kv v μ) = (F_X4_months p1 μ).map (Kv v) := by
  simp only [F_X4_months, ite_bnd, bnd_bnd, k_1, k_aI, k_sI, k_sZ, k_sB, k_uI, k_aL300, k_aL301, k_aL302, k_aL304, k_sL300, k_sL301, k_sL302, k_sL304, map_ite, map_bnd, bnd_map, map_some', map_p, map_w, pv_mk, pw_mk, pv_1, pv_2, pw_1, pw_2, pw_3, bsx, b_X4_months_2]
  try rfl
set_option maxRecDepth 100000 in
theorem b_X4_grows {p1 : Int32} {p2 : Int32} {p3 : Int32} : F_X4_grows p1 p2 p3 (Kv v μ) = (F_X4_grows p1 p2 p3 μ).map (Pv v) := by
  simp only [F_X4_grows, ite_bnd, bnd_bnd, k_1, k_aI, k_sI, k_sZ, k_sB, k_uI, k_aL300, k_aL301, k_aL302, k_aL304, k_sL300, k_sL301, k_sL302, k_sL304, map_ite, map_bnd, bnd_map, map_some', map_p, map_w, pv_mk, pw_mk, pv_1, pv_2, pw_1, pw_2, pw_3, bsx, b_X4_months, b_X4_putsAside, b_X4_rightOf, b_X4_takesBack]
  try rfl
set_option maxRecDepth 100000 in
theorem b_X4_expected {p1 : Int32} {p2 : Int32} : F_X4_expected p1 p2 (Kv v μ) = (F_X4_expected p1 p2 μ).map (Pv v) := by
  simp only [F_X4_expected, ite_bnd, bnd_bnd, k_1, k_aI, k_sI, k_sZ, k_sB, k_uI, k_aL300, k_aL301, k_aL302, k_aL304, k_sL300, k_sL301, k_sL302, k_sL304, map_ite, map_bnd, bnd_map, map_some', map_p, map_w, pv_mk, pw_mk, pv_1, pv_2, pw_1, pw_2, pw_3, bsx, b_X4_grows, b_X4_isMonths, b_X4_isRight]
  try rfl
set_option maxRecDepth 100000 in
theorem b_X4_cutMonths {p1 : Int32} {p2 : Int32} : F_X4_cutMonths p1 p2 (Kv v μ) = (F_X4_cutMonths p1 p2 μ).map (Pv v) := by
  simp only [F_X4_cutMonths, ite_bnd, bnd_bnd, k_1, k_aI, k_sI, k_sZ, k_sB, k_uI, k_aL300, k_aL301, k_aL302, k_aL304, k_sL300, k_sL301, k_sL302, k_sL304, map_ite, map_bnd, bnd_map, map_some', map_p, map_w, pv_mk, pw_mk, pv_1, pv_2, pw_1, pw_2, pw_3, bsx, b_X4_grows, b_X4_isMonths, b_X4_isRight]
  try rfl
set_option maxRecDepth 100000 in
theorem b_X4_balanceAfter {p1 : Int32} {p2 : Int32} : F_X4_balanceAfter p1 p2 (Kv v μ) = (F_X4_balanceAfter p1 p2 μ).map (Pv v) := by
  simp only [F_X4_balanceAfter, ite_bnd, bnd_bnd, k_1, k_aI, k_sI, k_sZ, k_sB, k_uI, k_aL300, k_aL301, k_aL302, k_aL304, k_sL300, k_sL301, k_sL302, k_sL304, map_ite, map_bnd, bnd_map, map_some', map_p, map_w, pv_mk, pw_mk, pv_1, pv_2, pw_1, pw_2, pw_3, bsx, b_X4_isAccount, b_X4_isMonths, b_X4_months, b_X4_putsAside, b_X4_takesBack]
  try rfl
set_option maxRecDepth 100000 in
theorem b_X4_driestMonth_50 {u1 : Int32} : ∀ (n : Nat) (x1 : Int32) (x2 : Int32) (x3 : Int32) (μ : Mm), F_X4_driestMonth_50 u1 n x1 x2 x3 (Kv v μ) = (F_X4_driestMonth_50 u1 n x1 x2 x3 μ).map (Pv v) := by
  intro n
  induction n with
  | zero => intros; rfl
  | succ n ih =>
    intros
    simp only [F_X4_driestMonth_50, ite_bnd, bnd_bnd, k_1, k_aI, k_sI, k_sZ, k_sB, k_uI, k_aL300, k_aL301, k_aL302, k_aL304, k_sL300, k_sL301, k_sL302, k_sL304, map_ite, map_bnd, bnd_map, map_some', map_p, map_w, pv_mk, pw_mk, pv_1, pv_2, pw_1, pw_2, pw_3, bsx, ih, b_X4_months, b_X4_outflowNow]
    try rfl
set_option maxRecDepth 100000 in
theorem b_X4_driestMonth {p1 : Int32} : F_X4_driestMonth p1 (Kv v μ) = (F_X4_driestMonth p1 μ).map (Pv v) := by
  simp only [F_X4_driestMonth, ite_bnd, bnd_bnd, k_1, k_aI, k_sI, k_sZ, k_sB, k_uI, k_aL300, k_aL301, k_aL302, k_aL304, k_sL300, k_sL301, k_sL302, k_sL304, map_ite, map_bnd, bnd_map, map_some', map_p, map_w, pv_mk, pw_mk, pv_1, pv_2, pw_1, pw_2, pw_3, bsx, b_X4_driestMonth_50, b_X4_isMonths, b_X4_putsAside, b_X4_takesBack]
  try rfl
set_option maxRecDepth 100000 in
theorem b_X4_free_26 {u1 : Int32} : ∀ (n : Nat) (x1 : Int32) (x2 : Int32) (x3 : Int32), F_X4_free_26 u1 (Kv v μ) n x1 x2 x3 = F_X4_free_26 u1 μ n x1 x2 x3 := by
  intro n
  induction n with
  | zero => intros; rfl
  | succ n ih =>
    intros
    simp only [F_X4_free_26, ite_bnd, bnd_bnd, k_1, k_aI, k_sI, k_sZ, k_sB, k_uI, k_aL300, k_aL301, k_aL302, k_aL304, k_sL300, k_sL301, k_sL302, k_sL304, map_ite, map_bnd, bnd_map, map_some', map_p, map_w, pv_mk, pw_mk, pv_1, pv_2, pw_1, pw_2, pw_3, bsx, ih, b_X4_comingTo, b_X4_lesser]
    try rfl
set_option maxRecDepth 100000 in
theorem b_X4_free {p1 : Int32} : F_X4_free p1 (Kv v μ) = (F_X4_free p1 μ).map (Pv v) := by
  simp only [F_X4_free, ite_bnd, bnd_bnd, k_1, k_aI, k_sI, k_sZ, k_sB, k_uI, k_aL300, k_aL301, k_aL302, k_aL304, k_sL300, k_sL301, k_sL302, k_sL304, map_ite, map_bnd, bnd_map, map_some', map_p, map_w, pv_mk, pw_mk, pv_1, pv_2, pw_1, pw_2, pw_3, bsx, b_X4_free_26, b_X4_isReach]
  try rfl
set_option maxRecDepth 100000 in
theorem b_X4_bestReach_44 {u1 : Int32} : ∀ (n : Nat) (x1 : Int32) (x2 : Int32) (μ : Mm), F_X4_bestReach_44 u1 n x1 x2 (Kv v μ) = (F_X4_bestReach_44 u1 n x1 x2 μ).map (Pv v) := by
  intro n
  induction n with
  | zero => intros; rfl
  | succ n ih =>
    intros
    simp only [F_X4_bestReach_44, ite_bnd, bnd_bnd, k_1, k_aI, k_sI, k_sZ, k_sB, k_uI, k_aL300, k_aL301, k_aL302, k_aL304, k_sL300, k_sL301, k_sL302, k_sL304, map_ite, map_bnd, bnd_map, map_some', map_p, map_w, pv_mk, pw_mk, pv_1, pv_2, pw_1, pw_2, pw_3, bsx, ih, b_X4_months, b_X4_rightOf, b_X4_takesBack]
    try rfl
set_option maxRecDepth 100000 in
theorem b_X4_bestReach {p1 : Int32} : F_X4_bestReach p1 (Kv v μ) = (F_X4_bestReach p1 μ).map (Pv v) := by
  simp only [F_X4_bestReach, ite_bnd, bnd_bnd, k_1, k_aI, k_sI, k_sZ, k_sB, k_uI, k_aL300, k_aL301, k_aL302, k_aL304, k_sL300, k_sL301, k_sL302, k_sL304, map_ite, map_bnd, bnd_map, map_some', map_p, map_w, pv_mk, pw_mk, pv_1, pv_2, pw_1, pw_2, pw_3, bsx, b_X4_bestReach_44, b_X4_isRight, b_X4_putsAside]
  try rfl
set_option maxRecDepth 100000 in
theorem b_X4_laysGains_11 {u1 : Int32} : ∀ (n : Nat) (x1 : Int32) (μ : Mm), F_X4_laysGains_11 u1 n x1 (Kv v μ) = (F_X4_laysGains_11 u1 n x1 μ).map (Kv v) := by
  intro n
  induction n with
  | zero => intros; rfl
  | succ n ih =>
    intros
    simp only [F_X4_laysGains_11, ite_bnd, bnd_bnd, k_1, k_aI, k_sI, k_sZ, k_sB, k_uI, k_aL300, k_aL301, k_aL302, k_aL304, k_sL300, k_sL301, k_sL302, k_sL304, map_ite, map_bnd, bnd_map, map_some', map_p, map_w, pv_mk, pw_mk, pv_1, pv_2, pw_1, pw_2, pw_3, bsx, ih, b_X4_rightAt, b_X4_rightOf]
    try rfl
set_option maxRecDepth 100000 in
theorem b_X4_laysGains {p1 : Int32} : F_X4_laysGains p1 (Kv v μ) = (F_X4_laysGains p1 μ).map (Kv v) := by
  simp only [F_X4_laysGains, ite_bnd, bnd_bnd, k_1, k_aI, k_sI, k_sZ, k_sB, k_uI, k_aL300, k_aL301, k_aL302, k_aL304, k_sL300, k_sL301, k_sL302, k_sL304, map_ite, map_bnd, bnd_map, map_some', map_p, map_w, pv_mk, pw_mk, pv_1, pv_2, pw_1, pw_2, pw_3, bsx, b_X4_laysGains_11, b_X4_months, b_X4_putsAside, b_X4_takesBack]
  try rfl
set_option maxRecDepth 100000 in
theorem b_X4_parted_5 {u1 : Int32} {u2 : Int32} : ∀ (n : Nat) (x1 : Int32) (x2 : Int32), F_X4_parted_5 u1 u2 (Kv v μ) n x1 x2 = F_X4_parted_5 u1 u2 μ n x1 x2 := by
  intro n
  induction n with
  | zero => intros; rfl
  | succ n ih =>
    intros
    simp only [F_X4_parted_5, ite_bnd, bnd_bnd, k_1, k_aI, k_sI, k_sZ, k_sB, k_uI, k_aL300, k_aL301, k_aL302, k_aL304, k_sL300, k_sL301, k_sL302, k_sL304, map_ite, map_bnd, bnd_map, map_some', map_p, map_w, pv_mk, pw_mk, pv_1, pv_2, pw_1, pw_2, pw_3, bsx, ih]
    try rfl
set_option maxRecDepth 100000 in
theorem b_X4_parted {p1 : Int32} {p2 : Int32} : F_X4_parted p1 p2 (Kv v μ) = F_X4_parted p1 p2 μ := by
  simp only [F_X4_parted, ite_bnd, bnd_bnd, k_1, k_aI, k_sI, k_sZ, k_sB, k_uI, k_aL300, k_aL301, k_aL302, k_aL304, k_sL300, k_sL301, k_sL302, k_sL304, map_ite, map_bnd, bnd_map, map_some', map_p, map_w, pv_mk, pw_mk, pv_1, pv_2, pw_1, pw_2, pw_3, bsx, b_X4_parted_5]
  try rfl
set_option maxRecDepth 100000 in
theorem b_X4_injured {p1 : Int32} {p2 : Int32} {p3 : Int32} : F_X4_injured p1 p2 p3 (Kv v μ) = (F_X4_injured p1 p2 p3 μ).map (Pv v) := by
  simp only [F_X4_injured, ite_bnd, bnd_bnd, k_1, k_aI, k_sI, k_sZ, k_sB, k_uI, k_aL300, k_aL301, k_aL302, k_aL304, k_sL300, k_sL301, k_sL302, k_sL304, map_ite, map_bnd, bnd_map, map_some', map_p, map_w, pv_mk, pw_mk, pv_1, pv_2, pw_1, pw_2, pw_3, bsx, b_X4_inRange, b_X4_isReach, b_X4_isRight, b_X4_laysGains, b_X4_parted]
  try rfl
set_option maxRecDepth 100000 in
theorem b_X4_blocked {p1 : Int32} : F_X4_blocked p1 (Kv v μ) = (F_X4_blocked p1 μ).map (Pv v) := by
  simp only [F_X4_blocked, ite_bnd, bnd_bnd, k_1, k_aI, k_sI, k_sZ, k_sB, k_uI, k_aL300, k_aL301, k_aL302, k_aL304, k_sL300, k_sL301, k_sL302, k_sL304, map_ite, map_bnd, bnd_map, map_some', map_p, map_w, pv_mk, pw_mk, pv_1, pv_2, pw_1, pw_2, pw_3, bsx, b_X4_isRight, b_X4_laysGains, b_X4_parted]
  try rfl
set_option maxRecDepth 100000 in
theorem b_X4_record_13  : ∀ (n : Nat) (x1 : Int32) (μ : Mm), F_X4_record_13 n x1 (Kv v μ) = (F_X4_record_13 n x1 μ).map (Kv v) := by
  intro n
  induction n with
  | zero => intros; rfl
  | succ n ih =>
    intros
    simp only [F_X4_record_13, ite_bnd, bnd_bnd, k_1, k_aI, k_sI, k_sZ, k_sB, k_uI, k_aL300, k_aL301, k_aL302, k_aL304, k_sL300, k_sL301, k_sL302, k_sL304, map_ite, map_bnd, bnd_map, map_some', map_p, map_w, pv_mk, pw_mk, pv_1, pv_2, pw_1, pw_2, pw_3, bsx, ih]
    try rfl
set_option maxRecDepth 100000 in
theorem b_X4_record_45  : ∀ (n : Nat) (x1 : Int32) (μ : Mm), F_X4_record_45 n x1 (Kv v μ) = (F_X4_record_45 n x1 μ).map (Kv v) := by
  intro n
  induction n with
  | zero => intros; rfl
  | succ n ih =>
    intros
    simp only [F_X4_record_45, ite_bnd, bnd_bnd, k_1, k_aI, k_sI, k_sZ, k_sB, k_uI, k_aL300, k_aL301, k_aL302, k_aL304, k_sL300, k_sL301, k_sL302, k_sL304, map_ite, map_bnd, bnd_map, map_some', map_p, map_w, pv_mk, pw_mk, pv_1, pv_2, pw_1, pw_2, pw_3, bsx, ih]
    try rfl
set_option maxRecDepth 100000 in
theorem b_X4_record_84  : ∀ (n : Nat) (x1 : Int32) (μ : Mm), F_X4_record_84 n x1 (Kv v μ) = (F_X4_record_84 n x1 μ).map (Kv v) := by
  intro n
  induction n with
  | zero => intros; rfl
  | succ n ih =>
    intros
    simp only [F_X4_record_84, ite_bnd, bnd_bnd, k_1, k_aI, k_sI, k_sZ, k_sB, k_uI, k_aL300, k_aL301, k_aL302, k_aL304, k_sL300, k_sL301, k_sL302, k_sL304, map_ite, map_bnd, bnd_map, map_some', map_p, map_w, pv_mk, pw_mk, pv_1, pv_2, pw_1, pw_2, pw_3, bsx, ih]
    try rfl
set_option maxRecDepth 100000 in
theorem b_X4_record_120  : ∀ (n : Nat) (x1 : Int32) (μ : Mm), F_X4_record_120 n x1 (Kv v μ) = (F_X4_record_120 n x1 μ).map (Kv v) := by
  intro n
  induction n with
  | zero => intros; rfl
  | succ n ih =>
    intros
    simp only [F_X4_record_120, ite_bnd, bnd_bnd, k_1, k_aI, k_sI, k_sZ, k_sB, k_uI, k_aL300, k_aL301, k_aL302, k_aL304, k_sL300, k_sL301, k_sL302, k_sL304, map_ite, map_bnd, bnd_map, map_some', map_p, map_w, pv_mk, pw_mk, pv_1, pv_2, pw_1, pw_2, pw_3, bsx, ih]
    try rfl
set_option maxRecDepth 100000 in
theorem b_X4_record  : F_X4_record (Kv v μ) = (F_X4_record μ).map (Kv v) := by
  simp only [F_X4_record, ite_bnd, bnd_bnd, k_1, k_aI, k_sI, k_sZ, k_sB, k_uI, k_aL300, k_aL301, k_aL302, k_aL304, k_sL300, k_sL301, k_sL302, k_sL304, map_ite, map_bnd, bnd_map, map_some', map_p, map_w, pv_mk, pw_mk, pv_1, pv_2, pw_1, pw_2, pw_3, bsx, b_X4_record_120, b_X4_record_13, b_X4_record_45, b_X4_record_84]
  try rfl
set_option maxRecDepth 100000 in
theorem b_X4_run_47 {u1 : Int32} : ∀ (n : Nat) (x1 : Int32) (x2 : Int32) (μ : Mm), F_X4_run_47 u1 n x1 x2 (Kv v μ) = (F_X4_run_47 u1 n x1 x2 μ).map (Pv v) := by
  intro n
  induction n with
  | zero => intros; rfl
  | succ n ih =>
    intros
    simp only [F_X4_run_47, ite_bnd, bnd_bnd, k_1, k_aI, k_sI, k_sZ, k_sB, k_uI, k_aL300, k_aL301, k_aL302, k_aL304, k_sL300, k_sL301, k_sL302, k_sL304, map_ite, map_bnd, bnd_map, map_some', map_p, map_w, pv_mk, pw_mk, pv_1, pv_2, pw_1, pw_2, pw_3, bsx, ih, b_X4_month]
    try rfl
set_option maxRecDepth 100000 in
theorem b_X4_run {p1 : Int32} : F_X4_run p1 (Kv v μ) = (F_X4_run p1 μ).map (Pv v) := by
  simp only [F_X4_run, ite_bnd, bnd_bnd, k_1, k_aI, k_sI, k_sZ, k_sB, k_uI, k_aL300, k_aL301, k_aL302, k_aL304, k_sL300, k_sL301, k_sL302, k_sL304, map_ite, map_bnd, bnd_map, map_some', map_p, map_w, pv_mk, pw_mk, pv_1, pv_2, pw_1, pw_2, pw_3, bsx, b_X4_isMonths, b_X4_record, b_X4_run_47]
  try rfl
set_option maxRecDepth 100000 in
theorem b_X4_lease {p1 : Int32} {p2 : Int32} {p3 : Int32} {p4 : Int32} {p5 : Int32} {p6 : Int32} : F_X4_lease p1 p2 p3 p4 p5 p6 (Kv v μ) = (F_X4_lease p1 p2 p3 p4 p5 p6 μ).map (Pv v) := by
  simp only [F_X4_lease, ite_bnd, bnd_bnd, k_1, k_aI, k_sI, k_sZ, k_sB, k_uI, k_aL300, k_aL301, k_aL302, k_aL304, k_sL300, k_sL301, k_sL302, k_sL304, map_ite, map_bnd, bnd_map, map_some', map_p, map_w, pv_mk, pw_mk, pv_1, pv_2, pw_1, pw_2, pw_3, bsx, b_X4_inRange, b_X4_isAccount, b_X4_isMonths, b_X4_isReach, b_X4_isRight, b_X4_record]
  try rfl
set_option maxRecDepth 100000 in
theorem b_X4_endLease_56 {u2 : Int32} : ∀ (n : Nat) (x1 : Int32) (μ : Mm), F_X4_endLease_56 u2 n x1 (Kv v μ) = (F_X4_endLease_56 u2 n x1 μ).map (Kv v) := by
  intro n
  induction n with
  | zero => intros; rfl
  | succ n ih =>
    intros
    simp only [F_X4_endLease_56, ite_bnd, bnd_bnd, k_1, k_aI, k_sI, k_sZ, k_sB, k_uI, k_aL300, k_aL301, k_aL302, k_aL304, k_sL300, k_sL301, k_sL302, k_sL304, map_ite, map_bnd, bnd_map, map_some', map_p, map_w, pv_mk, pw_mk, pv_1, pv_2, pw_1, pw_2, pw_3, bsx, ih]
    try rfl
set_option maxRecDepth 100000 in
theorem b_X4_endLease {p1 : Int32} : F_X4_endLease p1 (Kv v μ) = (F_X4_endLease p1 μ).map (Pv v) := by
  simp only [F_X4_endLease, ite_bnd, bnd_bnd, k_1, k_aI, k_sI, k_sZ, k_sB, k_uI, k_aL300, k_aL301, k_aL302, k_aL304, k_sL300, k_sL301, k_sL302, k_sL304, map_ite, map_bnd, bnd_map, map_some', map_p, map_w, pv_mk, pw_mk, pv_1, pv_2, pw_1, pw_2, pw_3, bsx, b_X4_endLease_56, b_X4_isLease, b_X4_leaseOf, b_X4_record]
  try rfl
set_option maxRecDepth 100000 in
theorem b_X4_release {p1 : Int32} {p2 : Int32} {p3 : Int32} : F_X4_release p1 p2 p3 (Kv v μ) = (F_X4_release p1 p2 p3 μ).map (Pv v) := by
  simp only [F_X4_release, ite_bnd, bnd_bnd, k_1, k_aI, k_sI, k_sZ, k_sB, k_uI, k_aL300, k_aL301, k_aL302, k_aL304, k_sL300, k_sL301, k_sL302, k_sL304, map_ite, map_bnd, bnd_map, map_some', map_p, map_w, pv_mk, pw_mk, pv_1, pv_2, pw_1, pw_2, pw_3, bsx, b_X4_isAccount, b_X4_isReach, b_X4_record]
  try rfl
set_option maxRecDepth 100000 in
theorem b_X4_sets {p1 : Int32} {p2 : Int32} : F_X4_sets p1 p2 (Kv v μ) = (F_X4_sets p1 p2 μ).map (Pv v) := by
  simp only [F_X4_sets, ite_bnd, bnd_bnd, k_1, k_aI, k_sI, k_sZ, k_sB, k_uI, k_aL300, k_aL301, k_aL302, k_aL304, k_sL300, k_sL301, k_sL302, k_sL304, map_ite, map_bnd, bnd_map, map_some', map_p, map_w, pv_mk, pw_mk, pv_1, pv_2, pw_1, pw_2, pw_3, bsx, b_X4_record]
  try rfl
set_option maxRecDepth 100000 in
theorem b_X4_setKeep {p1 : Int32} {p2 : Int32} : F_X4_setKeep p1 p2 (Kv v μ) = (F_X4_setKeep p1 p2 μ).map (Pv v) := by
  simp only [F_X4_setKeep, ite_bnd, bnd_bnd, k_1, k_aI, k_sI, k_sZ, k_sB, k_uI, k_aL300, k_aL301, k_aL302, k_aL304, k_sL300, k_sL301, k_sL302, k_sL304, map_ite, map_bnd, bnd_map, map_some', map_p, map_w, pv_mk, pw_mk, pv_1, pv_2, pw_1, pw_2, pw_3, bsx, b_X4_inRange, b_X4_isRight, b_X4_rightAt, b_X4_sets]
  try rfl
set_option maxRecDepth 100000 in
theorem b_X4_setMinimum {p1 : Int32} {p2 : Int32} : F_X4_setMinimum p1 p2 (Kv v μ) = (F_X4_setMinimum p1 p2 μ).map (Pv v) := by
  simp only [F_X4_setMinimum, ite_bnd, bnd_bnd, k_1, k_aI, k_sI, k_sZ, k_sB, k_uI, k_aL300, k_aL301, k_aL302, k_aL304, k_sL300, k_sL301, k_sL302, k_sL304, map_ite, map_bnd, bnd_map, map_some', map_p, map_w, pv_mk, pw_mk, pv_1, pv_2, pw_1, pw_2, pw_3, bsx, b_X4_inRange, b_X4_isReach, b_X4_sets]
  try rfl
end BLE
