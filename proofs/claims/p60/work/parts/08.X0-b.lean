abbrev rm_X0_readLine : Room := { frames := 8, cells := 0, slots := 0, locals := 259 }
def F_X0_readLine  (μ : Mm) : Option Mm :=
  (F_X0_isWord 0 μ).bind fun o2 =>
  if o2 = 0 then
  ((F_X0_isWord 1 μ).bind fun o7 =>
  if o7 = 0 then
  ((F_X0_isWord 2 μ).bind fun o12 =>
  if o12 = 0 then
  ((F_X0_isWord 3 μ).bind fun o17 =>
  if o17 = 0 then
  ((F_X0_isWord 4 μ).bind fun o22 =>
  if o22 = 0 then
  ((F_X0_isWord 5 μ).bind fun o27 =>
  if o27 = 0 then
  ((F_X0_isWord 8 μ).bind fun o32 =>
  if o32 = 0 then
  ((F_X0_isWord 9 μ).bind fun o37 =>
  if o37 = 0 then
  ((F_X0_fail (1 : Int32) (μ.1 45 6) μ).bind fun o42 =>
  some o42)
  else
  ((F_X0_readOption  μ).bind fun o45 =>
  some o45))
  else
  ((F_X0_readLease  μ).bind fun o48 =>
  some o48))
  else
  ((F_X0_readRight  μ).bind fun o51 =>
  some o51))
  else
  ((F_X0_readAccounts  μ).bind fun o54 =>
  some o54))
  else
  ((F_X0_nextToken  μ).bind fun o57 =>
  (F_X0_takeNumber (0 : Int32) (50 : Int32) o57).bind fun o60 =>
  (some (uI o60.2 47 15 o60.1)).bind fun m63 =>
  some m63))
  else
  ((F_X0_readYears  μ).bind fun o66 =>
  some o66))
  else
  ((F_X0_readSeason  μ).bind fun o69 =>
  some o69))
  else
  ((F_X0_readReach  μ).bind fun o72 =>
  some o72)
set_option maxHeartbeats 4000000 in
set_option maxRecDepth 100000 in
theorem c_X0_readLine {l : Launch} {E : Ev} (hN : 295 ≤ eN E) {μ : Mm} {μ' : Mm} (z0 : F_X0_readLine  μ = some μ') : Ct l E yX0_readLine (Cond.code yX0_readLine cX0_readLine 1 none :: GW) rm_X0_readLine [.ref (eB E + 45)] μ none μ' := by
  refine ct_of (by decide) (Nat.le_of_ble_eq_true rfl) (fun p e s m args below meth c C hr => ?_)
  have C : Cq E p s m args meth c cX0_readLine 1 RX0 := C
  refine gq_lv (lv' := [(0, .ref (eB E + 45))]) rfl ?_
  unfold F_X0_readLine at z0
  refine gq_aload_n C dX0_readLine_0 rfl 0 rfl ?_
  refine gq_ldcS (j := 0) (tx := "reach") C (by decide +kernel) dX0_readLine_1 ?_
  obtain ⟨x3, eo2, z1⟩ := bind_ex z0
  refine gq_V (As := [.ref (eK E 0)]) (rest := []) (j := 3) C (c_X0_isWord hN (by decide) eo2) (qn_l 45 (by decide) hN) (by decide) (by decide) rfl wk_4_143 wk_4_145 ws_X0_isWord wk_1_6 wk_4_146 hd_X0_isWord ⟨(Nat.le_of_ble_eq_true rfl), (Nat.le_of_ble_eq_true rfl)⟩ (Nat.le_of_ble_eq_true rfl) ⟨(Nat.le_of_ble_eq_true rfl), (Nat.le_of_ble_eq_true rfl)⟩ dX0_readLine_3 rfl rfl ?_
  rcases ite_ex z1 with ⟨c4, z5⟩ | ⟨c4, z5⟩
  · refine gq_if_eq_t (tgt := 16) C dX0_readLine_6 (by decide) c4 ?_
    refine gq_aload_n C dX0_readLine_16 rfl 0 rfl ?_
    refine gq_ldcS (j := 1) (tx := "season") C (by decide +kernel) dX0_readLine_17 ?_
    obtain ⟨x8, eo7, z6⟩ := bind_ex z5
    refine gq_V (As := [.ref (eK E 1)]) (rest := []) (j := 3) C (c_X0_isWord hN (by decide) eo7) (qn_l 45 (by decide) hN) (by decide) (by decide) rfl wk_4_143 wk_4_145 ws_X0_isWord wk_1_6 wk_4_146 hd_X0_isWord ⟨(Nat.le_of_ble_eq_true rfl), (Nat.le_of_ble_eq_true rfl)⟩ (Nat.le_of_ble_eq_true rfl) ⟨(Nat.le_of_ble_eq_true rfl), (Nat.le_of_ble_eq_true rfl)⟩ dX0_readLine_19 rfl rfl ?_
    rcases ite_ex z6 with ⟨c9, z10⟩ | ⟨c9, z10⟩
    · refine gq_if_eq_t (tgt := 32) C dX0_readLine_22 (by decide) c9 ?_
      refine gq_aload_n C dX0_readLine_32 rfl 0 rfl ?_
      refine gq_ldcS (j := 2) (tx := "years") C (by decide +kernel) dX0_readLine_33 ?_
      obtain ⟨x13, eo12, z11⟩ := bind_ex z10
      refine gq_V (As := [.ref (eK E 2)]) (rest := []) (j := 3) C (c_X0_isWord hN (by decide) eo12) (qn_l 45 (by decide) hN) (by decide) (by decide) rfl wk_4_143 wk_4_145 ws_X0_isWord wk_1_6 wk_4_146 hd_X0_isWord ⟨(Nat.le_of_ble_eq_true rfl), (Nat.le_of_ble_eq_true rfl)⟩ (Nat.le_of_ble_eq_true rfl) ⟨(Nat.le_of_ble_eq_true rfl), (Nat.le_of_ble_eq_true rfl)⟩ dX0_readLine_35 rfl rfl ?_
      rcases ite_ex z11 with ⟨c14, z15⟩ | ⟨c14, z15⟩
      · refine gq_if_eq_t (tgt := 48) C dX0_readLine_38 (by decide) c14 ?_
        refine gq_aload_n C dX0_readLine_48 rfl 0 rfl ?_
        refine gq_ldcS (j := 3) (tx := "loss") C (by decide +kernel) dX0_readLine_49 ?_
        obtain ⟨x18, eo17, z16⟩ := bind_ex z15
        refine gq_V (As := [.ref (eK E 3)]) (rest := []) (j := 3) C (c_X0_isWord hN (by decide) eo17) (qn_l 45 (by decide) hN) (by decide) (by decide) rfl wk_4_143 wk_4_145 ws_X0_isWord wk_1_6 wk_4_146 hd_X0_isWord ⟨(Nat.le_of_ble_eq_true rfl), (Nat.le_of_ble_eq_true rfl)⟩ (Nat.le_of_ble_eq_true rfl) ⟨(Nat.le_of_ble_eq_true rfl), (Nat.le_of_ble_eq_true rfl)⟩ dX0_readLine_51 rfl rfl ?_
        rcases ite_ex z16 with ⟨c19, z20⟩ | ⟨c19, z20⟩
        · refine gq_if_eq_t (tgt := 78) C dX0_readLine_54 (by decide) c19 ?_
          refine gq_aload_n C dX0_readLine_78 rfl 0 rfl ?_
          refine gq_ldcS (j := 4) (tx := "accounts") C (by decide +kernel) dX0_readLine_79 ?_
          obtain ⟨x23, eo22, z21⟩ := bind_ex z20
          refine gq_V (As := [.ref (eK E 4)]) (rest := []) (j := 3) C (c_X0_isWord hN (by decide) eo22) (qn_l 45 (by decide) hN) (by decide) (by decide) rfl wk_4_143 wk_4_145 ws_X0_isWord wk_1_6 wk_4_146 hd_X0_isWord ⟨(Nat.le_of_ble_eq_true rfl), (Nat.le_of_ble_eq_true rfl)⟩ (Nat.le_of_ble_eq_true rfl) ⟨(Nat.le_of_ble_eq_true rfl), (Nat.le_of_ble_eq_true rfl)⟩ dX0_readLine_81 rfl rfl ?_
          rcases ite_ex z21 with ⟨c24, z25⟩ | ⟨c24, z25⟩
          · refine gq_if_eq_t (tgt := 94) C dX0_readLine_84 (by decide) c24 ?_
            refine gq_aload_n C dX0_readLine_94 rfl 0 rfl ?_
            refine gq_ldcS (j := 5) (tx := "right") C (by decide +kernel) dX0_readLine_95 ?_
            obtain ⟨x28, eo27, z26⟩ := bind_ex z25
            refine gq_V (As := [.ref (eK E 5)]) (rest := []) (j := 3) C (c_X0_isWord hN (by decide) eo27) (qn_l 45 (by decide) hN) (by decide) (by decide) rfl wk_4_143 wk_4_145 ws_X0_isWord wk_1_6 wk_4_146 hd_X0_isWord ⟨(Nat.le_of_ble_eq_true rfl), (Nat.le_of_ble_eq_true rfl)⟩ (Nat.le_of_ble_eq_true rfl) ⟨(Nat.le_of_ble_eq_true rfl), (Nat.le_of_ble_eq_true rfl)⟩ dX0_readLine_97 rfl rfl ?_
            rcases ite_ex z26 with ⟨c29, z30⟩ | ⟨c29, z30⟩
            · refine gq_if_eq_t (tgt := 110) C dX0_readLine_100 (by decide) c29 ?_
              refine gq_aload_n C dX0_readLine_110 rfl 0 rfl ?_
              refine gq_ldcS (j := 8) (tx := "lease") C (by decide +kernel) dX0_readLine_111 ?_
              obtain ⟨x33, eo32, z31⟩ := bind_ex z30
              refine gq_V (As := [.ref (eK E 8)]) (rest := []) (j := 3) C (c_X0_isWord hN (by decide) eo32) (qn_l 45 (by decide) hN) (by decide) (by decide) rfl wk_4_143 wk_4_145 ws_X0_isWord wk_1_6 wk_4_146 hd_X0_isWord ⟨(Nat.le_of_ble_eq_true rfl), (Nat.le_of_ble_eq_true rfl)⟩ (Nat.le_of_ble_eq_true rfl) ⟨(Nat.le_of_ble_eq_true rfl), (Nat.le_of_ble_eq_true rfl)⟩ dX0_readLine_113 rfl rfl ?_
              rcases ite_ex z31 with ⟨c34, z35⟩ | ⟨c34, z35⟩
              · refine gq_if_eq_t (tgt := 126) C dX0_readLine_116 (by decide) c34 ?_
                refine gq_aload_n C dX0_readLine_126 rfl 0 rfl ?_
                refine gq_ldcS (j := 9) (tx := "option") C (by decide +kernel) dX0_readLine_127 ?_
                obtain ⟨x38, eo37, z36⟩ := bind_ex z35
                refine gq_V (As := [.ref (eK E 9)]) (rest := []) (j := 3) C (c_X0_isWord hN (by decide) eo37) (qn_l 45 (by decide) hN) (by decide) (by decide) rfl wk_4_143 wk_4_145 ws_X0_isWord wk_1_6 wk_4_146 hd_X0_isWord ⟨(Nat.le_of_ble_eq_true rfl), (Nat.le_of_ble_eq_true rfl)⟩ (Nat.le_of_ble_eq_true rfl) ⟨(Nat.le_of_ble_eq_true rfl), (Nat.le_of_ble_eq_true rfl)⟩ dX0_readLine_129 rfl rfl ?_
                rcases ite_ex z36 with ⟨c39, z40⟩ | ⟨c39, z40⟩
                · refine gq_if_eq_t (tgt := 142) C dX0_readLine_132 (by decide) c39 ?_
                  refine gq_aload_n C dX0_readLine_142 rfl 0 rfl ?_
                  refine gq_iconst (v := 1) C dX0_readLine_143 (by decide) ?_
                  refine gq_aload_n C dX0_readLine_144 rfl 0 rfl ?_
                  refine gq_get3 C (qn_l 45 (by decide) hN) (by decide) 6 (by decide) wk_3_5 rfl dX0_readLine_145 ?_
                  obtain ⟨m43, eo42, z41⟩ := bind_ex z40
                  refine gq_V (As := [.int (1 : Int32), .int (μ.1 45 6)]) (rest := []) (j := 3) C (c_X0_fail hN  eo42) (qn_l 45 (by decide) hN) (by decide) (by decide) rfl wk_4_157 wk_4_159 ws_X0_fail wk_1_6 wk_4_160 hd_X0_fail ⟨(Nat.le_of_ble_eq_true rfl), (Nat.le_of_ble_eq_true rfl)⟩ (Nat.le_of_ble_eq_true rfl) ⟨(Nat.le_of_ble_eq_true rfl), (Nat.le_of_ble_eq_true rfl)⟩ dX0_readLine_148 rfl rfl ?_
                  cases z41
                  exact gq_vret C hr dX0_readLine_151 (Nat.le_of_ble_eq_true rfl) (Nat.le_of_ble_eq_true rfl)
                · refine gq_if_eq_f (tgt := 142) C dX0_readLine_132 (by decide) c39 ?_
                  refine gq_aload_n C dX0_readLine_135 rfl 0 rfl ?_
                  obtain ⟨m46, eo45, z44⟩ := bind_ex z40
                  refine gq_V (As := []) (rest := []) (j := 3) C (c_X0_readOption hN  eo45) (qn_l 45 (by decide) hN) (by decide) (by decide) rfl wk_4_206 wk_4_208 ws_X0_readOption wk_1_6 wk_4_209 hd_X0_readOption ⟨(Nat.le_of_ble_eq_true rfl), (Nat.le_of_ble_eq_true rfl)⟩ (Nat.le_of_ble_eq_true rfl) ⟨(Nat.le_of_ble_eq_true rfl), (Nat.le_of_ble_eq_true rfl)⟩ dX0_readLine_136 rfl rfl ?_
                  refine gq_goto (tgt := 151) C dX0_readLine_139 (by decide) ?_
                  cases z44
                  exact gq_vret C hr dX0_readLine_151 (Nat.le_of_ble_eq_true rfl) (Nat.le_of_ble_eq_true rfl)
              · refine gq_if_eq_f (tgt := 126) C dX0_readLine_116 (by decide) c34 ?_
                refine gq_aload_n C dX0_readLine_119 rfl 0 rfl ?_
                obtain ⟨m49, eo48, z47⟩ := bind_ex z35
                refine gq_V (As := []) (rest := []) (j := 3) C (c_X0_readLease hN  eo48) (qn_l 45 (by decide) hN) (by decide) (by decide) rfl wk_4_197 wk_4_199 ws_X0_readLease wk_1_6 wk_4_200 hd_X0_readLease ⟨(Nat.le_of_ble_eq_true rfl), (Nat.le_of_ble_eq_true rfl)⟩ (Nat.le_of_ble_eq_true rfl) ⟨(Nat.le_of_ble_eq_true rfl), (Nat.le_of_ble_eq_true rfl)⟩ dX0_readLine_120 rfl rfl ?_
                refine gq_goto (tgt := 151) C dX0_readLine_123 (by decide) ?_
                cases z47
                exact gq_vret C hr dX0_readLine_151 (Nat.le_of_ble_eq_true rfl) (Nat.le_of_ble_eq_true rfl)
            · refine gq_if_eq_f (tgt := 110) C dX0_readLine_100 (by decide) c29 ?_
              refine gq_aload_n C dX0_readLine_103 rfl 0 rfl ?_
              obtain ⟨m52, eo51, z50⟩ := bind_ex z30
              refine gq_V (As := []) (rest := []) (j := 3) C (c_X0_readRight hN  eo51) (qn_l 45 (by decide) hN) (by decide) (by decide) rfl wk_4_185 wk_4_187 ws_X0_readRight wk_1_6 wk_4_188 hd_X0_readRight ⟨(Nat.le_of_ble_eq_true rfl), (Nat.le_of_ble_eq_true rfl)⟩ (Nat.le_of_ble_eq_true rfl) ⟨(Nat.le_of_ble_eq_true rfl), (Nat.le_of_ble_eq_true rfl)⟩ dX0_readLine_104 rfl rfl ?_
              refine gq_goto (tgt := 151) C dX0_readLine_107 (by decide) ?_
              cases z50
              exact gq_vret C hr dX0_readLine_151 (Nat.le_of_ble_eq_true rfl) (Nat.le_of_ble_eq_true rfl)
          · refine gq_if_eq_f (tgt := 94) C dX0_readLine_84 (by decide) c24 ?_
            refine gq_aload_n C dX0_readLine_87 rfl 0 rfl ?_
            obtain ⟨m55, eo54, z53⟩ := bind_ex z25
            refine gq_V (As := []) (rest := []) (j := 3) C (c_X0_readAccounts hN  eo54) (qn_l 45 (by decide) hN) (by decide) (by decide) rfl wk_4_179 wk_4_181 ws_X0_readAccounts wk_1_6 wk_4_182 hd_X0_readAccounts ⟨(Nat.le_of_ble_eq_true rfl), (Nat.le_of_ble_eq_true rfl)⟩ (Nat.le_of_ble_eq_true rfl) ⟨(Nat.le_of_ble_eq_true rfl), (Nat.le_of_ble_eq_true rfl)⟩ dX0_readLine_88 rfl rfl ?_
            refine gq_goto (tgt := 151) C dX0_readLine_91 (by decide) ?_
            cases z53
            exact gq_vret C hr dX0_readLine_151 (Nat.le_of_ble_eq_true rfl) (Nat.le_of_ble_eq_true rfl)
        · refine gq_if_eq_f (tgt := 78) C dX0_readLine_54 (by decide) c19 ?_
          refine gq_aload_n C dX0_readLine_57 rfl 0 rfl ?_
          obtain ⟨m58, eo57, z56⟩ := bind_ex z20
          refine gq_V (As := []) (rest := []) (j := 3) C (c_X0_nextToken hN  eo57) (qn_l 45 (by decide) hN) (by decide) (by decide) rfl wk_4_125 wk_4_127 ws_X0_nextToken wk_1_6 wk_4_128 hd_X0_nextToken ⟨(Nat.le_of_ble_eq_true rfl), (Nat.le_of_ble_eq_true rfl)⟩ (Nat.le_of_ble_eq_true rfl) ⟨(Nat.le_of_ble_eq_true rfl), (Nat.le_of_ble_eq_true rfl)⟩ dX0_readLine_58 rfl rfl ?_
          refine gq_aload_n C dX0_readLine_61 rfl 0 rfl ?_
          refine gq_get3 C (qn_l 45 (by decide) hN) (by decide) 1 (by decide) wk_2_237 rfl dX0_readLine_62 ?_
          refine gq_aload_n C dX0_readLine_65 rfl 0 rfl ?_
          refine gq_iconst (v := 0) C dX0_readLine_66 (by decide) ?_
          refine gq_bipush (v := 50) C dX0_readLine_67 (by decide) ?_
          obtain ⟨⟨x61, m62⟩, eo60, z59⟩ := bind_ex z56
          dsimp only at z59
          refine gq_V (As := [.int (0 : Int32), .int (50 : Int32)]) (rest := [.ref (eB E + 47)]) (j := 3) C (c_X0_takeNumber hN  eo60) (qn_l 45 (by decide) hN) (by decide) (by decide) rfl wk_4_161 wk_4_163 ws_X0_takeNumber wk_1_6 wk_4_164 hd_X0_takeNumber ⟨(Nat.le_of_ble_eq_true rfl), (Nat.le_of_ble_eq_true rfl)⟩ (Nat.le_of_ble_eq_true rfl) ⟨(Nat.le_of_ble_eq_true rfl), (Nat.le_of_ble_eq_true rfl)⟩ dX0_readLine_69 rfl rfl ?_
          obtain ⟨m63, em63, z64⟩ := bind_ex z59
          refine gq_put1_15N C (qn_l 47 (by decide) hN) (by decide) wk_2_184 (Option.some.inj em63).symm dX0_readLine_72 ?_
          refine gq_goto (tgt := 151) C dX0_readLine_75 (by decide) ?_
          cases z64
          exact gq_vret C hr dX0_readLine_151 (Nat.le_of_ble_eq_true rfl) (Nat.le_of_ble_eq_true rfl)
      · refine gq_if_eq_f (tgt := 48) C dX0_readLine_38 (by decide) c14 ?_
        refine gq_aload_n C dX0_readLine_41 rfl 0 rfl ?_
        obtain ⟨m67, eo66, z65⟩ := bind_ex z15
        refine gq_V (As := []) (rest := []) (j := 3) C (c_X0_readYears hN  eo66) (qn_l 45 (by decide) hN) (by decide) (by decide) rfl wk_4_173 wk_4_175 ws_X0_readYears wk_1_6 wk_4_176 hd_X0_readYears ⟨(Nat.le_of_ble_eq_true rfl), (Nat.le_of_ble_eq_true rfl)⟩ (Nat.le_of_ble_eq_true rfl) ⟨(Nat.le_of_ble_eq_true rfl), (Nat.le_of_ble_eq_true rfl)⟩ dX0_readLine_42 rfl rfl ?_
        refine gq_goto (tgt := 151) C dX0_readLine_45 (by decide) ?_
        cases z65
        exact gq_vret C hr dX0_readLine_151 (Nat.le_of_ble_eq_true rfl) (Nat.le_of_ble_eq_true rfl)
    · refine gq_if_eq_f (tgt := 32) C dX0_readLine_22 (by decide) c9 ?_
      refine gq_aload_n C dX0_readLine_25 rfl 0 rfl ?_
      obtain ⟨m70, eo69, z68⟩ := bind_ex z10
      refine gq_V (As := []) (rest := []) (j := 3) C (c_X0_readSeason hN  eo69) (qn_l 45 (by decide) hN) (by decide) (by decide) rfl wk_4_168 wk_4_170 ws_X0_readSeason wk_1_6 wk_4_171 hd_X0_readSeason ⟨(Nat.le_of_ble_eq_true rfl), (Nat.le_of_ble_eq_true rfl)⟩ (Nat.le_of_ble_eq_true rfl) ⟨(Nat.le_of_ble_eq_true rfl), (Nat.le_of_ble_eq_true rfl)⟩ dX0_readLine_26 rfl rfl ?_
      refine gq_goto (tgt := 151) C dX0_readLine_29 (by decide) ?_
      cases z68
      exact gq_vret C hr dX0_readLine_151 (Nat.le_of_ble_eq_true rfl) (Nat.le_of_ble_eq_true rfl)
  · refine gq_if_eq_f (tgt := 16) C dX0_readLine_6 (by decide) c4 ?_
    refine gq_aload_n C dX0_readLine_9 rfl 0 rfl ?_
    obtain ⟨m73, eo72, z71⟩ := bind_ex z5
    refine gq_V (As := []) (rest := []) (j := 3) C (c_X0_readReach hN  eo72) (qn_l 45 (by decide) hN) (by decide) (by decide) rfl wk_4_149 wk_4_151 ws_X0_readReach wk_1_6 wk_4_152 hd_X0_readReach ⟨(Nat.le_of_ble_eq_true rfl), (Nat.le_of_ble_eq_true rfl)⟩ (Nat.le_of_ble_eq_true rfl) ⟨(Nat.le_of_ble_eq_true rfl), (Nat.le_of_ble_eq_true rfl)⟩ dX0_readLine_10 rfl rfl ?_
    refine gq_goto (tgt := 151) C dX0_readLine_13 (by decide) ?_
    cases z71
    exact gq_vret C hr dX0_readLine_151 (Nat.le_of_ble_eq_true rfl) (Nat.le_of_ble_eq_true rfl)
abbrev rm_X0_readText : Room := { frames := 9, cells := 0, slots := 0, locals := 279 }
def F_X0_readText_28  : Nat → Int32 → Mm → Option Mm
  | 0, _, _ => none
  | n + 1, v1, μ =>
  if (μ.1 45 2) ≤ v1 then
  (some μ)
  else
  (if (μ.1 45 5) = 0 then
  (some μ)
  else
  (if (μ.1 45 4) = 0 then
  ((F_X0_readLine  μ).bind fun o20 =>
  (if (o20.1 45 5) = (3 : Int32) then
  (some o20)
  else
  ((F_X0_fail (1 : Int32) (o20.1 45 6) o20).bind fun o28 =>
  some o28)).bind fun o30 =>
  (F_X0_nextToken  o30).bind fun o32 =>
  F_X0_readText_28 n (v1 + 1) o32)
  else
  (some μ)))
def F_X0_readText  (μ : Mm) : Option (Int32 × Mm) :=
  (some (uI μ 45 3 (-1 : Int32))).bind fun m1 =>
  (some (uI m1 45 4 (0 : Int32))).bind fun m3 =>
  (some (uI m3 45 7 (0 : Int32))).bind fun m5 =>
  (F_X1_makeEmpty 47 m5).bind fun o8 =>
  (F_X0_nextToken  o8).bind fun o11 =>
  (F_X0_readText_28 qFuel (0 : Int32) o11).bind fun o35 =>
  (F_X1_rankRights 47 o35).bind fun o38 =>
  if (o38.1 45 4) = 0 then
  (some ((1 : Int32), o38))
  else
  (some ((0 : Int32), o38))
set_option maxHeartbeats 4000000 in
set_option maxRecDepth 100000 in
theorem l_X0_readText_28 {l : Launch} {E : Ev} (hN : 295 ≤ eN E) {p : Program} {e : Env} {s : State} {m : MethodId} {args : Array Value} {below : List Frame} {meth : Method} {c : Code} (C : Cq E p s m args meth c cX0_readText 2 RX0) {Q : State → Prop} : ∀ (n : Nat) (v1 : Int32) (μ : Mm) (μx : Mm), F_X0_readText_28 n v1 μ = some μx → Gq E p l e rm_X0_readText s m args below meth c 0 0 2 Q 81 [(0, .ref (eB E + 45))] [] μx → Gq E p l e rm_X0_readText s m args below meth c 0 0 2 Q 28 [(0, .ref (eB E + 45)), (1, .int v1)] [] μ := by
  intro n
  induction n with
  | zero =>
    intro v1 μ μx z0 kk
    rw [F_X0_readText_28] at z0
    cases z0
  | succ n ih =>
    intro v1 μ μx z0 kk
    rw [F_X0_readText_28] at z0
    refine gq_iload_n C dX0_readText_28 rfl 1 rfl ?_
    refine gq_aload_n C dX0_readText_29 rfl 0 rfl ?_
    refine gq_get3 C (qn_l 45 (by decide) hN) (by decide) 2 (by decide) wk_3_0 rfl dX0_readText_30 ?_
    rcases ite_ex z0 with ⟨c13, z14⟩ | ⟨c13, z14⟩
    · refine gq_icmp_ge_t (tgt := 81) C dX0_readText_33 (by decide) c13 ?_
      cases z14
      exact gq_widen (Nat.le_of_ble_eq_true rfl) (Nat.le_of_ble_eq_true rfl) (gq_sub [0] rfl kk)
    · refine gq_icmp_ge_f (tgt := 81) C dX0_readText_33 (by decide) c13 ?_
      refine gq_aload_n C dX0_readText_36 rfl 0 rfl ?_
      refine gq_get3 C (qn_l 45 (by decide) hN) (by decide) 5 (by decide) wk_3_4 rfl dX0_readText_37 ?_
      rcases ite_ex z14 with ⟨c15, z16⟩ | ⟨c15, z16⟩
      · refine gq_if_eq_t (tgt := 81) C dX0_readText_40 (by decide) c15 ?_
        cases z16
        exact gq_widen (Nat.le_of_ble_eq_true rfl) (Nat.le_of_ble_eq_true rfl) (gq_sub [0] rfl kk)
      · refine gq_if_eq_f (tgt := 81) C dX0_readText_40 (by decide) c15 ?_
        refine gq_aload_n C dX0_readText_43 rfl 0 rfl ?_
        refine gq_get3 C (qn_l 45 (by decide) hN) (by decide) 4 (by decide) wk_3_2 rfl dX0_readText_44 ?_
        rcases ite_ex z16 with ⟨c17, z18⟩ | ⟨c17, z18⟩
        · refine gq_if_ne_f (tgt := 81) C dX0_readText_47 (by decide) c17 ?_
          refine gq_aload_n C dX0_readText_50 rfl 0 rfl ?_
          obtain ⟨m21, eo20, z19⟩ := bind_ex z18
          refine gq_V (As := []) (rest := []) (j := 3) C (c_X0_readLine hN  eo20) (qn_l 45 (by decide) hN) (by decide) (by decide) rfl wk_4_138 wk_4_140 ws_X0_readLine wk_1_6 wk_4_141 hd_X0_readLine ⟨(Nat.le_of_ble_eq_true rfl), (Nat.le_of_ble_eq_true rfl)⟩ (Nat.le_of_ble_eq_true rfl) ⟨(Nat.le_of_ble_eq_true rfl), (Nat.le_of_ble_eq_true rfl)⟩ dX0_readText_51 rfl rfl ?_
          refine gq_aload_n C dX0_readText_54 rfl 0 rfl ?_
          refine gq_get3 C (qn_l 45 (by decide) hN) (by decide) 5 (by decide) wk_3_4 rfl dX0_readText_55 ?_
          refine gq_iconst (v := 3) C dX0_readText_58 (by decide) ?_
          obtain ⟨m22, z23, z24⟩ := bind_ex z19
          refine gq_join (k' := 0) (n' := 0) (pc' := 71) (lv' := [(0, .ref (eB E + 45)), (1, .int v1)]) (st' := []) (μ' := m22) ?_ (fun J71 => ?_)
          · refine gq_aload_n C dX0_readText_71 rfl 0 rfl ?_
            obtain ⟨m33, eo32, z31⟩ := bind_ex z24
            refine gq_V (As := []) (rest := []) (j := 3) C (c_X0_nextToken hN  eo32) (qn_l 45 (by decide) hN) (by decide) (by decide) rfl wk_4_125 wk_4_127 ws_X0_nextToken wk_1_6 wk_4_128 hd_X0_nextToken ⟨(Nat.le_of_ble_eq_true rfl), (Nat.le_of_ble_eq_true rfl)⟩ (Nat.le_of_ble_eq_true rfl) ⟨(Nat.le_of_ble_eq_true rfl), (Nat.le_of_ble_eq_true rfl)⟩ dX0_readText_72 rfl rfl ?_
            refine gq_iinc (v := (v1 + 1)) (lv' := [(1, .int (v1 + 1)), (0, .ref (eB E + 45))]) (q := 1) C dX0_readText_75 rfl rfl (by decide) rfl ?_
            refine gq_goto (tgt := 28) C dX0_readText_78 (by decide) ?_
            refine gq_widen (k' := 0) (n' := 0) (Nat.le_of_ble_eq_true rfl) (Nat.le_of_ble_eq_true rfl) (gq_sub [1, 0] rfl ?_)
            exact ih _ _ _ z31 kk
          · rcases ite_ex z23 with ⟨c25, z26⟩ | ⟨c25, z26⟩
            · refine gq_icmp_eq_t (tgt := 71) C dX0_readText_59 (by decide) c25 ?_
              cases z26
              exact gq_widen (Nat.le_of_ble_eq_true rfl) (Nat.le_of_ble_eq_true rfl) (gq_sub [0, 1] rfl J71)
            · refine gq_icmp_eq_f (tgt := 71) C dX0_readText_59 (by decide) c25 ?_
              refine gq_aload_n C dX0_readText_62 rfl 0 rfl ?_
              refine gq_iconst (v := 1) C dX0_readText_63 (by decide) ?_
              refine gq_aload_n C dX0_readText_64 rfl 0 rfl ?_
              refine gq_get3 C (qn_l 45 (by decide) hN) (by decide) 6 (by decide) wk_3_5 rfl dX0_readText_65 ?_
              obtain ⟨m29, eo28, z27⟩ := bind_ex z26
              refine gq_V (As := [.int (1 : Int32), .int (m21.1 45 6)]) (rest := []) (j := 3) C (c_X0_fail hN  eo28) (qn_l 45 (by decide) hN) (by decide) (by decide) rfl wk_4_157 wk_4_159 ws_X0_fail wk_1_6 wk_4_160 hd_X0_fail ⟨(Nat.le_of_ble_eq_true rfl), (Nat.le_of_ble_eq_true rfl)⟩ (Nat.le_of_ble_eq_true rfl) ⟨(Nat.le_of_ble_eq_true rfl), (Nat.le_of_ble_eq_true rfl)⟩ dX0_readText_68 rfl rfl ?_
              cases z27
              exact gq_widen (Nat.le_of_ble_eq_true rfl) (Nat.le_of_ble_eq_true rfl) (gq_sub [0, 1] rfl J71)
        · refine gq_if_ne_t (tgt := 81) C dX0_readText_47 (by decide) c17 ?_
          cases z18
          exact gq_widen (Nat.le_of_ble_eq_true rfl) (Nat.le_of_ble_eq_true rfl) (gq_sub [0] rfl kk)
set_option maxHeartbeats 4000000 in
set_option maxRecDepth 100000 in
theorem c_X0_readText {l : Launch} {E : Ev} (hN : 295 ≤ eN E) {μ : Mm} {r : Int32} {μ' : Mm} (z0 : F_X0_readText  μ = some (r, μ')) : Ct l E yX0_readText (Cond.code yX0_readText cX0_readText 2 (some .boolean) :: GW) rm_X0_readText [.ref (eB E + 45)] μ (some (.int r)) μ' := by
  refine ct_of (by decide) (Nat.le_of_ble_eq_true rfl) (fun p e s m args below meth c C hr => ?_)
  have C : Cq E p s m args meth c cX0_readText 2 RX0 := C
  refine gq_lv (lv' := [(0, .ref (eB E + 45))]) rfl ?_
  unfold F_X0_readText at z0
  refine gq_aload_n C dX0_readText_0 rfl 0 rfl ?_
  refine gq_iconst (v := -1) C dX0_readText_1 (by decide) ?_
  obtain ⟨m1, em1, z2⟩ := bind_ex z0
  refine gq_put3_3 C (qn_l 45 (by decide) hN) (by decide) wk_3_1 (Option.some.inj em1).symm dX0_readText_2 ?_
  refine gq_aload_n C dX0_readText_5 rfl 0 rfl ?_
  refine gq_iconst (v := 0) C dX0_readText_6 (by decide) ?_
  obtain ⟨m3, em3, z4⟩ := bind_ex z2
  refine gq_put3_4 C (qn_l 45 (by decide) hN) (by decide) wk_3_2 (Option.some.inj em3).symm dX0_readText_7 ?_
  refine gq_aload_n C dX0_readText_10 rfl 0 rfl ?_
  refine gq_iconst (v := 0) C dX0_readText_11 (by decide) ?_
  obtain ⟨m5, em5, z6⟩ := bind_ex z4
  refine gq_put3_7 C (qn_l 45 (by decide) hN) (by decide) wk_3_6 (Option.some.inj em5).symm dX0_readText_12 ?_
  refine gq_aload_n C dX0_readText_15 rfl 0 rfl ?_
  refine gq_get3 C (qn_l 45 (by decide) hN) (by decide) 1 (by decide) wk_2_237 rfl dX0_readText_16 ?_
  obtain ⟨m9, eo8, z7⟩ := bind_ex z6
  refine gq_V (As := []) (rest := []) (j := 1) C (c_X1_makeEmpty hN (show kd 47 = 1 by decide) eo8) (qn_l 47 (by decide) hN) (by decide) (by decide) rfl wk_4_124 wk_3_58 wk_3_59 wk_1_4 wk_3_60 hd_X1_makeEmpty ⟨(Nat.le_of_ble_eq_true rfl), (Nat.le_of_ble_eq_true rfl)⟩ (Nat.le_of_ble_eq_true rfl) ⟨(Nat.le_of_ble_eq_true rfl), (Nat.le_of_ble_eq_true rfl)⟩ dX0_readText_19 rfl rfl ?_
  refine gq_aload_n C dX0_readText_22 rfl 0 rfl ?_
  obtain ⟨m12, eo11, z10⟩ := bind_ex z7
  refine gq_V (As := []) (rest := []) (j := 3) C (c_X0_nextToken hN  eo11) (qn_l 45 (by decide) hN) (by decide) (by decide) rfl wk_4_125 wk_4_127 ws_X0_nextToken wk_1_6 wk_4_128 hd_X0_nextToken ⟨(Nat.le_of_ble_eq_true rfl), (Nat.le_of_ble_eq_true rfl)⟩ (Nat.le_of_ble_eq_true rfl) ⟨(Nat.le_of_ble_eq_true rfl), (Nat.le_of_ble_eq_true rfl)⟩ dX0_readText_23 rfl rfl ?_
  refine gq_iconst (v := 0) C dX0_readText_26 (by decide) ?_
  refine gq_istore_n (lv' := [(1, .int (0 : Int32)), (0, .ref (eB E + 45))]) C dX0_readText_27 rfl (by decide) rfl ?_
  obtain ⟨m36, eo35, z34⟩ := bind_ex z10
  refine gq_widen (k' := 0) (n' := 0) (Nat.le_of_ble_eq_true rfl) (Nat.le_of_ble_eq_true rfl) (gq_sub [1, 0] rfl ?_)
  refine l_X0_readText_28 hN C  qFuel _ _ _ eo35 ?_
  refine gq_aload_n C dX0_readText_81 rfl 0 rfl ?_
  refine gq_get3 C (qn_l 45 (by decide) hN) (by decide) 1 (by decide) wk_2_237 rfl dX0_readText_82 ?_
  obtain ⟨m39, eo38, z37⟩ := bind_ex z34
  refine gq_V (As := []) (rest := []) (j := 1) C (c_X1_rankRights hN (show kd 47 = 1 by decide) eo38) (qn_l 47 (by decide) hN) (by decide) (by decide) rfl wk_4_210 wk_4_211 wk_4_212 wk_1_4 wk_4_213 hd_X1_rankRights ⟨(Nat.le_of_ble_eq_true rfl), (Nat.le_of_ble_eq_true rfl)⟩ (Nat.le_of_ble_eq_true rfl) ⟨(Nat.le_of_ble_eq_true rfl), (Nat.le_of_ble_eq_true rfl)⟩ dX0_readText_85 rfl rfl ?_
  refine gq_aload_n C dX0_readText_88 rfl 0 rfl ?_
  refine gq_get3 C (qn_l 45 (by decide) hN) (by decide) 4 (by decide) wk_3_2 rfl dX0_readText_89 ?_
  rcases ite_ex z37 with ⟨c40, z41⟩ | ⟨c40, z41⟩
  · refine gq_if_ne_f (tgt := 99) C dX0_readText_92 (by decide) c40 ?_
    refine gq_iconst (v := 1) C dX0_readText_95 (by decide) ?_
    refine gq_goto (tgt := 100) C dX0_readText_96 (by decide) ?_
    cases z41
    exact gq_zret C hr (by decide) dX0_readText_100 (Nat.le_of_ble_eq_true rfl) (Nat.le_of_ble_eq_true rfl)
  · refine gq_if_ne_t (tgt := 99) C dX0_readText_92 (by decide) c40 ?_
    refine gq_iconst (v := 0) C dX0_readText_99 (by decide) ?_
    cases z41
    exact gq_zret C hr (by decide) dX0_readText_100 (Nat.le_of_ble_eq_true rfl) (Nat.le_of_ble_eq_true rfl)
