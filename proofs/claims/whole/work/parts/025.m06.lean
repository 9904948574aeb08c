set_option maxHeartbeats 4000000 in
set_option maxRecDepth 100000 in
theorem c_ZoneNodes_need (l : Launch) (G : zh_G) (N : Nat) (X : zh_T) (x0 : Nat) (x1 : Int32) (x2 : Int32) (x3 : Int32) (x4 : Int32) (r : Int32) (X' : zh_T) (hm : f_ZoneNodes_need N X x0 x1 x2 x3 x4 = some (r, X')) : zM l G y_ZoneNodes_need w_ZoneNodes_need 2 44 X [.ref x0, .int x1, .int x2, .int x3, .int x4] (some (.int r)) X' 0 0 := by
  refine zr_ofW (by decide) (by exact Nat.le_of_ble_eq_true rfl) ?_
  intro p e s m args below meth c ls hx hb hml hr hts hown hin hlocks hk hX hl
  have hS : va_S (zh_A G) s.heap s.heap [] := va_S.rf
  have hl : lv_has ls 5 [(0, .ref x0), (1, .int x1), (2, .int x2), (3, .int x3), (4, .int x4)] := hl
  have hown : s.vm.findClass R_ZoneNodes = some m.cls := hown
  unfold f_ZoneNodes_need at hm
  refine lv_iload_n hx hb d_ZoneNodes_need_0 rfl (lv_at hl 1 rfl) ?_
  refine lv_iconst (v := 0) hx hb d_ZoneNodes_need_1 (by decide) ?_
  refine lv_iconst (v := 4) hx hb d_ZoneNodes_need_2 (by decide) ?_
  replace hm := zb1_s hm
  obtain ⟨v2, h1, hm⟩ := hm
  refine zr_calli (zr_runS (As := [.int x1, .int 0, .int 4]) (rest := []) (n := 3) hx hb hml hown hts hk hX (c_ZoneNodes_within l G N X x1 0 4 v2 h1) (hts _ tW98) tW99 (hts _ tW100) (hts _ tW101) (by decide +kernel) ⟨Nat.le_of_ble_eq_true rfl, Nat.le_of_ble_eq_true rfl⟩ rfl rfl hl.1 rfl (lv_room (Nat.le_of_ble_eq_true rfl)) d_ZoneNodes_need_3 ⟨(Nat.le_of_ble_eq_true rfl), (Nat.le_of_ble_eq_true rfl)⟩) hS (fun H locs hX hS => ?_)
  refine lv_if_eq (tgt := 41) hx hb d_ZoneNodes_need_6 rfl (fun h3 => ?_) (fun h3 => ?_)
  · replace hm := zi_t h3 hm
    refine lv_iconst (v := 0) hx hb d_ZoneNodes_need_41 (by decide) ?_
    cases hm
    exact W.zret hx hb hr (by decide) (fun t ht hW => zh_end hk hX hS ht hW) hS.2.2 d_ZoneNodes_need_42
  · replace hm := zi_f h3 hm
    refine lv_iload_n hx hb d_ZoneNodes_need_9 rfl (lv_at hl 2 rfl) ?_
    refine lv_iload_n hx hb d_ZoneNodes_need_10 rfl (lv_at hl 3 rfl) ?_
    refine lv_iload hx hb d_ZoneNodes_need_11 (lv_at hl 4 rfl) ?_
    replace hm := zb1_s hm
    obtain ⟨v5, h4, hm⟩ := hm
    refine zr_calli (zr_runS (As := [.int x2, .int x3, .int x4]) (rest := []) (n := 3) hx hb hml hown hts hk hX (c_ZoneNodes_isRecord l G N X x2 x3 x4 v5 h4) (hts _ tW241) tW242 (hts _ tW100) (hts _ tW243) (by decide +kernel) ⟨Nat.le_of_ble_eq_true rfl, Nat.le_of_ble_eq_true rfl⟩ rfl rfl hl.1 rfl (lv_room (Nat.le_of_ble_eq_true rfl)) d_ZoneNodes_need_13 ⟨(Nat.le_of_ble_eq_true rfl), (Nat.le_of_ble_eq_true rfl)⟩) hS (fun H locs hX hS => ?_)
    refine lv_if_eq (tgt := 41) hx hb d_ZoneNodes_need_16 rfl (fun h6 => ?_) (fun h6 => ?_)
    · replace hm := zi_t h6 hm
      refine lv_iconst (v := 0) hx hb d_ZoneNodes_need_41 (by decide) ?_
      cases hm
      exact W.zret hx hb hr (by decide) (fun t ht hW => zh_end hk hX hS ht hW) hS.2.2 d_ZoneNodes_need_42
    · replace hm := zi_f h6 hm
      refine lv_aload_n hx hb d_ZoneNodes_need_19 rfl (lv_at hl 0 rfl) ?_
      replace hm := zb1_s hm
      obtain ⟨a8, h7, hm⟩ := hm
      refine zr_get (ci := 8) (C := R_ZoneNodes) (T := F_ZoneNodes) (N := 7) hx hb hts in_ZoneNodes hown hk hX rfl 2 (by decide) (hts _ tW88) rfl (zgr_v h7) d_ZoneNodes_need_20 ?_
      refine lv_iload_n hx hb d_ZoneNodes_need_23 rfl (lv_at hl 1 rfl) ?_
      refine lv_iload_n hx hb d_ZoneNodes_need_24 rfl (lv_at hl 2 rfl) ?_
      refine lv_iload_n hx hb d_ZoneNodes_need_25 rfl (lv_at hl 3 rfl) ?_
      refine lv_iload hx hb d_ZoneNodes_need_26 (lv_at hl 4 rfl) ?_
      replace hm := zb1_s hm
      obtain ⟨v10, h9, hm⟩ := hm
      refine zr_calli (zr_runS (As := [.int x1, .int x2, .int x3, .int x4]) (rest := [.ref a8]) (n := 4) hx hb hml hown hts hk hX (c_ZoneNodes_coded l G N X x1 x2 x3 x4 v10 h9) (hts _ tW244) tW123 (hts _ tW100) (hts _ tW124) (by decide +kernel) ⟨Nat.le_of_ble_eq_true rfl, Nat.le_of_ble_eq_true rfl⟩ rfl rfl hl.1 rfl (lv_room (Nat.le_of_ble_eq_true rfl)) d_ZoneNodes_need_28 ⟨(Nat.le_of_ble_eq_true rfl), (Nat.le_of_ble_eq_true rfl)⟩) hS (fun H locs hX hS => ?_)
      replace hm := zb1_s hm
      obtain ⟨_, h12, hm⟩ := hm
      replace hm := zb2_s hm
      obtain ⟨v13, X14, h11, hm⟩ := hm
      refine zr_calli (zr_runV (As := [.int v10]) (rest := []) (n := 1) hx hb hml hown hts hk hX (c_Draft_addNeed l G N X a8 v10 v13 X14 h11) (hts _ tW376) tW377 (hts _ tW85) (hts _ tW378) (hts _ tW379) rfl h12 (by decide +kernel) ⟨Nat.le_of_ble_eq_true rfl, Nat.le_of_ble_eq_true rfl⟩ rfl rfl hl.1 rfl (lv_room (Nat.le_of_ble_eq_true rfl)) d_ZoneNodes_need_31 ⟨(Nat.le_of_ble_eq_true rfl), (Nat.le_of_ble_eq_true rfl)⟩) hS (fun H locs hX hS => ?_)
      refine lv_if_eq (tgt := 41) hx hb d_ZoneNodes_need_34 rfl (fun h15 => ?_) (fun h15 => ?_)
      · replace hm := zi_t h15 hm
        refine lv_iconst (v := 0) hx hb d_ZoneNodes_need_41 (by decide) ?_
        cases hm
        exact W.zret hx hb hr (by decide) (fun t ht hW => zh_end hk hX hS ht hW) hS.2.2 d_ZoneNodes_need_42
      · replace hm := zi_f h15 hm
        refine lv_iconst (v := 1) hx hb d_ZoneNodes_need_37 (by decide) ?_
        refine lv_goto (tgt := 42) hx hb d_ZoneNodes_need_38 rfl ?_
        cases hm
        exact W.zret hx hb hr (by decide) (fun t ht hW => zh_end hk hX hS ht hW) hS.2.2 d_ZoneNodes_need_42
set_option maxHeartbeats 4000000 in
set_option maxRecDepth 100000 in
theorem c_Secondary_isExpired (l : Launch) (G : zh_G) (N : Nat) (X : zh_T) (x0 : Nat) (x1 : Int32) (r : Int32) (hm : f_Secondary_isExpired N X x0 x1 = some r) : zM l G y_Secondary_isExpired w_Secondary_isExpired 0 0 X [.ref x0, .int x1] (some (.int r)) X 0 0 := by
  refine zr_ofW (by decide) (by exact Nat.le_of_ble_eq_true rfl) ?_
  intro p e s m args below meth c ls hx hb hml hr hts hown hin hlocks hk hX hl
  have hS : va_S (zh_A G) s.heap s.heap [] := va_S.rf
  have hl : lv_has ls 2 [(0, .ref x0), (1, .int x1)] := hl
  have hown : s.vm.findClass R_Secondary = some m.cls := hown
  unfold f_Secondary_isExpired at hm
  refine lv_iload_n hx hb d_Secondary_isExpired_0 rfl (lv_at hl 1 rfl) ?_
  refine lv_aload_n hx hb d_Secondary_isExpired_1 rfl (lv_at hl 0 rfl) ?_
  replace hm := zb1_s hm
  obtain ⟨v2, h1, hm⟩ := hm
  refine zr_get (ci := 6) (C := R_Secondary) (T := F_Secondary) (N := 13) hx hb hts in_Secondary hown hk hX rfl 12 (by decide) (hts _ tW58) rfl (zgi_v h1) d_Secondary_isExpired_2 ?_
  refine lv_icmp_lt (tgt := 12) hx hb d_Secondary_isExpired_5 rfl (fun h3 => ?_) (fun h3 => ?_)
  · replace hm := zi_t h3 hm
    refine lv_iconst (v := 0) hx hb d_Secondary_isExpired_12 (by decide) ?_
    cases hm
    exact W.zret hx hb hr (by decide) (fun t ht hW => zh_end hk hX hS ht hW) hS.2.2 d_Secondary_isExpired_13
  · replace hm := zi_f h3 hm
    refine lv_iconst (v := 1) hx hb d_Secondary_isExpired_8 (by decide) ?_
    refine lv_goto (tgt := 13) hx hb d_Secondary_isExpired_9 rfl ?_
    cases hm
    exact W.zret hx hb hr (by decide) (fun t ht hW => zh_end hk hX hS ht hW) hS.2.2 d_Secondary_isExpired_13
set_option maxHeartbeats 4000000 in
set_option maxRecDepth 100000 in
theorem c_ZoneNodes_query (l : Launch) (G : zh_G) (N : Nat) (X : zh_T) (x0 : Nat) (x1 : Int32) (x2 : Int32) (x3 : Int32) (r : Int32) (hm : f_ZoneNodes_query N X x0 x1 x2 x3 = some r) : zM l G y_ZoneNodes_query w_ZoneNodes_query 4 92 X [.ref x0, .int x1, .int x2, .int x3] (some (.int r)) X 0 0 := by
  refine zr_ofW (by decide) (by exact Nat.le_of_ble_eq_true rfl) ?_
  intro p e s m args below meth c ls hx hb hml hr hts hown hin hlocks hk hX hl
  have hS : va_S (zh_A G) s.heap s.heap [] := va_S.rf
  have hl : lv_has ls 5 [(0, .ref x0), (1, .int x1), (2, .int x2), (3, .int x3)] := hl
  have hown : s.vm.findClass R_ZoneNodes = some m.cls := hown
  unfold f_ZoneNodes_query at hm
  refine lv_aload_n hx hb d_ZoneNodes_query_0 rfl (lv_at hl 0 rfl) ?_
  refine lv_iload_n hx hb d_ZoneNodes_query_1 rfl (lv_at hl 1 rfl) ?_
  replace hm := zb1_s hm
  obtain ⟨_, h2, hm⟩ := hm
  replace hm := zb1_s hm
  obtain ⟨q3, h1, hm⟩ := hm
  refine zr_callq (zr_runV (As := [.int x1]) (rest := []) (n := 1) hx hb hml hown hts hk hX (c_ZoneNodes_recordsOf l G N X x0 x1 q3 h1) (hts _ tW274) tW275 (hts _ tW100) (hts _ tW276) (hts _ tW277) rfl h2 (by decide +kernel) ⟨Nat.le_of_ble_eq_true rfl, Nat.le_of_ble_eq_true rfl⟩ rfl rfl hl.1 rfl (lv_room (Nat.le_of_ble_eq_true rfl)) d_ZoneNodes_query_2 ⟨(Nat.le_of_ble_eq_true rfl), (Nat.le_of_ble_eq_true rfl)⟩) hS (fun H locs hX hS => ?_)
  refine zr_astoreq (lv' := [(4, va_rf q3), (0, .ref x0), (1, .int x1), (2, .int x2), (3, .int x3)]) hx hb d_ZoneNodes_query_5 hl (by decide) rfl (fun ls hl => ?_)
  cases q3 with
  | none =>
    replace hm := zbo_n hm
    refine lv_aloadN hx hb d_ZoneNodes_query_7 (lv_at hl 0 rfl) ?_
    refine lv_ifnullN (tgt := 29) hx hb d_ZoneNodes_query_9 rfl ?_
    refine lv_iconst (v := (-1)) hx hb d_ZoneNodes_query_29 (by decide) ?_
    cases hm
    exact W.iret hx hb hr (fun t ht hW => zh_end hk hX hS ht hW) hS.2.2 d_ZoneNodes_query_30
  | some a4 =>
    replace hm := zbo_s hm
    refine lv_aload hx hb d_ZoneNodes_query_7 (lv_at hl 0 rfl) ?_
    refine lv_ifnull hx hb d_ZoneNodes_query_9 ?_
    refine lv_iload_n hx hb d_ZoneNodes_query_12 rfl (lv_at hl 3 rfl) ?_
    refine lv_iload_n hx hb d_ZoneNodes_query_13 rfl (lv_at hl 4 rfl) ?_
    refine lv_iconst (v := 0) hx hb d_ZoneNodes_query_14 (by decide) ?_
    replace hm := zb1_s hm
    obtain ⟨v6, h5, hm⟩ := hm
    refine zr_calli (zr_runS (As := [.int x2, .int x3, .int 0]) (rest := []) (n := 3) hx hb hml hown hts hk hX (c_ZoneNodes_isRecord l G N X x2 x3 0 v6 h5) (hts _ tW241) tW242 (hts _ tW100) (hts _ tW243) (by decide +kernel) ⟨Nat.le_of_ble_eq_true rfl, Nat.le_of_ble_eq_true rfl⟩ rfl rfl hl.1 rfl (lv_room (Nat.le_of_ble_eq_true rfl)) d_ZoneNodes_query_15 ⟨(Nat.le_of_ble_eq_true rfl), (Nat.le_of_ble_eq_true rfl)⟩) hS (fun H locs hX hS => ?_)
    refine lv_if_eq (tgt := 29) hx hb d_ZoneNodes_query_18 rfl (fun h7 => ?_) (fun h7 => ?_)
    · replace hm := zi_t h7 hm
      refine lv_iconst (v := (-1)) hx hb d_ZoneNodes_query_29 (by decide) ?_
      cases hm
      exact W.iret hx hb hr (fun t ht hW => zh_end hk hX hS ht hW) hS.2.2 d_ZoneNodes_query_30
    · replace hm := zi_f h7 hm
      refine lv_aload_n hx hb d_ZoneNodes_query_21 rfl (lv_at hl 1 rfl) ?_
      refine lv_iload_n hx hb d_ZoneNodes_query_22 rfl (lv_at hl 2 rfl) ?_
      replace hm := zb1_s hm
      obtain ⟨_, h9, hm⟩ := hm
      replace hm := zb1_s hm
      obtain ⟨v10, h8, hm⟩ := hm
      refine zr_calli (zr_runV (As := [.int x1]) (rest := []) (n := 1) hx hb hml hown hts hk hX (c_ZoneNodes_isUp l G N X x0 x1 v10 h8) (hts _ tW252) tW253 (hts _ tW100) (hts _ tW254) (hts _ tW255) rfl h9 (by decide +kernel) ⟨Nat.le_of_ble_eq_true rfl, Nat.le_of_ble_eq_true rfl⟩ rfl rfl hl.1 rfl (lv_room (Nat.le_of_ble_eq_true rfl)) d_ZoneNodes_query_23 ⟨(Nat.le_of_ble_eq_true rfl), (Nat.le_of_ble_eq_true rfl)⟩) hS (fun H locs hX hS => ?_)
      refine lv_if_ne (tgt := 31) hx hb d_ZoneNodes_query_26 rfl (fun h11 => ?_) (fun h11 => ?_)
      · replace hm := zi_f h11 hm
        refine lv_iload_n hx hb d_ZoneNodes_query_31 rfl (lv_at hl 2 rfl) ?_
        refine lv_if_eq (tgt := 55) hx hb d_ZoneNodes_query_32 rfl (fun h12 => ?_) (fun h12 => ?_)
        · replace hm := zi_t h12 hm
          refine lv_aload hx hb d_ZoneNodes_query_55 (lv_at hl 0 rfl) ?_
          refine lv_iload_n hx hb d_ZoneNodes_query_57 rfl (lv_at hl 3 rfl) ?_
          refine lv_iload_n hx hb d_ZoneNodes_query_58 rfl (lv_at hl 4 rfl) ?_
          replace hm := zb1_s hm
          obtain ⟨v14, h13, hm⟩ := hm
          refine zr_calli (zr_runS (As := [.ref a4, .int x2, .int x3]) (rest := []) (n := 3) hx hb hml hown hts hk hX (c_ZoneNodes_lookUp l G N X a4 x2 x3 v14 h13) (hts _ tW380) tW381 (hts _ tW100) (hts _ tW382) (by decide +kernel) ⟨Nat.le_of_ble_eq_true rfl, Nat.le_of_ble_eq_true rfl⟩ rfl rfl hl.1 rfl (lv_room (Nat.le_of_ble_eq_true rfl)) d_ZoneNodes_query_59 ⟨(Nat.le_of_ble_eq_true rfl), (Nat.le_of_ble_eq_true rfl)⟩) hS (fun H locs hX hS => ?_)
          cases hm
          exact W.iret hx hb hr (fun t ht hW => zh_end hk hX hS ht hW) hS.2.2 d_ZoneNodes_query_62
        · replace hm := zi_f h12 hm
          refine lv_aload_n hx hb d_ZoneNodes_query_35 rfl (lv_at hl 1 rfl) ?_
          replace hm := zb1_s hm
          obtain ⟨a16, h15, hm⟩ := hm
          refine zr_get (ci := 8) (C := R_ZoneNodes) (T := F_ZoneNodes) (N := 7) hx hb hts in_ZoneNodes hown hk hX rfl 5 (by decide) (hts _ tW97) rfl (zgr_v h15) d_ZoneNodes_query_36 ?_
          refine lv_iload_n hx hb d_ZoneNodes_query_39 rfl (lv_at hl 2 rfl) ?_
          refine lv_iconst (v := 1) hx hb d_ZoneNodes_query_40 (by decide) ?_
          refine lv_isub hx hb d_ZoneNodes_query_41 ?_
          replace hm := zb1_s hm
          obtain ⟨a18, h17, hm⟩ := hm
          refine zr_aaload (t := 4) (q := some a18) hx hb hk hX rfl (zar_v h17) d_ZoneNodes_query_42 ?_
          refine lv_aload_n hx hb d_ZoneNodes_query_43 rfl (lv_at hl 1 rfl) ?_
          replace hm := zb1_s hm
          obtain ⟨v20, h19, hm⟩ := hm
          refine zr_get (ci := 8) (C := R_ZoneNodes) (T := F_ZoneNodes) (N := 7) hx hb hts in_ZoneNodes hown hk hX rfl 6 (by decide) (hts _ tW219) rfl (zgi_v h19) d_ZoneNodes_query_44 ?_
          replace hm := zb1_s hm
          obtain ⟨_, h22, hm⟩ := hm
          replace hm := zb1_s hm
          obtain ⟨v23, h21, hm⟩ := hm
          refine zr_calli (zr_runV (As := [.int v20]) (rest := []) (n := 1) hx hb hml hown hts hk hX (c_Secondary_isExpired l G N X a18 v20 v23 h21) (hts _ tW383) tW384 (hts _ tW54) (hts _ tW385) (hts _ tW386) rfl h22 (by decide +kernel) ⟨Nat.le_of_ble_eq_true rfl, Nat.le_of_ble_eq_true rfl⟩ rfl rfl hl.1 rfl (lv_room (Nat.le_of_ble_eq_true rfl)) d_ZoneNodes_query_47 ⟨(Nat.le_of_ble_eq_true rfl), (Nat.le_of_ble_eq_true rfl)⟩) hS (fun H locs hX hS => ?_)
          refine lv_if_eq (tgt := 55) hx hb d_ZoneNodes_query_50 rfl (fun h24 => ?_) (fun h24 => ?_)
          · replace hm := zi_t h24 hm
            refine lv_aload hx hb d_ZoneNodes_query_55 (lv_at hl 0 rfl) ?_
            refine lv_iload_n hx hb d_ZoneNodes_query_57 rfl (lv_at hl 3 rfl) ?_
            refine lv_iload_n hx hb d_ZoneNodes_query_58 rfl (lv_at hl 4 rfl) ?_
            replace hm := zb1_s hm
            obtain ⟨v26, h25, hm⟩ := hm
            refine zr_calli (zr_runS (As := [.ref a4, .int x2, .int x3]) (rest := []) (n := 3) hx hb hml hown hts hk hX (c_ZoneNodes_lookUp l G N X a4 x2 x3 v26 h25) (hts _ tW380) tW381 (hts _ tW100) (hts _ tW382) (by decide +kernel) ⟨Nat.le_of_ble_eq_true rfl, Nat.le_of_ble_eq_true rfl⟩ rfl rfl hl.1 rfl (lv_room (Nat.le_of_ble_eq_true rfl)) d_ZoneNodes_query_59 ⟨(Nat.le_of_ble_eq_true rfl), (Nat.le_of_ble_eq_true rfl)⟩) hS (fun H locs hX hS => ?_)
            cases hm
            exact W.iret hx hb hr (fun t ht hW => zh_end hk hX hS ht hW) hS.2.2 d_ZoneNodes_query_62
          · replace hm := zi_f h24 hm
            refine lv_iconst (v := (-1)) hx hb d_ZoneNodes_query_53 (by decide) ?_
            cases hm
            exact W.iret hx hb hr (fun t ht hW => zh_end hk hX hS ht hW) hS.2.2 d_ZoneNodes_query_54
      · replace hm := zi_t h11 hm
        refine lv_iconst (v := (-1)) hx hb d_ZoneNodes_query_29 (by decide) ?_
        cases hm
        exact W.iret hx hb hr (fun t ht hW => zh_end hk hX hS ht hW) hS.2.2 d_ZoneNodes_query_30
set_option maxHeartbeats 4000000 in
set_option maxRecDepth 100000 in
theorem c_Draft_mixed (l : Launch) (G : zh_G) (N : Nat) (X : zh_T) (x0 : Int32) (x1 : Int32) (r : Int32) (hm : f_Draft_mixed N X x0 x1 = some r) : zM l G y_Draft_mixed w_Draft_mixed 0 0 X [.int x0, .int x1] (some (.int r)) X 0 0 := by
  refine zr_ofW (by decide) (by exact Nat.le_of_ble_eq_true rfl) ?_
  intro p e s m args below meth c ls hx hb hml hr hts hown hin hlocks hk hX hl
  have hS : va_S (zh_A G) s.heap s.heap [] := va_S.rf
  have hl : lv_has ls 3 [(0, .int x0), (1, .int x1)] := hl
  have hown : s.vm.findClass R_Draft = some m.cls := hown
  unfold f_Draft_mixed at hm
  refine lv_iload_n hx hb d_Draft_mixed_0 rfl (lv_at hl 0 rfl) ?_
  refine lv_iload_n hx hb d_Draft_mixed_1 rfl (lv_at hl 1 rfl) ?_
  refine lv_ixor hx hb d_Draft_mixed_2 ?_
  refine lv_ldc (v := 16777619) hx hb hown (hts _ tW387) d_Draft_mixed_3 ?_
  refine lv_imul hx hb d_Draft_mixed_5 ?_
  refine lv_istore_n (lv' := [(2, .int ((x0 ^^^ x1) * 16777619)), (0, .int x0), (1, .int x1)]) hx hb d_Draft_mixed_6 rfl hl (by decide) rfl (fun ls hl => ?_)
  refine lv_iload_n hx hb d_Draft_mixed_7 rfl (lv_at hl 0 rfl) ?_
  refine lv_iload_n hx hb d_Draft_mixed_8 rfl (lv_at hl 0 rfl) ?_
  refine lv_bipush (v := 15) hx hb d_Draft_mixed_9 (by decide) ?_
  refine lv_iushr (v := zi_ushr ((x0 ^^^ x1) * 16777619) 15) hx hb d_Draft_mixed_11 rfl ?_
  refine lv_ixor hx hb d_Draft_mixed_12 ?_
  cases hm
  exact W.iret hx hb hr (fun t ht hW => zh_end hk hX hS ht hW) hS.2.2 d_Draft_mixed_13
set_option maxHeartbeats 4000000 in
set_option maxRecDepth 100000 in
theorem c_Draft_sealWith (l : Launch) (G : zh_G) (N : Nat) (X : zh_T) (x0 : Nat) (x1 : Int32) (x2 : Int32) (r : Int32) (hm : f_Draft_sealWith N X x0 x1 x2 = some r) : zM l G y_Draft_sealWith w_Draft_sealWith 1 22 X [.ref x0, .int x1, .int x2] (some (.int r)) X 0 0 := by
  refine zr_ofW (by decide) (by exact Nat.le_of_ble_eq_true rfl) ?_
  intro p e s m args below meth c ls hx hb hml hr hts hown hin hlocks hk hX hl
  have hS : va_S (zh_A G) s.heap s.heap [] := va_S.rf
  have hl : lv_has ls 5 [(0, .ref x0), (1, .int x1), (2, .int x2)] := hl
  have hown : s.vm.findClass R_Draft = some m.cls := hown
  unfold f_Draft_sealWith at hm
  have hL12 : ∀ (n : Nat) (X : zh_T) (w0 : Nat) (w2 : Int32) (w3 : Int32) (w4 : Int32) (v : Int32) (H : Heap) (locs : List Loc) (ls : Array Slot), L_Draft_sealWith_12 N X w0 w2 n w3 w4 = some v → zh_w G X H → va_S (zh_A G) s.heap H locs → lv_has ls 5 [(0, .ref w0), (2, .int w2), (3, .int w3), (4, .int w4)] → (∀ (H : Heap) (locs : List Loc) (ls : Array Slot), zh_w G X H → va_S (zh_A G) s.heap H locs → lv_has ls 5 [(0, .ref w0), (2, .int w2), (3, .int v)] → W p l e { frames := 1, cells := 0, slots := 0, locals := 22 } s m args below meth c H locs 0 0 (MQ below (zh_Q G (some (.int r)) X) args s 0 0 (zh_A G)) (F0 m 39 ls [])) → W p l e { frames := 1, cells := 0, slots := 0, locals := 22 } s m args below meth c H locs 0 0 (MQ below (zh_Q G (some (.int r)) X) args s 0 0 (zh_A G)) (F0 m 12 ls []) := by
    intro n
    induction n with
    | zero =>
      intro X w0 w2 w3 w4 v H locs ls hm hX hS hl hexit
      rw [L_Draft_sealWith_12] at hm
      cases hm
    | succ n ih =>
      intro X w0 w2 w3 w4 v H locs ls hm hX hS hl hexit
      rw [L_Draft_sealWith_12] at hm
      refine lv_iload hx hb d_Draft_sealWith_12 (lv_at hl 3 rfl) ?_
      refine lv_aload_n hx hb d_Draft_sealWith_14 rfl (lv_at hl 0 rfl) ?_
      replace hm := zb1_s hm
      obtain ⟨v6, h5, hm⟩ := hm
      refine zr_get (ci := 0) (C := R_Draft) (T := F_Draft) (N := 4) hx hb hts in_Draft hown hk hX rfl 2 (by decide) (hts _ tW375) rfl (zgi_v h5) d_Draft_sealWith_15 ?_
      refine lv_icmp_ge (tgt := 39) hx hb d_Draft_sealWith_18 rfl (fun h7 => ?_) (fun h7 => ?_)
      · replace hm := zi_t h7 hm
        cases hm
        exact hexit _ _ _ hX hS (lv_sub hl [0, 1, 2] rfl)
      · replace hm := zi_f h7 hm
        refine lv_iload_n hx hb d_Draft_sealWith_21 rfl (lv_at hl 2 rfl) ?_
        refine lv_aload_n hx hb d_Draft_sealWith_22 rfl (lv_at hl 0 rfl) ?_
        replace hm := zb1_s hm
        obtain ⟨a9, h8, hm⟩ := hm
        refine zr_get (ci := 0) (C := R_Draft) (T := F_Draft) (N := 4) hx hb hts in_Draft hown hk hX rfl 0 (by decide) (hts _ tW4) rfl (zgr_v h8) d_Draft_sealWith_23 ?_
        refine lv_iload hx hb d_Draft_sealWith_26 (lv_at hl 3 rfl) ?_
        replace hm := zb1_s hm
        obtain ⟨v10, h11, hm⟩ := hm
        refine zr_iaload hx hb hk hX h11 d_Draft_sealWith_28 ?_
        replace hm := zb1_s hm
        obtain ⟨v13, h12, hm⟩ := hm
        refine zr_calli (zr_runS (As := [.int w3, .int v10]) (rest := []) (n := 2) hx hb hml hown hts hk hX (c_Draft_mixed l G N X w3 v10 v13 h12) (hts _ tW388) tW389 (hts _ tW85) (hts _ tW390) (by decide +kernel) ⟨Nat.le_of_ble_eq_true rfl, Nat.le_of_ble_eq_true rfl⟩ rfl rfl hl.1 rfl (lv_room (Nat.le_of_ble_eq_true rfl)) d_Draft_sealWith_29 ⟨(Nat.le_of_ble_eq_true rfl), (Nat.le_of_ble_eq_true rfl)⟩) hS (fun H locs hX hS => ?_)
        refine lv_istore_n (lv' := [(3, .int v13), (0, .ref w0), (2, .int w2), (4, .int w4)]) hx hb d_Draft_sealWith_32 rfl hl (by decide) rfl (fun ls hl => ?_)
        refine lv_iinc (v := w4 + 1) (lv' := [(4, .int (w4 + 1)), (3, .int v13), (0, .ref w0), (2, .int w2)]) hx hb d_Draft_sealWith_33 hl (k := 3) rfl (by rw [show Int32.ofInt 1 = 1 by decide]) (by decide) rfl (fun ls hl => ?_)
        refine lv_goto (tgt := 12) hx hb d_Draft_sealWith_36 rfl ?_
        exact ih X w0 w2 v13 (w4 + 1) v _ _ _ hm hX hS (lv_sub hl [2, 3, 1, 0] rfl) hexit
  have hL51 : ∀ (n : Nat) (X : zh_T) (w0 : Nat) (w2 : Int32) (w3 : Int32) (w4 : Int32) (v : Int32) (H : Heap) (locs : List Loc) (ls : Array Slot), L_Draft_sealWith_51 N X w0 w2 n w3 w4 = some v → zh_w G X H → va_S (zh_A G) s.heap H locs → lv_has ls 5 [(0, .ref w0), (2, .int w2), (3, .int w3), (4, .int w4)] → (∀ (H : Heap) (locs : List Loc) (ls : Array Slot), zh_w G X H → va_S (zh_A G) s.heap H locs → lv_has ls 5 [(2, .int w2), (3, .int v)] → W p l e { frames := 1, cells := 0, slots := 0, locals := 22 } s m args below meth c H locs 0 0 (MQ below (zh_Q G (some (.int r)) X) args s 0 0 (zh_A G)) (F0 m 78 ls [])) → W p l e { frames := 1, cells := 0, slots := 0, locals := 22 } s m args below meth c H locs 0 0 (MQ below (zh_Q G (some (.int r)) X) args s 0 0 (zh_A G)) (F0 m 51 ls []) := by
    intro n
    induction n with
    | zero =>
      intro X w0 w2 w3 w4 v H locs ls hm hX hS hl hexit
      rw [L_Draft_sealWith_51] at hm
      cases hm
    | succ n ih =>
      intro X w0 w2 w3 w4 v H locs ls hm hX hS hl hexit
      rw [L_Draft_sealWith_51] at hm
      refine lv_iload hx hb d_Draft_sealWith_51 (lv_at hl 3 rfl) ?_
      refine lv_aload_n hx hb d_Draft_sealWith_53 rfl (lv_at hl 0 rfl) ?_
      replace hm := zb1_s hm
      obtain ⟨v21, h20, hm⟩ := hm
      refine zr_get (ci := 0) (C := R_Draft) (T := F_Draft) (N := 4) hx hb hts in_Draft hown hk hX rfl 3 (by decide) (hts _ tW240) rfl (zgi_v h20) d_Draft_sealWith_54 ?_
      refine lv_icmp_ge (tgt := 78) hx hb d_Draft_sealWith_57 rfl (fun h22 => ?_) (fun h22 => ?_)
      · replace hm := zi_t h22 hm
        cases hm
        exact hexit _ _ _ hX hS (lv_sub hl [1, 2] rfl)
      · replace hm := zi_f h22 hm
        refine lv_iload_n hx hb d_Draft_sealWith_60 rfl (lv_at hl 2 rfl) ?_
        refine lv_aload_n hx hb d_Draft_sealWith_61 rfl (lv_at hl 0 rfl) ?_
        replace hm := zb1_s hm
        obtain ⟨a24, h23, hm⟩ := hm
        refine zr_get (ci := 0) (C := R_Draft) (T := F_Draft) (N := 4) hx hb hts in_Draft hown hk hX rfl 1 (by decide) (hts _ tW5) rfl (zgr_v h23) d_Draft_sealWith_62 ?_
        refine lv_iload hx hb d_Draft_sealWith_65 (lv_at hl 3 rfl) ?_
        replace hm := zb1_s hm
        obtain ⟨v25, h26, hm⟩ := hm
        refine zr_iaload hx hb hk hX h26 d_Draft_sealWith_67 ?_
        replace hm := zb1_s hm
        obtain ⟨v28, h27, hm⟩ := hm
        refine zr_calli (zr_runS (As := [.int w3, .int v25]) (rest := []) (n := 2) hx hb hml hown hts hk hX (c_Draft_mixed l G N X w3 v25 v28 h27) (hts _ tW388) tW389 (hts _ tW85) (hts _ tW390) (by decide +kernel) ⟨Nat.le_of_ble_eq_true rfl, Nat.le_of_ble_eq_true rfl⟩ rfl rfl hl.1 rfl (lv_room (Nat.le_of_ble_eq_true rfl)) d_Draft_sealWith_68 ⟨(Nat.le_of_ble_eq_true rfl), (Nat.le_of_ble_eq_true rfl)⟩) hS (fun H locs hX hS => ?_)
        refine lv_istore_n (lv' := [(3, .int v28), (0, .ref w0), (2, .int w2), (4, .int w4)]) hx hb d_Draft_sealWith_71 rfl hl (by decide) rfl (fun ls hl => ?_)
        refine lv_iinc (v := w4 + 1) (lv' := [(4, .int (w4 + 1)), (3, .int v28), (0, .ref w0), (2, .int w2)]) hx hb d_Draft_sealWith_72 hl (k := 3) rfl (by rw [show Int32.ofInt 1 = 1 by decide]) (by decide) rfl (fun ls hl => ?_)
        refine lv_goto (tgt := 51) hx hb d_Draft_sealWith_75 rfl ?_
        exact ih X w0 w2 v28 (w4 + 1) v _ _ _ hm hX hS (lv_sub hl [2, 3, 1, 0] rfl) hexit
  refine lv_iload_n hx hb d_Draft_sealWith_0 rfl (lv_at hl 1 rfl) ?_
  refine lv_aload_n hx hb d_Draft_sealWith_1 rfl (lv_at hl 0 rfl) ?_
  replace hm := zb1_s hm
  obtain ⟨v2, h1, hm⟩ := hm
  refine zr_get (ci := 0) (C := R_Draft) (T := F_Draft) (N := 4) hx hb hts in_Draft hown hk hX rfl 2 (by decide) (hts _ tW375) rfl (zgi_v h1) d_Draft_sealWith_2 ?_
  replace hm := zb1_s hm
  obtain ⟨v4, h3, hm⟩ := hm
  refine zr_calli (zr_runS (As := [.int x1, .int v2]) (rest := []) (n := 2) hx hb hml hown hts hk hX (c_Draft_mixed l G N X x1 v2 v4 h3) (hts _ tW388) tW389 (hts _ tW85) (hts _ tW390) (by decide +kernel) ⟨Nat.le_of_ble_eq_true rfl, Nat.le_of_ble_eq_true rfl⟩ rfl rfl hl.1 rfl (lv_room (Nat.le_of_ble_eq_true rfl)) d_Draft_sealWith_5 ⟨(Nat.le_of_ble_eq_true rfl), (Nat.le_of_ble_eq_true rfl)⟩) hS (fun H locs hX hS => ?_)
  refine lv_istore_n (lv' := [(3, .int v4), (0, .ref x0), (1, .int x1), (2, .int x2)]) hx hb d_Draft_sealWith_8 rfl hl (by decide) rfl (fun ls hl => ?_)
  refine lv_iconst (v := 0) hx hb d_Draft_sealWith_9 (by decide) ?_
  refine lv_istore (lv' := [(4, .int 0), (3, .int v4), (0, .ref x0), (1, .int x1), (2, .int x2)]) hx hb d_Draft_sealWith_10 hl (by decide) rfl (fun ls hl => ?_)
  replace hm := zb1_s hm
  obtain ⟨v14, h15, hm⟩ := hm
  refine hL12 N X x0 x2 v4 0 v14 _ _ _ h15 hX hS (lv_sub hl [2, 4, 1, 0] rfl) (fun H locs ls hX hS hl => ?_)
  refine lv_iload_n hx hb d_Draft_sealWith_39 rfl (lv_at hl 2 rfl) ?_
  refine lv_aload_n hx hb d_Draft_sealWith_40 rfl (lv_at hl 0 rfl) ?_
  replace hm := zb1_s hm
  obtain ⟨v17, h16, hm⟩ := hm
  refine zr_get (ci := 0) (C := R_Draft) (T := F_Draft) (N := 4) hx hb hts in_Draft hown hk hX rfl 3 (by decide) (hts _ tW240) rfl (zgi_v h16) d_Draft_sealWith_41 ?_
  replace hm := zb1_s hm
  obtain ⟨v19, h18, hm⟩ := hm
  refine zr_calli (zr_runS (As := [.int v14, .int v17]) (rest := []) (n := 2) hx hb hml hown hts hk hX (c_Draft_mixed l G N X v14 v17 v19 h18) (hts _ tW388) tW389 (hts _ tW85) (hts _ tW390) (by decide +kernel) ⟨Nat.le_of_ble_eq_true rfl, Nat.le_of_ble_eq_true rfl⟩ rfl rfl hl.1 rfl (lv_room (Nat.le_of_ble_eq_true rfl)) d_Draft_sealWith_44 ⟨(Nat.le_of_ble_eq_true rfl), (Nat.le_of_ble_eq_true rfl)⟩) hS (fun H locs hX hS => ?_)
  refine lv_istore_n (lv' := [(3, .int v19), (0, .ref x0), (2, .int x2)]) hx hb d_Draft_sealWith_47 rfl hl (by decide) rfl (fun ls hl => ?_)
  refine lv_iconst (v := 0) hx hb d_Draft_sealWith_48 (by decide) ?_
  refine lv_istore (lv' := [(4, .int 0), (3, .int v19), (0, .ref x0), (2, .int x2)]) hx hb d_Draft_sealWith_49 hl (by decide) rfl (fun ls hl => ?_)
  replace hm := zb1_s hm
  obtain ⟨v29, h30, hm⟩ := hm
  refine hL51 N X x0 x2 v19 0 v29 _ _ _ h30 hX hS (lv_sub hl [2, 3, 1, 0] rfl) (fun H locs ls hX hS hl => ?_)
  refine lv_iload_n hx hb d_Draft_sealWith_78 rfl (lv_at hl 1 rfl) ?_
  refine lv_iload_n hx hb d_Draft_sealWith_79 rfl (lv_at hl 0 rfl) ?_
  replace hm := zb1_s hm
  obtain ⟨v32, h31, hm⟩ := hm
  refine zr_calli (zr_runS (As := [.int v29, .int x2]) (rest := []) (n := 2) hx hb hml hown hts hk hX (c_Draft_mixed l G N X v29 x2 v32 h31) (hts _ tW388) tW389 (hts _ tW85) (hts _ tW390) (by decide +kernel) ⟨Nat.le_of_ble_eq_true rfl, Nat.le_of_ble_eq_true rfl⟩ rfl rfl hl.1 rfl (lv_room (Nat.le_of_ble_eq_true rfl)) d_Draft_sealWith_80 ⟨(Nat.le_of_ble_eq_true rfl), (Nat.le_of_ble_eq_true rfl)⟩) hS (fun H locs hX hS => ?_)
  cases hm
  exact W.iret hx hb hr (fun t ht hW => zh_end hk hX hS ht hW) hS.2.2 d_Draft_sealWith_83
set_option maxHeartbeats 4000000 in
set_option maxRecDepth 100000 in
theorem c_Draft_answerTo (l : Launch) (G : zh_G) (N : Nat) (X : zh_T) (x0 : Int32) (x1 : Nat) (r : Int32) (hm : f_Draft_answerTo N X x0 x1 = some r) : zM l G y_Draft_answerTo w_Draft_answerTo 3 65 X [.int x0, .ref x1] (some (.int r)) X 0 0 := by
  refine zr_ofW (by decide) (by exact Nat.le_of_ble_eq_true rfl) ?_
  intro p e s m args below meth c ls hx hb hml hr hts hown hin hlocks hk hX hl
  have hS : va_S (zh_A G) s.heap s.heap [] := va_S.rf
  have hl : lv_has ls 4 [(0, .int x0), (1, .ref x1)] := hl
  have hown : s.vm.findClass R_Draft = some m.cls := hown
  unfold f_Draft_answerTo at hm
  refine lv_iload_n hx hb d_Draft_answerTo_0 rfl (lv_at hl 0 rfl) ?_
  replace hm := zb1_s hm
  obtain ⟨v2, h1, hm⟩ := hm
  refine zr_calli (zr_runSN (As := [.int x0]) (rest := []) (n := 1) hx hb hml hown hts hk hX (c_ZoneNodes_nameOf l G N X x0 v2 h1) (nM13 hk) tW188 (hts _ tW100) (hts _ tW189) (by decide +kernel) ⟨Nat.le_of_ble_eq_true rfl, Nat.le_of_ble_eq_true rfl⟩ rfl rfl hl.1 rfl (lv_room (Nat.le_of_ble_eq_true rfl)) d_Draft_answerTo_1 ⟨(Nat.le_of_ble_eq_true rfl), (Nat.le_of_ble_eq_true rfl)⟩) hS (fun H locs hX hS => ?_)
  refine lv_istore_n (lv' := [(2, .int v2), (0, .int x0), (1, .ref x1)]) hx hb d_Draft_answerTo_4 rfl hl (by decide) rfl (fun ls hl => ?_)
  refine lv_aload_n hx hb d_Draft_answerTo_5 rfl (lv_at hl 2 rfl) ?_
  refine lv_iload_n hx hb d_Draft_answerTo_6 rfl (lv_at hl 0 rfl) ?_
  refine lv_iload_n hx hb d_Draft_answerTo_7 rfl (lv_at hl 1 rfl) ?_
  replace hm := zb1_s hm
  obtain ⟨v4, h3, hm⟩ := hm
  refine zr_calli (zr_runSN (As := [.int x0]) (rest := [.int v2, .ref x1]) (n := 1) hx hb hml hown hts hk hX (c_ZoneNodes_typeOf l G N X x0 v4 h3) (nM14 hk) tW190 (hts _ tW100) (hts _ tW191) (by decide +kernel) ⟨Nat.le_of_ble_eq_true rfl, Nat.le_of_ble_eq_true rfl⟩ rfl rfl hl.1 rfl (lv_room (Nat.le_of_ble_eq_true rfl)) d_Draft_answerTo_8 ⟨(Nat.le_of_ble_eq_true rfl), (Nat.le_of_ble_eq_true rfl)⟩) hS (fun H locs hX hS => ?_)
  replace hm := zb1_s hm
  obtain ⟨_, h6, hm⟩ := hm
  replace hm := zb1_s hm
  obtain ⟨v7, h5, hm⟩ := hm
  refine zr_calli (zr_runV (As := [.int v2, .int v4]) (rest := []) (n := 2) hx hb hml hown hts hk hX (c_Records_valuesOf l G N X x1 v2 v4 v7 h5) (hts _ tW391) tW24 (hts _ tW11) (hts _ tW25) (hts _ tW26) rfl h6 (by decide +kernel) ⟨Nat.le_of_ble_eq_true rfl, Nat.le_of_ble_eq_true rfl⟩ rfl rfl hl.1 rfl (lv_room (Nat.le_of_ble_eq_true rfl)) d_Draft_answerTo_11 ⟨(Nat.le_of_ble_eq_true rfl), (Nat.le_of_ble_eq_true rfl)⟩) hS (fun H locs hX hS => ?_)
  refine lv_istore_n (lv' := [(3, .int v7), (2, .int v2), (0, .int x0), (1, .ref x1)]) hx hb d_Draft_answerTo_14 rfl hl (by decide) rfl (fun ls hl => ?_)
  refine lv_iload_n hx hb d_Draft_answerTo_15 rfl (lv_at hl 2 rfl) ?_
  replace hm := zb1_s hm
  obtain ⟨v9, h8, hm⟩ := hm
  refine zr_calli (zr_runSN (As := [.int x0]) (rest := []) (n := 1) hx hb hml hown hts hk hX (c_ZoneNodes_formOf l G N X x0 v9 h8) (nM15 hk) tW186 (hts _ tW100) (hts _ tW187) (by decide +kernel) ⟨Nat.le_of_ble_eq_true rfl, Nat.le_of_ble_eq_true rfl⟩ rfl rfl hl.1 rfl (lv_room (Nat.le_of_ble_eq_true rfl)) d_Draft_answerTo_16 ⟨(Nat.le_of_ble_eq_true rfl), (Nat.le_of_ble_eq_true rfl)⟩) hS (fun H locs hX hS => ?_)
  rcases zi_or (c := v9 = 0) hm with ⟨h10, hm⟩ | ⟨h10, hm⟩
  · refine lv_tableIn (tgt := 52) hx hb d_Draft_answerTo_19 (zsw_lo h10 (by decide)) (zsw_hi h10 (by decide)) (zsw_at h10 rfl) rfl ?_
    refine lv_aload_n hx hb d_Draft_answerTo_52 rfl (lv_at hl 3 rfl) ?_
    refine lv_iload_n hx hb d_Draft_answerTo_53 rfl (lv_at hl 1 rfl) ?_
    replace hm := zb1_s hm
    obtain ⟨_, h12, hm⟩ := hm
    replace hm := zb1_s hm
    obtain ⟨v13, h11, hm⟩ := hm
    refine zr_calli (zr_runV (As := [.int v2]) (rest := []) (n := 1) hx hb hml hown hts hk hX (c_Records_isUsed l G N X x1 v2 v13 h11) (hts _ tW392) tW295 (hts _ tW11) (hts _ tW296) (hts _ tW297) rfl h12 (by decide +kernel) ⟨Nat.le_of_ble_eq_true rfl, Nat.le_of_ble_eq_true rfl⟩ rfl rfl hl.1 rfl (lv_room (Nat.le_of_ble_eq_true rfl)) d_Draft_answerTo_54 ⟨(Nat.le_of_ble_eq_true rfl), (Nat.le_of_ble_eq_true rfl)⟩) hS (fun H locs hX hS => ?_)
    refine lv_if_eq (tgt := 64) hx hb d_Draft_answerTo_57 rfl (fun h14 => ?_) (fun h14 => ?_)
    · replace hm := zi_t h14 hm
      refine lv_iconst (v := 3) hx hb d_Draft_answerTo_64 (by decide) ?_
      cases hm
      exact W.iret hx hb hr (fun t ht hW => zh_end hk hX hS ht hW) hS.2.2 d_Draft_answerTo_65
    · replace hm := zi_f h14 hm
      refine lv_iconst (v := 0) hx hb d_Draft_answerTo_60 (by decide) ?_
      refine lv_goto (tgt := 65) hx hb d_Draft_answerTo_61 rfl ?_
      cases hm
      exact W.iret hx hb hr (fun t ht hW => zh_end hk hX hS ht hW) hS.2.2 d_Draft_answerTo_65
  · rcases zi_or (c := v9 = 1) hm with ⟨h15, hm⟩ | ⟨h15, hm⟩
    · refine lv_tableIn (tgt := 66) hx hb d_Draft_answerTo_19 (zsw_lo h15 (by decide)) (zsw_hi h15 (by decide)) (zsw_at h15 rfl) rfl ?_
      refine lv_aload_n hx hb d_Draft_answerTo_66 rfl (lv_at hl 3 rfl) ?_
      refine lv_iload_n hx hb d_Draft_answerTo_67 rfl (lv_at hl 1 rfl) ?_
      replace hm := zb1_s hm
      obtain ⟨_, h17, hm⟩ := hm
      replace hm := zb1_s hm
      obtain ⟨v18, h16, hm⟩ := hm
      refine zr_calli (zr_runV (As := [.int v2]) (rest := []) (n := 1) hx hb hml hown hts hk hX (c_Records_isUsed l G N X x1 v2 v18 h16) (hts _ tW392) tW295 (hts _ tW11) (hts _ tW296) (hts _ tW297) rfl h17 (by decide +kernel) ⟨Nat.le_of_ble_eq_true rfl, Nat.le_of_ble_eq_true rfl⟩ rfl rfl hl.1 rfl (lv_room (Nat.le_of_ble_eq_true rfl)) d_Draft_answerTo_68 ⟨(Nat.le_of_ble_eq_true rfl), (Nat.le_of_ble_eq_true rfl)⟩) hS (fun H locs hX hS => ?_)
      refine lv_if_eq (tgt := 79) hx hb d_Draft_answerTo_71 rfl (fun h19 => ?_) (fun h19 => ?_)
      · replace hm := zi_t h19 hm
        refine lv_iconst (v := 0) hx hb d_Draft_answerTo_79 (by decide) ?_
        cases hm
        exact W.iret hx hb hr (fun t ht hW => zh_end hk hX hS ht hW) hS.2.2 d_Draft_answerTo_80
      · replace hm := zi_f h19 hm
        refine lv_bipush (v := 6) hx hb d_Draft_answerTo_74 (by decide) ?_
        refine lv_goto (tgt := 80) hx hb d_Draft_answerTo_76 rfl ?_
        cases hm
        exact W.iret hx hb hr (fun t ht hW => zh_end hk hX hS ht hW) hS.2.2 d_Draft_answerTo_80
    · rcases zi_or (c := v9 = 2) hm with ⟨h20, hm⟩ | ⟨h20, hm⟩
      · refine lv_tableIn (tgt := 81) hx hb d_Draft_answerTo_19 (zsw_lo h20 (by decide)) (zsw_hi h20 (by decide)) (zsw_at h20 rfl) rfl ?_
        refine lv_iload_n hx hb d_Draft_answerTo_81 rfl (lv_at hl 0 rfl) ?_
        refine lv_if_eq (tgt := 89) hx hb d_Draft_answerTo_82 rfl (fun h21 => ?_) (fun h21 => ?_)
        · replace hm := zi_t h21 hm
          refine lv_bipush (v := 8) hx hb d_Draft_answerTo_89 (by decide) ?_
          cases hm
          exact W.iret hx hb hr (fun t ht hW => zh_end hk hX hS ht hW) hS.2.2 d_Draft_answerTo_91
        · replace hm := zi_f h21 hm
          refine lv_iconst (v := 0) hx hb d_Draft_answerTo_85 (by decide) ?_
          refine lv_goto (tgt := 91) hx hb d_Draft_answerTo_86 rfl ?_
          cases hm
          exact W.iret hx hb hr (fun t ht hW => zh_end hk hX hS ht hW) hS.2.2 d_Draft_answerTo_91
      · rcases zi_or (c := v9 = 3) hm with ⟨h22, hm⟩ | ⟨h22, hm⟩
        · refine lv_tableIn (tgt := 103) hx hb d_Draft_answerTo_19 (zsw_lo h22 (by decide)) (zsw_hi h22 (by decide)) (zsw_at h22 rfl) rfl ?_
          refine lv_iconst (v := 0) hx hb d_Draft_answerTo_103 (by decide) ?_
          cases hm
          exact W.iret hx hb hr (fun t ht hW => zh_end hk hX hS ht hW) hS.2.2 d_Draft_answerTo_104
        · rcases zi_or (c := v9 = 4) hm with ⟨h23, hm⟩ | ⟨h23, hm⟩
          · refine lv_tableIn (tgt := 92) hx hb d_Draft_answerTo_19 (zsw_lo h23 (by decide)) (zsw_hi h23 (by decide)) (zsw_at h23 rfl) rfl ?_
            refine lv_iload_n hx hb d_Draft_answerTo_92 rfl (lv_at hl 0 rfl) ?_
            refine lv_if_ne (tgt := 100) hx hb d_Draft_answerTo_93 rfl (fun h24 => ?_) (fun h24 => ?_)
            · replace hm := zi_f h24 hm
              refine lv_bipush (v := 7) hx hb d_Draft_answerTo_100 (by decide) ?_
              cases hm
              exact W.iret hx hb hr (fun t ht hW => zh_end hk hX hS ht hW) hS.2.2 d_Draft_answerTo_102
            · replace hm := zi_t h24 hm
              refine lv_iconst (v := 0) hx hb d_Draft_answerTo_96 (by decide) ?_
              refine lv_goto (tgt := 102) hx hb d_Draft_answerTo_97 rfl ?_
              cases hm
              exact W.iret hx hb hr (fun t ht hW => zh_end hk hX hS ht hW) hS.2.2 d_Draft_answerTo_102
          · refine lv_tableOut (tgt := 103) hx hb d_Draft_answerTo_19 (by have q0 := lv_neT h10 (a := 0) (by decide); have q1 := lv_neT h15 (a := 1) (by decide); have q2 := lv_neT h20 (a := 2) (by decide); have q3 := lv_neT h22 (a := 3) (by decide); have q4 := lv_neT h23 (a := 4) (by decide); omega) rfl ?_
            refine lv_iconst (v := 0) hx hb d_Draft_answerTo_103 (by decide) ?_
            cases hm
            exact W.iret hx hb hr (fun t ht hW => zh_end hk hX hS ht hW) hS.2.2 d_Draft_answerTo_104
set_option maxHeartbeats 4000000 in
set_option maxRecDepth 100000 in
theorem c_Draft_isExact (l : Launch) (G : zh_G) (N : Nat) (X : zh_T) (x0 : Nat) (x1 : Int32) (x2 : Nat) (r : Int32) (hm : f_Draft_isExact N X x0 x1 x2 = some r) : zM l G y_Draft_isExact w_Draft_isExact 1 22 X [.ref x0, .int x1, .ref x2] (some (.int r)) X 0 0 := by
  refine zr_ofW (by decide) (by exact Nat.le_of_ble_eq_true rfl) ?_
  intro p e s m args below meth c ls hx hb hml hr hts hown hin hlocks hk hX hl
  have hS : va_S (zh_A G) s.heap s.heap [] := va_S.rf
  have hl : lv_has ls 5 [(0, .ref x0), (1, .int x1), (2, .ref x2)] := hl
  have hown : s.vm.findClass R_Draft = some m.cls := hown
  unfold f_Draft_isExact at hm
  have hL5 : ∀ (n : Nat) (X : zh_T) (w0 : Nat) (w1 : Int32) (w2 : Nat) (w3 : Int32) (w4 : Int32) (v : Int32) (H : Heap) (locs : List Loc) (ls : Array Slot), L_Draft_isExact_5 N X w0 w1 w2 n w3 w4 = some v → zh_w G X H → va_S (zh_A G) s.heap H locs → lv_has ls 5 [(0, .ref w0), (1, .int w1), (2, .ref w2), (3, .int w3), (4, .int w4)] → (∀ (H : Heap) (locs : List Loc) (ls : Array Slot), zh_w G X H → va_S (zh_A G) s.heap H locs → lv_has ls 5 [(1, .int w1), (2, .ref w2), (3, .int v)] → W p l e { frames := 1, cells := 0, slots := 0, locals := 22 } s m args below meth c H locs 0 0 (MQ below (zh_Q G (some (.int r)) X) args s 0 0 (zh_A G)) (F0 m 52 ls [])) → W p l e { frames := 1, cells := 0, slots := 0, locals := 22 } s m args below meth c H locs 0 0 (MQ below (zh_Q G (some (.int r)) X) args s 0 0 (zh_A G)) (F0 m 5 ls []) := by
    intro n
    induction n with
    | zero =>
      intro X w0 w1 w2 w3 w4 v H locs ls hm hX hS hl hexit
      rw [L_Draft_isExact_5] at hm
      cases hm
    | succ n ih =>
      intro X w0 w1 w2 w3 w4 v H locs ls hm hX hS hl hexit
      rw [L_Draft_isExact_5] at hm
      refine lv_iload hx hb d_Draft_isExact_5 (lv_at hl 4 rfl) ?_
      refine lv_aload_n hx hb d_Draft_isExact_7 rfl (lv_at hl 0 rfl) ?_
      replace hm := zb1_s hm
      obtain ⟨v2, h1, hm⟩ := hm
      refine zr_get (ci := 0) (C := R_Draft) (T := F_Draft) (N := 4) hx hb hts in_Draft hown hk hX rfl 2 (by decide) (hts _ tW375) rfl (zgi_v h1) d_Draft_isExact_8 ?_
      refine lv_icmp_ge (tgt := 52) hx hb d_Draft_isExact_11 rfl (fun h3 => ?_) (fun h3 => ?_)
      · replace hm := zi_t h3 hm
        cases hm
        exact hexit _ _ _ hX hS (lv_sub hl [1, 2, 3] rfl)
      · replace hm := zi_f h3 hm
        refine lv_aload_n hx hb d_Draft_isExact_14 rfl (lv_at hl 0 rfl) ?_
        replace hm := zb1_s hm
        obtain ⟨a5, h4, hm⟩ := hm
        refine zr_get (ci := 0) (C := R_Draft) (T := F_Draft) (N := 4) hx hb hts in_Draft hown hk hX rfl 0 (by decide) (hts _ tW4) rfl (zgr_v h4) d_Draft_isExact_15 ?_
        refine lv_iload hx hb d_Draft_isExact_18 (lv_at hl 4 rfl) ?_
        replace hm := zb1_s hm
        obtain ⟨v6, h7, hm⟩ := hm
        refine zr_iaload hx hb hk hX h7 d_Draft_isExact_20 ?_
        refine lv_bipush (v := 10) hx hb d_Draft_isExact_21 (by decide) ?_
        refine lv_idiv hx hb d_Draft_isExact_23 (by decide) ?_
        refine lv_iload_n hx hb d_Draft_isExact_24 rfl (lv_at hl 1 rfl) ?_
        refine lv_bipush (v := 10) hx hb d_Draft_isExact_25 (by decide) ?_
        refine lv_idiv hx hb d_Draft_isExact_27 (by decide) ?_
        refine lv_icmp_ne (tgt := 46) hx hb d_Draft_isExact_28 rfl (fun h8 => ?_) (fun h8 => ?_)
        · replace hm := zi_f h8 hm
          refine lv_iinc (v := w4 + 1) (lv' := [(4, .int (w4 + 1)), (0, .ref w0), (1, .int w1), (2, .ref w2), (3, .int w3)]) hx hb d_Draft_isExact_46 hl (k := 4) rfl (by rw [show Int32.ofInt 1 = 1 by decide]) (by decide) rfl (fun ls hl => ?_)
          refine lv_goto (tgt := 5) hx hb d_Draft_isExact_49 rfl ?_
          exact ih X w0 w1 w2 w3 (w4 + 1) v _ _ _ hm hX hS (lv_sub hl [1, 2, 3, 4, 0] rfl) hexit
        · replace hm := zi_t h8 hm
          refine lv_iload_n hx hb d_Draft_isExact_31 rfl (lv_at hl 3 rfl) ?_
          refine lv_iconst (v := 1) hx hb d_Draft_isExact_32 (by decide) ?_
          refine lv_aload_n hx hb d_Draft_isExact_33 rfl (lv_at hl 0 rfl) ?_
          replace hm := zb1_s hm
          obtain ⟨a10, h9, hm⟩ := hm
          refine zr_get (ci := 0) (C := R_Draft) (T := F_Draft) (N := 4) hx hb hts in_Draft hown hk hX rfl 0 (by decide) (hts _ tW4) rfl (zgr_v h9) d_Draft_isExact_34 ?_
          refine lv_iload hx hb d_Draft_isExact_37 (lv_at hl 4 rfl) ?_
          replace hm := zb1_s hm
          obtain ⟨v11, h12, hm⟩ := hm
          refine zr_iaload hx hb hk hX h12 d_Draft_isExact_39 ?_
          replace hm := zb1_s hm
          obtain ⟨v14, h13, hm⟩ := hm
          refine zr_calli (zr_runSN (As := [.int v11]) (rest := [.int 1, .int w3]) (n := 1) hx hb hml hown hts hk hX (c_ZoneNodes_valueOf l G N X v11 v14 h13) (nM16 hk) tW192 (hts _ tW100) (hts _ tW193) (by decide +kernel) ⟨Nat.le_of_ble_eq_true rfl, Nat.le_of_ble_eq_true rfl⟩ rfl rfl hl.1 rfl (lv_room (Nat.le_of_ble_eq_true rfl)) d_Draft_isExact_40 ⟨(Nat.le_of_ble_eq_true rfl), (Nat.le_of_ble_eq_true rfl)⟩) hS (fun H locs hX hS => ?_)
          refine lv_ishl hx hb d_Draft_isExact_43 ?_
          refine lv_ior hx hb d_Draft_isExact_44 ?_
          refine lv_istore_n (lv' := [(3, .int (w3 ||| (1 <<< (v14 &&& 31)))), (0, .ref w0), (1, .int w1), (2, .ref w2), (4, .int w4)]) hx hb d_Draft_isExact_45 rfl hl (by decide) rfl (fun ls hl => ?_)
          refine lv_iinc (v := w4 + 1) (lv' := [(4, .int (w4 + 1)), (3, .int (w3 ||| (1 <<< (v14 &&& 31)))), (0, .ref w0), (1, .int w1), (2, .ref w2)]) hx hb d_Draft_isExact_46 hl (k := 4) rfl (by rw [show Int32.ofInt 1 = 1 by decide]) (by decide) rfl (fun ls hl => ?_)
          refine lv_goto (tgt := 5) hx hb d_Draft_isExact_49 rfl ?_
          exact ih X w0 w1 w2 (w3 ||| (1 <<< (v14 &&& 31))) (w4 + 1) v _ _ _ hm hX hS (lv_sub hl [2, 3, 4, 1, 0] rfl) hexit
  refine lv_iconst (v := 0) hx hb d_Draft_isExact_0 (by decide) ?_
  refine lv_istore_n (lv' := [(3, .int 0), (0, .ref x0), (1, .int x1), (2, .ref x2)]) hx hb d_Draft_isExact_1 rfl hl (by decide) rfl (fun ls hl => ?_)
  refine lv_iconst (v := 0) hx hb d_Draft_isExact_2 (by decide) ?_
  refine lv_istore (lv' := [(4, .int 0), (3, .int 0), (0, .ref x0), (1, .int x1), (2, .ref x2)]) hx hb d_Draft_isExact_3 hl (by decide) rfl (fun ls hl => ?_)
  replace hm := zb1_s hm
  obtain ⟨v15, h16, hm⟩ := hm
  refine hL5 N X x0 x1 x2 0 0 v15 _ _ _ h16 hX hS (lv_sub hl [2, 3, 4, 1, 0] rfl) (fun H locs ls hX hS hl => ?_)
  refine lv_iload_n hx hb d_Draft_isExact_52 rfl (lv_at hl 2 rfl) ?_
  refine lv_aload_n hx hb d_Draft_isExact_53 rfl (lv_at hl 1 rfl) ?_
  refine lv_iload_n hx hb d_Draft_isExact_54 rfl (lv_at hl 0 rfl) ?_
  replace hm := zb1_s hm
  obtain ⟨v18, h17, hm⟩ := hm
  refine zr_calli (zr_runSN (As := [.int x1]) (rest := [.ref x2, .int v15]) (n := 1) hx hb hml hown hts hk hX (c_ZoneNodes_nameOf l G N X x1 v18 h17) (nM13 hk) tW188 (hts _ tW100) (hts _ tW189) (by decide +kernel) ⟨Nat.le_of_ble_eq_true rfl, Nat.le_of_ble_eq_true rfl⟩ rfl rfl hl.1 rfl (lv_room (Nat.le_of_ble_eq_true rfl)) d_Draft_isExact_55 ⟨(Nat.le_of_ble_eq_true rfl), (Nat.le_of_ble_eq_true rfl)⟩) hS (fun H locs hX hS => ?_)
  refine lv_iload_n hx hb d_Draft_isExact_58 rfl (lv_at hl 0 rfl) ?_
  replace hm := zb1_s hm
  obtain ⟨v20, h19, hm⟩ := hm
  refine zr_calli (zr_runSN (As := [.int x1]) (rest := [.int v18, .ref x2, .int v15]) (n := 1) hx hb hml hown hts hk hX (c_ZoneNodes_typeOf l G N X x1 v20 h19) (nM14 hk) tW190 (hts _ tW100) (hts _ tW191) (by decide +kernel) ⟨Nat.le_of_ble_eq_true rfl, Nat.le_of_ble_eq_true rfl⟩ rfl rfl hl.1 rfl (lv_room (Nat.le_of_ble_eq_true rfl)) d_Draft_isExact_59 ⟨(Nat.le_of_ble_eq_true rfl), (Nat.le_of_ble_eq_true rfl)⟩) hS (fun H locs hX hS => ?_)
  replace hm := zb1_s hm
  obtain ⟨_, h22, hm⟩ := hm
  replace hm := zb1_s hm
  obtain ⟨v23, h21, hm⟩ := hm
  refine zr_calli (zr_runV (As := [.int v18, .int v20]) (rest := [.int v15]) (n := 2) hx hb hml hown hts hk hX (c_Records_valuesOf l G N X x2 v18 v20 v23 h21) (hts _ tW391) tW24 (hts _ tW11) (hts _ tW25) (hts _ tW26) rfl h22 (by decide +kernel) ⟨Nat.le_of_ble_eq_true rfl, Nat.le_of_ble_eq_true rfl⟩ rfl rfl hl.1 rfl (lv_room (Nat.le_of_ble_eq_true rfl)) d_Draft_isExact_62 ⟨(Nat.le_of_ble_eq_true rfl), (Nat.le_of_ble_eq_true rfl)⟩) hS (fun H locs hX hS => ?_)
  refine lv_icmp_ne (tgt := 72) hx hb d_Draft_isExact_65 rfl (fun h24 => ?_) (fun h24 => ?_)
  · replace hm := zi_f h24 hm
    refine lv_iconst (v := 0) hx hb d_Draft_isExact_72 (by decide) ?_
    cases hm
    exact W.zret hx hb hr (by decide) (fun t ht hW => zh_end hk hX hS ht hW) hS.2.2 d_Draft_isExact_73
  · replace hm := zi_t h24 hm
    refine lv_iconst (v := 1) hx hb d_Draft_isExact_68 (by decide) ?_
    refine lv_goto (tgt := 73) hx hb d_Draft_isExact_69 rfl ?_
    cases hm
    exact W.zret hx hb hr (by decide) (fun t ht hW => zh_end hk hX hS ht hW) hS.2.2 d_Draft_isExact_73
set_option maxHeartbeats 4000000 in
set_option maxRecDepth 100000 in
theorem c_Draft_unmetNeed (l : Launch) (G : zh_G) (N : Nat) (X : zh_T) (x0 : Nat) (x1 : Nat) (r : Int32) (hm : f_Draft_unmetNeed N X x0 x1 = some r) : zM l G y_Draft_unmetNeed w_Draft_unmetNeed 4 88 X [.ref x0, .ref x1] (some (.int r)) X 0 0 := by
  refine zr_ofW (by decide) (by exact Nat.le_of_ble_eq_true rfl) ?_
  intro p e s m args below meth c ls hx hb hml hr hts hown hin hlocks hk hX hl
  have hS : va_S (zh_A G) s.heap s.heap [] := va_S.rf
  have hl : lv_has ls 4 [(0, .ref x0), (1, .ref x1)] := hl
  have hown : s.vm.findClass R_Draft = some m.cls := hown
  unfold f_Draft_unmetNeed at hm
  have hL2 : ∀ (n : Nat) (X : zh_T) (w0 : Nat) (w1 : Nat) (w2 : Int32) (o : (Int32 ⊕ Unit)) (H : Heap) (locs : List Loc) (ls : Array Slot), L_Draft_unmetNeed_2 N X w0 w1 n w2 = some o → zh_w G X H → va_S (zh_A G) s.heap H locs → lv_has ls 4 [(0, .ref w0), (1, .ref w1), (2, .int w2)] → (∀ r0 : Int32, o = Sum.inl r0 → r0 = r) → (∀ v : Unit, o = Sum.inr v → ∀ (H : Heap) (locs : List Loc) (ls : Array Slot), zh_w G X H → va_S (zh_A G) s.heap H locs → lv_has ls 4 [(0, .ref w0), (1, .ref w1)] → W p l e { frames := 4, cells := 0, slots := 0, locals := 88 } s m args below meth c H locs 0 0 (MQ below (zh_Q G (some (.int r)) X) args s 0 0 (zh_A G)) (F0 m 33 ls [])) → W p l e { frames := 4, cells := 0, slots := 0, locals := 88 } s m args below meth c H locs 0 0 (MQ below (zh_Q G (some (.int r)) X) args s 0 0 (zh_A G)) (F0 m 2 ls []) := by
    intro n
    induction n with
    | zero =>
      intro X w0 w1 w2 o H locs ls hm hX hS hl hret hexit
      rw [L_Draft_unmetNeed_2] at hm
      cases hm
    | succ n ih =>
      intro X w0 w1 w2 o H locs ls hm hX hS hl hret hexit
      rw [L_Draft_unmetNeed_2] at hm
      refine lv_iload_n hx hb d_Draft_unmetNeed_2 rfl (lv_at hl 2 rfl) ?_
      refine lv_aload_n hx hb d_Draft_unmetNeed_3 rfl (lv_at hl 0 rfl) ?_
      replace hm := zb1_s hm
      obtain ⟨v2, h1, hm⟩ := hm
      refine zr_get (ci := 0) (C := R_Draft) (T := F_Draft) (N := 4) hx hb hts in_Draft hown hk hX rfl 2 (by decide) (hts _ tW375) rfl (zgi_v h1) d_Draft_unmetNeed_4 ?_
      refine lv_icmp_ge (tgt := 33) hx hb d_Draft_unmetNeed_7 rfl (fun h3 => ?_) (fun h3 => ?_)
      · replace hm := zi_t h3 hm
        exact hexit _ (Option.some.inj hm).symm _ _ _ hX hS (lv_sub hl [0, 1] rfl)
      · replace hm := zi_f h3 hm
        refine lv_aload_n hx hb d_Draft_unmetNeed_10 rfl (lv_at hl 0 rfl) ?_
        replace hm := zb1_s hm
        obtain ⟨a5, h4, hm⟩ := hm
        refine zr_get (ci := 0) (C := R_Draft) (T := F_Draft) (N := 4) hx hb hts in_Draft hown hk hX rfl 0 (by decide) (hts _ tW4) rfl (zgr_v h4) d_Draft_unmetNeed_11 ?_
        refine lv_iload_n hx hb d_Draft_unmetNeed_14 rfl (lv_at hl 2 rfl) ?_
        replace hm := zb1_s hm
        obtain ⟨v6, h7, hm⟩ := hm
        refine zr_iaload hx hb hk hX h7 d_Draft_unmetNeed_15 ?_
        refine lv_aload_n hx hb d_Draft_unmetNeed_16 rfl (lv_at hl 1 rfl) ?_
        replace hm := zb1_s hm
        obtain ⟨v9, h8, hm⟩ := hm
        refine zr_calli (zr_runS (As := [.int v6, .ref w1]) (rest := []) (n := 2) hx hb hml hown hts hk hX (c_Draft_answerTo l G N X v6 w1 v9 h8) (hts _ tW393) tW394 (hts _ tW85) (hts _ tW395) (by decide +kernel) ⟨Nat.le_of_ble_eq_true rfl, Nat.le_of_ble_eq_true rfl⟩ rfl rfl hl.1 rfl (lv_room (Nat.le_of_ble_eq_true rfl)) d_Draft_unmetNeed_17 ⟨(Nat.le_of_ble_eq_true rfl), (Nat.le_of_ble_eq_true rfl)⟩) hS (fun H locs hX hS => ?_)
        refine lv_istore_n (lv' := [(3, .int v9), (0, .ref w0), (1, .ref w1), (2, .int w2)]) hx hb d_Draft_unmetNeed_20 rfl hl (by decide) rfl (fun ls hl => ?_)
        refine lv_iload_n hx hb d_Draft_unmetNeed_21 rfl (lv_at hl 0 rfl) ?_
        refine lv_if_eq (tgt := 27) hx hb d_Draft_unmetNeed_22 rfl (fun h10 => ?_) (fun h10 => ?_)
        · replace hm := zi_t h10 hm
          refine lv_iinc (v := w2 + 1) (lv' := [(2, .int (w2 + 1)), (3, .int v9), (0, .ref w0), (1, .ref w1)]) hx hb d_Draft_unmetNeed_27 hl (k := 3) rfl (by rw [show Int32.ofInt 1 = 1 by decide]) (by decide) rfl (fun ls hl => ?_)
          refine lv_goto (tgt := 2) hx hb d_Draft_unmetNeed_30 rfl ?_
          exact ih X w0 w1 (w2 + 1) o _ _ _ hm hX hS (lv_sub hl [2, 3, 0] rfl) hret hexit
        · replace hm := zi_f h10 hm
          refine lv_iload_n hx hb d_Draft_unmetNeed_25 rfl (lv_at hl 0 rfl) ?_
          obtain rfl := hret _ (Option.some.inj hm).symm
          exact W.iret hx hb hr (fun t ht hW => zh_end hk hX hS ht hW) hS.2.2 d_Draft_unmetNeed_26
  have hL35 : ∀ (n : Nat) (X : zh_T) (w0 : Nat) (w1 : Nat) (w2 : Int32) (o : (Int32 ⊕ Unit)) (H : Heap) (locs : List Loc) (ls : Array Slot), L_Draft_unmetNeed_35 N X w0 w1 n w2 = some o → zh_w G X H → va_S (zh_A G) s.heap H locs → lv_has ls 4 [(0, .ref w0), (1, .ref w1), (2, .int w2)] → (∀ r0 : Int32, o = Sum.inl r0 → r0 = r) → (∀ v : Unit, o = Sum.inr v → ∀ (H : Heap) (locs : List Loc) (ls : Array Slot), zh_w G X H → va_S (zh_A G) s.heap H locs → lv_has ls 4 [] → W p l e { frames := 4, cells := 0, slots := 0, locals := 88 } s m args below meth c H locs 0 0 (MQ below (zh_Q G (some (.int r)) X) args s 0 0 (zh_A G)) (F0 m 79 ls [])) → W p l e { frames := 4, cells := 0, slots := 0, locals := 88 } s m args below meth c H locs 0 0 (MQ below (zh_Q G (some (.int r)) X) args s 0 0 (zh_A G)) (F0 m 35 ls []) := by
    intro n
    induction n with
    | zero =>
      intro X w0 w1 w2 o H locs ls hm hX hS hl hret hexit
      rw [L_Draft_unmetNeed_35] at hm
      cases hm
    | succ n ih =>
      intro X w0 w1 w2 o H locs ls hm hX hS hl hret hexit
      rw [L_Draft_unmetNeed_35] at hm
      refine lv_iload_n hx hb d_Draft_unmetNeed_35 rfl (lv_at hl 2 rfl) ?_
      refine lv_aload_n hx hb d_Draft_unmetNeed_36 rfl (lv_at hl 0 rfl) ?_
      replace hm := zb1_s hm
      obtain ⟨v14, h13, hm⟩ := hm
      refine zr_get (ci := 0) (C := R_Draft) (T := F_Draft) (N := 4) hx hb hts in_Draft hown hk hX rfl 2 (by decide) (hts _ tW375) rfl (zgi_v h13) d_Draft_unmetNeed_37 ?_
      refine lv_icmp_ge (tgt := 79) hx hb d_Draft_unmetNeed_40 rfl (fun h15 => ?_) (fun h15 => ?_)
      · replace hm := zi_t h15 hm
        exact hexit _ (Option.some.inj hm).symm _ _ _ hX hS (lv_sub hl [] rfl)
      · replace hm := zi_f h15 hm
        refine lv_aload_n hx hb d_Draft_unmetNeed_43 rfl (lv_at hl 0 rfl) ?_
        replace hm := zb1_s hm
        obtain ⟨a17, h16, hm⟩ := hm
        refine zr_get (ci := 0) (C := R_Draft) (T := F_Draft) (N := 4) hx hb hts in_Draft hown hk hX rfl 0 (by decide) (hts _ tW4) rfl (zgr_v h16) d_Draft_unmetNeed_44 ?_
        refine lv_iload_n hx hb d_Draft_unmetNeed_47 rfl (lv_at hl 2 rfl) ?_
        replace hm := zb1_s hm
        obtain ⟨v18, h19, hm⟩ := hm
        refine zr_iaload hx hb hk hX h19 d_Draft_unmetNeed_48 ?_
        replace hm := zb1_s hm
        obtain ⟨v21, h20, hm⟩ := hm
        refine zr_calli (zr_runSN (As := [.int v18]) (rest := []) (n := 1) hx hb hml hown hts hk hX (c_ZoneNodes_formOf l G N X v18 v21 h20) (nM15 hk) tW186 (hts _ tW100) (hts _ tW187) (by decide +kernel) ⟨Nat.le_of_ble_eq_true rfl, Nat.le_of_ble_eq_true rfl⟩ rfl rfl hl.1 rfl (lv_room (Nat.le_of_ble_eq_true rfl)) d_Draft_unmetNeed_49 ⟨(Nat.le_of_ble_eq_true rfl), (Nat.le_of_ble_eq_true rfl)⟩) hS (fun H locs hX hS => ?_)
        refine lv_iconst (v := 3) hx hb d_Draft_unmetNeed_52 (by decide) ?_
        refine lv_icmp_ne (tgt := 73) hx hb d_Draft_unmetNeed_53 rfl (fun h22 => ?_) (fun h22 => ?_)
        · replace hm := zi_f h22 hm
          refine lv_iinc (v := w2 + 1) (lv' := [(2, .int (w2 + 1)), (0, .ref w0), (1, .ref w1)]) hx hb d_Draft_unmetNeed_73 hl (k := 2) rfl (by rw [show Int32.ofInt 1 = 1 by decide]) (by decide) rfl (fun ls hl => ?_)
          refine lv_goto (tgt := 35) hx hb d_Draft_unmetNeed_76 rfl ?_
          exact ih X w0 w1 (w2 + 1) o _ _ _ hm hX hS (lv_sub hl [1, 2, 0] rfl) hret hexit
        · replace hm := zi_t h22 hm
          refine lv_aload_n hx hb d_Draft_unmetNeed_56 rfl (lv_at hl 0 rfl) ?_
          refine lv_aload_n hx hb d_Draft_unmetNeed_57 rfl (lv_at hl 0 rfl) ?_
          replace hm := zb1_s hm
          obtain ⟨a24, h23, hm⟩ := hm
          refine zr_get (ci := 0) (C := R_Draft) (T := F_Draft) (N := 4) hx hb hts in_Draft hown hk hX rfl 0 (by decide) (hts _ tW4) rfl (zgr_v h23) d_Draft_unmetNeed_58 ?_
          refine lv_iload_n hx hb d_Draft_unmetNeed_61 rfl (lv_at hl 2 rfl) ?_
          replace hm := zb1_s hm
          obtain ⟨v25, h26, hm⟩ := hm
          refine zr_iaload hx hb hk hX h26 d_Draft_unmetNeed_62 ?_
          refine lv_aload_n hx hb d_Draft_unmetNeed_63 rfl (lv_at hl 1 rfl) ?_
          replace hm := zb1_s hm
          obtain ⟨_, h28, hm⟩ := hm
          replace hm := zb1_s hm
          obtain ⟨v29, h27, hm⟩ := hm
          refine zr_calli (zr_runV (As := [.int v25, .ref w1]) (rest := []) (n := 2) hx hb hml hown hts hk hX (c_Draft_isExact l G N X w0 v25 w1 v29 h27) (hts _ tW396) tW397 (hts _ tW85) (hts _ tW398) (hts _ tW399) rfl h28 (by decide +kernel) ⟨Nat.le_of_ble_eq_true rfl, Nat.le_of_ble_eq_true rfl⟩ rfl rfl hl.1 rfl (lv_room (Nat.le_of_ble_eq_true rfl)) d_Draft_unmetNeed_64 ⟨(Nat.le_of_ble_eq_true rfl), (Nat.le_of_ble_eq_true rfl)⟩) hS (fun H locs hX hS => ?_)
          refine lv_if_ne (tgt := 73) hx hb d_Draft_unmetNeed_67 rfl (fun h30 => ?_) (fun h30 => ?_)
          · replace hm := zi_f h30 hm
            refine lv_iinc (v := w2 + 1) (lv' := [(2, .int (w2 + 1)), (0, .ref w0), (1, .ref w1)]) hx hb d_Draft_unmetNeed_73 hl (k := 2) rfl (by rw [show Int32.ofInt 1 = 1 by decide]) (by decide) rfl (fun ls hl => ?_)
            refine lv_goto (tgt := 35) hx hb d_Draft_unmetNeed_76 rfl ?_
            exact ih X w0 w1 (w2 + 1) o _ _ _ hm hX hS (lv_sub hl [1, 2, 0] rfl) hret hexit
          · replace hm := zi_t h30 hm
            refine lv_bipush (v := 8) hx hb d_Draft_unmetNeed_70 (by decide) ?_
            obtain rfl := hret _ (Option.some.inj hm).symm
            exact W.iret hx hb hr (fun t ht hW => zh_end hk hX hS ht hW) hS.2.2 d_Draft_unmetNeed_72
  refine lv_iconst (v := 0) hx hb d_Draft_unmetNeed_0 (by decide) ?_
  refine lv_istore_n (lv' := [(2, .int 0), (0, .ref x0), (1, .ref x1)]) hx hb d_Draft_unmetNeed_1 rfl hl (by decide) rfl (fun ls hl => ?_)
  replace hm := zbs_s hm
  obtain ⟨o34, h12, hm⟩ := hm
  refine hL2 N X x0 x1 0 o34 _ _ _ h12 hX hS (lv_sub hl [1, 2, 0] rfl) (fun r0 e0 => ?_) (fun v11 e0 H locs ls hX hS hl => ?_)
  · subst e0
    replace hm := zs_l hm
    exact Option.some.inj hm
  · subst e0
    replace hm := zs_r hm
    refine lv_iconst (v := 0) hx hb d_Draft_unmetNeed_33 (by decide) ?_
    refine lv_istore_n (lv' := [(2, .int 0), (0, .ref x0), (1, .ref x1)]) hx hb d_Draft_unmetNeed_34 rfl hl (by decide) rfl (fun ls hl => ?_)
    replace hm := zbs_s hm
    obtain ⟨o33, h32, hm⟩ := hm
    refine hL35 N X x0 x1 0 o33 _ _ _ h32 hX hS (lv_sub hl [1, 2, 0] rfl) (fun r0 e0 => ?_) (fun v31 e0 H locs ls hX hS hl => ?_)
    · subst e0
      replace hm := zs_l hm
      exact Option.some.inj hm
    · subst e0
      replace hm := zs_r hm
      refine lv_iconst (v := 0) hx hb d_Draft_unmetNeed_79 (by decide) ?_
      cases hm
      exact W.iret hx hb hr (fun t ht hW => zh_end hk hX hS ht hW) hS.2.2 d_Draft_unmetNeed_80
set_option maxHeartbeats 4000000 in
set_option maxRecDepth 100000 in
theorem c_ZoneNodes_refusal (l : Launch) (G : zh_G) (N : Nat) (X : zh_T) (x0 : Nat) (x1 : Int32) (x2 : Int32) (x3 : Int32) (r : Int32) (hm : f_ZoneNodes_refusal N X x0 x1 x2 x3 = some r) : zM l G y_ZoneNodes_refusal w_ZoneNodes_refusal 5 111 X [.ref x0, .int x1, .int x2, .int x3] (some (.int r)) X 0 0 := by
  refine zr_ofW (by decide) (by exact Nat.le_of_ble_eq_true rfl) ?_
  intro p e s m args below meth c ls hx hb hml hr hts hown hin hlocks hk hX hl
  have hS : va_S (zh_A G) s.heap s.heap [] := va_S.rf
  have hl : lv_has ls 6 [(0, .ref x0), (1, .int x1), (2, .int x2), (3, .int x3)] := hl
  have hown : s.vm.findClass R_ZoneNodes = some m.cls := hown
  unfold f_ZoneNodes_refusal at hm
  refine lv_aload_n hx hb d_ZoneNodes_refusal_0 rfl (lv_at hl 0 rfl) ?_
  refine lv_iload_n hx hb d_ZoneNodes_refusal_1 rfl (lv_at hl 1 rfl) ?_
  replace hm := zb1_s hm
  obtain ⟨_, h2, hm⟩ := hm
  replace hm := zb1_s hm
  obtain ⟨v3, h1, hm⟩ := hm
  refine zr_calli (zr_runV (As := [.int x1]) (rest := []) (n := 1) hx hb hml hown hts hk hX (c_ZoneNodes_knowsKey l G N X x0 x1 v3 h1) (hts _ tW400) tW401 (hts _ tW100) (hts _ tW402) (hts _ tW403) rfl h2 (by decide +kernel) ⟨Nat.le_of_ble_eq_true rfl, Nat.le_of_ble_eq_true rfl⟩ rfl rfl hl.1 rfl (lv_room (Nat.le_of_ble_eq_true rfl)) d_ZoneNodes_refusal_2 ⟨(Nat.le_of_ble_eq_true rfl), (Nat.le_of_ble_eq_true rfl)⟩) hS (fun H locs hX hS => ?_)
  refine lv_if_ne (tgt := 11) hx hb d_ZoneNodes_refusal_5 rfl (fun h4 => ?_) (fun h4 => ?_)
  · replace hm := zi_f h4 hm
    refine lv_aload_n hx hb d_ZoneNodes_refusal_11 rfl (lv_at hl 0 rfl) ?_
    replace hm := zb1_s hm
    obtain ⟨a6, h5, hm⟩ := hm
    refine zr_get (ci := 8) (C := R_ZoneNodes) (T := F_ZoneNodes) (N := 7) hx hb hts in_ZoneNodes hown hk hX rfl 2 (by decide) (hts _ tW88) rfl (zgr_v h5) d_ZoneNodes_refusal_12 ?_
    refine lv_aload_n hx hb d_ZoneNodes_refusal_15 rfl (lv_at hl 0 rfl) ?_
    replace hm := zb1_s hm
    obtain ⟨a8, h7, hm⟩ := hm
    refine zr_get (ci := 8) (C := R_ZoneNodes) (T := F_ZoneNodes) (N := 7) hx hb hts in_ZoneNodes hown hk hX rfl 0 (by decide) (hts _ tW80) rfl (zgr_v h7) d_ZoneNodes_refusal_16 ?_
    refine lv_iload_n hx hb d_ZoneNodes_refusal_19 rfl (lv_at hl 1 rfl) ?_
    replace hm := zb1_s hm
    obtain ⟨v9, h10, hm⟩ := hm
    refine zr_iaload hx hb hk hX h10 d_ZoneNodes_refusal_20 ?_
    refine lv_iload_n hx hb d_ZoneNodes_refusal_21 rfl (lv_at hl 2 rfl) ?_
    replace hm := zb1_s hm
    obtain ⟨_, h12, hm⟩ := hm
    replace hm := zb1_s hm
    obtain ⟨v13, h11, hm⟩ := hm
    refine zr_calli (zr_runV (As := [.int v9, .int x2]) (rest := []) (n := 2) hx hb hml hown hts hk hX (c_Draft_sealWith l G N X a6 v9 x2 v13 h11) (hts _ tW404) tW405 (hts _ tW85) (hts _ tW406) (hts _ tW407) rfl h12 (by decide +kernel) ⟨Nat.le_of_ble_eq_true rfl, Nat.le_of_ble_eq_true rfl⟩ rfl rfl hl.1 rfl (lv_room (Nat.le_of_ble_eq_true rfl)) d_ZoneNodes_refusal_22 ⟨(Nat.le_of_ble_eq_true rfl), (Nat.le_of_ble_eq_true rfl)⟩) hS (fun H locs hX hS => ?_)
    refine lv_iload_n hx hb d_ZoneNodes_refusal_25 rfl (lv_at hl 3 rfl) ?_
    refine lv_icmp_eq (tgt := 32) hx hb d_ZoneNodes_refusal_26 rfl (fun h14 => ?_) (fun h14 => ?_)
    · replace hm := zi_t h14 hm
      refine lv_iload_n hx hb d_ZoneNodes_refusal_32 rfl (lv_at hl 2 rfl) ?_
      refine lv_i2l hx hb d_ZoneNodes_refusal_33 rfl ?_
      refine lv_aload_n hx hb d_ZoneNodes_refusal_34 rfl (lv_at hl 0 rfl) ?_
      replace hm := zb1_s hm
      obtain ⟨v16, h15, hm⟩ := hm
      refine zr_get (ci := 8) (C := R_ZoneNodes) (T := F_ZoneNodes) (N := 7) hx hb hts in_ZoneNodes hown hk hX rfl 6 (by decide) (hts _ tW219) rfl (zgi_v h15) d_ZoneNodes_refusal_35 ?_
      refine lv_i2l hx hb d_ZoneNodes_refusal_38 rfl ?_
      refine lv_lsub hx hb d_ZoneNodes_refusal_39 ?_
      refine lv_lstore (lv' := [(4, .long (x2.toInt64 - v16.toInt64)), (0, .ref x0), (1, .int x1), (2, .int x2), (3, .int x3)]) hx hb d_ZoneNodes_refusal_40 hl (by decide) rfl (fun ls hl => ?_)
      refine lv_lload hx hb d_ZoneNodes_refusal_42 (lv_at hl 0 rfl) ?_
      refine lv_ldc2 (v := 5) hx hb hown (hts _ tW408) d_ZoneNodes_refusal_44 ?_
      refine W.lcmp hx hb d_ZoneNodes_refusal_47 ?_
      refine lv_if_gt (tgt := 60) hx hb d_ZoneNodes_refusal_48 rfl (fun h17 => ?_) (fun h17 => ?_)
      · replace hm := zi_t h17 hm
        refine lv_bipush (v := 18) hx hb d_ZoneNodes_refusal_60 (by decide) ?_
        cases hm
        exact W.iret hx hb hr (fun t ht hW => zh_end hk hX hS ht hW) hS.2.2 d_ZoneNodes_refusal_62
      · replace hm := zi_f h17 hm
        refine lv_lload hx hb d_ZoneNodes_refusal_51 (lv_at hl 0 rfl) ?_
        refine lv_ldc2 (v := (-5)) hx hb hown (hts _ tW409) d_ZoneNodes_refusal_53 ?_
        refine W.lcmp hx hb d_ZoneNodes_refusal_56 ?_
        refine lv_if_ge (tgt := 63) hx hb d_ZoneNodes_refusal_57 rfl (fun h18 => ?_) (fun h18 => ?_)
        · replace hm := zi_t h18 hm
          refine lv_aload_n hx hb d_ZoneNodes_refusal_63 rfl (lv_at hl 1 rfl) ?_
          replace hm := zb1_s hm
          obtain ⟨a20, h19, hm⟩ := hm
          refine zr_get (ci := 8) (C := R_ZoneNodes) (T := F_ZoneNodes) (N := 7) hx hb hts in_ZoneNodes hown hk hX rfl 2 (by decide) (hts _ tW88) rfl (zgr_v h19) d_ZoneNodes_refusal_64 ?_
          refine lv_aload_n hx hb d_ZoneNodes_refusal_67 rfl (lv_at hl 1 rfl) ?_
          replace hm := zb1_s hm
          obtain ⟨a22, h21, hm⟩ := hm
          refine zr_get (ci := 8) (C := R_ZoneNodes) (T := F_ZoneNodes) (N := 7) hx hb hts in_ZoneNodes hown hk hX rfl 4 (by decide) (hts _ tW108) rfl (zgr_v h21) d_ZoneNodes_refusal_68 ?_
          replace hm := zb1_s hm
          obtain ⟨a24, h23, hm⟩ := hm
          refine zr_getN (ci := 4) (C := R_Primary) (T := F_Primary) (N := 9) hx hb hts in_Primary hown hk hX rfl 0 (by decide) rfl rfl (nF37 hk) rfl (zgr_v h23) d_ZoneNodes_refusal_71 ?_
          replace hm := zb1_s hm
          obtain ⟨_, h26, hm⟩ := hm
          replace hm := zb1_s hm
          obtain ⟨v27, h25, hm⟩ := hm
          refine zr_calli (zr_runV (As := [.ref a24]) (rest := []) (n := 1) hx hb hml hown hts hk hX (c_Draft_unmetNeed l G N X a20 a24 v27 h25) (hts _ tW410) tW411 (hts _ tW85) (hts _ tW412) (hts _ tW413) rfl h26 (by decide +kernel) ⟨Nat.le_of_ble_eq_true rfl, Nat.le_of_ble_eq_true rfl⟩ rfl rfl hl.1 rfl (lv_room (Nat.le_of_ble_eq_true rfl)) d_ZoneNodes_refusal_74 ⟨(Nat.le_of_ble_eq_true rfl), (Nat.le_of_ble_eq_true rfl)⟩) hS (fun H locs hX hS => ?_)
          cases hm
          exact W.iret hx hb hr (fun t ht hW => zh_end hk hX hS ht hW) hS.2.2 d_ZoneNodes_refusal_77
        · replace hm := zi_f h18 hm
          refine lv_bipush (v := 18) hx hb d_ZoneNodes_refusal_60 (by decide) ?_
          cases hm
          exact W.iret hx hb hr (fun t ht hW => zh_end hk hX hS ht hW) hS.2.2 d_ZoneNodes_refusal_62
    · replace hm := zi_f h14 hm
      refine lv_bipush (v := 16) hx hb d_ZoneNodes_refusal_29 (by decide) ?_
      cases hm
      exact W.iret hx hb hr (fun t ht hW => zh_end hk hX hS ht hW) hS.2.2 d_ZoneNodes_refusal_31
  · replace hm := zi_t h4 hm
    refine lv_bipush (v := 17) hx hb d_ZoneNodes_refusal_8 (by decide) ?_
    cases hm
    exact W.iret hx hb hr (fun t ht hW => zh_end hk hX hS ht hW) hS.2.2 d_ZoneNodes_refusal_10
set_option maxHeartbeats 4000000 in
set_option maxRecDepth 100000 in
theorem c_Journal_dropLatest (l : Launch) (G : zh_G) (N : Nat) (X : zh_T) (x0 : Nat) (r : Unit) (X' : zh_T) (hm : f_Journal_dropLatest N X x0 = some (r, X')) : zM l G y_Journal_dropLatest w_Journal_dropLatest 0 0 X [.ref x0] none X' 0 0 := by
  refine zr_ofW (by decide) (by exact Nat.le_of_ble_eq_true rfl) ?_
  intro p e s m args below meth c ls hx hb hml hr hts hown hin hlocks hk hX hl
  have hS : va_S (zh_A G) s.heap s.heap [] := va_S.rf
  have hl : lv_has ls 1 [(0, .ref x0)] := hl
  have hown : s.vm.findClass R_Journal = some m.cls := hown
  unfold f_Journal_dropLatest at hm
  refine lv_aload_n hx hb d_Journal_dropLatest_0 rfl (lv_at hl 0 rfl) ?_
  replace hm := zb1_s hm
  obtain ⟨v2, h1, hm⟩ := hm
  refine zr_get (ci := 2) (C := R_Journal) (T := F_Journal) (N := 2) hx hb hts in_Journal hown hk hX rfl 1 (by decide) (hts _ tW118) rfl (zgi_v h1) d_Journal_dropLatest_1 ?_
  refine lv_if_le (tgt := 17) hx hb d_Journal_dropLatest_4 rfl (fun h3 => ?_) (fun h3 => ?_)
  · replace hm := zi_t h3 hm
    cases hm
    exact W.vret hx hb hr (fun t ht hW => zh_end hk hX hS ht hW) hS.2.2 d_Journal_dropLatest_17
  · replace hm := zi_f h3 hm
    refine lv_aload_n hx hb d_Journal_dropLatest_7 rfl (lv_at hl 0 rfl) ?_
    refine lv_dup hx hb d_Journal_dropLatest_8 rfl ?_
    replace hm := zb1_s hm
    obtain ⟨v5, h4, hm⟩ := hm
    refine zr_get (ci := 2) (C := R_Journal) (T := F_Journal) (N := 2) hx hb hts in_Journal hown hk hX rfl 1 (by decide) (hts _ tW118) rfl (zgi_v h4) d_Journal_dropLatest_9 ?_
    refine lv_iconst (v := 1) hx hb d_Journal_dropLatest_12 (by decide) ?_
    refine lv_isub hx hb d_Journal_dropLatest_13 ?_
    replace hm := zb1_s hm
    obtain ⟨X6, h7, hm⟩ := hm
    refine zr_put (ci := 2) (C := R_Journal) (T := F_Journal) (N := 2) (ty := .int) (v := .int (v5 - 1)) hx hb hts in_Journal t_Journal t_Journal_ok n_Journal hown hk hX hS rfl 1 (by decide) (hts _ tW118) rfl rfl (by decide +kernel) rfl rfl h7 d_Journal_dropLatest_14 (fun H locs hX hS => ?_)
    cases hm
    exact W.vret hx hb hr (fun t ht hW => zh_end hk hX hS ht hW) hS.2.2 d_Journal_dropLatest_17
set_option maxHeartbeats 4000000 in
set_option maxRecDepth 100000 in
theorem c_Primary_comeUp (l : Launch) (G : zh_G) (N : Nat) (X : zh_T) (x0 : Nat) (r : Unit) (X' : zh_T) (hm : f_Primary_comeUp N X x0 = some (r, X')) : zM l G y_Primary_comeUp w_Primary_comeUp 2 44 X [.ref x0] none X' 0 0 := by
  refine zr_ofW (by decide) (by exact Nat.le_of_ble_eq_true rfl) ?_
  intro p e s m args below meth c ls hx hb hml hr hts hown hin hlocks hk hX hl
  have hS : va_S (zh_A G) s.heap s.heap [] := va_S.rf
  have hl : lv_has ls 2 [(0, .ref x0)] := hl
  have hown : s.vm.findClass R_Primary = some m.cls := hown
  unfold f_Primary_comeUp at hm
  refine lv_aload_n hx hb d_Primary_comeUp_0 rfl (lv_at hl 0 rfl) ?_
  refine lv_iconst (v := 1) hx hb d_Primary_comeUp_1 (by decide) ?_
  replace hm := zb1_s hm
  obtain ⟨X1, h2, hm⟩ := hm
  refine zr_put (ci := 4) (C := R_Primary) (T := F_Primary) (N := 9) (ty := .boolean) (v := .int 1) hx hb hts in_Primary t_Primary t_Primary_ok n_Primary hown hk hX hS rfl 8 (by decide) (hts _ tW43) rfl rfl (by decide +kernel) (zpz_n h2) (zpz_f h2) (zpz_v h2) d_Primary_comeUp_2 (fun H locs hX hS => ?_)
  refine lv_aload_n hx hb d_Primary_comeUp_5 rfl (lv_at hl 0 rfl) ?_
  replace hm := zb1_s hm
  obtain ⟨a4, h3, hm⟩ := hm
  refine zr_get (ci := 4) (C := R_Primary) (T := F_Primary) (N := 9) hx hb hts in_Primary hown hk hX rfl 2 (by decide) (hts _ tW41) rfl (zgr_v h3) d_Primary_comeUp_6 ?_
  replace hm := zb1_s hm
  obtain ⟨_, h6, hm⟩ := hm
  replace hm := zb1_s hm
  obtain ⟨q7, h5, hm⟩ := hm
  refine zr_callq (zr_runV (As := []) (rest := []) (n := 0) hx hb hml hown hts hk hX (c_Journal_latest l G N X1 a4 q7 h5) (hts _ tW323) tW324 (hts _ tW37) (hts _ tW325) (hts _ tW326) rfl h6 (by decide +kernel) ⟨Nat.le_of_ble_eq_true rfl, Nat.le_of_ble_eq_true rfl⟩ rfl rfl hl.1 rfl (lv_room (Nat.le_of_ble_eq_true rfl)) d_Primary_comeUp_9 ⟨(Nat.le_of_ble_eq_true rfl), (Nat.le_of_ble_eq_true rfl)⟩) hS (fun H locs hX hS => ?_)
  refine zr_astore_nq (lv' := [(1, va_rf q7), (0, .ref x0)]) hx hb d_Primary_comeUp_12 rfl hl (by decide) rfl (fun ls hl => ?_)
  cases q7 with
  | none =>
    replace hm := zbo_n hm
    refine lv_aload_nN hx hb d_Primary_comeUp_13 rfl (lv_at hl 0 rfl) ?_
    refine lv_ifnullN (tgt := 28) hx hb d_Primary_comeUp_14 rfl ?_
    cases hm
    exact W.vret hx hb hr (fun t ht hW => zh_end hk hX hS ht hW) hS.2.2 d_Primary_comeUp_28
  | some a8 =>
    replace hm := zbo_s hm
    refine lv_aload_n hx hb d_Primary_comeUp_13 rfl (lv_at hl 0 rfl) ?_
    refine lv_ifnull hx hb d_Primary_comeUp_14 ?_
    refine lv_aload_n hx hb d_Primary_comeUp_17 rfl (lv_at hl 0 rfl) ?_
    replace hm := zb1_s hm
    obtain ⟨v10, h9, hm⟩ := hm
    refine zr_getN (ci := 1) (C := R_Entry) (T := F_Entry) (N := 4) hx hb hts in_Entry hown hk hX rfl 2 (by decide) rfl rfl (nF43 hk) rfl (zgi_v h9) d_Primary_comeUp_18 ?_
    refine lv_aload_n hx hb d_Primary_comeUp_21 rfl (lv_at hl 1 rfl) ?_
    replace hm := zb1_s hm
    obtain ⟨v12, h11, hm⟩ := hm
    refine zr_get (ci := 4) (C := R_Primary) (T := F_Primary) (N := 9) hx hb hts in_Primary hown hk hX rfl 6 (by decide) (hts _ tW44) rfl (zgi_v h11) d_Primary_comeUp_22 ?_
    refine lv_icmp_eq (tgt := 29) hx hb d_Primary_comeUp_25 rfl (fun h13 => ?_) (fun h13 => ?_)
    · replace hm := zi_t h13 hm
      refine lv_aload_n hx hb d_Primary_comeUp_29 rfl (lv_at hl 0 rfl) ?_
      replace hm := zb1_s hm
      obtain ⟨v15, h14, hm⟩ := hm
      refine zr_getN (ci := 1) (C := R_Entry) (T := F_Entry) (N := 4) hx hb hts in_Entry hown hk hX rfl 3 (by decide) rfl rfl (nF48 hk) rfl (zgi_v h14) d_Primary_comeUp_30 ?_
      refine lv_if_eq (tgt := 43) hx hb d_Primary_comeUp_33 rfl (fun h16 => ?_) (fun h16 => ?_)
      · replace hm := zi_t h16 hm
        refine lv_aload_n hx hb d_Primary_comeUp_43 rfl (lv_at hl 1 rfl) ?_
        replace hm := zb1_s hm
        obtain ⟨a18, h17, hm⟩ := hm
        refine zr_get (ci := 4) (C := R_Primary) (T := F_Primary) (N := 9) hx hb hts in_Primary hown hk hX rfl 2 (by decide) (hts _ tW41) rfl (zgr_v h17) d_Primary_comeUp_44 ?_
        replace hm := zb1_s hm
        obtain ⟨_, h20, hm⟩ := hm
        replace hm := zb2_s hm
        obtain ⟨v21, X22, h19, hm⟩ := hm
        refine zr_callv (zr_runV (As := []) (rest := []) (n := 0) hx hb hml hown hts hk hX (c_Journal_dropLatest l G N X1 a18 v21 X22 h19) (hts _ tW414) tW415 (hts _ tW37) (hts _ tW416) (hts _ tW417) rfl h20 (by decide +kernel) ⟨Nat.le_of_ble_eq_true rfl, Nat.le_of_ble_eq_true rfl⟩ rfl rfl hl.1 rfl (lv_room (Nat.le_of_ble_eq_true rfl)) d_Primary_comeUp_47 ⟨(Nat.le_of_ble_eq_true rfl), (Nat.le_of_ble_eq_true rfl)⟩) hS (fun H locs hX hS => ?_)
        cases hm
        exact W.vret hx hb hr (fun t ht hW => zh_end hk hX hS ht hW) hS.2.2 d_Primary_comeUp_50
      · replace hm := zi_f h16 hm
        refine lv_aload_n hx hb d_Primary_comeUp_36 rfl (lv_at hl 1 rfl) ?_
        replace hm := zb1_s hm
        obtain ⟨_, h24, hm⟩ := hm
        replace hm := zb2_s hm
        obtain ⟨v25, X26, h23, hm⟩ := hm
        refine zr_callv (zr_runV (As := []) (rest := []) (n := 0) hx hb hml hown hts hk hX (c_Primary_becomeLatest l G N X1 x0 v25 X26 h23) (hts _ tW343) tW344 (hts _ tW104) (hts _ tW345) (hts _ tW346) rfl h24 (by decide +kernel) ⟨Nat.le_of_ble_eq_true rfl, Nat.le_of_ble_eq_true rfl⟩ rfl rfl hl.1 rfl (lv_room (Nat.le_of_ble_eq_true rfl)) d_Primary_comeUp_37 ⟨(Nat.le_of_ble_eq_true rfl), (Nat.le_of_ble_eq_true rfl)⟩) hS (fun H locs hX hS => ?_)
        refine lv_goto (tgt := 50) hx hb d_Primary_comeUp_40 rfl ?_
        cases hm
        exact W.vret hx hb hr (fun t ht hW => zh_end hk hX hS ht hW) hS.2.2 d_Primary_comeUp_50
    · replace hm := zi_f h13 hm
      cases hm
      exact W.vret hx hb hr (fun t ht hW => zh_end hk hX hS ht hW) hS.2.2 d_Primary_comeUp_28
set_option maxHeartbeats 4000000 in
set_option maxRecDepth 100000 in
theorem c_ZoneNodes_restart (l : Launch) (G : zh_G) (N : Nat) (X : zh_T) (x0 : Nat) (x1 : Int32) (r : Int32) (X' : zh_T) (hm : f_ZoneNodes_restart N X x0 x1 = some (r, X')) : zM l G y_ZoneNodes_restart w_ZoneNodes_restart 4 86 X [.ref x0, .int x1] (some (.int r)) X' 0 0 := by
  refine zr_ofW (by decide) (by exact Nat.le_of_ble_eq_true rfl) ?_
  intro p e s m args below meth c ls hx hb hml hr hts hown hin hlocks hk hX hl
  have hS : va_S (zh_A G) s.heap s.heap [] := va_S.rf
  have hl : lv_has ls 2 [(0, .ref x0), (1, .int x1)] := hl
  have hown : s.vm.findClass R_ZoneNodes = some m.cls := hown
  unfold f_ZoneNodes_restart at hm
  refine lv_iload_n hx hb d_ZoneNodes_restart_0 rfl (lv_at hl 1 rfl) ?_
  replace hm := zb1_s hm
  obtain ⟨v2, h1, hm⟩ := hm
  refine zr_calli (zr_runS (As := [.int x1]) (rest := []) (n := 1) hx hb hml hown hts hk hX (c_ZoneNodes_isNode l G N X x1 v2 h1) (hts _ tW249) tW250 (hts _ tW100) (hts _ tW251) (by decide +kernel) ⟨Nat.le_of_ble_eq_true rfl, Nat.le_of_ble_eq_true rfl⟩ rfl rfl hl.1 rfl (lv_room (Nat.le_of_ble_eq_true rfl)) d_ZoneNodes_restart_1 ⟨(Nat.le_of_ble_eq_true rfl), (Nat.le_of_ble_eq_true rfl)⟩) hS (fun H locs hX hS => ?_)
  refine lv_if_eq (tgt := 15) hx hb d_ZoneNodes_restart_4 rfl (fun h3 => ?_) (fun h3 => ?_)
  · replace hm := zi_t h3 hm
    refine lv_iconst (v := 0) hx hb d_ZoneNodes_restart_15 (by decide) ?_
    cases hm
    exact W.zret hx hb hr (by decide) (fun t ht hW => zh_end hk hX hS ht hW) hS.2.2 d_ZoneNodes_restart_16
  · replace hm := zi_f h3 hm
    refine lv_aload_n hx hb d_ZoneNodes_restart_7 rfl (lv_at hl 0 rfl) ?_
    refine lv_iload_n hx hb d_ZoneNodes_restart_8 rfl (lv_at hl 1 rfl) ?_
    replace hm := zb1_s hm
    obtain ⟨_, h5, hm⟩ := hm
    replace hm := zb1_s hm
    obtain ⟨v6, h4, hm⟩ := hm
    refine zr_calli (zr_runV (As := [.int x1]) (rest := []) (n := 1) hx hb hml hown hts hk hX (c_ZoneNodes_isUp l G N X x0 x1 v6 h4) (hts _ tW252) tW253 (hts _ tW100) (hts _ tW254) (hts _ tW255) rfl h5 (by decide +kernel) ⟨Nat.le_of_ble_eq_true rfl, Nat.le_of_ble_eq_true rfl⟩ rfl rfl hl.1 rfl (lv_room (Nat.le_of_ble_eq_true rfl)) d_ZoneNodes_restart_9 ⟨(Nat.le_of_ble_eq_true rfl), (Nat.le_of_ble_eq_true rfl)⟩) hS (fun H locs hX hS => ?_)
    refine lv_if_eq (tgt := 17) hx hb d_ZoneNodes_restart_12 rfl (fun h7 => ?_) (fun h7 => ?_)
    · replace hm := zi_t h7 hm
      refine lv_iload_n hx hb d_ZoneNodes_restart_17 rfl (lv_at hl 1 rfl) ?_
      refine lv_if_ne (tgt := 35) hx hb d_ZoneNodes_restart_18 rfl (fun h8 => ?_) (fun h8 => ?_)
      · replace hm := zi_f h8 hm
        refine lv_aload_n hx hb d_ZoneNodes_restart_35 rfl (lv_at hl 0 rfl) ?_
        replace hm := zb1_s hm
        obtain ⟨a10, h9, hm⟩ := hm
        refine zr_get (ci := 8) (C := R_ZoneNodes) (T := F_ZoneNodes) (N := 7) hx hb hts in_ZoneNodes hown hk hX rfl 5 (by decide) (hts _ tW97) rfl (zgr_v h9) d_ZoneNodes_restart_36 ?_
        refine lv_iload_n hx hb d_ZoneNodes_restart_39 rfl (lv_at hl 1 rfl) ?_
        refine lv_iconst (v := 1) hx hb d_ZoneNodes_restart_40 (by decide) ?_
        refine lv_isub hx hb d_ZoneNodes_restart_41 ?_
        replace hm := zb1_s hm
        obtain ⟨a12, h11, hm⟩ := hm
        refine zr_aaload (t := 4) (q := some a12) hx hb hk hX rfl (zar_v h11) d_ZoneNodes_restart_42 ?_
        refine lv_aload_n hx hb d_ZoneNodes_restart_43 rfl (lv_at hl 0 rfl) ?_
        replace hm := zb1_s hm
        obtain ⟨v14, h13, hm⟩ := hm
        refine zr_get (ci := 8) (C := R_ZoneNodes) (T := F_ZoneNodes) (N := 7) hx hb hts in_ZoneNodes hown hk hX rfl 6 (by decide) (hts _ tW219) rfl (zgi_v h13) d_ZoneNodes_restart_44 ?_
        replace hm := zb1_s hm
        obtain ⟨_, h16, hm⟩ := hm
        replace hm := zb2_s hm
        obtain ⟨v17, X18, h15, hm⟩ := hm
        refine zr_callv (zr_runV (As := [.int v14]) (rest := []) (n := 1) hx hb hml hown hts hk hX (c_Secondary_comeUp l G N X a12 v14 v17 X18 h15) (hts _ tW418) tW67 (hts _ tW54) (hts _ tW68) (hts _ tW69) rfl h16 (by decide +kernel) ⟨Nat.le_of_ble_eq_true rfl, Nat.le_of_ble_eq_true rfl⟩ rfl rfl hl.1 rfl (lv_room (Nat.le_of_ble_eq_true rfl)) d_ZoneNodes_restart_47 ⟨(Nat.le_of_ble_eq_true rfl), (Nat.le_of_ble_eq_true rfl)⟩) hS (fun H locs hX hS => ?_)
        refine lv_iconst (v := 1) hx hb d_ZoneNodes_restart_50 (by decide) ?_
        cases hm
        exact W.zret hx hb hr (by decide) (fun t ht hW => zh_end hk hX hS ht hW) hS.2.2 d_ZoneNodes_restart_51
      · replace hm := zi_t h8 hm
        refine lv_aload_n hx hb d_ZoneNodes_restart_21 rfl (lv_at hl 0 rfl) ?_
        replace hm := zb1_s hm
        obtain ⟨a20, h19, hm⟩ := hm
        refine zr_get (ci := 8) (C := R_ZoneNodes) (T := F_ZoneNodes) (N := 7) hx hb hts in_ZoneNodes hown hk hX rfl 4 (by decide) (hts _ tW108) rfl (zgr_v h19) d_ZoneNodes_restart_22 ?_
        replace hm := zb1_s hm
        obtain ⟨_, h22, hm⟩ := hm
        replace hm := zb2_s hm
        obtain ⟨v23, X24, h21, hm⟩ := hm
        refine zr_callv (zr_runV (As := []) (rest := []) (n := 0) hx hb hml hown hts hk hX (c_Primary_comeUp l G N X a20 v23 X24 h21) (hts _ tW419) tW420 (hts _ tW104) (hts _ tW421) (hts _ tW422) rfl h22 (by decide +kernel) ⟨Nat.le_of_ble_eq_true rfl, Nat.le_of_ble_eq_true rfl⟩ rfl rfl hl.1 rfl (lv_room (Nat.le_of_ble_eq_true rfl)) d_ZoneNodes_restart_25 ⟨(Nat.le_of_ble_eq_true rfl), (Nat.le_of_ble_eq_true rfl)⟩) hS (fun H locs hX hS => ?_)
        refine lv_aload_n hx hb d_ZoneNodes_restart_28 rfl (lv_at hl 0 rfl) ?_
        replace hm := zb1_s hm
        obtain ⟨_, h26, hm⟩ := hm
        replace hm := zb2_s hm
        obtain ⟨v27, X28, h25, hm⟩ := hm
        refine zr_callv (zr_runV (As := []) (rest := []) (n := 0) hx hb hml hown hts hk hX (c_ZoneNodes_notifySecondaries l G N X24 x0 v27 X28 h25) (hts _ tW370) tW371 (hts _ tW100) (hts _ tW372) (hts _ tW373) rfl h26 (by decide +kernel) ⟨Nat.le_of_ble_eq_true rfl, Nat.le_of_ble_eq_true rfl⟩ rfl rfl hl.1 rfl (lv_room (Nat.le_of_ble_eq_true rfl)) d_ZoneNodes_restart_29 ⟨(Nat.le_of_ble_eq_true rfl), (Nat.le_of_ble_eq_true rfl)⟩) hS (fun H locs hX hS => ?_)
        refine lv_goto (tgt := 50) hx hb d_ZoneNodes_restart_32 rfl ?_
        refine lv_iconst (v := 1) hx hb d_ZoneNodes_restart_50 (by decide) ?_
        cases hm
        exact W.zret hx hb hr (by decide) (fun t ht hW => zh_end hk hX hS ht hW) hS.2.2 d_ZoneNodes_restart_51
    · replace hm := zi_f h7 hm
      refine lv_iconst (v := 0) hx hb d_ZoneNodes_restart_15 (by decide) ?_
      cases hm
      exact W.zret hx hb hr (by decide) (fun t ht hW => zh_end hk hX hS ht hW) hS.2.2 d_ZoneNodes_restart_16
