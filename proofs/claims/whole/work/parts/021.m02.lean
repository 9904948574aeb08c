set_option maxHeartbeats 4000000 in
set_option maxRecDepth 100000 in
theorem c_ZoneNodes_arriveAtPrimary (l : Launch) (G : zh_G) (N : Nat) (X : zh_T) (x0 : Nat) (x1 : Nat) (r : Unit) (X' : zh_T) (hm : f_ZoneNodes_arriveAtPrimary N X x0 x1 = some (r, X')) : zM l G y_ZoneNodes_arriveAtPrimary w_ZoneNodes_arriveAtPrimary 3 73 X [.ref x0, .ref x1] none X' 0 0 := by
  refine zr_ofW (by decide) (by exact Nat.le_of_ble_eq_true rfl) ?_
  intro p e s m args below meth c ls hx hb hml hr hts hown hin hlocks hk hX hl
  have hS : va_S (zh_A G) s.heap s.heap [] := va_S.rf
  have hl : lv_has ls 2 [(0, .ref x0), (1, .ref x1)] := hl
  have hown : s.vm.findClass R_ZoneNodes = some m.cls := hown
  unfold f_ZoneNodes_arriveAtPrimary at hm
  refine lv_aload_n hx hb d_ZoneNodes_arriveAtPrimary_0 rfl (lv_at hl 0 rfl) ?_
  replace hm := zb1_s hm
  obtain ⟨a2, h1, hm⟩ := hm
  refine zr_get (ci := 8) (C := R_ZoneNodes) (T := F_ZoneNodes) (N := 7) hx hb hts in_ZoneNodes hown hk hX rfl 4 (by decide) (hts _ tW108) rfl (zgr_v h1) d_ZoneNodes_arriveAtPrimary_1 ?_
  replace hm := zb1_s hm
  obtain ⟨v4, h3, hm⟩ := hm
  refine zr_getN (ci := 4) (C := R_Primary) (T := F_Primary) (N := 9) hx hb hts in_Primary hown hk hX rfl 8 (by decide) rfl rfl (nF2 hk) rfl (zgi_v h3) d_ZoneNodes_arriveAtPrimary_4 ?_
  refine lv_if_ne (tgt := 11) hx hb d_ZoneNodes_arriveAtPrimary_7 rfl (fun h5 => ?_) (fun h5 => ?_)
  · replace hm := zi_f h5 hm
    refine lv_aload_n hx hb d_ZoneNodes_arriveAtPrimary_11 rfl (lv_at hl 1 rfl) ?_
    replace hm := zb1_s hm
    obtain ⟨v7, h6, hm⟩ := hm
    refine zr_getN (ci := 3) (C := R_Message) (T := F_Message) (N := 10) hx hb hts in_Message hown hk hX rfl 1 (by decide) rfl rfl (nF0 hk) rfl (zgi_v h6) d_ZoneNodes_arriveAtPrimary_12 ?_
    refine lv_iconst (v := 2) hx hb d_ZoneNodes_arriveAtPrimary_15 (by decide) ?_
    refine lv_icmp_ne (tgt := 41) hx hb d_ZoneNodes_arriveAtPrimary_16 rfl (fun h8 => ?_) (fun h8 => ?_)
    · replace hm := zi_f h8 hm
      refine lv_aload_n hx hb d_ZoneNodes_arriveAtPrimary_41 rfl (lv_at hl 0 rfl) ?_
      replace hm := zb1_s hm
      obtain ⟨a10, h9, hm⟩ := hm
      refine zr_get (ci := 8) (C := R_ZoneNodes) (T := F_ZoneNodes) (N := 7) hx hb hts in_ZoneNodes hown hk hX rfl 4 (by decide) (hts _ tW108) rfl (zgr_v h9) d_ZoneNodes_arriveAtPrimary_42 ?_
      refine lv_aload_n hx hb d_ZoneNodes_arriveAtPrimary_45 rfl (lv_at hl 1 rfl) ?_
      replace hm := zb1_s hm
      obtain ⟨v12, h11, hm⟩ := hm
      refine zr_getN (ci := 3) (C := R_Message) (T := F_Message) (N := 10) hx hb hts in_Message hown hk hX rfl 3 (by decide) rfl rfl (nF22 hk) rfl (zgi_v h11) d_ZoneNodes_arriveAtPrimary_46 ?_
      refine lv_aload_n hx hb d_ZoneNodes_arriveAtPrimary_49 rfl (lv_at hl 1 rfl) ?_
      replace hm := zb1_s hm
      obtain ⟨v14, h13, hm⟩ := hm
      refine zr_getN (ci := 3) (C := R_Message) (T := F_Message) (N := 10) hx hb hts in_Message hown hk hX rfl 4 (by decide) rfl rfl (nF23 hk) rfl (zgi_v h13) d_ZoneNodes_arriveAtPrimary_50 ?_
      replace hm := zb1_s hm
      obtain ⟨_, h16, hm⟩ := hm
      replace hm := zb2_s hm
      obtain ⟨v17, X18, h15, hm⟩ := hm
      refine zr_callv (zr_runV (As := [.int v12, .int v14]) (rest := []) (n := 2) hx hb hml hown hts hk hX (c_Primary_workOutItems l G N X a10 v12 v14 v17 X18 h15) (hts _ tW152) tW153 (hts _ tW104) (hts _ tW154) (hts _ tW155) rfl h16 (by decide +kernel) ⟨Nat.le_of_ble_eq_true rfl, Nat.le_of_ble_eq_true rfl⟩ rfl rfl hl.1 rfl (lv_room (Nat.le_of_ble_eq_true rfl)) d_ZoneNodes_arriveAtPrimary_53 ⟨(Nat.le_of_ble_eq_true rfl), (Nat.le_of_ble_eq_true rfl)⟩) hS (fun H locs hX hS => ?_)
      refine lv_aload_n hx hb d_ZoneNodes_arriveAtPrimary_56 rfl (lv_at hl 0 rfl) ?_
      replace hm := zb1_s hm
      obtain ⟨a20, h19, hm⟩ := hm
      refine zr_get (ci := 8) (C := R_ZoneNodes) (T := F_ZoneNodes) (N := 7) hx hb hts in_ZoneNodes hown hk hX rfl 3 (by decide) (hts _ tW95) rfl (zgr_v h19) d_ZoneNodes_arriveAtPrimary_57 ?_
      refine lv_aload_n hx hb d_ZoneNodes_arriveAtPrimary_60 rfl (lv_at hl 1 rfl) ?_
      replace hm := zb1_s hm
      obtain ⟨v22, h21, hm⟩ := hm
      refine zr_getN (ci := 3) (C := R_Message) (T := F_Message) (N := 10) hx hb hts in_Message hown hk hX rfl 2 (by decide) rfl rfl (nF24 hk) rfl (zgi_v h21) d_ZoneNodes_arriveAtPrimary_61 ?_
      refine lv_aload_n hx hb d_ZoneNodes_arriveAtPrimary_64 rfl (lv_at hl 0 rfl) ?_
      replace hm := zb1_s hm
      obtain ⟨a24, h23, hm⟩ := hm
      refine zr_get (ci := 8) (C := R_ZoneNodes) (T := F_ZoneNodes) (N := 7) hx hb hts in_ZoneNodes hown hk hX rfl 4 (by decide) (hts _ tW108) rfl (zgr_v h23) d_ZoneNodes_arriveAtPrimary_65 ?_
      replace hm := zb1_s hm
      obtain ⟨_, h26, hm⟩ := hm
      replace hm := zb2_s hm
      obtain ⟨v27, X28, h25, hm⟩ := hm
      refine zr_callv (zr_runV (As := [.int v22, .ref a24]) (rest := []) (n := 2) hx hb hml hown hts hk hX (c_Wire_sendParts l G N X18 a20 v22 a24 v27 X28 h25) (hts _ tW156) tW157 (hts _ tW91) (hts _ tW158) (hts _ tW159) rfl h26 (by decide +kernel) ⟨Nat.le_of_ble_eq_true rfl, Nat.le_of_ble_eq_true rfl⟩ rfl rfl hl.1 rfl (lv_room (Nat.le_of_ble_eq_true rfl)) d_ZoneNodes_arriveAtPrimary_68 ⟨(Nat.le_of_ble_eq_true rfl), (Nat.le_of_ble_eq_true rfl)⟩) hS (fun H locs hX hS => ?_)
      cases hm
      exact W.vret hx hb hr (fun t ht hW => zh_end hk hX hS ht hW) hS.2.2 d_ZoneNodes_arriveAtPrimary_71
    · replace hm := zi_t h8 hm
      refine lv_aload_n hx hb d_ZoneNodes_arriveAtPrimary_19 rfl (lv_at hl 0 rfl) ?_
      replace hm := zb1_s hm
      obtain ⟨a30, h29, hm⟩ := hm
      refine zr_get (ci := 8) (C := R_ZoneNodes) (T := F_ZoneNodes) (N := 7) hx hb hts in_ZoneNodes hown hk hX rfl 3 (by decide) (hts _ tW95) rfl (zgr_v h29) d_ZoneNodes_arriveAtPrimary_20 ?_
      refine lv_iconst (v := 3) hx hb d_ZoneNodes_arriveAtPrimary_23 (by decide) ?_
      refine lv_aload_n hx hb d_ZoneNodes_arriveAtPrimary_24 rfl (lv_at hl 1 rfl) ?_
      replace hm := zb1_s hm
      obtain ⟨v32, h31, hm⟩ := hm
      refine zr_getN (ci := 3) (C := R_Message) (T := F_Message) (N := 10) hx hb hts in_Message hown hk hX rfl 2 (by decide) rfl rfl (nF24 hk) rfl (zgi_v h31) d_ZoneNodes_arriveAtPrimary_25 ?_
      refine lv_aload_n hx hb d_ZoneNodes_arriveAtPrimary_28 rfl (lv_at hl 0 rfl) ?_
      replace hm := zb1_s hm
      obtain ⟨a34, h33, hm⟩ := hm
      refine zr_get (ci := 8) (C := R_ZoneNodes) (T := F_ZoneNodes) (N := 7) hx hb hts in_ZoneNodes hown hk hX rfl 4 (by decide) (hts _ tW108) rfl (zgr_v h33) d_ZoneNodes_arriveAtPrimary_29 ?_
      replace hm := zb1_s hm
      obtain ⟨v36, h35, hm⟩ := hm
      refine zr_getN (ci := 4) (C := R_Primary) (T := F_Primary) (N := 9) hx hb hts in_Primary hown hk hX rfl 6 (by decide) rfl rfl (nF25 hk) rfl (zgi_v h35) d_ZoneNodes_arriveAtPrimary_32 ?_
      replace hm := zb1_s hm
      obtain ⟨_, h38, hm⟩ := hm
      replace hm := zb2_s hm
      obtain ⟨v39, X40, h37, hm⟩ := hm
      refine zr_callv (zr_runV (As := [.int 3, .int v32, .int v36]) (rest := []) (n := 3) hx hb hml hown hts hk hX (c_Wire_sendLossy l G N X a30 3 v32 v36 v39 X40 h37) (hts _ tW160) tW161 (hts _ tW91) (hts _ tW162) (hts _ tW163) rfl h38 (by decide +kernel) ⟨Nat.le_of_ble_eq_true rfl, Nat.le_of_ble_eq_true rfl⟩ rfl rfl hl.1 rfl (lv_room (Nat.le_of_ble_eq_true rfl)) d_ZoneNodes_arriveAtPrimary_35 ⟨(Nat.le_of_ble_eq_true rfl), (Nat.le_of_ble_eq_true rfl)⟩) hS (fun H locs hX hS => ?_)
      refine lv_goto (tgt := 71) hx hb d_ZoneNodes_arriveAtPrimary_38 rfl ?_
      cases hm
      exact W.vret hx hb hr (fun t ht hW => zh_end hk hX hS ht hW) hS.2.2 d_ZoneNodes_arriveAtPrimary_71
  · replace hm := zi_t h5 hm
    cases hm
    exact W.vret hx hb hr (fun t ht hW => zh_end hk hX hS ht hW) hS.2.2 d_ZoneNodes_arriveAtPrimary_10
set_option maxHeartbeats 4000000 in
set_option maxRecDepth 100000 in
theorem c_Secondary_ask (l : Launch) (G : zh_G) (N : Nat) (X : zh_T) (x0 : Nat) (x1 : Int32) (x2 : Nat) (r : Unit) (X' : zh_T) (hm : f_Secondary_ask N X x0 x1 x2 = some (r, X')) : zM l G y_Secondary_ask w_Secondary_ask 3 65 X [.ref x0, .int x1, .ref x2] none X' 0 0 := by
  refine zr_ofW (by decide) (by exact Nat.le_of_ble_eq_true rfl) ?_
  intro p e s m args below meth c ls hx hb hml hr hts hown hin hlocks hk hX hl
  have hS : va_S (zh_A G) s.heap s.heap [] := va_S.rf
  have hl : lv_has ls 3 [(0, .ref x0), (1, .int x1), (2, .ref x2)] := hl
  have hown : s.vm.findClass R_Secondary = some m.cls := hown
  unfold f_Secondary_ask at hm
  refine lv_aload_n hx hb d_Secondary_ask_0 rfl (lv_at hl 2 rfl) ?_
  refine lv_iconst (v := 2) hx hb d_Secondary_ask_1 (by decide) ?_
  refine lv_aload_n hx hb d_Secondary_ask_2 rfl (lv_at hl 0 rfl) ?_
  replace hm := zb1_s hm
  obtain ⟨v2, h1, hm⟩ := hm
  refine zr_get (ci := 6) (C := R_Secondary) (T := F_Secondary) (N := 13) hx hb hts in_Secondary hown hk hX rfl 0 (by decide) (hts _ tW63) rfl (zgi_v h1) d_Secondary_ask_3 ?_
  refine lv_iconst (v := 0) hx hb d_Secondary_ask_6 (by decide) ?_
  replace hm := zb1_s hm
  obtain ⟨_, h4, hm⟩ := hm
  replace hm := zb2_s hm
  obtain ⟨v5, X6, h3, hm⟩ := hm
  refine zr_callv (zr_runV (As := [.int 2, .int v2, .int 0]) (rest := []) (n := 3) hx hb hml hown hts hk hX (c_Wire_sendLossy l G N X x2 2 v2 0 v5 X6 h3) (hts _ tW164) tW161 (hts _ tW91) (hts _ tW162) (hts _ tW163) rfl h4 (by decide +kernel) ⟨Nat.le_of_ble_eq_true rfl, Nat.le_of_ble_eq_true rfl⟩ rfl rfl hl.1 rfl (lv_room (Nat.le_of_ble_eq_true rfl)) d_Secondary_ask_7 ⟨(Nat.le_of_ble_eq_true rfl), (Nat.le_of_ble_eq_true rfl)⟩) hS (fun H locs hX hS => ?_)
  refine lv_aload_n hx hb d_Secondary_ask_10 rfl (lv_at hl 0 rfl) ?_
  refine lv_iconst (v := 1) hx hb d_Secondary_ask_11 (by decide) ?_
  replace hm := zb1_s hm
  obtain ⟨X7, h8, hm⟩ := hm
  refine zr_put (ci := 6) (C := R_Secondary) (T := F_Secondary) (N := 13) (ty := .int) (v := .int 1) hx hb hts in_Secondary t_Secondary t_Secondary_ok n_Secondary hown hk hX hS rfl 9 (by decide) (hts _ tW49) rfl rfl (by decide +kernel) rfl rfl h8 d_Secondary_ask_12 (fun H locs hX hS => ?_)
  refine lv_aload_n hx hb d_Secondary_ask_15 rfl (lv_at hl 0 rfl) ?_
  refine lv_iload_n hx hb d_Secondary_ask_16 rfl (lv_at hl 1 rfl) ?_
  replace hm := zb1_s hm
  obtain ⟨X9, h10, hm⟩ := hm
  refine zr_put (ci := 6) (C := R_Secondary) (T := F_Secondary) (N := 13) (ty := .int) (v := .int x1) hx hb hts in_Secondary t_Secondary t_Secondary_ok n_Secondary hown hk hX hS rfl 11 (by decide) (hts _ tW165) rfl rfl (by decide +kernel) rfl rfl h10 d_Secondary_ask_17 (fun H locs hX hS => ?_)
  cases hm
  exact W.vret hx hb hr (fun t ht hW => zh_end hk hX hS ht hW) hS.2.2 d_Secondary_ask_20
set_option maxHeartbeats 4000000 in
set_option maxRecDepth 100000 in
theorem c_ZoneNodes_isLater (l : Launch) (G : zh_G) (N : Nat) (X : zh_T) (x0 : Int32) (x1 : Int32) (r : Int32) (hm : f_ZoneNodes_isLater N X x0 x1 = some r) : zM l G y_ZoneNodes_isLater w_ZoneNodes_isLater 0 0 X [.int x0, .int x1] (some (.int r)) X 0 0 := by
  refine zr_ofW (by decide) (by exact Nat.le_of_ble_eq_true rfl) ?_
  intro p e s m args below meth c ls hx hb hml hr hts hown hin hlocks hk hX hl
  have hS : va_S (zh_A G) s.heap s.heap [] := va_S.rf
  have hl : lv_has ls 2 [(0, .int x0), (1, .int x1)] := hl
  have hown : s.vm.findClass R_ZoneNodes = some m.cls := hown
  unfold f_ZoneNodes_isLater at hm
  refine lv_iload_n hx hb d_ZoneNodes_isLater_0 rfl (lv_at hl 0 rfl) ?_
  refine lv_iload_n hx hb d_ZoneNodes_isLater_1 rfl (lv_at hl 1 rfl) ?_
  refine lv_isub hx hb d_ZoneNodes_isLater_2 ?_
  refine lv_if_le (tgt := 10) hx hb d_ZoneNodes_isLater_3 rfl (fun h1 => ?_) (fun h1 => ?_)
  · replace hm := zi_t h1 hm
    refine lv_iconst (v := 0) hx hb d_ZoneNodes_isLater_10 (by decide) ?_
    cases hm
    exact W.zret hx hb hr (by decide) (fun t ht hW => zh_end hk hX hS ht hW) hS.2.2 d_ZoneNodes_isLater_11
  · replace hm := zi_f h1 hm
    refine lv_iconst (v := 1) hx hb d_ZoneNodes_isLater_6 (by decide) ?_
    refine lv_goto (tgt := 11) hx hb d_ZoneNodes_isLater_7 rfl ?_
    cases hm
    exact W.zret hx hb hr (by decide) (fun t ht hW => zh_end hk hX hS ht hW) hS.2.2 d_ZoneNodes_isLater_11
set_option maxHeartbeats 4000000 in
set_option maxRecDepth 100000 in
theorem c_Secondary_lacks (l : Launch) (G : zh_G) (N : Nat) (X : zh_T) (x0 : Nat) (x1 : Int32) (r : Int32) (hm : f_Secondary_lacks N X x0 x1 = some r) : zM l G y_Secondary_lacks w_Secondary_lacks 1 21 X [.ref x0, .int x1] (some (.int r)) X 0 0 := by
  refine zr_ofW (by decide) (by exact Nat.le_of_ble_eq_true rfl) ?_
  intro p e s m args below meth c ls hx hb hml hr hts hown hin hlocks hk hX hl
  have hS : va_S (zh_A G) s.heap s.heap [] := va_S.rf
  have hl : lv_has ls 2 [(0, .ref x0), (1, .int x1)] := hl
  have hown : s.vm.findClass R_Secondary = some m.cls := hown
  unfold f_Secondary_lacks at hm
  refine lv_aload_n hx hb d_Secondary_lacks_0 rfl (lv_at hl 0 rfl) ?_
  replace hm := zb1_s hm
  obtain ⟨v2, h1, hm⟩ := hm
  refine zr_get (ci := 6) (C := R_Secondary) (T := F_Secondary) (N := 13) hx hb hts in_Secondary hown hk hX rfl 7 (by decide) (hts _ tW166) rfl (zgi_v h1) d_Secondary_lacks_1 ?_
  refine lv_if_eq (tgt := 18) hx hb d_Secondary_lacks_4 rfl (fun h3 => ?_) (fun h3 => ?_)
  · replace hm := zi_t h3 hm
    refine lv_iconst (v := 1) hx hb d_Secondary_lacks_18 (by decide) ?_
    refine lv_goto (tgt := 23) hx hb d_Secondary_lacks_19 rfl ?_
    cases hm
    exact W.zret hx hb hr (by decide) (fun t ht hW => zh_end hk hX hS ht hW) hS.2.2 d_Secondary_lacks_23
  · replace hm := zi_f h3 hm
    refine lv_iload_n hx hb d_Secondary_lacks_7 rfl (lv_at hl 1 rfl) ?_
    refine lv_aload_n hx hb d_Secondary_lacks_8 rfl (lv_at hl 0 rfl) ?_
    replace hm := zb1_s hm
    obtain ⟨v5, h4, hm⟩ := hm
    refine zr_get (ci := 6) (C := R_Secondary) (T := F_Secondary) (N := 13) hx hb hts in_Secondary hown hk hX rfl 8 (by decide) (hts _ tW167) rfl (zgi_v h4) d_Secondary_lacks_9 ?_
    replace hm := zb1_s hm
    obtain ⟨v7, h6, hm⟩ := hm
    refine zr_calli (zr_runSN (As := [.int x1, .int v5]) (rest := []) (n := 2) hx hb hml hown hts hk hX (c_ZoneNodes_isLater l G N X x1 v5 v7 h6) (nM8 hk) tW168 (hts _ tW100) (hts _ tW169) (by decide +kernel) ⟨Nat.le_of_ble_eq_true rfl, Nat.le_of_ble_eq_true rfl⟩ rfl rfl hl.1 rfl (lv_room (Nat.le_of_ble_eq_true rfl)) d_Secondary_lacks_12 ⟨(Nat.le_of_ble_eq_true rfl), (Nat.le_of_ble_eq_true rfl)⟩) hS (fun H locs hX hS => ?_)
    refine lv_if_eq (tgt := 22) hx hb d_Secondary_lacks_15 rfl (fun h8 => ?_) (fun h8 => ?_)
    · replace hm := zi_t h8 hm
      refine lv_iconst (v := 0) hx hb d_Secondary_lacks_22 (by decide) ?_
      cases hm
      exact W.zret hx hb hr (by decide) (fun t ht hW => zh_end hk hX hS ht hW) hS.2.2 d_Secondary_lacks_23
    · replace hm := zi_f h8 hm
      refine lv_iconst (v := 1) hx hb d_Secondary_lacks_18 (by decide) ?_
      refine lv_goto (tgt := 23) hx hb d_Secondary_lacks_19 rfl ?_
      cases hm
      exact W.zret hx hb hr (by decide) (fun t ht hW => zh_end hk hX hS ht hW) hS.2.2 d_Secondary_lacks_23
set_option maxHeartbeats 4000000 in
set_option maxRecDepth 100000 in
theorem c_Secondary_hearNotify (l : Launch) (G : zh_G) (N : Nat) (X : zh_T) (x0 : Nat) (x1 : Int32) (x2 : Int32) (x3 : Nat) (r : Unit) (X' : zh_T) (hm : f_Secondary_hearNotify N X x0 x1 x2 x3 = some (r, X')) : zM l G y_Secondary_hearNotify w_Secondary_hearNotify 4 87 X [.ref x0, .int x1, .int x2, .ref x3] none X' 0 0 := by
  refine zr_ofW (by decide) (by exact Nat.le_of_ble_eq_true rfl) ?_
  intro p e s m args below meth c ls hx hb hml hr hts hown hin hlocks hk hX hl
  have hS : va_S (zh_A G) s.heap s.heap [] := va_S.rf
  have hl : lv_has ls 4 [(0, .ref x0), (1, .int x1), (2, .int x2), (3, .ref x3)] := hl
  have hown : s.vm.findClass R_Secondary = some m.cls := hown
  unfold f_Secondary_hearNotify at hm
  refine lv_aload_n hx hb d_Secondary_hearNotify_0 rfl (lv_at hl 0 rfl) ?_
  replace hm := zb1_s hm
  obtain ⟨v2, h1, hm⟩ := hm
  refine zr_get (ci := 6) (C := R_Secondary) (T := F_Secondary) (N := 13) hx hb hts in_Secondary hown hk hX rfl 9 (by decide) (hts _ tW49) rfl (zgi_v h1) d_Secondary_hearNotify_1 ?_
  refine lv_if_ne (tgt := 21) hx hb d_Secondary_hearNotify_4 rfl (fun h3 => ?_) (fun h3 => ?_)
  · replace hm := zi_f h3 hm
    cases hm
    exact W.vret hx hb hr (fun t ht hW => zh_end hk hX hS ht hW) hS.2.2 d_Secondary_hearNotify_21
  · replace hm := zi_t h3 hm
    refine lv_aload_n hx hb d_Secondary_hearNotify_7 rfl (lv_at hl 0 rfl) ?_
    refine lv_iload_n hx hb d_Secondary_hearNotify_8 rfl (lv_at hl 1 rfl) ?_
    replace hm := zb1_s hm
    obtain ⟨_, h5, hm⟩ := hm
    replace hm := zb1_s hm
    obtain ⟨v6, h4, hm⟩ := hm
    refine zr_calli (zr_runV (As := [.int x1]) (rest := []) (n := 1) hx hb hml hown hts hk hX (c_Secondary_lacks l G N X x0 x1 v6 h4) (hts _ tW170) tW171 (hts _ tW54) (hts _ tW172) (hts _ tW173) rfl h5 (by decide +kernel) ⟨Nat.le_of_ble_eq_true rfl, Nat.le_of_ble_eq_true rfl⟩ rfl rfl hl.1 rfl (lv_room (Nat.le_of_ble_eq_true rfl)) d_Secondary_hearNotify_9 ⟨(Nat.le_of_ble_eq_true rfl), (Nat.le_of_ble_eq_true rfl)⟩) hS (fun H locs hX hS => ?_)
    refine lv_if_eq (tgt := 21) hx hb d_Secondary_hearNotify_12 rfl (fun h7 => ?_) (fun h7 => ?_)
    · replace hm := zi_t h7 hm
      cases hm
      exact W.vret hx hb hr (fun t ht hW => zh_end hk hX hS ht hW) hS.2.2 d_Secondary_hearNotify_21
    · replace hm := zi_f h7 hm
      refine lv_aload_n hx hb d_Secondary_hearNotify_15 rfl (lv_at hl 0 rfl) ?_
      refine lv_iload_n hx hb d_Secondary_hearNotify_16 rfl (lv_at hl 2 rfl) ?_
      refine lv_aload_n hx hb d_Secondary_hearNotify_17 rfl (lv_at hl 3 rfl) ?_
      replace hm := zb1_s hm
      obtain ⟨_, h9, hm⟩ := hm
      replace hm := zb2_s hm
      obtain ⟨v10, X11, h8, hm⟩ := hm
      refine zr_callv (zr_runV (As := [.int x2, .ref x3]) (rest := []) (n := 2) hx hb hml hown hts hk hX (c_Secondary_ask l G N X x0 x2 x3 v10 X11 h8) (hts _ tW174) tW175 (hts _ tW54) (hts _ tW176) (hts _ tW177) rfl h9 (by decide +kernel) ⟨Nat.le_of_ble_eq_true rfl, Nat.le_of_ble_eq_true rfl⟩ rfl rfl hl.1 rfl (lv_room (Nat.le_of_ble_eq_true rfl)) d_Secondary_hearNotify_18 ⟨(Nat.le_of_ble_eq_true rfl), (Nat.le_of_ble_eq_true rfl)⟩) hS (fun H locs hX hS => ?_)
      cases hm
      exact W.vret hx hb hr (fun t ht hW => zh_end hk hX hS ht hW) hS.2.2 d_Secondary_hearNotify_21
set_option maxHeartbeats 4000000 in
set_option maxRecDepth 100000 in
theorem c_Secondary_becomeRefreshed (l : Launch) (G : zh_G) (N : Nat) (X : zh_T) (x0 : Nat) (x1 : Int32) (r : Unit) (X' : zh_T) (hm : f_Secondary_becomeRefreshed N X x0 x1 = some (r, X')) : zM l G y_Secondary_becomeRefreshed w_Secondary_becomeRefreshed 1 21 X [.ref x0, .int x1] none X' 0 0 := by
  refine zr_ofW (by decide) (by exact Nat.le_of_ble_eq_true rfl) ?_
  intro p e s m args below meth c ls hx hb hml hr hts hown hin hlocks hk hX hl
  have hS : va_S (zh_A G) s.heap s.heap [] := va_S.rf
  have hl : lv_has ls 2 [(0, .ref x0), (1, .int x1)] := hl
  have hown : s.vm.findClass R_Secondary = some m.cls := hown
  unfold f_Secondary_becomeRefreshed at hm
  refine lv_aload_n hx hb d_Secondary_becomeRefreshed_0 rfl (lv_at hl 0 rfl) ?_
  refine lv_iload_n hx hb d_Secondary_becomeRefreshed_1 rfl (lv_at hl 1 rfl) ?_
  refine lv_aload_n hx hb d_Secondary_becomeRefreshed_2 rfl (lv_at hl 0 rfl) ?_
  replace hm := zb1_s hm
  obtain ⟨v2, h1, hm⟩ := hm
  refine zr_get (ci := 6) (C := R_Secondary) (T := F_Secondary) (N := 13) hx hb hts in_Secondary hown hk hX rfl 1 (by decide) (hts _ tW64) rfl (zgi_v h1) d_Secondary_becomeRefreshed_3 ?_
  refine lv_iadd hx hb d_Secondary_becomeRefreshed_6 ?_
  replace hm := zb1_s hm
  obtain ⟨_, h4, hm⟩ := hm
  replace hm := zb2_s hm
  obtain ⟨v5, X6, h3, hm⟩ := hm
  refine zr_callv (zr_runV (As := [.int (x1 + v2)]) (rest := []) (n := 1) hx hb hml hown hts hk hX (c_Secondary_rest l G N X x0 (x1 + v2) v5 X6 h3) (hts _ tW52) tW53 (hts _ tW54) (hts _ tW55) (hts _ tW56) rfl h4 (by decide +kernel) ⟨Nat.le_of_ble_eq_true rfl, Nat.le_of_ble_eq_true rfl⟩ rfl rfl hl.1 rfl (lv_room (Nat.le_of_ble_eq_true rfl)) d_Secondary_becomeRefreshed_7 ⟨(Nat.le_of_ble_eq_true rfl), (Nat.le_of_ble_eq_true rfl)⟩) hS (fun H locs hX hS => ?_)
  refine lv_aload_n hx hb d_Secondary_becomeRefreshed_10 rfl (lv_at hl 0 rfl) ?_
  refine lv_iload_n hx hb d_Secondary_becomeRefreshed_11 rfl (lv_at hl 1 rfl) ?_
  refine lv_aload_n hx hb d_Secondary_becomeRefreshed_12 rfl (lv_at hl 0 rfl) ?_
  replace hm := zb1_s hm
  obtain ⟨v8, h7, hm⟩ := hm
  refine zr_get (ci := 6) (C := R_Secondary) (T := F_Secondary) (N := 13) hx hb hts in_Secondary hown hk hX rfl 3 (by decide) (hts _ tW57) rfl (zgi_v h7) d_Secondary_becomeRefreshed_13 ?_
  refine lv_iadd hx hb d_Secondary_becomeRefreshed_16 ?_
  replace hm := zb1_s hm
  obtain ⟨X9, h10, hm⟩ := hm
  refine zr_put (ci := 6) (C := R_Secondary) (T := F_Secondary) (N := 13) (ty := .int) (v := .int (x1 + v8)) hx hb hts in_Secondary t_Secondary t_Secondary_ok n_Secondary hown hk hX hS rfl 12 (by decide) (hts _ tW58) rfl rfl (by decide +kernel) rfl rfl h10 d_Secondary_becomeRefreshed_17 (fun H locs hX hS => ?_)
  cases hm
  exact W.vret hx hb hr (fun t ht hW => zh_end hk hX hS ht hW) hS.2.2 d_Secondary_becomeRefreshed_20
set_option maxHeartbeats 4000000 in
set_option maxRecDepth 100000 in
theorem c_Wire_sendFetch (l : Launch) (G : zh_G) (N : Nat) (X : zh_T) (x0 : Nat) (x1 : Int32) (x2 : Int32) (x3 : Int32) (r : Unit) (X' : zh_T) (hm : f_Wire_sendFetch N X x0 x1 x2 x3 = some (r, X')) : zM l G y_Wire_sendFetch w_Wire_sendFetch 1 24 X [.ref x0, .int x1, .int x2, .int x3] none X' 0 0 := by
  refine zr_ofW (by decide) (by exact Nat.le_of_ble_eq_true rfl) ?_
  intro p e s m args below meth c ls hx hb hml hr hts hown hin hlocks hk hX hl
  have hS : va_S (zh_A G) s.heap s.heap [] := va_S.rf
  have hl : lv_has ls 5 [(0, .ref x0), (1, .int x1), (2, .int x2), (3, .int x3)] := hl
  have hown : s.vm.findClass R_Wire = some m.cls := hown
  unfold f_Wire_sendFetch at hm
  refine lv_aload_n hx hb d_Wire_sendFetch_0 rfl (lv_at hl 0 rfl) ?_
  refine lv_iconst (v := 4) hx hb d_Wire_sendFetch_1 (by decide) ?_
  refine lv_iload_n hx hb d_Wire_sendFetch_2 rfl (lv_at hl 1 rfl) ?_
  refine lv_iload_n hx hb d_Wire_sendFetch_3 rfl (lv_at hl 3 rfl) ?_
  replace hm := zb1_s hm
  obtain ⟨_, h2, hm⟩ := hm
  replace hm := zb2_s hm
  obtain ⟨q3, X4, h1, hm⟩ := hm
  refine zr_callq (zr_runV (As := [.int 4, .int x1, .int x3]) (rest := []) (n := 3) hx hb hml hown hts hk hX (c_Wire_put l G N X x0 4 x1 x3 q3 X4 h1) (hts _ tW144) tW145 (hts _ tW91) (hts _ tW146) (hts _ tW147) rfl h2 (by decide +kernel) ⟨Nat.le_of_ble_eq_true rfl, Nat.le_of_ble_eq_true rfl⟩ rfl rfl hl.1 rfl (lv_room (Nat.le_of_ble_eq_true rfl)) d_Wire_sendFetch_4 ⟨(Nat.le_of_ble_eq_true rfl), (Nat.le_of_ble_eq_true rfl)⟩) hS (fun H locs hX hS => ?_)
  refine zr_astoreq (lv' := [(4, va_rf q3), (0, .ref x0), (1, .int x1), (2, .int x2), (3, .int x3)]) hx hb d_Wire_sendFetch_7 hl (by decide) rfl (fun ls hl => ?_)
  cases q3 with
  | none =>
    replace hm := zbo_n hm
    refine lv_aloadN hx hb d_Wire_sendFetch_9 (lv_at hl 0 rfl) ?_
    refine lv_ifnullN (tgt := 20) hx hb d_Wire_sendFetch_11 rfl ?_
    cases hm
    exact W.vret hx hb hr (fun t ht hW => zh_end hk hX hS ht hW) hS.2.2 d_Wire_sendFetch_20
  | some a5 =>
    replace hm := zbo_s hm
    refine lv_aload hx hb d_Wire_sendFetch_9 (lv_at hl 0 rfl) ?_
    refine lv_ifnull hx hb d_Wire_sendFetch_11 ?_
    refine lv_aload hx hb d_Wire_sendFetch_14 (lv_at hl 0 rfl) ?_
    refine lv_iload_n hx hb d_Wire_sendFetch_16 rfl (lv_at hl 3 rfl) ?_
    replace hm := zb1_s hm
    obtain ⟨X6, h7, hm⟩ := hm
    refine zr_putN (ci := 3) (C := R_Message) (T := F_Message) (N := 10) (ty := .boolean) (v := .int x2) hx hb hts in_Message t_Message t_Message_ok n_Message hown hk hX hS rfl 3 (by decide) rfl rfl (nF26 hk) rfl rfl (by decide +kernel) (zpz_n h7) (zpz_f h7) (zpz_v h7) d_Wire_sendFetch_17 (fun H locs hX hS => ?_)
    cases hm
    exact W.vret hx hb hr (fun t ht hW => zh_end hk hX hS ht hW) hS.2.2 d_Wire_sendFetch_20
set_option maxHeartbeats 4000000 in
set_option maxRecDepth 100000 in
theorem c_Secondary_hearTell (l : Launch) (G : zh_G) (N : Nat) (X : zh_T) (x0 : Nat) (x1 : Int32) (x2 : Int32) (x3 : Int32) (x4 : Nat) (r : Unit) (X' : zh_T) (hm : f_Secondary_hearTell N X x0 x1 x2 x3 x4 = some (r, X')) : zM l G y_Secondary_hearTell w_Secondary_hearTell 2 48 X [.ref x0, .int x1, .int x2, .int x3, .ref x4] none X' 0 0 := by
  refine zr_ofW (by decide) (by exact Nat.le_of_ble_eq_true rfl) ?_
  intro p e s m args below meth c ls hx hb hml hr hts hown hin hlocks hk hX hl
  have hS : va_S (zh_A G) s.heap s.heap [] := va_S.rf
  have hl : lv_has ls 5 [(0, .ref x0), (1, .int x1), (2, .int x2), (3, .int x3), (4, .ref x4)] := hl
  have hown : s.vm.findClass R_Secondary = some m.cls := hown
  unfold f_Secondary_hearTell at hm
  refine lv_aload_n hx hb d_Secondary_hearTell_0 rfl (lv_at hl 0 rfl) ?_
  replace hm := zb1_s hm
  obtain ⟨v2, h1, hm⟩ := hm
  refine zr_get (ci := 6) (C := R_Secondary) (T := F_Secondary) (N := 13) hx hb hts in_Secondary hown hk hX rfl 9 (by decide) (hts _ tW49) rfl (zgi_v h1) d_Secondary_hearTell_1 ?_
  refine lv_iconst (v := 1) hx hb d_Secondary_hearTell_4 (by decide) ?_
  refine lv_icmp_eq (tgt := 9) hx hb d_Secondary_hearTell_5 rfl (fun h3 => ?_) (fun h3 => ?_)
  · replace hm := zi_t h3 hm
    refine lv_aload_n hx hb d_Secondary_hearTell_9 rfl (lv_at hl 0 rfl) ?_
    refine lv_iload_n hx hb d_Secondary_hearTell_10 rfl (lv_at hl 1 rfl) ?_
    replace hm := zb1_s hm
    obtain ⟨_, h5, hm⟩ := hm
    replace hm := zb1_s hm
    obtain ⟨v6, h4, hm⟩ := hm
    refine zr_calli (zr_runV (As := [.int x1]) (rest := []) (n := 1) hx hb hml hown hts hk hX (c_Secondary_lacks l G N X x0 x1 v6 h4) (hts _ tW170) tW171 (hts _ tW54) (hts _ tW172) (hts _ tW173) rfl h5 (by decide +kernel) ⟨Nat.le_of_ble_eq_true rfl, Nat.le_of_ble_eq_true rfl⟩ rfl rfl hl.1 rfl (lv_room (Nat.le_of_ble_eq_true rfl)) d_Secondary_hearTell_11 ⟨(Nat.le_of_ble_eq_true rfl), (Nat.le_of_ble_eq_true rfl)⟩) hS (fun H locs hX hS => ?_)
    refine lv_if_ne (tgt := 25) hx hb d_Secondary_hearTell_14 rfl (fun h7 => ?_) (fun h7 => ?_)
    · replace hm := zi_f h7 hm
      refine lv_iload_n hx hb d_Secondary_hearTell_25 rfl (lv_at hl 2 rfl) ?_
      refine lv_if_eq (tgt := 54) hx hb d_Secondary_hearTell_26 rfl (fun h8 => ?_) (fun h8 => ?_)
      · replace hm := zi_t h8 hm
        refine lv_aload_n hx hb d_Secondary_hearTell_54 rfl (lv_at hl 0 rfl) ?_
        refine lv_iload_n hx hb d_Secondary_hearTell_55 rfl (lv_at hl 3 rfl) ?_
        refine lv_aload_n hx hb d_Secondary_hearTell_56 rfl (lv_at hl 0 rfl) ?_
        replace hm := zb1_s hm
        obtain ⟨v10, h9, hm⟩ := hm
        refine zr_get (ci := 6) (C := R_Secondary) (T := F_Secondary) (N := 13) hx hb hts in_Secondary hown hk hX rfl 2 (by decide) (hts _ tW65) rfl (zgi_v h9) d_Secondary_hearTell_57 ?_
        refine lv_iadd hx hb d_Secondary_hearTell_60 ?_
        replace hm := zb1_s hm
        obtain ⟨_, h12, hm⟩ := hm
        replace hm := zb2_s hm
        obtain ⟨v13, X14, h11, hm⟩ := hm
        refine zr_callv (zr_runV (As := [.int (x3 + v10)]) (rest := []) (n := 1) hx hb hml hown hts hk hX (c_Secondary_rest l G N X x0 (x3 + v10) v13 X14 h11) (hts _ tW52) tW53 (hts _ tW54) (hts _ tW55) (hts _ tW56) rfl h12 (by decide +kernel) ⟨Nat.le_of_ble_eq_true rfl, Nat.le_of_ble_eq_true rfl⟩ rfl rfl hl.1 rfl (lv_room (Nat.le_of_ble_eq_true rfl)) d_Secondary_hearTell_61 ⟨(Nat.le_of_ble_eq_true rfl), (Nat.le_of_ble_eq_true rfl)⟩) hS (fun H locs hX hS => ?_)
        cases hm
        exact W.vret hx hb hr (fun t ht hW => zh_end hk hX hS ht hW) hS.2.2 d_Secondary_hearTell_64
      · replace hm := zi_f h8 hm
        refine lv_aload hx hb d_Secondary_hearTell_29 (lv_at hl 4 rfl) ?_
        refine lv_aload_n hx hb d_Secondary_hearTell_31 rfl (lv_at hl 0 rfl) ?_
        replace hm := zb1_s hm
        obtain ⟨v16, h15, hm⟩ := hm
        refine zr_get (ci := 6) (C := R_Secondary) (T := F_Secondary) (N := 13) hx hb hts in_Secondary hown hk hX rfl 0 (by decide) (hts _ tW63) rfl (zgi_v h15) d_Secondary_hearTell_32 ?_
        refine lv_aload_n hx hb d_Secondary_hearTell_35 rfl (lv_at hl 0 rfl) ?_
        replace hm := zb1_s hm
        obtain ⟨v18, h17, hm⟩ := hm
        refine zr_get (ci := 6) (C := R_Secondary) (T := F_Secondary) (N := 13) hx hb hts in_Secondary hown hk hX rfl 7 (by decide) (hts _ tW166) rfl (zgi_v h17) d_Secondary_hearTell_36 ?_
        refine lv_aload_n hx hb d_Secondary_hearTell_39 rfl (lv_at hl 0 rfl) ?_
        replace hm := zb1_s hm
        obtain ⟨v20, h19, hm⟩ := hm
        refine zr_get (ci := 6) (C := R_Secondary) (T := F_Secondary) (N := 13) hx hb hts in_Secondary hown hk hX rfl 8 (by decide) (hts _ tW167) rfl (zgi_v h19) d_Secondary_hearTell_40 ?_
        replace hm := zb1_s hm
        obtain ⟨_, h22, hm⟩ := hm
        replace hm := zb2_s hm
        obtain ⟨v23, X24, h21, hm⟩ := hm
        refine zr_callv (zr_runV (As := [.int v16, .int v18, .int v20]) (rest := []) (n := 3) hx hb hml hown hts hk hX (c_Wire_sendFetch l G N X x4 v16 v18 v20 v23 X24 h21) (hts _ tW178) tW179 (hts _ tW91) (hts _ tW180) (hts _ tW181) rfl h22 (by decide +kernel) ⟨Nat.le_of_ble_eq_true rfl, Nat.le_of_ble_eq_true rfl⟩ rfl rfl hl.1 rfl (lv_room (Nat.le_of_ble_eq_true rfl)) d_Secondary_hearTell_43 ⟨(Nat.le_of_ble_eq_true rfl), (Nat.le_of_ble_eq_true rfl)⟩) hS (fun H locs hX hS => ?_)
        refine lv_aload_n hx hb d_Secondary_hearTell_46 rfl (lv_at hl 0 rfl) ?_
        refine lv_iconst (v := 2) hx hb d_Secondary_hearTell_47 (by decide) ?_
        replace hm := zb1_s hm
        obtain ⟨X25, h26, hm⟩ := hm
        refine zr_put (ci := 6) (C := R_Secondary) (T := F_Secondary) (N := 13) (ty := .int) (v := .int 2) hx hb hts in_Secondary t_Secondary t_Secondary_ok n_Secondary hown hk hX hS rfl 9 (by decide) (hts _ tW49) rfl rfl (by decide +kernel) rfl rfl h26 d_Secondary_hearTell_48 (fun H locs hX hS => ?_)
        refine lv_goto (tgt := 64) hx hb d_Secondary_hearTell_51 rfl ?_
        cases hm
        exact W.vret hx hb hr (fun t ht hW => zh_end hk hX hS ht hW) hS.2.2 d_Secondary_hearTell_64
    · replace hm := zi_t h7 hm
      refine lv_aload_n hx hb d_Secondary_hearTell_17 rfl (lv_at hl 0 rfl) ?_
      refine lv_iload_n hx hb d_Secondary_hearTell_18 rfl (lv_at hl 3 rfl) ?_
      replace hm := zb1_s hm
      obtain ⟨_, h28, hm⟩ := hm
      replace hm := zb2_s hm
      obtain ⟨v29, X30, h27, hm⟩ := hm
      refine zr_callv (zr_runV (As := [.int x3]) (rest := []) (n := 1) hx hb hml hown hts hk hX (c_Secondary_becomeRefreshed l G N X x0 x3 v29 X30 h27) (hts _ tW182) tW183 (hts _ tW54) (hts _ tW184) (hts _ tW185) rfl h28 (by decide +kernel) ⟨Nat.le_of_ble_eq_true rfl, Nat.le_of_ble_eq_true rfl⟩ rfl rfl hl.1 rfl (lv_room (Nat.le_of_ble_eq_true rfl)) d_Secondary_hearTell_19 ⟨(Nat.le_of_ble_eq_true rfl), (Nat.le_of_ble_eq_true rfl)⟩) hS (fun H locs hX hS => ?_)
      refine lv_goto (tgt := 64) hx hb d_Secondary_hearTell_22 rfl ?_
      cases hm
      exact W.vret hx hb hr (fun t ht hW => zh_end hk hX hS ht hW) hS.2.2 d_Secondary_hearTell_64
  · replace hm := zi_f h3 hm
    cases hm
    exact W.vret hx hb hr (fun t ht hW => zh_end hk hX hS ht hW) hS.2.2 d_Secondary_hearTell_8
set_option maxHeartbeats 4000000 in
set_option maxRecDepth 100000 in
theorem c_Secondary_loseStream (l : Launch) (G : zh_G) (N : Nat) (X : zh_T) (x0 : Nat) (x1 : Int32) (r : Unit) (X' : zh_T) (hm : f_Secondary_loseStream N X x0 x1 = some (r, X')) : zM l G y_Secondary_loseStream w_Secondary_loseStream 1 21 X [.ref x0, .int x1] none X' 0 0 := by
  refine zr_ofW (by decide) (by exact Nat.le_of_ble_eq_true rfl) ?_
  intro p e s m args below meth c ls hx hb hml hr hts hown hin hlocks hk hX hl
  have hS : va_S (zh_A G) s.heap s.heap [] := va_S.rf
  have hl : lv_has ls 2 [(0, .ref x0), (1, .int x1)] := hl
  have hown : s.vm.findClass R_Secondary = some m.cls := hown
  unfold f_Secondary_loseStream at hm
  refine lv_aload_n hx hb d_Secondary_loseStream_0 rfl (lv_at hl 0 rfl) ?_
  replace hm := zb1_s hm
  obtain ⟨v2, h1, hm⟩ := hm
  refine zr_get (ci := 6) (C := R_Secondary) (T := F_Secondary) (N := 13) hx hb hts in_Secondary hown hk hX rfl 9 (by decide) (hts _ tW49) rfl (zgi_v h1) d_Secondary_loseStream_1 ?_
  refine lv_iconst (v := 2) hx hb d_Secondary_loseStream_4 (by decide) ?_
  refine lv_icmp_ne (tgt := 18) hx hb d_Secondary_loseStream_5 rfl (fun h3 => ?_) (fun h3 => ?_)
  · replace hm := zi_f h3 hm
    cases hm
    exact W.vret hx hb hr (fun t ht hW => zh_end hk hX hS ht hW) hS.2.2 d_Secondary_loseStream_18
  · replace hm := zi_t h3 hm
    refine lv_aload_n hx hb d_Secondary_loseStream_8 rfl (lv_at hl 0 rfl) ?_
    refine lv_iload_n hx hb d_Secondary_loseStream_9 rfl (lv_at hl 1 rfl) ?_
    refine lv_aload_n hx hb d_Secondary_loseStream_10 rfl (lv_at hl 0 rfl) ?_
    replace hm := zb1_s hm
    obtain ⟨v5, h4, hm⟩ := hm
    refine zr_get (ci := 6) (C := R_Secondary) (T := F_Secondary) (N := 13) hx hb hts in_Secondary hown hk hX rfl 2 (by decide) (hts _ tW65) rfl (zgi_v h4) d_Secondary_loseStream_11 ?_
    refine lv_iadd hx hb d_Secondary_loseStream_14 ?_
    replace hm := zb1_s hm
    obtain ⟨_, h7, hm⟩ := hm
    replace hm := zb2_s hm
    obtain ⟨v8, X9, h6, hm⟩ := hm
    refine zr_callv (zr_runV (As := [.int (x1 + v5)]) (rest := []) (n := 1) hx hb hml hown hts hk hX (c_Secondary_rest l G N X x0 (x1 + v5) v8 X9 h6) (hts _ tW52) tW53 (hts _ tW54) (hts _ tW55) (hts _ tW56) rfl h7 (by decide +kernel) ⟨Nat.le_of_ble_eq_true rfl, Nat.le_of_ble_eq_true rfl⟩ rfl rfl hl.1 rfl (lv_room (Nat.le_of_ble_eq_true rfl)) d_Secondary_loseStream_15 ⟨(Nat.le_of_ble_eq_true rfl), (Nat.le_of_ble_eq_true rfl)⟩) hS (fun H locs hX hS => ?_)
    cases hm
    exact W.vret hx hb hr (fun t ht hW => zh_end hk hX hS ht hW) hS.2.2 d_Secondary_loseStream_18
set_option maxHeartbeats 4000000 in
set_option maxRecDepth 100000 in
theorem c_Records_copyFrom (l : Launch) (G : zh_G) (N : Nat) (X : zh_T) (x0 : Nat) (x1 : Nat) (r : Unit) (X' : zh_T) (hm : f_Records_copyFrom N X x0 x1 = some (r, X')) : zM l G y_Records_copyFrom w_Records_copyFrom 0 0 X [.ref x0, .ref x1] none X' 0 0 := by
  refine zr_ofW (by decide) (by exact Nat.le_of_ble_eq_true rfl) ?_
  intro p e s m args below meth c ls hx hb hml hr hts hown hin hlocks hk hX hl
  have hS : va_S (zh_A G) s.heap s.heap [] := va_S.rf
  have hl : lv_has ls 3 [(0, .ref x0), (1, .ref x1)] := hl
  have hown : s.vm.findClass R_Records = some m.cls := hown
  unfold f_Records_copyFrom at hm
  have hL2 : ∀ (n : Nat) (X : zh_T) (w0 : Nat) (w1 : Nat) (w2 : Int32) (v : Unit) (X1 : zh_T) (H : Heap) (locs : List Loc) (ls : Array Slot), L_Records_copyFrom_2 N w0 w1 n X w2 = some (v, X1) → zh_w G X H → va_S (zh_A G) s.heap H locs → lv_has ls 3 [(0, .ref w0), (1, .ref w1), (2, .int w2)] → (∀ (H : Heap) (locs : List Loc) (ls : Array Slot), zh_w G X1 H → va_S (zh_A G) s.heap H locs → lv_has ls 3 [] → W p l e { frames := 0, cells := 0, slots := 0, locals := 0 } s m args below meth c H locs 0 0 (MQ below (zh_Q G none X') args s 0 0 (zh_A G)) (F0 m 29 ls [])) → W p l e { frames := 0, cells := 0, slots := 0, locals := 0 } s m args below meth c H locs 0 0 (MQ below (zh_Q G none X') args s 0 0 (zh_A G)) (F0 m 2 ls []) := by
    intro n
    induction n with
    | zero =>
      intro X w0 w1 w2 v X1 H locs ls hm hX hS hl hexit
      rw [L_Records_copyFrom_2] at hm
      cases hm
    | succ n ih =>
      intro X w0 w1 w2 v X1 H locs ls hm hX hS hl hexit
      rw [L_Records_copyFrom_2] at hm
      refine lv_iload_n hx hb d_Records_copyFrom_2 rfl (lv_at hl 2 rfl) ?_
      refine lv_aload_n hx hb d_Records_copyFrom_3 rfl (lv_at hl 0 rfl) ?_
      replace hm := zb1_s hm
      obtain ⟨a2, h1, hm⟩ := hm
      refine zr_get (ci := 5) (C := R_Records) (T := F_Records) (N := 1) hx hb hts in_Records hown hk hX rfl 0 (by decide) (hts _ tW7) rfl (zgr_v h1) d_Records_copyFrom_4 ?_
      replace hm := zb1_s hm
      obtain ⟨v3, h4, hm⟩ := hm
      refine zr_alen (t := 0) hx hb hk hX rfl h4 d_Records_copyFrom_7 ?_
      refine lv_icmp_ge (tgt := 29) hx hb d_Records_copyFrom_8 rfl (fun h5 => ?_) (fun h5 => ?_)
      · replace hm := zi_t h5 hm
        cases hm
        exact hexit _ _ _ hX hS (lv_sub hl [] rfl)
      · replace hm := zi_f h5 hm
        refine lv_aload_n hx hb d_Records_copyFrom_11 rfl (lv_at hl 0 rfl) ?_
        replace hm := zb1_s hm
        obtain ⟨a7, h6, hm⟩ := hm
        refine zr_get (ci := 5) (C := R_Records) (T := F_Records) (N := 1) hx hb hts in_Records hown hk hX rfl 0 (by decide) (hts _ tW7) rfl (zgr_v h6) d_Records_copyFrom_12 ?_
        refine lv_iload_n hx hb d_Records_copyFrom_15 rfl (lv_at hl 2 rfl) ?_
        refine lv_aload_n hx hb d_Records_copyFrom_16 rfl (lv_at hl 1 rfl) ?_
        replace hm := zb1_s hm
        obtain ⟨a9, h8, hm⟩ := hm
        refine zr_get (ci := 5) (C := R_Records) (T := F_Records) (N := 1) hx hb hts in_Records hown hk hX rfl 0 (by decide) (hts _ tW7) rfl (zgr_v h8) d_Records_copyFrom_17 ?_
        refine lv_iload_n hx hb d_Records_copyFrom_20 rfl (lv_at hl 2 rfl) ?_
        replace hm := zb1_s hm
        obtain ⟨v10, h11, hm⟩ := hm
        refine zr_iaload hx hb hk hX h11 d_Records_copyFrom_21 ?_
        replace hm := zb1_s hm
        obtain ⟨X12, h13, hm⟩ := hm
        refine zr_iastore hx hb hk hX hS h13 d_Records_copyFrom_22 (fun H locs hX hS => ?_)
        refine lv_iinc (v := w2 + 1) (lv' := [(2, .int (w2 + 1)), (0, .ref w0), (1, .ref w1)]) hx hb d_Records_copyFrom_23 hl (k := 2) rfl (by rw [show Int32.ofInt 1 = 1 by decide]) (by decide) rfl (fun ls hl => ?_)
        refine lv_goto (tgt := 2) hx hb d_Records_copyFrom_26 rfl ?_
        exact ih X12 w0 w1 (w2 + 1) v X1 _ _ _ hm hX hS (lv_sub hl [1, 2, 0] rfl) hexit
  refine lv_iconst (v := 0) hx hb d_Records_copyFrom_0 (by decide) ?_
  refine lv_istore_n (lv' := [(2, .int 0), (0, .ref x0), (1, .ref x1)]) hx hb d_Records_copyFrom_1 rfl hl (by decide) rfl (fun ls hl => ?_)
  replace hm := zb2_s hm
  obtain ⟨v14, X16, h15, hm⟩ := hm
  refine hL2 N X x0 x1 0 v14 X16 _ _ _ h15 hX hS (lv_sub hl [1, 2, 0] rfl) (fun H locs ls hX hS hl => ?_)
  cases hm
  exact W.vret hx hb hr (fun t ht hW => zh_end hk hX hS ht hW) hS.2.2 d_Records_copyFrom_29
set_option maxHeartbeats 4000000 in
set_option maxRecDepth 100000 in
theorem c_ZoneNodes_formOf (l : Launch) (G : zh_G) (N : Nat) (X : zh_T) (x0 : Int32) (r : Int32) (hm : f_ZoneNodes_formOf N X x0 = some r) : zM l G y_ZoneNodes_formOf w_ZoneNodes_formOf 0 0 X [.int x0] (some (.int r)) X 0 0 := by
  refine zr_ofW (by decide) (by exact Nat.le_of_ble_eq_true rfl) ?_
  intro p e s m args below meth c ls hx hb hml hr hts hown hin hlocks hk hX hl
  have hS : va_S (zh_A G) s.heap s.heap [] := va_S.rf
  have hl : lv_has ls 1 [(0, .int x0)] := hl
  have hown : s.vm.findClass R_ZoneNodes = some m.cls := hown
  unfold f_ZoneNodes_formOf at hm
  refine lv_iload_n hx hb d_ZoneNodes_formOf_0 rfl (lv_at hl 0 rfl) ?_
  refine lv_sipush (v := 1000) hx hb d_ZoneNodes_formOf_1 (by decide) ?_
  refine lv_idiv hx hb d_ZoneNodes_formOf_4 (by decide) ?_
  cases hm
  exact W.iret hx hb hr (fun t ht hW => zh_end hk hX hS ht hW) hS.2.2 d_ZoneNodes_formOf_5
set_option maxHeartbeats 4000000 in
set_option maxRecDepth 100000 in
theorem c_ZoneNodes_nameOf (l : Launch) (G : zh_G) (N : Nat) (X : zh_T) (x0 : Int32) (r : Int32) (hm : f_ZoneNodes_nameOf N X x0 = some r) : zM l G y_ZoneNodes_nameOf w_ZoneNodes_nameOf 0 0 X [.int x0] (some (.int r)) X 0 0 := by
  refine zr_ofW (by decide) (by exact Nat.le_of_ble_eq_true rfl) ?_
  intro p e s m args below meth c ls hx hb hml hr hts hown hin hlocks hk hX hl
  have hS : va_S (zh_A G) s.heap s.heap [] := va_S.rf
  have hl : lv_has ls 1 [(0, .int x0)] := hl
  have hown : s.vm.findClass R_ZoneNodes = some m.cls := hown
  unfold f_ZoneNodes_nameOf at hm
  refine lv_iload_n hx hb d_ZoneNodes_nameOf_0 rfl (lv_at hl 0 rfl) ?_
  refine lv_bipush (v := 100) hx hb d_ZoneNodes_nameOf_1 (by decide) ?_
  refine lv_idiv hx hb d_ZoneNodes_nameOf_3 (by decide) ?_
  refine lv_bipush (v := 10) hx hb d_ZoneNodes_nameOf_4 (by decide) ?_
  refine lv_irem hx hb d_ZoneNodes_nameOf_6 (by decide) ?_
  cases hm
  exact W.iret hx hb hr (fun t ht hW => zh_end hk hX hS ht hW) hS.2.2 d_ZoneNodes_nameOf_7
set_option maxHeartbeats 4000000 in
set_option maxRecDepth 100000 in
theorem c_ZoneNodes_typeOf (l : Launch) (G : zh_G) (N : Nat) (X : zh_T) (x0 : Int32) (r : Int32) (hm : f_ZoneNodes_typeOf N X x0 = some r) : zM l G y_ZoneNodes_typeOf w_ZoneNodes_typeOf 0 0 X [.int x0] (some (.int r)) X 0 0 := by
  refine zr_ofW (by decide) (by exact Nat.le_of_ble_eq_true rfl) ?_
  intro p e s m args below meth c ls hx hb hml hr hts hown hin hlocks hk hX hl
  have hS : va_S (zh_A G) s.heap s.heap [] := va_S.rf
  have hl : lv_has ls 1 [(0, .int x0)] := hl
  have hown : s.vm.findClass R_ZoneNodes = some m.cls := hown
  unfold f_ZoneNodes_typeOf at hm
  refine lv_iload_n hx hb d_ZoneNodes_typeOf_0 rfl (lv_at hl 0 rfl) ?_
  refine lv_bipush (v := 10) hx hb d_ZoneNodes_typeOf_1 (by decide) ?_
  refine lv_idiv hx hb d_ZoneNodes_typeOf_3 (by decide) ?_
  refine lv_bipush (v := 10) hx hb d_ZoneNodes_typeOf_4 (by decide) ?_
  refine lv_irem hx hb d_ZoneNodes_typeOf_6 (by decide) ?_
  cases hm
  exact W.iret hx hb hr (fun t ht hW => zh_end hk hX hS ht hW) hS.2.2 d_ZoneNodes_typeOf_7
set_option maxHeartbeats 4000000 in
set_option maxRecDepth 100000 in
theorem c_ZoneNodes_valueOf (l : Launch) (G : zh_G) (N : Nat) (X : zh_T) (x0 : Int32) (r : Int32) (hm : f_ZoneNodes_valueOf N X x0 = some r) : zM l G y_ZoneNodes_valueOf w_ZoneNodes_valueOf 0 0 X [.int x0] (some (.int r)) X 0 0 := by
  refine zr_ofW (by decide) (by exact Nat.le_of_ble_eq_true rfl) ?_
  intro p e s m args below meth c ls hx hb hml hr hts hown hin hlocks hk hX hl
  have hS : va_S (zh_A G) s.heap s.heap [] := va_S.rf
  have hl : lv_has ls 1 [(0, .int x0)] := hl
  have hown : s.vm.findClass R_ZoneNodes = some m.cls := hown
  unfold f_ZoneNodes_valueOf at hm
  refine lv_iload_n hx hb d_ZoneNodes_valueOf_0 rfl (lv_at hl 0 rfl) ?_
  refine lv_bipush (v := 10) hx hb d_ZoneNodes_valueOf_1 (by decide) ?_
  refine lv_irem hx hb d_ZoneNodes_valueOf_3 (by decide) ?_
  cases hm
  exact W.iret hx hb hr (fun t ht hW => zh_end hk hX hS ht hW) hS.2.2 d_ZoneNodes_valueOf_4
set_option maxHeartbeats 4000000 in
set_option maxRecDepth 100000 in
theorem c_Records_takeAway (l : Launch) (G : zh_G) (N : Nat) (X : zh_T) (x0 : Nat) (x1 : Int32) (x2 : Int32) (x3 : Int32) (r : Unit) (X' : zh_T) (hm : f_Records_takeAway N X x0 x1 x2 x3 = some (r, X')) : zM l G y_Records_takeAway w_Records_takeAway 1 23 X [.ref x0, .int x1, .int x2, .int x3] none X' 0 0 := by
  refine zr_ofW (by decide) (by exact Nat.le_of_ble_eq_true rfl) ?_
  intro p e s m args below meth c ls hx hb hml hr hts hown hin hlocks hk hX hl
  have hS : va_S (zh_A G) s.heap s.heap [] := va_S.rf
  have hl : lv_has ls 4 [(0, .ref x0), (1, .int x1), (2, .int x2), (3, .int x3)] := hl
  have hown : s.vm.findClass R_Records = some m.cls := hown
  unfold f_Records_takeAway at hm
  refine lv_aload_n hx hb d_Records_takeAway_0 rfl (lv_at hl 0 rfl) ?_
  refine lv_iload_n hx hb d_Records_takeAway_1 rfl (lv_at hl 1 rfl) ?_
  refine lv_iload_n hx hb d_Records_takeAway_2 rfl (lv_at hl 2 rfl) ?_
  refine lv_aload_n hx hb d_Records_takeAway_3 rfl (lv_at hl 0 rfl) ?_
  refine lv_iload_n hx hb d_Records_takeAway_4 rfl (lv_at hl 1 rfl) ?_
  refine lv_iload_n hx hb d_Records_takeAway_5 rfl (lv_at hl 2 rfl) ?_
  replace hm := zb1_s hm
  obtain ⟨_, h2, hm⟩ := hm
  replace hm := zb1_s hm
  obtain ⟨v3, h1, hm⟩ := hm
  refine zr_calli (zr_runV (As := [.int x1, .int x2]) (rest := [.int x2, .int x1, .ref x0]) (n := 2) hx hb hml hown hts hk hX (c_Records_valuesOf l G N X x0 x1 x2 v3 h1) (hts _ tW23) tW24 (hts _ tW11) (hts _ tW25) (hts _ tW26) rfl h2 (by decide +kernel) ⟨Nat.le_of_ble_eq_true rfl, Nat.le_of_ble_eq_true rfl⟩ rfl rfl hl.1 rfl (lv_room (Nat.le_of_ble_eq_true rfl)) d_Records_takeAway_6 ⟨(Nat.le_of_ble_eq_true rfl), (Nat.le_of_ble_eq_true rfl)⟩) hS (fun H locs hX hS => ?_)
  refine lv_iconst (v := 1) hx hb d_Records_takeAway_9 (by decide) ?_
  refine lv_iload_n hx hb d_Records_takeAway_10 rfl (lv_at hl 3 rfl) ?_
  refine lv_ishl hx hb d_Records_takeAway_11 ?_
  refine lv_iconst (v := (-1)) hx hb d_Records_takeAway_12 (by decide) ?_
  refine lv_ixor hx hb d_Records_takeAway_13 ?_
  refine lv_iand hx hb d_Records_takeAway_14 ?_
  replace hm := zb1_s hm
  obtain ⟨_, h5, hm⟩ := hm
  replace hm := zb2_s hm
  obtain ⟨v6, X7, h4, hm⟩ := hm
  refine zr_callv (zr_runV (As := [.int x1, .int x2, .int (v3 &&& ((1 <<< (x3 &&& 31)) ^^^ (-1)))]) (rest := []) (n := 3) hx hb hml hown hts hk hX (c_Records_setValues l G N X x0 x1 x2 (v3 &&& ((1 <<< (x3 &&& 31)) ^^^ (-1))) v6 X7 h4) (hts _ tW27) tW28 (hts _ tW11) (hts _ tW29) (hts _ tW30) rfl h5 (by decide +kernel) ⟨Nat.le_of_ble_eq_true rfl, Nat.le_of_ble_eq_true rfl⟩ rfl rfl hl.1 rfl (lv_room (Nat.le_of_ble_eq_true rfl)) d_Records_takeAway_15 ⟨(Nat.le_of_ble_eq_true rfl), (Nat.le_of_ble_eq_true rfl)⟩) hS (fun H locs hX hS => ?_)
  cases hm
  exact W.vret hx hb hr (fun t ht hW => zh_end hk hX hS ht hW) hS.2.2 d_Records_takeAway_18
set_option maxHeartbeats 4000000 in
set_option maxRecDepth 100000 in
theorem c_Records_takeItem (l : Launch) (G : zh_G) (N : Nat) (X : zh_T) (x0 : Nat) (x1 : Int32) (r : Unit) (X' : zh_T) (hm : f_Records_takeItem N X x0 x1 = some (r, X')) : zM l G y_Records_takeItem w_Records_takeItem 2 46 X [.ref x0, .int x1] none X' 0 0 := by
  refine zr_ofW (by decide) (by exact Nat.le_of_ble_eq_true rfl) ?_
  intro p e s m args below meth c ls hx hb hml hr hts hown hin hlocks hk hX hl
  have hS : va_S (zh_A G) s.heap s.heap [] := va_S.rf
  have hl : lv_has ls 2 [(0, .ref x0), (1, .int x1)] := hl
  have hown : s.vm.findClass R_Records = some m.cls := hown
  unfold f_Records_takeItem at hm
  refine lv_iload_n hx hb d_Records_takeItem_0 rfl (lv_at hl 1 rfl) ?_
  replace hm := zb1_s hm
  obtain ⟨v2, h1, hm⟩ := hm
  refine zr_calli (zr_runSN (As := [.int x1]) (rest := []) (n := 1) hx hb hml hown hts hk hX (c_ZoneNodes_formOf l G N X x1 v2 h1) (nM9 hk) tW186 (hts _ tW100) (hts _ tW187) (by decide +kernel) ⟨Nat.le_of_ble_eq_true rfl, Nat.le_of_ble_eq_true rfl⟩ rfl rfl hl.1 rfl (lv_room (Nat.le_of_ble_eq_true rfl)) d_Records_takeItem_1 ⟨(Nat.le_of_ble_eq_true rfl), (Nat.le_of_ble_eq_true rfl)⟩) hS (fun H locs hX hS => ?_)
  refine lv_iconst (v := 1) hx hb d_Records_takeItem_4 (by decide) ?_
  refine lv_icmp_ne (tgt := 27) hx hb d_Records_takeItem_5 rfl (fun h3 => ?_) (fun h3 => ?_)
  · replace hm := zi_f h3 hm
    refine lv_aload_n hx hb d_Records_takeItem_27 rfl (lv_at hl 0 rfl) ?_
    refine lv_iload_n hx hb d_Records_takeItem_28 rfl (lv_at hl 1 rfl) ?_
    replace hm := zb1_s hm
    obtain ⟨v5, h4, hm⟩ := hm
    refine zr_calli (zr_runSN (As := [.int x1]) (rest := [.ref x0]) (n := 1) hx hb hml hown hts hk hX (c_ZoneNodes_nameOf l G N X x1 v5 h4) (nM10 hk) tW188 (hts _ tW100) (hts _ tW189) (by decide +kernel) ⟨Nat.le_of_ble_eq_true rfl, Nat.le_of_ble_eq_true rfl⟩ rfl rfl hl.1 rfl (lv_room (Nat.le_of_ble_eq_true rfl)) d_Records_takeItem_29 ⟨(Nat.le_of_ble_eq_true rfl), (Nat.le_of_ble_eq_true rfl)⟩) hS (fun H locs hX hS => ?_)
    refine lv_iload_n hx hb d_Records_takeItem_32 rfl (lv_at hl 1 rfl) ?_
    replace hm := zb1_s hm
    obtain ⟨v7, h6, hm⟩ := hm
    refine zr_calli (zr_runSN (As := [.int x1]) (rest := [.int v5, .ref x0]) (n := 1) hx hb hml hown hts hk hX (c_ZoneNodes_typeOf l G N X x1 v7 h6) (nM11 hk) tW190 (hts _ tW100) (hts _ tW191) (by decide +kernel) ⟨Nat.le_of_ble_eq_true rfl, Nat.le_of_ble_eq_true rfl⟩ rfl rfl hl.1 rfl (lv_room (Nat.le_of_ble_eq_true rfl)) d_Records_takeItem_33 ⟨(Nat.le_of_ble_eq_true rfl), (Nat.le_of_ble_eq_true rfl)⟩) hS (fun H locs hX hS => ?_)
    refine lv_iload_n hx hb d_Records_takeItem_36 rfl (lv_at hl 1 rfl) ?_
    replace hm := zb1_s hm
    obtain ⟨v9, h8, hm⟩ := hm
    refine zr_calli (zr_runSN (As := [.int x1]) (rest := [.int v7, .int v5, .ref x0]) (n := 1) hx hb hml hown hts hk hX (c_ZoneNodes_valueOf l G N X x1 v9 h8) (nM12 hk) tW192 (hts _ tW100) (hts _ tW193) (by decide +kernel) ⟨Nat.le_of_ble_eq_true rfl, Nat.le_of_ble_eq_true rfl⟩ rfl rfl hl.1 rfl (lv_room (Nat.le_of_ble_eq_true rfl)) d_Records_takeItem_37 ⟨(Nat.le_of_ble_eq_true rfl), (Nat.le_of_ble_eq_true rfl)⟩) hS (fun H locs hX hS => ?_)
    replace hm := zb1_s hm
    obtain ⟨_, h11, hm⟩ := hm
    replace hm := zb2_s hm
    obtain ⟨v12, X13, h10, hm⟩ := hm
    refine zr_callv (zr_runV (As := [.int v5, .int v7, .int v9]) (rest := []) (n := 3) hx hb hml hown hts hk hX (c_Records_put l G N X x0 v5 v7 v9 v12 X13 h10) (hts _ tW194) tW46 (hts _ tW11) (hts _ tW47) (hts _ tW48) rfl h11 (by decide +kernel) ⟨Nat.le_of_ble_eq_true rfl, Nat.le_of_ble_eq_true rfl⟩ rfl rfl hl.1 rfl (lv_room (Nat.le_of_ble_eq_true rfl)) d_Records_takeItem_40 ⟨(Nat.le_of_ble_eq_true rfl), (Nat.le_of_ble_eq_true rfl)⟩) hS (fun H locs hX hS => ?_)
    cases hm
    exact W.vret hx hb hr (fun t ht hW => zh_end hk hX hS ht hW) hS.2.2 d_Records_takeItem_43
  · replace hm := zi_t h3 hm
    refine lv_aload_n hx hb d_Records_takeItem_8 rfl (lv_at hl 0 rfl) ?_
    refine lv_iload_n hx hb d_Records_takeItem_9 rfl (lv_at hl 1 rfl) ?_
    replace hm := zb1_s hm
    obtain ⟨v15, h14, hm⟩ := hm
    refine zr_calli (zr_runSN (As := [.int x1]) (rest := [.ref x0]) (n := 1) hx hb hml hown hts hk hX (c_ZoneNodes_nameOf l G N X x1 v15 h14) (nM10 hk) tW188 (hts _ tW100) (hts _ tW189) (by decide +kernel) ⟨Nat.le_of_ble_eq_true rfl, Nat.le_of_ble_eq_true rfl⟩ rfl rfl hl.1 rfl (lv_room (Nat.le_of_ble_eq_true rfl)) d_Records_takeItem_10 ⟨(Nat.le_of_ble_eq_true rfl), (Nat.le_of_ble_eq_true rfl)⟩) hS (fun H locs hX hS => ?_)
    refine lv_iload_n hx hb d_Records_takeItem_13 rfl (lv_at hl 1 rfl) ?_
    replace hm := zb1_s hm
    obtain ⟨v17, h16, hm⟩ := hm
    refine zr_calli (zr_runSN (As := [.int x1]) (rest := [.int v15, .ref x0]) (n := 1) hx hb hml hown hts hk hX (c_ZoneNodes_typeOf l G N X x1 v17 h16) (nM11 hk) tW190 (hts _ tW100) (hts _ tW191) (by decide +kernel) ⟨Nat.le_of_ble_eq_true rfl, Nat.le_of_ble_eq_true rfl⟩ rfl rfl hl.1 rfl (lv_room (Nat.le_of_ble_eq_true rfl)) d_Records_takeItem_14 ⟨(Nat.le_of_ble_eq_true rfl), (Nat.le_of_ble_eq_true rfl)⟩) hS (fun H locs hX hS => ?_)
    refine lv_iload_n hx hb d_Records_takeItem_17 rfl (lv_at hl 1 rfl) ?_
    replace hm := zb1_s hm
    obtain ⟨v19, h18, hm⟩ := hm
    refine zr_calli (zr_runSN (As := [.int x1]) (rest := [.int v17, .int v15, .ref x0]) (n := 1) hx hb hml hown hts hk hX (c_ZoneNodes_valueOf l G N X x1 v19 h18) (nM12 hk) tW192 (hts _ tW100) (hts _ tW193) (by decide +kernel) ⟨Nat.le_of_ble_eq_true rfl, Nat.le_of_ble_eq_true rfl⟩ rfl rfl hl.1 rfl (lv_room (Nat.le_of_ble_eq_true rfl)) d_Records_takeItem_18 ⟨(Nat.le_of_ble_eq_true rfl), (Nat.le_of_ble_eq_true rfl)⟩) hS (fun H locs hX hS => ?_)
    replace hm := zb1_s hm
    obtain ⟨_, h21, hm⟩ := hm
    replace hm := zb2_s hm
    obtain ⟨v22, X23, h20, hm⟩ := hm
    refine zr_callv (zr_runV (As := [.int v15, .int v17, .int v19]) (rest := []) (n := 3) hx hb hml hown hts hk hX (c_Records_takeAway l G N X x0 v15 v17 v19 v22 X23 h20) (hts _ tW195) tW196 (hts _ tW11) (hts _ tW197) (hts _ tW198) rfl h21 (by decide +kernel) ⟨Nat.le_of_ble_eq_true rfl, Nat.le_of_ble_eq_true rfl⟩ rfl rfl hl.1 rfl (lv_room (Nat.le_of_ble_eq_true rfl)) d_Records_takeItem_21 ⟨(Nat.le_of_ble_eq_true rfl), (Nat.le_of_ble_eq_true rfl)⟩) hS (fun H locs hX hS => ?_)
    refine lv_goto (tgt := 43) hx hb d_Records_takeItem_24 rfl ?_
    cases hm
    exact W.vret hx hb hr (fun t ht hW => zh_end hk hX hS ht hW) hS.2.2 d_Records_takeItem_43
set_option maxHeartbeats 4000000 in
set_option maxRecDepth 100000 in
theorem c_Records_empty (l : Launch) (G : zh_G) (N : Nat) (X : zh_T) (x0 : Nat) (r : Unit) (X' : zh_T) (hm : f_Records_empty N X x0 = some (r, X')) : zM l G y_Records_empty w_Records_empty 0 0 X [.ref x0] none X' 0 0 := by
  refine zr_ofW (by decide) (by exact Nat.le_of_ble_eq_true rfl) ?_
  intro p e s m args below meth c ls hx hb hml hr hts hown hin hlocks hk hX hl
  have hS : va_S (zh_A G) s.heap s.heap [] := va_S.rf
  have hl : lv_has ls 2 [(0, .ref x0)] := hl
  have hown : s.vm.findClass R_Records = some m.cls := hown
  unfold f_Records_empty at hm
  have hL2 : ∀ (n : Nat) (X : zh_T) (w0 : Nat) (w1 : Int32) (v : Unit) (X1 : zh_T) (H : Heap) (locs : List Loc) (ls : Array Slot), L_Records_empty_2 N w0 n X w1 = some (v, X1) → zh_w G X H → va_S (zh_A G) s.heap H locs → lv_has ls 2 [(0, .ref w0), (1, .int w1)] → (∀ (H : Heap) (locs : List Loc) (ls : Array Slot), zh_w G X1 H → va_S (zh_A G) s.heap H locs → lv_has ls 2 [] → W p l e { frames := 0, cells := 0, slots := 0, locals := 0 } s m args below meth c H locs 0 0 (MQ below (zh_Q G none X') args s 0 0 (zh_A G)) (F0 m 24 ls [])) → W p l e { frames := 0, cells := 0, slots := 0, locals := 0 } s m args below meth c H locs 0 0 (MQ below (zh_Q G none X') args s 0 0 (zh_A G)) (F0 m 2 ls []) := by
    intro n
    induction n with
    | zero =>
      intro X w0 w1 v X1 H locs ls hm hX hS hl hexit
      rw [L_Records_empty_2] at hm
      cases hm
    | succ n ih =>
      intro X w0 w1 v X1 H locs ls hm hX hS hl hexit
      rw [L_Records_empty_2] at hm
      refine lv_iload_n hx hb d_Records_empty_2 rfl (lv_at hl 1 rfl) ?_
      refine lv_aload_n hx hb d_Records_empty_3 rfl (lv_at hl 0 rfl) ?_
      replace hm := zb1_s hm
      obtain ⟨a2, h1, hm⟩ := hm
      refine zr_get (ci := 5) (C := R_Records) (T := F_Records) (N := 1) hx hb hts in_Records hown hk hX rfl 0 (by decide) (hts _ tW7) rfl (zgr_v h1) d_Records_empty_4 ?_
      replace hm := zb1_s hm
      obtain ⟨v3, h4, hm⟩ := hm
      refine zr_alen (t := 0) hx hb hk hX rfl h4 d_Records_empty_7 ?_
      refine lv_icmp_ge (tgt := 24) hx hb d_Records_empty_8 rfl (fun h5 => ?_) (fun h5 => ?_)
      · replace hm := zi_t h5 hm
        cases hm
        exact hexit _ _ _ hX hS (lv_sub hl [] rfl)
      · replace hm := zi_f h5 hm
        refine lv_aload_n hx hb d_Records_empty_11 rfl (lv_at hl 0 rfl) ?_
        replace hm := zb1_s hm
        obtain ⟨a7, h6, hm⟩ := hm
        refine zr_get (ci := 5) (C := R_Records) (T := F_Records) (N := 1) hx hb hts in_Records hown hk hX rfl 0 (by decide) (hts _ tW7) rfl (zgr_v h6) d_Records_empty_12 ?_
        refine lv_iload_n hx hb d_Records_empty_15 rfl (lv_at hl 1 rfl) ?_
        refine lv_iconst (v := 0) hx hb d_Records_empty_16 (by decide) ?_
        replace hm := zb1_s hm
        obtain ⟨X8, h9, hm⟩ := hm
        refine zr_iastore hx hb hk hX hS h9 d_Records_empty_17 (fun H locs hX hS => ?_)
        refine lv_iinc (v := w1 + 1) (lv' := [(1, .int (w1 + 1)), (0, .ref w0)]) hx hb d_Records_empty_18 hl (k := 1) rfl (by rw [show Int32.ofInt 1 = 1 by decide]) (by decide) rfl (fun ls hl => ?_)
        refine lv_goto (tgt := 2) hx hb d_Records_empty_21 rfl ?_
        exact ih X8 w0 (w1 + 1) v X1 _ _ _ hm hX hS (lv_sub hl [1, 0] rfl) hexit
  refine lv_iconst (v := 0) hx hb d_Records_empty_0 (by decide) ?_
  refine lv_istore_n (lv' := [(1, .int 0), (0, .ref x0)]) hx hb d_Records_empty_1 rfl hl (by decide) rfl (fun ls hl => ?_)
  replace hm := zb2_s hm
  obtain ⟨v10, X12, h11, hm⟩ := hm
  refine hL2 N X x0 0 v10 X12 _ _ _ h11 hX hS (lv_sub hl [1, 0] rfl) (fun H locs ls hX hS hl => ?_)
  cases hm
  exact W.vret hx hb hr (fun t ht hW => zh_end hk hX hS ht hW) hS.2.2 d_Records_empty_24
set_option maxHeartbeats 4000000 in
set_option maxRecDepth 100000 in
theorem c_Secondary_beginIncoming (l : Launch) (G : zh_G) (N : Nat) (X : zh_T) (x0 : Nat) (x1 : Int32) (r : Unit) (X' : zh_T) (hm : f_Secondary_beginIncoming N X x0 x1 = some (r, X')) : zM l G y_Secondary_beginIncoming w_Secondary_beginIncoming 1 22 X [.ref x0, .int x1] none X' 0 0 := by
  refine zr_ofW (by decide) (by exact Nat.le_of_ble_eq_true rfl) ?_
  intro p e s m args below meth c ls hx hb hml hr hts hown hin hlocks hk hX hl
  have hS : va_S (zh_A G) s.heap s.heap [] := va_S.rf
  have hl : lv_has ls 2 [(0, .ref x0), (1, .int x1)] := hl
  have hown : s.vm.findClass R_Secondary = some m.cls := hown
  unfold f_Secondary_beginIncoming at hm
  refine lv_iload_n hx hb d_Secondary_beginIncoming_0 rfl (lv_at hl 1 rfl) ?_
  refine lv_if_eq (tgt := 14) hx hb d_Secondary_beginIncoming_1 rfl (fun h1 => ?_) (fun h1 => ?_)
  · replace hm := zi_t h1 hm
    refine lv_aload_n hx hb d_Secondary_beginIncoming_14 rfl (lv_at hl 0 rfl) ?_
    replace hm := zb1_s hm
    obtain ⟨a3, h2, hm⟩ := hm
    refine zr_get (ci := 6) (C := R_Secondary) (T := F_Secondary) (N := 13) hx hb hts in_Secondary hown hk hX rfl 5 (by decide) (hts _ tW62) rfl (zgr_v h2) d_Secondary_beginIncoming_15 ?_
    refine lv_aload_n hx hb d_Secondary_beginIncoming_18 rfl (lv_at hl 0 rfl) ?_
    replace hm := zb1_s hm
    obtain ⟨a5, h4, hm⟩ := hm
    refine zr_get (ci := 6) (C := R_Secondary) (T := F_Secondary) (N := 13) hx hb hts in_Secondary hown hk hX rfl 4 (by decide) (hts _ tW61) rfl (zgr_v h4) d_Secondary_beginIncoming_19 ?_
    replace hm := zb1_s hm
    obtain ⟨_, h7, hm⟩ := hm
    replace hm := zb2_s hm
    obtain ⟨v8, X9, h6, hm⟩ := hm
    refine zr_callv (zr_runV (As := [.ref a5]) (rest := []) (n := 1) hx hb hml hown hts hk hX (c_Records_copyFrom l G N X a3 a5 v8 X9 h6) (hts _ tW199) tW200 (hts _ tW11) (hts _ tW201) (hts _ tW202) rfl h7 (by decide +kernel) ⟨Nat.le_of_ble_eq_true rfl, Nat.le_of_ble_eq_true rfl⟩ rfl rfl hl.1 rfl (lv_room (Nat.le_of_ble_eq_true rfl)) d_Secondary_beginIncoming_22 ⟨(Nat.le_of_ble_eq_true rfl), (Nat.le_of_ble_eq_true rfl)⟩) hS (fun H locs hX hS => ?_)
    cases hm
    exact W.vret hx hb hr (fun t ht hW => zh_end hk hX hS ht hW) hS.2.2 d_Secondary_beginIncoming_25
  · replace hm := zi_f h1 hm
    refine lv_aload_n hx hb d_Secondary_beginIncoming_4 rfl (lv_at hl 0 rfl) ?_
    replace hm := zb1_s hm
    obtain ⟨a11, h10, hm⟩ := hm
    refine zr_get (ci := 6) (C := R_Secondary) (T := F_Secondary) (N := 13) hx hb hts in_Secondary hown hk hX rfl 5 (by decide) (hts _ tW62) rfl (zgr_v h10) d_Secondary_beginIncoming_5 ?_
    replace hm := zb1_s hm
    obtain ⟨_, h13, hm⟩ := hm
    replace hm := zb2_s hm
    obtain ⟨v14, X15, h12, hm⟩ := hm
    refine zr_callv (zr_runV (As := []) (rest := []) (n := 0) hx hb hml hown hts hk hX (c_Records_empty l G N X a11 v14 X15 h12) (hts _ tW203) tW204 (hts _ tW11) (hts _ tW205) (hts _ tW206) rfl h13 (by decide +kernel) ⟨Nat.le_of_ble_eq_true rfl, Nat.le_of_ble_eq_true rfl⟩ rfl rfl hl.1 rfl (lv_room (Nat.le_of_ble_eq_true rfl)) d_Secondary_beginIncoming_8 ⟨(Nat.le_of_ble_eq_true rfl), (Nat.le_of_ble_eq_true rfl)⟩) hS (fun H locs hX hS => ?_)
    refine lv_goto (tgt := 25) hx hb d_Secondary_beginIncoming_11 rfl ?_
    cases hm
    exact W.vret hx hb hr (fun t ht hW => zh_end hk hX hS ht hW) hS.2.2 d_Secondary_beginIncoming_25
set_option maxHeartbeats 4000000 in
set_option maxRecDepth 100000 in
theorem c_Secondary_takePart (l : Launch) (G : zh_G) (N : Nat) (X : zh_T) (x0 : Nat) (x1 : Nat) (x2 : Int32) (r : Unit) (X' : zh_T) (hm : f_Secondary_takePart N X x0 x1 x2 = some (r, X')) : zM l G y_Secondary_takePart w_Secondary_takePart 3 67 X [.ref x0, .ref x1, .int x2] none X' 0 0 := by
  refine zr_ofW (by decide) (by exact Nat.le_of_ble_eq_true rfl) ?_
  intro p e s m args below meth c ls hx hb hml hr hts hown hin hlocks hk hX hl
  have hS : va_S (zh_A G) s.heap s.heap [] := va_S.rf
  have hl : lv_has ls 4 [(0, .ref x0), (1, .ref x1), (2, .int x2)] := hl
  have hown : s.vm.findClass R_Secondary = some m.cls := hown
  unfold f_Secondary_takePart at hm
  have hL17 : ∀ (n : Nat) (X : zh_T) (w0 : Nat) (w1 : Nat) (w2 : Int32) (w3 : Int32) (v : Unit) (X1 : zh_T) (H : Heap) (locs : List Loc) (ls : Array Slot), L_Secondary_takePart_17 N w0 w1 w2 n X w3 = some (v, X1) → zh_w G X H → va_S (zh_A G) s.heap H locs → lv_has ls 4 [(0, .ref w0), (1, .ref w1), (2, .int w2), (3, .int w3)] → (∀ (H : Heap) (locs : List Loc) (ls : Array Slot), zh_w G X1 H → va_S (zh_A G) s.heap H locs → lv_has ls 4 [(0, .ref w0), (1, .ref w1), (2, .int w2)] → W p l e { frames := 3, cells := 0, slots := 0, locals := 67 } s m args below meth c H locs 0 0 (MQ below (zh_Q G none X') args s 0 0 (zh_A G)) (F0 m 44 ls [])) → W p l e { frames := 3, cells := 0, slots := 0, locals := 67 } s m args below meth c H locs 0 0 (MQ below (zh_Q G none X') args s 0 0 (zh_A G)) (F0 m 17 ls []) := by
    intro n
    induction n with
    | zero =>
      intro X w0 w1 w2 w3 v X1 H locs ls hm hX hS hl hexit
      rw [L_Secondary_takePart_17] at hm
      cases hm
    | succ n ih =>
      intro X w0 w1 w2 w3 v X1 H locs ls hm hX hS hl hexit
      rw [L_Secondary_takePart_17] at hm
      refine lv_iload_n hx hb d_Secondary_takePart_17 rfl (lv_at hl 3 rfl) ?_
      refine lv_aload_n hx hb d_Secondary_takePart_18 rfl (lv_at hl 1 rfl) ?_
      replace hm := zb1_s hm
      obtain ⟨v5, h4, hm⟩ := hm
      refine zr_getN (ci := 3) (C := R_Message) (T := F_Message) (N := 10) hx hb hts in_Message hown hk hX rfl 6 (by decide) rfl rfl (nF28 hk) rfl (zgi_v h4) d_Secondary_takePart_19 ?_
      refine lv_icmp_ge (tgt := 44) hx hb d_Secondary_takePart_22 rfl (fun h6 => ?_) (fun h6 => ?_)
      · replace hm := zi_t h6 hm
        cases hm
        exact hexit _ _ _ hX hS (lv_sub hl [0, 1, 2] rfl)
      · replace hm := zi_f h6 hm
        refine lv_aload_n hx hb d_Secondary_takePart_25 rfl (lv_at hl 0 rfl) ?_
        replace hm := zb1_s hm
        obtain ⟨a8, h7, hm⟩ := hm
        refine zr_get (ci := 6) (C := R_Secondary) (T := F_Secondary) (N := 13) hx hb hts in_Secondary hown hk hX rfl 5 (by decide) (hts _ tW62) rfl (zgr_v h7) d_Secondary_takePart_26 ?_
        refine lv_aload_n hx hb d_Secondary_takePart_29 rfl (lv_at hl 1 rfl) ?_
        replace hm := zb1_s hm
        obtain ⟨a10, h9, hm⟩ := hm
        refine zr_getN (ci := 3) (C := R_Message) (T := F_Message) (N := 10) hx hb hts in_Message hown hk hX rfl 0 (by decide) rfl rfl (nF29 hk) rfl (zgr_v h9) d_Secondary_takePart_30 ?_
        refine lv_iload_n hx hb d_Secondary_takePart_33 rfl (lv_at hl 3 rfl) ?_
        replace hm := zb1_s hm
        obtain ⟨v11, h12, hm⟩ := hm
        refine zr_iaload hx hb hk hX h12 d_Secondary_takePart_34 ?_
        replace hm := zb1_s hm
        obtain ⟨_, h14, hm⟩ := hm
        replace hm := zb2_s hm
        obtain ⟨v15, X16, h13, hm⟩ := hm
        refine zr_callv (zr_runV (As := [.int v11]) (rest := []) (n := 1) hx hb hml hown hts hk hX (c_Records_takeItem l G N X a8 v11 v15 X16 h13) (hts _ tW207) tW208 (hts _ tW11) (hts _ tW209) (hts _ tW210) rfl h14 (by decide +kernel) ⟨Nat.le_of_ble_eq_true rfl, Nat.le_of_ble_eq_true rfl⟩ rfl rfl hl.1 rfl (lv_room (Nat.le_of_ble_eq_true rfl)) d_Secondary_takePart_35 ⟨(Nat.le_of_ble_eq_true rfl), (Nat.le_of_ble_eq_true rfl)⟩) hS (fun H locs hX hS => ?_)
        refine lv_iinc (v := w3 + 1) (lv' := [(3, .int (w3 + 1)), (0, .ref w0), (1, .ref w1), (2, .int w2)]) hx hb d_Secondary_takePart_38 hl (k := 3) rfl (by rw [show Int32.ofInt 1 = 1 by decide]) (by decide) rfl (fun ls hl => ?_)
        refine lv_goto (tgt := 17) hx hb d_Secondary_takePart_41 rfl ?_
        exact ih X16 w0 w1 w2 (w3 + 1) v X1 _ _ _ hm hX hS (lv_sub hl [1, 2, 3, 0] rfl) hexit
  refine lv_aload_n hx hb d_Secondary_takePart_0 rfl (lv_at hl 1 rfl) ?_
  replace hm := zb1_s hm
  obtain ⟨v2, h1, hm⟩ := hm
  refine zr_getN (ci := 3) (C := R_Message) (T := F_Message) (N := 10) hx hb hts in_Message hown hk hX rfl 5 (by decide) rfl rfl (nF27 hk) rfl (zgi_v h1) d_Secondary_takePart_1 ?_
  refine lv_if_ne (tgt := 15) hx hb d_Secondary_takePart_4 rfl (fun h3 => ?_) (fun h3 => ?_)
  · replace hm := zi_f h3 hm
    refine lv_iconst (v := 0) hx hb d_Secondary_takePart_15 (by decide) ?_
    refine lv_istore_n (lv' := [(3, .int 0), (0, .ref x0), (1, .ref x1), (2, .int x2)]) hx hb d_Secondary_takePart_16 rfl hl (by decide) rfl (fun ls hl => ?_)
    replace hm := zb2_s hm
    obtain ⟨v17, X19, h18, hm⟩ := hm
    refine hL17 N X x0 x1 x2 0 v17 X19 _ _ _ h18 hX hS (lv_sub hl [1, 2, 3, 0] rfl) (fun H locs ls hX hS hl => ?_)
    refine lv_aload_n hx hb d_Secondary_takePart_44 rfl (lv_at hl 1 rfl) ?_
    replace hm := zb1_s hm
    obtain ⟨v21, h20, hm⟩ := hm
    refine zr_getN (ci := 3) (C := R_Message) (T := F_Message) (N := 10) hx hb hts in_Message hown hk hX rfl 8 (by decide) rfl rfl (nF30 hk) rfl (zgi_v h20) d_Secondary_takePart_45 ?_
    refine lv_if_eq (tgt := 80) hx hb d_Secondary_takePart_48 rfl (fun h22 => ?_) (fun h22 => ?_)
    · replace hm := zi_t h22 hm
      cases hm
      exact W.vret hx hb hr (fun t ht hW => zh_end hk hX hS ht hW) hS.2.2 d_Secondary_takePart_80
    · replace hm := zi_f h22 hm
      refine lv_aload_n hx hb d_Secondary_takePart_51 rfl (lv_at hl 0 rfl) ?_
      replace hm := zb1_s hm
      obtain ⟨a24, h23, hm⟩ := hm
      refine zr_get (ci := 6) (C := R_Secondary) (T := F_Secondary) (N := 13) hx hb hts in_Secondary hown hk hX rfl 4 (by decide) (hts _ tW61) rfl (zgr_v h23) d_Secondary_takePart_52 ?_
      refine lv_aload_n hx hb d_Secondary_takePart_55 rfl (lv_at hl 0 rfl) ?_
      replace hm := zb1_s hm
      obtain ⟨a26, h25, hm⟩ := hm
      refine zr_get (ci := 6) (C := R_Secondary) (T := F_Secondary) (N := 13) hx hb hts in_Secondary hown hk hX rfl 5 (by decide) (hts _ tW62) rfl (zgr_v h25) d_Secondary_takePart_56 ?_
      replace hm := zb1_s hm
      obtain ⟨_, h28, hm⟩ := hm
      replace hm := zb2_s hm
      obtain ⟨v29, X30, h27, hm⟩ := hm
      refine zr_callv (zr_runV (As := [.ref a26]) (rest := []) (n := 1) hx hb hml hown hts hk hX (c_Records_copyFrom l G N X19 a24 a26 v29 X30 h27) (hts _ tW199) tW200 (hts _ tW11) (hts _ tW201) (hts _ tW202) rfl h28 (by decide +kernel) ⟨Nat.le_of_ble_eq_true rfl, Nat.le_of_ble_eq_true rfl⟩ rfl rfl hl.1 rfl (lv_room (Nat.le_of_ble_eq_true rfl)) d_Secondary_takePart_59 ⟨(Nat.le_of_ble_eq_true rfl), (Nat.le_of_ble_eq_true rfl)⟩) hS (fun H locs hX hS => ?_)
      refine lv_aload_n hx hb d_Secondary_takePart_62 rfl (lv_at hl 0 rfl) ?_
      refine lv_aload_n hx hb d_Secondary_takePart_63 rfl (lv_at hl 1 rfl) ?_
      replace hm := zb1_s hm
      obtain ⟨v32, h31, hm⟩ := hm
      refine zr_getN (ci := 3) (C := R_Message) (T := F_Message) (N := 10) hx hb hts in_Message hown hk hX rfl 4 (by decide) rfl rfl (nF31 hk) rfl (zgi_v h31) d_Secondary_takePart_64 ?_
      replace hm := zb1_s hm
      obtain ⟨X33, h34, hm⟩ := hm
      refine zr_put (ci := 6) (C := R_Secondary) (T := F_Secondary) (N := 13) (ty := .int) (v := .int v32) hx hb hts in_Secondary t_Secondary t_Secondary_ok n_Secondary hown hk hX hS rfl 8 (by decide) (hts _ tW167) rfl rfl (by decide +kernel) rfl rfl h34 d_Secondary_takePart_67 (fun H locs hX hS => ?_)
      refine lv_aload_n hx hb d_Secondary_takePart_70 rfl (lv_at hl 0 rfl) ?_
      refine lv_iconst (v := 1) hx hb d_Secondary_takePart_71 (by decide) ?_
      replace hm := zb1_s hm
      obtain ⟨X35, h36, hm⟩ := hm
      refine zr_put (ci := 6) (C := R_Secondary) (T := F_Secondary) (N := 13) (ty := .boolean) (v := .int 1) hx hb hts in_Secondary t_Secondary t_Secondary_ok n_Secondary hown hk hX hS rfl 7 (by decide) (hts _ tW166) rfl rfl (by decide +kernel) (zpz_n h36) (zpz_f h36) (zpz_v h36) d_Secondary_takePart_72 (fun H locs hX hS => ?_)
      refine lv_aload_n hx hb d_Secondary_takePart_75 rfl (lv_at hl 0 rfl) ?_
      refine lv_iload_n hx hb d_Secondary_takePart_76 rfl (lv_at hl 2 rfl) ?_
      replace hm := zb1_s hm
      obtain ⟨_, h38, hm⟩ := hm
      replace hm := zb2_s hm
      obtain ⟨v39, X40, h37, hm⟩ := hm
      refine zr_callv (zr_runV (As := [.int x2]) (rest := []) (n := 1) hx hb hml hown hts hk hX (c_Secondary_becomeRefreshed l G N X35 x0 x2 v39 X40 h37) (hts _ tW182) tW183 (hts _ tW54) (hts _ tW184) (hts _ tW185) rfl h38 (by decide +kernel) ⟨Nat.le_of_ble_eq_true rfl, Nat.le_of_ble_eq_true rfl⟩ rfl rfl hl.1 rfl (lv_room (Nat.le_of_ble_eq_true rfl)) d_Secondary_takePart_77 ⟨(Nat.le_of_ble_eq_true rfl), (Nat.le_of_ble_eq_true rfl)⟩) hS (fun H locs hX hS => ?_)
      cases hm
      exact W.vret hx hb hr (fun t ht hW => zh_end hk hX hS ht hW) hS.2.2 d_Secondary_takePart_80
  · replace hm := zi_t h3 hm
    refine lv_aload_n hx hb d_Secondary_takePart_7 rfl (lv_at hl 0 rfl) ?_
    refine lv_aload_n hx hb d_Secondary_takePart_8 rfl (lv_at hl 1 rfl) ?_
    replace hm := zb1_s hm
    obtain ⟨v42, h41, hm⟩ := hm
    refine zr_getN (ci := 3) (C := R_Message) (T := F_Message) (N := 10) hx hb hts in_Message hown hk hX rfl 7 (by decide) rfl rfl (nF32 hk) rfl (zgi_v h41) d_Secondary_takePart_9 ?_
    replace hm := zb1_s hm
    obtain ⟨_, h44, hm⟩ := hm
    replace hm := zb2_s hm
    obtain ⟨v45, X46, h43, hm⟩ := hm
    refine zr_callv (zr_runV (As := [.int v42]) (rest := []) (n := 1) hx hb hml hown hts hk hX (c_Secondary_beginIncoming l G N X x0 v42 v45 X46 h43) (hts _ tW211) tW212 (hts _ tW54) (hts _ tW213) (hts _ tW214) rfl h44 (by decide +kernel) ⟨Nat.le_of_ble_eq_true rfl, Nat.le_of_ble_eq_true rfl⟩ rfl rfl hl.1 rfl (lv_room (Nat.le_of_ble_eq_true rfl)) d_Secondary_takePart_12 ⟨(Nat.le_of_ble_eq_true rfl), (Nat.le_of_ble_eq_true rfl)⟩) hS (fun H locs hX hS => ?_)
    refine lv_iconst (v := 0) hx hb d_Secondary_takePart_15 (by decide) ?_
    refine lv_istore_n (lv' := [(3, .int 0), (0, .ref x0), (1, .ref x1), (2, .int x2)]) hx hb d_Secondary_takePart_16 rfl hl (by decide) rfl (fun ls hl => ?_)
    replace hm := zb2_s hm
    obtain ⟨v47, X49, h48, hm⟩ := hm
    refine hL17 N X46 x0 x1 x2 0 v47 X49 _ _ _ h48 hX hS (lv_sub hl [1, 2, 3, 0] rfl) (fun H locs ls hX hS hl => ?_)
    refine lv_aload_n hx hb d_Secondary_takePart_44 rfl (lv_at hl 1 rfl) ?_
    replace hm := zb1_s hm
    obtain ⟨v51, h50, hm⟩ := hm
    refine zr_getN (ci := 3) (C := R_Message) (T := F_Message) (N := 10) hx hb hts in_Message hown hk hX rfl 8 (by decide) rfl rfl (nF30 hk) rfl (zgi_v h50) d_Secondary_takePart_45 ?_
    refine lv_if_eq (tgt := 80) hx hb d_Secondary_takePart_48 rfl (fun h52 => ?_) (fun h52 => ?_)
    · replace hm := zi_t h52 hm
      cases hm
      exact W.vret hx hb hr (fun t ht hW => zh_end hk hX hS ht hW) hS.2.2 d_Secondary_takePart_80
    · replace hm := zi_f h52 hm
      refine lv_aload_n hx hb d_Secondary_takePart_51 rfl (lv_at hl 0 rfl) ?_
      replace hm := zb1_s hm
      obtain ⟨a54, h53, hm⟩ := hm
      refine zr_get (ci := 6) (C := R_Secondary) (T := F_Secondary) (N := 13) hx hb hts in_Secondary hown hk hX rfl 4 (by decide) (hts _ tW61) rfl (zgr_v h53) d_Secondary_takePart_52 ?_
      refine lv_aload_n hx hb d_Secondary_takePart_55 rfl (lv_at hl 0 rfl) ?_
      replace hm := zb1_s hm
      obtain ⟨a56, h55, hm⟩ := hm
      refine zr_get (ci := 6) (C := R_Secondary) (T := F_Secondary) (N := 13) hx hb hts in_Secondary hown hk hX rfl 5 (by decide) (hts _ tW62) rfl (zgr_v h55) d_Secondary_takePart_56 ?_
      replace hm := zb1_s hm
      obtain ⟨_, h58, hm⟩ := hm
      replace hm := zb2_s hm
      obtain ⟨v59, X60, h57, hm⟩ := hm
      refine zr_callv (zr_runV (As := [.ref a56]) (rest := []) (n := 1) hx hb hml hown hts hk hX (c_Records_copyFrom l G N X49 a54 a56 v59 X60 h57) (hts _ tW199) tW200 (hts _ tW11) (hts _ tW201) (hts _ tW202) rfl h58 (by decide +kernel) ⟨Nat.le_of_ble_eq_true rfl, Nat.le_of_ble_eq_true rfl⟩ rfl rfl hl.1 rfl (lv_room (Nat.le_of_ble_eq_true rfl)) d_Secondary_takePart_59 ⟨(Nat.le_of_ble_eq_true rfl), (Nat.le_of_ble_eq_true rfl)⟩) hS (fun H locs hX hS => ?_)
      refine lv_aload_n hx hb d_Secondary_takePart_62 rfl (lv_at hl 0 rfl) ?_
      refine lv_aload_n hx hb d_Secondary_takePart_63 rfl (lv_at hl 1 rfl) ?_
      replace hm := zb1_s hm
      obtain ⟨v62, h61, hm⟩ := hm
      refine zr_getN (ci := 3) (C := R_Message) (T := F_Message) (N := 10) hx hb hts in_Message hown hk hX rfl 4 (by decide) rfl rfl (nF31 hk) rfl (zgi_v h61) d_Secondary_takePart_64 ?_
      replace hm := zb1_s hm
      obtain ⟨X63, h64, hm⟩ := hm
      refine zr_put (ci := 6) (C := R_Secondary) (T := F_Secondary) (N := 13) (ty := .int) (v := .int v62) hx hb hts in_Secondary t_Secondary t_Secondary_ok n_Secondary hown hk hX hS rfl 8 (by decide) (hts _ tW167) rfl rfl (by decide +kernel) rfl rfl h64 d_Secondary_takePart_67 (fun H locs hX hS => ?_)
      refine lv_aload_n hx hb d_Secondary_takePart_70 rfl (lv_at hl 0 rfl) ?_
      refine lv_iconst (v := 1) hx hb d_Secondary_takePart_71 (by decide) ?_
      replace hm := zb1_s hm
      obtain ⟨X65, h66, hm⟩ := hm
      refine zr_put (ci := 6) (C := R_Secondary) (T := F_Secondary) (N := 13) (ty := .boolean) (v := .int 1) hx hb hts in_Secondary t_Secondary t_Secondary_ok n_Secondary hown hk hX hS rfl 7 (by decide) (hts _ tW166) rfl rfl (by decide +kernel) (zpz_n h66) (zpz_f h66) (zpz_v h66) d_Secondary_takePart_72 (fun H locs hX hS => ?_)
      refine lv_aload_n hx hb d_Secondary_takePart_75 rfl (lv_at hl 0 rfl) ?_
      refine lv_iload_n hx hb d_Secondary_takePart_76 rfl (lv_at hl 2 rfl) ?_
      replace hm := zb1_s hm
      obtain ⟨_, h68, hm⟩ := hm
      replace hm := zb2_s hm
      obtain ⟨v69, X70, h67, hm⟩ := hm
      refine zr_callv (zr_runV (As := [.int x2]) (rest := []) (n := 1) hx hb hml hown hts hk hX (c_Secondary_becomeRefreshed l G N X65 x0 x2 v69 X70 h67) (hts _ tW182) tW183 (hts _ tW54) (hts _ tW184) (hts _ tW185) rfl h68 (by decide +kernel) ⟨Nat.le_of_ble_eq_true rfl, Nat.le_of_ble_eq_true rfl⟩ rfl rfl hl.1 rfl (lv_room (Nat.le_of_ble_eq_true rfl)) d_Secondary_takePart_77 ⟨(Nat.le_of_ble_eq_true rfl), (Nat.le_of_ble_eq_true rfl)⟩) hS (fun H locs hX hS => ?_)
      cases hm
      exact W.vret hx hb hr (fun t ht hW => zh_end hk hX hS ht hW) hS.2.2 d_Secondary_takePart_80
set_option maxHeartbeats 4000000 in
set_option maxRecDepth 100000 in
theorem c_Wire_takeOut (l : Launch) (G : zh_G) (N : Nat) (X : zh_T) (x0 : Nat) (x1 : Int32) (r : Unit) (X' : zh_T) (hm : f_Wire_takeOut N X x0 x1 = some (r, X')) : zM l G y_Wire_takeOut w_Wire_takeOut 0 0 X [.ref x0, .int x1] none X' 0 0 := by
  refine zr_ofW (by decide) (by exact Nat.le_of_ble_eq_true rfl) ?_
  intro p e s m args below meth c ls hx hb hml hr hts hown hin hlocks hk hX hl
  have hS : va_S (zh_A G) s.heap s.heap [] := va_S.rf
  have hl : lv_has ls 4 [(0, .ref x0), (1, .int x1)] := hl
  have hown : s.vm.findClass R_Wire = some m.cls := hown
  unfold f_Wire_takeOut at hm
  have hL11 : ∀ (n : Nat) (X : zh_T) (w0 : Nat) (w2 : Nat) (w3 : Int32) (v : Unit) (X1 : zh_T) (H : Heap) (locs : List Loc) (ls : Array Slot), L_Wire_takeOut_11 N w0 w2 n X w3 = some (v, X1) → zh_w G X H → va_S (zh_A G) s.heap H locs → lv_has ls 4 [(0, .ref w0), (2, .ref w2), (3, .int w3)] → (∀ (H : Heap) (locs : List Loc) (ls : Array Slot), zh_w G X1 H → va_S (zh_A G) s.heap H locs → lv_has ls 4 [(0, .ref w0), (2, .ref w2)] → W p l e { frames := 0, cells := 0, slots := 0, locals := 0 } s m args below meth c H locs 0 0 (MQ below (zh_Q G none X') args s 0 0 (zh_A G)) (F0 m 39 ls [])) → W p l e { frames := 0, cells := 0, slots := 0, locals := 0 } s m args below meth c H locs 0 0 (MQ below (zh_Q G none X') args s 0 0 (zh_A G)) (F0 m 11 ls []) := by
    intro n
    induction n with
    | zero =>
      intro X w0 w2 w3 v X1 H locs ls hm hX hS hl hexit
      rw [L_Wire_takeOut_11] at hm
      cases hm
    | succ n ih =>
      intro X w0 w2 w3 v X1 H locs ls hm hX hS hl hexit
      rw [L_Wire_takeOut_11] at hm
      refine lv_iload_n hx hb d_Wire_takeOut_11 rfl (lv_at hl 2 rfl) ?_
      refine lv_aload_n hx hb d_Wire_takeOut_12 rfl (lv_at hl 0 rfl) ?_
      replace hm := zb1_s hm
      obtain ⟨v6, h5, hm⟩ := hm
      refine zr_get (ci := 7) (C := R_Wire) (T := F_Wire) (N := 2) hx hb hts in_Wire hown hk hX rfl 1 (by decide) (hts _ tW113) rfl (zgi_v h5) d_Wire_takeOut_13 ?_
      refine lv_icmp_ge (tgt := 39) hx hb d_Wire_takeOut_16 rfl (fun h7 => ?_) (fun h7 => ?_)
      · replace hm := zi_t h7 hm
        cases hm
        exact hexit _ _ _ hX hS (lv_sub hl [0, 1] rfl)
      · replace hm := zi_f h7 hm
        refine lv_aload_n hx hb d_Wire_takeOut_19 rfl (lv_at hl 0 rfl) ?_
        replace hm := zb1_s hm
        obtain ⟨a9, h8, hm⟩ := hm
        refine zr_get (ci := 7) (C := R_Wire) (T := F_Wire) (N := 2) hx hb hts in_Wire hown hk hX rfl 0 (by decide) (hts _ tW74) rfl (zgr_v h8) d_Wire_takeOut_20 ?_
        refine lv_iload_n hx hb d_Wire_takeOut_23 rfl (lv_at hl 2 rfl) ?_
        refine lv_iconst (v := 1) hx hb d_Wire_takeOut_24 (by decide) ?_
        refine lv_isub hx hb d_Wire_takeOut_25 ?_
        refine lv_aload_n hx hb d_Wire_takeOut_26 rfl (lv_at hl 0 rfl) ?_
        replace hm := zb1_s hm
        obtain ⟨a11, h10, hm⟩ := hm
        refine zr_get (ci := 7) (C := R_Wire) (T := F_Wire) (N := 2) hx hb hts in_Wire hown hk hX rfl 0 (by decide) (hts _ tW74) rfl (zgr_v h10) d_Wire_takeOut_27 ?_
        refine lv_iload_n hx hb d_Wire_takeOut_30 rfl (lv_at hl 2 rfl) ?_
        replace hm := zb1_s hm
        obtain ⟨a13, h12, hm⟩ := hm
        refine zr_aaload (t := 3) (q := some a13) hx hb hk hX rfl (zar_v h12) d_Wire_takeOut_31 ?_
        replace hm := zb1_s hm
        obtain ⟨X14, h15, hm⟩ := hm
        refine zr_aastore (t := 3) (ci := 3) hx hb hk hX hS rfl rfl h15 d_Wire_takeOut_32 (fun H locs hX hS => ?_)
        refine lv_iinc (v := w3 + 1) (lv' := [(3, .int (w3 + 1)), (0, .ref w0), (2, .ref w2)]) hx hb d_Wire_takeOut_33 hl (k := 2) rfl (by rw [show Int32.ofInt 1 = 1 by decide]) (by decide) rfl (fun ls hl => ?_)
        refine lv_goto (tgt := 11) hx hb d_Wire_takeOut_36 rfl ?_
        exact ih X14 w0 w2 (w3 + 1) v X1 _ _ _ hm hX hS (lv_sub hl [1, 2, 0] rfl) hexit
  refine lv_aload_n hx hb d_Wire_takeOut_0 rfl (lv_at hl 0 rfl) ?_
  replace hm := zb1_s hm
  obtain ⟨a2, h1, hm⟩ := hm
  refine zr_get (ci := 7) (C := R_Wire) (T := F_Wire) (N := 2) hx hb hts in_Wire hown hk hX rfl 0 (by decide) (hts _ tW74) rfl (zgr_v h1) d_Wire_takeOut_1 ?_
  refine lv_iload_n hx hb d_Wire_takeOut_4 rfl (lv_at hl 1 rfl) ?_
  replace hm := zb1_s hm
  obtain ⟨a4, h3, hm⟩ := hm
  refine zr_aaload (t := 3) (q := some a4) hx hb hk hX rfl (zar_v h3) d_Wire_takeOut_5 ?_
  refine lv_astore_n (lv' := [(2, .ref a4), (0, .ref x0), (1, .int x1)]) hx hb d_Wire_takeOut_6 rfl hl (by decide) rfl (fun ls hl => ?_)
  refine lv_iload_n hx hb d_Wire_takeOut_7 rfl (lv_at hl 2 rfl) ?_
  refine lv_iconst (v := 1) hx hb d_Wire_takeOut_8 (by decide) ?_
  refine lv_iadd hx hb d_Wire_takeOut_9 ?_
  refine lv_istore_n (lv' := [(3, .int (x1 + 1)), (2, .ref a4), (0, .ref x0), (1, .int x1)]) hx hb d_Wire_takeOut_10 rfl hl (by decide) rfl (fun ls hl => ?_)
  replace hm := zb2_s hm
  obtain ⟨v16, X18, h17, hm⟩ := hm
  refine hL11 N X x0 a4 (x1 + 1) v16 X18 _ _ _ h17 hX hS (lv_sub hl [2, 1, 0] rfl) (fun H locs ls hX hS hl => ?_)
  refine lv_aload_n hx hb d_Wire_takeOut_39 rfl (lv_at hl 0 rfl) ?_
  refine lv_dup hx hb d_Wire_takeOut_40 rfl ?_
  replace hm := zb1_s hm
  obtain ⟨v20, h19, hm⟩ := hm
  refine zr_get (ci := 7) (C := R_Wire) (T := F_Wire) (N := 2) hx hb hts in_Wire hown hk hX rfl 1 (by decide) (hts _ tW113) rfl (zgi_v h19) d_Wire_takeOut_41 ?_
  refine lv_iconst (v := 1) hx hb d_Wire_takeOut_44 (by decide) ?_
  refine lv_isub hx hb d_Wire_takeOut_45 ?_
  replace hm := zb1_s hm
  obtain ⟨X21, h22, hm⟩ := hm
  refine zr_put (ci := 7) (C := R_Wire) (T := F_Wire) (N := 2) (ty := .int) (v := .int (v20 - 1)) hx hb hts in_Wire t_Wire t_Wire_ok n_Wire hown hk hX hS rfl 1 (by decide) (hts _ tW113) rfl rfl (by decide +kernel) rfl rfl h22 d_Wire_takeOut_46 (fun H locs hX hS => ?_)
  refine lv_aload_n hx hb d_Wire_takeOut_49 rfl (lv_at hl 0 rfl) ?_
  replace hm := zb1_s hm
  obtain ⟨a24, h23, hm⟩ := hm
  refine zr_get (ci := 7) (C := R_Wire) (T := F_Wire) (N := 2) hx hb hts in_Wire hown hk hX rfl 0 (by decide) (hts _ tW74) rfl (zgr_v h23) d_Wire_takeOut_50 ?_
  refine lv_aload_n hx hb d_Wire_takeOut_53 rfl (lv_at hl 0 rfl) ?_
  replace hm := zb1_s hm
  obtain ⟨v26, h25, hm⟩ := hm
  refine zr_get (ci := 7) (C := R_Wire) (T := F_Wire) (N := 2) hx hb hts in_Wire hown hk hX rfl 1 (by decide) (hts _ tW113) rfl (zgi_v h25) d_Wire_takeOut_54 ?_
  refine lv_aload_n hx hb d_Wire_takeOut_57 rfl (lv_at hl 1 rfl) ?_
  replace hm := zb1_s hm
  obtain ⟨X27, h28, hm⟩ := hm
  refine zr_aastore (t := 3) (ci := 3) hx hb hk hX hS rfl rfl h28 d_Wire_takeOut_58 (fun H locs hX hS => ?_)
  cases hm
  exact W.vret hx hb hr (fun t ht hW => zh_end hk hX hS ht hW) hS.2.2 d_Wire_takeOut_59
