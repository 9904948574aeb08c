set_option maxHeartbeats 4000000 in
set_option maxRecDepth 100000 in
theorem c_ZoneNodes_seal (l : Launch) (G : zh_G) (N : Nat) (X : zh_T) (x0 : Nat) (x1 : Int32) (x2 : Int32) (r : Int32) (hm : f_ZoneNodes_seal N X x0 x1 x2 = some r) : zM l G y_ZoneNodes_seal w_ZoneNodes_seal 2 46 X [.ref x0, .int x1, .int x2] (some (.int r)) X 0 0 := by
  refine zr_ofW (by decide) (by exact Nat.le_of_ble_eq_true rfl) ?_
  intro p e s m args below meth c ls hx hb hml hr hts hown hin hlocks hk hX hl
  have hS : va_S (zh_A G) s.heap s.heap [] := va_S.rf
  have hl : lv_has ls 3 [(0, .ref x0), (1, .int x1), (2, .int x2)] := hl
  have hown : s.vm.findClass R_ZoneNodes = some m.cls := hown
  unfold f_ZoneNodes_seal at hm
  refine lv_aload_n hx hb d_ZoneNodes_seal_0 rfl (lv_at hl 0 rfl) ?_
  refine lv_iload_n hx hb d_ZoneNodes_seal_1 rfl (lv_at hl 1 rfl) ?_
  replace hm := zb1_s hm
  obtain ⟨_, h2, hm⟩ := hm
  replace hm := zb1_s hm
  obtain ⟨v3, h1, hm⟩ := hm
  refine zr_calli (zr_runV (As := [.int x1]) (rest := []) (n := 1) hx hb hml hown hts hk hX (c_ZoneNodes_knowsKey l G N X x0 x1 v3 h1) (hts _ tW400) tW401 (hts _ tW100) (hts _ tW402) (hts _ tW403) rfl h2 (by decide +kernel) ⟨Nat.le_of_ble_eq_true rfl, Nat.le_of_ble_eq_true rfl⟩ rfl rfl hl.1 rfl (lv_room (Nat.le_of_ble_eq_true rfl)) d_ZoneNodes_seal_2 ⟨(Nat.le_of_ble_eq_true rfl), (Nat.le_of_ble_eq_true rfl)⟩) hS (fun H locs hX hS => ?_)
  refine lv_if_eq (tgt := 25) hx hb d_ZoneNodes_seal_5 rfl (fun h4 => ?_) (fun h4 => ?_)
  · replace hm := zi_t h4 hm
    refine lv_iconst (v := 0) hx hb d_ZoneNodes_seal_25 (by decide) ?_
    cases hm
    exact W.iret hx hb hr (fun t ht hW => zh_end hk hX hS ht hW) hS.2.2 d_ZoneNodes_seal_26
  · replace hm := zi_f h4 hm
    refine lv_aload_n hx hb d_ZoneNodes_seal_8 rfl (lv_at hl 0 rfl) ?_
    replace hm := zb1_s hm
    obtain ⟨a6, h5, hm⟩ := hm
    refine zr_get (ci := 8) (C := R_ZoneNodes) (T := F_ZoneNodes) (N := 7) hx hb hts in_ZoneNodes hown hk hX rfl 2 (by decide) (hts _ tW88) rfl (zgr_v h5) d_ZoneNodes_seal_9 ?_
    refine lv_aload_n hx hb d_ZoneNodes_seal_12 rfl (lv_at hl 0 rfl) ?_
    replace hm := zb1_s hm
    obtain ⟨a8, h7, hm⟩ := hm
    refine zr_get (ci := 8) (C := R_ZoneNodes) (T := F_ZoneNodes) (N := 7) hx hb hts in_ZoneNodes hown hk hX rfl 0 (by decide) (hts _ tW80) rfl (zgr_v h7) d_ZoneNodes_seal_13 ?_
    refine lv_iload_n hx hb d_ZoneNodes_seal_16 rfl (lv_at hl 1 rfl) ?_
    replace hm := zb1_s hm
    obtain ⟨v9, h10, hm⟩ := hm
    refine zr_iaload hx hb hk hX h10 d_ZoneNodes_seal_17 ?_
    refine lv_iload_n hx hb d_ZoneNodes_seal_18 rfl (lv_at hl 2 rfl) ?_
    replace hm := zb1_s hm
    obtain ⟨_, h12, hm⟩ := hm
    replace hm := zb1_s hm
    obtain ⟨v13, h11, hm⟩ := hm
    refine zr_calli (zr_runV (As := [.int v9, .int x2]) (rest := []) (n := 2) hx hb hml hown hts hk hX (c_Draft_sealWith l G N X a6 v9 x2 v13 h11) (hts _ tW404) tW405 (hts _ tW85) (hts _ tW406) (hts _ tW407) rfl h12 (by decide +kernel) ⟨Nat.le_of_ble_eq_true rfl, Nat.le_of_ble_eq_true rfl⟩ rfl rfl hl.1 rfl (lv_room (Nat.le_of_ble_eq_true rfl)) d_ZoneNodes_seal_19 ⟨(Nat.le_of_ble_eq_true rfl), (Nat.le_of_ble_eq_true rfl)⟩) hS (fun H locs hX hS => ?_)
    refine lv_goto (tgt := 26) hx hb d_ZoneNodes_seal_22 rfl ?_
    cases hm
    exact W.iret hx hb hr (fun t ht hW => zh_end hk hX hS ht hW) hS.2.2 d_ZoneNodes_seal_26
set_option maxHeartbeats 4000000 in
set_option maxRecDepth 100000 in
theorem c_ZoneNodes_serial (l : Launch) (G : zh_G) (N : Nat) (X : zh_T) (x0 : Nat) (x1 : Int32) (r : Int32) (hm : f_ZoneNodes_serial N X x0 x1 = some r) : zM l G y_ZoneNodes_serial w_ZoneNodes_serial 3 63 X [.ref x0, .int x1] (some (.int r)) X 0 0 := by
  refine zr_ofW (by decide) (by exact Nat.le_of_ble_eq_true rfl) ?_
  intro p e s m args below meth c ls hx hb hml hr hts hown hin hlocks hk hX hl
  have hS : va_S (zh_A G) s.heap s.heap [] := va_S.rf
  have hl : lv_has ls 2 [(0, .ref x0), (1, .int x1)] := hl
  have hown : s.vm.findClass R_ZoneNodes = some m.cls := hown
  unfold f_ZoneNodes_serial at hm
  refine lv_aload_n hx hb d_ZoneNodes_serial_0 rfl (lv_at hl 0 rfl) ?_
  refine lv_iload_n hx hb d_ZoneNodes_serial_1 rfl (lv_at hl 1 rfl) ?_
  replace hm := zb1_s hm
  obtain ⟨_, h2, hm⟩ := hm
  replace hm := zb1_s hm
  obtain ⟨q3, h1, hm⟩ := hm
  refine zr_callq (zr_runV (As := [.int x1]) (rest := []) (n := 1) hx hb hml hown hts hk hX (c_ZoneNodes_recordsOf l G N X x0 x1 q3 h1) (hts _ tW274) tW275 (hts _ tW100) (hts _ tW276) (hts _ tW277) rfl h2 (by decide +kernel) ⟨Nat.le_of_ble_eq_true rfl, Nat.le_of_ble_eq_true rfl⟩ rfl rfl hl.1 rfl (lv_room (Nat.le_of_ble_eq_true rfl)) d_ZoneNodes_serial_2 ⟨(Nat.le_of_ble_eq_true rfl), (Nat.le_of_ble_eq_true rfl)⟩) hS (fun H locs hX hS => ?_)
  cases q3 with
  | none =>
    replace hm := zbo_n hm
    refine lv_ifnonnullN hx hb d_ZoneNodes_serial_5 ?_
    refine lv_iconst (v := 0) hx hb d_ZoneNodes_serial_8 (by decide) ?_
    cases hm
    exact W.iret hx hb hr (fun t ht hW => zh_end hk hX hS ht hW) hS.2.2 d_ZoneNodes_serial_9
  | some a4 =>
    replace hm := zbo_s hm
    refine lv_ifnonnull (tgt := 10) hx hb d_ZoneNodes_serial_5 rfl ?_
    refine lv_iload_n hx hb d_ZoneNodes_serial_10 rfl (lv_at hl 1 rfl) ?_
    refine lv_if_ne (tgt := 24) hx hb d_ZoneNodes_serial_11 rfl (fun h5 => ?_) (fun h5 => ?_)
    · replace hm := zi_f h5 hm
      refine lv_aload_n hx hb d_ZoneNodes_serial_24 rfl (lv_at hl 0 rfl) ?_
      replace hm := zb1_s hm
      obtain ⟨a7, h6, hm⟩ := hm
      refine zr_get (ci := 8) (C := R_ZoneNodes) (T := F_ZoneNodes) (N := 7) hx hb hts in_ZoneNodes hown hk hX rfl 5 (by decide) (hts _ tW97) rfl (zgr_v h6) d_ZoneNodes_serial_25 ?_
      refine lv_iload_n hx hb d_ZoneNodes_serial_28 rfl (lv_at hl 1 rfl) ?_
      refine lv_iconst (v := 1) hx hb d_ZoneNodes_serial_29 (by decide) ?_
      refine lv_isub hx hb d_ZoneNodes_serial_30 ?_
      replace hm := zb1_s hm
      obtain ⟨a9, h8, hm⟩ := hm
      refine zr_aaload (t := 4) (q := some a9) hx hb hk hX rfl (zar_v h8) d_ZoneNodes_serial_31 ?_
      replace hm := zb1_s hm
      obtain ⟨v11, h10, hm⟩ := hm
      refine zr_getN (ci := 6) (C := R_Secondary) (T := F_Secondary) (N := 13) hx hb hts in_Secondary hown hk hX rfl 8 (by decide) rfl rfl (nF49 hk) rfl (zgi_v h10) d_ZoneNodes_serial_32 ?_
      cases hm
      exact W.iret hx hb hr (fun t ht hW => zh_end hk hX hS ht hW) hS.2.2 d_ZoneNodes_serial_35
    · replace hm := zi_t h5 hm
      refine lv_aload_n hx hb d_ZoneNodes_serial_14 rfl (lv_at hl 0 rfl) ?_
      replace hm := zb1_s hm
      obtain ⟨a13, h12, hm⟩ := hm
      refine zr_get (ci := 8) (C := R_ZoneNodes) (T := F_ZoneNodes) (N := 7) hx hb hts in_ZoneNodes hown hk hX rfl 4 (by decide) (hts _ tW108) rfl (zgr_v h12) d_ZoneNodes_serial_15 ?_
      replace hm := zb1_s hm
      obtain ⟨v15, h14, hm⟩ := hm
      refine zr_getN (ci := 4) (C := R_Primary) (T := F_Primary) (N := 9) hx hb hts in_Primary hown hk hX rfl 6 (by decide) rfl rfl (nF25 hk) rfl (zgi_v h14) d_ZoneNodes_serial_18 ?_
      refine lv_goto (tgt := 35) hx hb d_ZoneNodes_serial_21 rfl ?_
      cases hm
      exact W.iret hx hb hr (fun t ht hW => zh_end hk hX hS ht hW) hS.2.2 d_ZoneNodes_serial_35
set_option maxHeartbeats 4000000 in
set_option maxRecDepth 100000 in
theorem c_ZoneNodes_size (l : Launch) (G : zh_G) (N : Nat) (X : zh_T) (x0 : Nat) (x1 : Int32) (r : Int32) (hm : f_ZoneNodes_size N X x0 x1 = some r) : zM l G y_ZoneNodes_size w_ZoneNodes_size 3 63 X [.ref x0, .int x1] (some (.int r)) X 0 0 := by
  refine zr_ofW (by decide) (by exact Nat.le_of_ble_eq_true rfl) ?_
  intro p e s m args below meth c ls hx hb hml hr hts hown hin hlocks hk hX hl
  have hS : va_S (zh_A G) s.heap s.heap [] := va_S.rf
  have hl : lv_has ls 3 [(0, .ref x0), (1, .int x1)] := hl
  have hown : s.vm.findClass R_ZoneNodes = some m.cls := hown
  unfold f_ZoneNodes_size at hm
  refine lv_aload_n hx hb d_ZoneNodes_size_0 rfl (lv_at hl 0 rfl) ?_
  refine lv_iload_n hx hb d_ZoneNodes_size_1 rfl (lv_at hl 1 rfl) ?_
  replace hm := zb1_s hm
  obtain ⟨_, h2, hm⟩ := hm
  replace hm := zb1_s hm
  obtain ⟨q3, h1, hm⟩ := hm
  refine zr_callq (zr_runV (As := [.int x1]) (rest := []) (n := 1) hx hb hml hown hts hk hX (c_ZoneNodes_recordsOf l G N X x0 x1 q3 h1) (hts _ tW274) tW275 (hts _ tW100) (hts _ tW276) (hts _ tW277) rfl h2 (by decide +kernel) ⟨Nat.le_of_ble_eq_true rfl, Nat.le_of_ble_eq_true rfl⟩ rfl rfl hl.1 rfl (lv_room (Nat.le_of_ble_eq_true rfl)) d_ZoneNodes_size_2 ⟨(Nat.le_of_ble_eq_true rfl), (Nat.le_of_ble_eq_true rfl)⟩) hS (fun H locs hX hS => ?_)
  refine zr_astore_nq (lv' := [(2, va_rf q3), (0, .ref x0), (1, .int x1)]) hx hb d_ZoneNodes_size_5 rfl hl (by decide) rfl (fun ls hl => ?_)
  cases q3 with
  | none =>
    replace hm := zbo_n hm
    refine lv_aload_nN hx hb d_ZoneNodes_size_6 rfl (lv_at hl 0 rfl) ?_
    refine lv_ifnonnullN hx hb d_ZoneNodes_size_7 ?_
    refine lv_iconst (v := (-1)) hx hb d_ZoneNodes_size_10 (by decide) ?_
    refine lv_goto (tgt := 18) hx hb d_ZoneNodes_size_11 rfl ?_
    cases hm
    exact W.iret hx hb hr (fun t ht hW => zh_end hk hX hS ht hW) hS.2.2 d_ZoneNodes_size_18
  | some a4 =>
    replace hm := zbo_s hm
    refine lv_aload_n hx hb d_ZoneNodes_size_6 rfl (lv_at hl 0 rfl) ?_
    refine lv_ifnonnull (tgt := 14) hx hb d_ZoneNodes_size_7 rfl ?_
    refine lv_aload_n hx hb d_ZoneNodes_size_14 rfl (lv_at hl 0 rfl) ?_
    replace hm := zb1_s hm
    obtain ⟨_, h6, hm⟩ := hm
    replace hm := zb1_s hm
    obtain ⟨v7, h5, hm⟩ := hm
    refine zr_calli (zr_runV (As := []) (rest := []) (n := 0) hx hb hml hown hts hk hX (c_Records_total l G N X a4 v7 h5) (hts _ tW358) tW359 (hts _ tW11) (hts _ tW360) (hts _ tW361) rfl h6 (by decide +kernel) ⟨Nat.le_of_ble_eq_true rfl, Nat.le_of_ble_eq_true rfl⟩ rfl rfl hl.1 rfl (lv_room (Nat.le_of_ble_eq_true rfl)) d_ZoneNodes_size_15 ⟨(Nat.le_of_ble_eq_true rfl), (Nat.le_of_ble_eq_true rfl)⟩) hS (fun H locs hX hS => ?_)
    cases hm
    exact W.iret hx hb hr (fun t ht hW => zh_end hk hX hS ht hW) hS.2.2 d_ZoneNodes_size_18
set_option maxHeartbeats 4000000 in
set_option maxRecDepth 100000 in
theorem c_ZoneNodes_state (l : Launch) (G : zh_G) (N : Nat) (X : zh_T) (x0 : Nat) (x1 : Int32) (r : Int32) (hm : f_ZoneNodes_state N X x0 x1 = some r) : zM l G y_ZoneNodes_state w_ZoneNodes_state 2 42 X [.ref x0, .int x1] (some (.int r)) X 0 0 := by
  refine zr_ofW (by decide) (by exact Nat.le_of_ble_eq_true rfl) ?_
  intro p e s m args below meth c ls hx hb hml hr hts hown hin hlocks hk hX hl
  have hS : va_S (zh_A G) s.heap s.heap [] := va_S.rf
  have hl : lv_has ls 2 [(0, .ref x0), (1, .int x1)] := hl
  have hown : s.vm.findClass R_ZoneNodes = some m.cls := hown
  unfold f_ZoneNodes_state at hm
  refine lv_iload_n hx hb d_ZoneNodes_state_0 rfl (lv_at hl 1 rfl) ?_
  replace hm := zb1_s hm
  obtain ⟨v2, h1, hm⟩ := hm
  refine zr_calli (zr_runS (As := [.int x1]) (rest := []) (n := 1) hx hb hml hown hts hk hX (c_ZoneNodes_isNode l G N X x1 v2 h1) (hts _ tW249) tW250 (hts _ tW100) (hts _ tW251) (by decide +kernel) ⟨Nat.le_of_ble_eq_true rfl, Nat.le_of_ble_eq_true rfl⟩ rfl rfl hl.1 rfl (lv_room (Nat.le_of_ble_eq_true rfl)) d_ZoneNodes_state_1 ⟨(Nat.le_of_ble_eq_true rfl), (Nat.le_of_ble_eq_true rfl)⟩) hS (fun H locs hX hS => ?_)
  refine lv_if_ne (tgt := 9) hx hb d_ZoneNodes_state_4 rfl (fun h3 => ?_) (fun h3 => ?_)
  · replace hm := zi_f h3 hm
    refine lv_aload_n hx hb d_ZoneNodes_state_9 rfl (lv_at hl 0 rfl) ?_
    refine lv_iload_n hx hb d_ZoneNodes_state_10 rfl (lv_at hl 1 rfl) ?_
    replace hm := zb1_s hm
    obtain ⟨_, h5, hm⟩ := hm
    replace hm := zb1_s hm
    obtain ⟨v6, h4, hm⟩ := hm
    refine zr_calli (zr_runV (As := [.int x1]) (rest := []) (n := 1) hx hb hml hown hts hk hX (c_ZoneNodes_isUp l G N X x0 x1 v6 h4) (hts _ tW252) tW253 (hts _ tW100) (hts _ tW254) (hts _ tW255) rfl h5 (by decide +kernel) ⟨Nat.le_of_ble_eq_true rfl, Nat.le_of_ble_eq_true rfl⟩ rfl rfl hl.1 rfl (lv_room (Nat.le_of_ble_eq_true rfl)) d_ZoneNodes_state_11 ⟨(Nat.le_of_ble_eq_true rfl), (Nat.le_of_ble_eq_true rfl)⟩) hS (fun H locs hX hS => ?_)
    refine lv_if_ne (tgt := 19) hx hb d_ZoneNodes_state_14 rfl (fun h7 => ?_) (fun h7 => ?_)
    · replace hm := zi_f h7 hm
      refine lv_iload_n hx hb d_ZoneNodes_state_19 rfl (lv_at hl 1 rfl) ?_
      refine lv_if_ne (tgt := 27) hx hb d_ZoneNodes_state_20 rfl (fun h8 => ?_) (fun h8 => ?_)
      · replace hm := zi_f h8 hm
        refine lv_aload_n hx hb d_ZoneNodes_state_27 rfl (lv_at hl 0 rfl) ?_
        replace hm := zb1_s hm
        obtain ⟨a10, h9, hm⟩ := hm
        refine zr_get (ci := 8) (C := R_ZoneNodes) (T := F_ZoneNodes) (N := 7) hx hb hts in_ZoneNodes hown hk hX rfl 5 (by decide) (hts _ tW97) rfl (zgr_v h9) d_ZoneNodes_state_28 ?_
        refine lv_iload_n hx hb d_ZoneNodes_state_31 rfl (lv_at hl 1 rfl) ?_
        refine lv_iconst (v := 1) hx hb d_ZoneNodes_state_32 (by decide) ?_
        refine lv_isub hx hb d_ZoneNodes_state_33 ?_
        replace hm := zb1_s hm
        obtain ⟨a12, h11, hm⟩ := hm
        refine zr_aaload (t := 4) (q := some a12) hx hb hk hX rfl (zar_v h11) d_ZoneNodes_state_34 ?_
        replace hm := zb1_s hm
        obtain ⟨v14, h13, hm⟩ := hm
        refine zr_getN (ci := 6) (C := R_Secondary) (T := F_Secondary) (N := 13) hx hb hts in_Secondary hown hk hX rfl 9 (by decide) rfl rfl (nF50 hk) rfl (zgi_v h13) d_ZoneNodes_state_35 ?_
        cases hm
        exact W.iret hx hb hr (fun t ht hW => zh_end hk hX hS ht hW) hS.2.2 d_ZoneNodes_state_38
      · replace hm := zi_t h8 hm
        refine lv_iconst (v := 0) hx hb d_ZoneNodes_state_23 (by decide) ?_
        refine lv_goto (tgt := 38) hx hb d_ZoneNodes_state_24 rfl ?_
        cases hm
        exact W.iret hx hb hr (fun t ht hW => zh_end hk hX hS ht hW) hS.2.2 d_ZoneNodes_state_38
    · replace hm := zi_t h7 hm
      refine lv_iconst (v := 3) hx hb d_ZoneNodes_state_17 (by decide) ?_
      cases hm
      exact W.iret hx hb hr (fun t ht hW => zh_end hk hX hS ht hW) hS.2.2 d_ZoneNodes_state_18
  · replace hm := zi_t h3 hm
    refine lv_iconst (v := (-1)) hx hb d_ZoneNodes_state_7 (by decide) ?_
    cases hm
    exact W.iret hx hb hr (fun t ht hW => zh_end hk hX hS ht hW) hS.2.2 d_ZoneNodes_state_8
set_option maxHeartbeats 4000000 in
set_option maxRecDepth 100000 in
theorem c_Secondary_askIfTimeHasCome (l : Launch) (G : zh_G) (N : Nat) (X : zh_T) (x0 : Nat) (x1 : Int32) (x2 : Nat) (r : Unit) (X' : zh_T) (hm : f_Secondary_askIfTimeHasCome N X x0 x1 x2 = some (r, X')) : zM l G y_Secondary_askIfTimeHasCome w_Secondary_askIfTimeHasCome 4 87 X [.ref x0, .int x1, .ref x2] none X' 0 0 := by
  refine zr_ofW (by decide) (by exact Nat.le_of_ble_eq_true rfl) ?_
  intro p e s m args below meth c ls hx hb hml hr hts hown hin hlocks hk hX hl
  have hS : va_S (zh_A G) s.heap s.heap [] := va_S.rf
  have hl : lv_has ls 5 [(0, .ref x0), (1, .int x1), (2, .ref x2)] := hl
  have hown : s.vm.findClass R_Secondary = some m.cls := hown
  unfold f_Secondary_askIfTimeHasCome at hm
  have hJ47 : ∀ (X : zh_T) (w0 : Nat) (w1 : Int32) (w2 : Nat) (w3 : Int32) (u0 : Int32) (H : Heap) (locs : List Loc) (ls : Array Slot), J_Secondary_askIfTimeHasCome_47 N X w0 w1 w2 w3 u0 = some (r, X') → zh_w G X H → va_S (zh_A G) s.heap H locs → lv_has ls 5 [(0, .ref w0), (1, .int w1), (2, .ref w2), (3, .int w3)] → W p l e { frames := 4, cells := 0, slots := 0, locals := 87 } s m args below meth c H locs 0 0 (MQ below (zh_Q G none X') args s 0 0 (zh_A G)) (F0 m 47 ls [.int u0]) := by
    intro X w0 w1 w2 w3 u0 H locs ls hm hX hS hl
    unfold J_Secondary_askIfTimeHasCome_47 at hm
    refine lv_istore (lv' := [(4, .int u0), (0, .ref w0), (1, .int w1), (2, .ref w2), (3, .int w3)]) hx hb d_Secondary_askIfTimeHasCome_47 hl (by decide) rfl (fun ls hl => ?_)
    refine lv_aload_n hx hb d_Secondary_askIfTimeHasCome_49 rfl (lv_at hl 1 rfl) ?_
    replace hm := zb1_s hm
    obtain ⟨v8, h7, hm⟩ := hm
    refine zr_get (ci := 6) (C := R_Secondary) (T := F_Secondary) (N := 13) hx hb hts in_Secondary hown hk hX rfl 6 (by decide) (hts _ tW51) rfl (zgi_v h7) d_Secondary_askIfTimeHasCome_50 ?_
    refine lv_if_eq (tgt := 71) hx hb d_Secondary_askIfTimeHasCome_53 rfl (fun h9 => ?_) (fun h9 => ?_)
    · replace hm := zi_t h9 hm
      cases hm
      exact W.vret hx hb hr (fun t ht hW => zh_end hk hX hS ht hW) hS.2.2 d_Secondary_askIfTimeHasCome_71
    · replace hm := zi_f h9 hm
      refine lv_iload_n hx hb d_Secondary_askIfTimeHasCome_56 rfl (lv_at hl 4 rfl) ?_
      refine lv_if_ne (tgt := 65) hx hb d_Secondary_askIfTimeHasCome_57 rfl (fun h10 => ?_) (fun h10 => ?_)
      · replace hm := zi_f h10 hm
        refine lv_aload_n hx hb d_Secondary_askIfTimeHasCome_65 rfl (lv_at hl 1 rfl) ?_
        refine lv_iload_n hx hb d_Secondary_askIfTimeHasCome_66 rfl (lv_at hl 2 rfl) ?_
        refine lv_aload_n hx hb d_Secondary_askIfTimeHasCome_67 rfl (lv_at hl 3 rfl) ?_
        replace hm := zb1_s hm
        obtain ⟨_, h12, hm⟩ := hm
        replace hm := zb2_s hm
        obtain ⟨v13, X14, h11, hm⟩ := hm
        refine zr_callv (zr_runV (As := [.int w1, .ref w2]) (rest := []) (n := 2) hx hb hml hown hts hk hX (c_Secondary_ask l G N X w0 w1 w2 v13 X14 h11) (hts _ tW174) tW175 (hts _ tW54) (hts _ tW176) (hts _ tW177) rfl h12 (by decide +kernel) ⟨Nat.le_of_ble_eq_true rfl, Nat.le_of_ble_eq_true rfl⟩ rfl rfl hl.1 rfl (lv_room (Nat.le_of_ble_eq_true rfl)) d_Secondary_askIfTimeHasCome_68 ⟨(Nat.le_of_ble_eq_true rfl), (Nat.le_of_ble_eq_true rfl)⟩) hS (fun H locs hX hS => ?_)
        cases hm
        exact W.vret hx hb hr (fun t ht hW => zh_end hk hX hS ht hW) hS.2.2 d_Secondary_askIfTimeHasCome_71
      · replace hm := zi_t h10 hm
        refine lv_iload hx hb d_Secondary_askIfTimeHasCome_60 (lv_at hl 0 rfl) ?_
        refine lv_if_eq (tgt := 71) hx hb d_Secondary_askIfTimeHasCome_62 rfl (fun h15 => ?_) (fun h15 => ?_)
        · replace hm := zi_t h15 hm
          cases hm
          exact W.vret hx hb hr (fun t ht hW => zh_end hk hX hS ht hW) hS.2.2 d_Secondary_askIfTimeHasCome_71
        · replace hm := zi_f h15 hm
          refine lv_aload_n hx hb d_Secondary_askIfTimeHasCome_65 rfl (lv_at hl 1 rfl) ?_
          refine lv_iload_n hx hb d_Secondary_askIfTimeHasCome_66 rfl (lv_at hl 2 rfl) ?_
          refine lv_aload_n hx hb d_Secondary_askIfTimeHasCome_67 rfl (lv_at hl 3 rfl) ?_
          replace hm := zb1_s hm
          obtain ⟨_, h17, hm⟩ := hm
          replace hm := zb2_s hm
          obtain ⟨v18, X19, h16, hm⟩ := hm
          refine zr_callv (zr_runV (As := [.int w1, .ref w2]) (rest := []) (n := 2) hx hb hml hown hts hk hX (c_Secondary_ask l G N X w0 w1 w2 v18 X19 h16) (hts _ tW174) tW175 (hts _ tW54) (hts _ tW176) (hts _ tW177) rfl h17 (by decide +kernel) ⟨Nat.le_of_ble_eq_true rfl, Nat.le_of_ble_eq_true rfl⟩ rfl rfl hl.1 rfl (lv_room (Nat.le_of_ble_eq_true rfl)) d_Secondary_askIfTimeHasCome_68 ⟨(Nat.le_of_ble_eq_true rfl), (Nat.le_of_ble_eq_true rfl)⟩) hS (fun H locs hX hS => ?_)
          cases hm
          exact W.vret hx hb hr (fun t ht hW => zh_end hk hX hS ht hW) hS.2.2 d_Secondary_askIfTimeHasCome_71
  refine lv_aload_n hx hb d_Secondary_askIfTimeHasCome_0 rfl (lv_at hl 0 rfl) ?_
  replace hm := zb1_s hm
  obtain ⟨v2, h1, hm⟩ := hm
  refine zr_get (ci := 6) (C := R_Secondary) (T := F_Secondary) (N := 13) hx hb hts in_Secondary hown hk hX rfl 9 (by decide) (hts _ tW49) rfl (zgi_v h1) d_Secondary_askIfTimeHasCome_1 ?_
  refine lv_iconst (v := 1) hx hb d_Secondary_askIfTimeHasCome_4 (by decide) ?_
  refine lv_icmp_ne (tgt := 25) hx hb d_Secondary_askIfTimeHasCome_5 rfl (fun h3 => ?_) (fun h3 => ?_)
  · replace hm := zi_f h3 hm
    refine lv_iconst (v := 0) hx hb d_Secondary_askIfTimeHasCome_25 (by decide) ?_
    refine lv_istore_n (lv' := [(3, .int 0), (0, .ref x0), (1, .int x1), (2, .ref x2)]) hx hb d_Secondary_askIfTimeHasCome_26 rfl hl (by decide) rfl (fun ls hl => ?_)
    refine lv_aload_n hx hb d_Secondary_askIfTimeHasCome_27 rfl (lv_at hl 1 rfl) ?_
    replace hm := zb1_s hm
    obtain ⟨v5, h4, hm⟩ := hm
    refine zr_get (ci := 6) (C := R_Secondary) (T := F_Secondary) (N := 13) hx hb hts in_Secondary hown hk hX rfl 9 (by decide) (hts _ tW49) rfl (zgi_v h4) d_Secondary_askIfTimeHasCome_28 ?_
    refine lv_if_ne (tgt := 46) hx hb d_Secondary_askIfTimeHasCome_31 rfl (fun h6 => ?_) (fun h6 => ?_)
    · replace hm := zi_f h6 hm
      refine lv_iconst (v := 0) hx hb d_Secondary_askIfTimeHasCome_46 (by decide) ?_
      exact hJ47 X x0 x1 x2 0 0 _ _ _ hm hX hS (lv_sub hl [1, 2, 3, 0] rfl)
    · replace hm := zi_t h6 hm
      refine lv_aload_n hx hb d_Secondary_askIfTimeHasCome_34 rfl (lv_at hl 1 rfl) ?_
      replace hm := zb1_s hm
      obtain ⟨v21, h20, hm⟩ := hm
      refine zr_get (ci := 6) (C := R_Secondary) (T := F_Secondary) (N := 13) hx hb hts in_Secondary hown hk hX rfl 10 (by decide) (hts _ tW50) rfl (zgi_v h20) d_Secondary_askIfTimeHasCome_35 ?_
      refine lv_iload_n hx hb d_Secondary_askIfTimeHasCome_38 rfl (lv_at hl 2 rfl) ?_
      refine lv_icmp_gt (tgt := 46) hx hb d_Secondary_askIfTimeHasCome_39 rfl (fun h22 => ?_) (fun h22 => ?_)
      · replace hm := zi_t h22 hm
        refine lv_iconst (v := 0) hx hb d_Secondary_askIfTimeHasCome_46 (by decide) ?_
        exact hJ47 X x0 x1 x2 0 0 _ _ _ hm hX hS (lv_sub hl [1, 2, 3, 0] rfl)
      · replace hm := zi_f h22 hm
        refine lv_iconst (v := 1) hx hb d_Secondary_askIfTimeHasCome_42 (by decide) ?_
        refine lv_goto (tgt := 47) hx hb d_Secondary_askIfTimeHasCome_43 rfl ?_
        exact hJ47 X x0 x1 x2 0 1 _ _ _ hm hX hS (lv_sub hl [1, 2, 3, 0] rfl)
  · replace hm := zi_t h3 hm
    refine lv_aload_n hx hb d_Secondary_askIfTimeHasCome_8 rfl (lv_at hl 0 rfl) ?_
    replace hm := zb1_s hm
    obtain ⟨v24, h23, hm⟩ := hm
    refine zr_get (ci := 6) (C := R_Secondary) (T := F_Secondary) (N := 13) hx hb hts in_Secondary hown hk hX rfl 11 (by decide) (hts _ tW165) rfl (zgi_v h23) d_Secondary_askIfTimeHasCome_9 ?_
    refine lv_iload_n hx hb d_Secondary_askIfTimeHasCome_12 rfl (lv_at hl 1 rfl) ?_
    refine lv_aload_n hx hb d_Secondary_askIfTimeHasCome_13 rfl (lv_at hl 0 rfl) ?_
    replace hm := zb1_s hm
    obtain ⟨v26, h25, hm⟩ := hm
    refine zr_get (ci := 6) (C := R_Secondary) (T := F_Secondary) (N := 13) hx hb hts in_Secondary hown hk hX rfl 2 (by decide) (hts _ tW65) rfl (zgi_v h25) d_Secondary_askIfTimeHasCome_14 ?_
    refine lv_isub hx hb d_Secondary_askIfTimeHasCome_17 ?_
    refine lv_icmp_gt (tgt := 25) hx hb d_Secondary_askIfTimeHasCome_18 rfl (fun h27 => ?_) (fun h27 => ?_)
    · replace hm := zi_t h27 hm
      refine lv_iconst (v := 0) hx hb d_Secondary_askIfTimeHasCome_25 (by decide) ?_
      refine lv_istore_n (lv' := [(3, .int 0), (0, .ref x0), (1, .int x1), (2, .ref x2)]) hx hb d_Secondary_askIfTimeHasCome_26 rfl hl (by decide) rfl (fun ls hl => ?_)
      refine lv_aload_n hx hb d_Secondary_askIfTimeHasCome_27 rfl (lv_at hl 1 rfl) ?_
      replace hm := zb1_s hm
      obtain ⟨v29, h28, hm⟩ := hm
      refine zr_get (ci := 6) (C := R_Secondary) (T := F_Secondary) (N := 13) hx hb hts in_Secondary hown hk hX rfl 9 (by decide) (hts _ tW49) rfl (zgi_v h28) d_Secondary_askIfTimeHasCome_28 ?_
      refine lv_if_ne (tgt := 46) hx hb d_Secondary_askIfTimeHasCome_31 rfl (fun h30 => ?_) (fun h30 => ?_)
      · replace hm := zi_f h30 hm
        refine lv_iconst (v := 0) hx hb d_Secondary_askIfTimeHasCome_46 (by decide) ?_
        exact hJ47 X x0 x1 x2 0 0 _ _ _ hm hX hS (lv_sub hl [1, 2, 3, 0] rfl)
      · replace hm := zi_t h30 hm
        refine lv_aload_n hx hb d_Secondary_askIfTimeHasCome_34 rfl (lv_at hl 1 rfl) ?_
        replace hm := zb1_s hm
        obtain ⟨v32, h31, hm⟩ := hm
        refine zr_get (ci := 6) (C := R_Secondary) (T := F_Secondary) (N := 13) hx hb hts in_Secondary hown hk hX rfl 10 (by decide) (hts _ tW50) rfl (zgi_v h31) d_Secondary_askIfTimeHasCome_35 ?_
        refine lv_iload_n hx hb d_Secondary_askIfTimeHasCome_38 rfl (lv_at hl 2 rfl) ?_
        refine lv_icmp_gt (tgt := 46) hx hb d_Secondary_askIfTimeHasCome_39 rfl (fun h33 => ?_) (fun h33 => ?_)
        · replace hm := zi_t h33 hm
          refine lv_iconst (v := 0) hx hb d_Secondary_askIfTimeHasCome_46 (by decide) ?_
          exact hJ47 X x0 x1 x2 0 0 _ _ _ hm hX hS (lv_sub hl [1, 2, 3, 0] rfl)
        · replace hm := zi_f h33 hm
          refine lv_iconst (v := 1) hx hb d_Secondary_askIfTimeHasCome_42 (by decide) ?_
          refine lv_goto (tgt := 47) hx hb d_Secondary_askIfTimeHasCome_43 rfl ?_
          exact hJ47 X x0 x1 x2 0 1 _ _ _ hm hX hS (lv_sub hl [1, 2, 3, 0] rfl)
    · replace hm := zi_f h27 hm
      refine lv_iconst (v := 1) hx hb d_Secondary_askIfTimeHasCome_21 (by decide) ?_
      refine lv_goto (tgt := 26) hx hb d_Secondary_askIfTimeHasCome_22 rfl ?_
      refine lv_istore_n (lv' := [(3, .int 1), (0, .ref x0), (1, .int x1), (2, .ref x2)]) hx hb d_Secondary_askIfTimeHasCome_26 rfl hl (by decide) rfl (fun ls hl => ?_)
      refine lv_aload_n hx hb d_Secondary_askIfTimeHasCome_27 rfl (lv_at hl 1 rfl) ?_
      replace hm := zb1_s hm
      obtain ⟨v35, h34, hm⟩ := hm
      refine zr_get (ci := 6) (C := R_Secondary) (T := F_Secondary) (N := 13) hx hb hts in_Secondary hown hk hX rfl 9 (by decide) (hts _ tW49) rfl (zgi_v h34) d_Secondary_askIfTimeHasCome_28 ?_
      refine lv_if_ne (tgt := 46) hx hb d_Secondary_askIfTimeHasCome_31 rfl (fun h36 => ?_) (fun h36 => ?_)
      · replace hm := zi_f h36 hm
        refine lv_iconst (v := 0) hx hb d_Secondary_askIfTimeHasCome_46 (by decide) ?_
        exact hJ47 X x0 x1 x2 1 0 _ _ _ hm hX hS (lv_sub hl [1, 2, 3, 0] rfl)
      · replace hm := zi_t h36 hm
        refine lv_aload_n hx hb d_Secondary_askIfTimeHasCome_34 rfl (lv_at hl 1 rfl) ?_
        replace hm := zb1_s hm
        obtain ⟨v38, h37, hm⟩ := hm
        refine zr_get (ci := 6) (C := R_Secondary) (T := F_Secondary) (N := 13) hx hb hts in_Secondary hown hk hX rfl 10 (by decide) (hts _ tW50) rfl (zgi_v h37) d_Secondary_askIfTimeHasCome_35 ?_
        refine lv_iload_n hx hb d_Secondary_askIfTimeHasCome_38 rfl (lv_at hl 2 rfl) ?_
        refine lv_icmp_gt (tgt := 46) hx hb d_Secondary_askIfTimeHasCome_39 rfl (fun h39 => ?_) (fun h39 => ?_)
        · replace hm := zi_t h39 hm
          refine lv_iconst (v := 0) hx hb d_Secondary_askIfTimeHasCome_46 (by decide) ?_
          exact hJ47 X x0 x1 x2 1 0 _ _ _ hm hX hS (lv_sub hl [1, 2, 3, 0] rfl)
        · replace hm := zi_f h39 hm
          refine lv_iconst (v := 1) hx hb d_Secondary_askIfTimeHasCome_42 (by decide) ?_
          refine lv_goto (tgt := 47) hx hb d_Secondary_askIfTimeHasCome_43 rfl ?_
          exact hJ47 X x0 x1 x2 1 1 _ _ _ hm hX hS (lv_sub hl [1, 2, 3, 0] rfl)
set_option maxHeartbeats 4000000 in
set_option maxRecDepth 100000 in
theorem c_ZoneNodes_tick (l : Launch) (G : zh_G) (N : Nat) (X : zh_T) (x0 : Nat) (x1 : Int32) (r : Int32) (X' : zh_T) (hm : f_ZoneNodes_tick N X x0 x1 = some (r, X')) : zM l G y_ZoneNodes_tick w_ZoneNodes_tick 5 111 X [.ref x0, .int x1] (some (.int r)) X' 0 0 := by
  refine zr_ofW (by decide) (by exact Nat.le_of_ble_eq_true rfl) ?_
  intro p e s m args below meth c ls hx hb hml hr hts hown hin hlocks hk hX hl
  have hS : va_S (zh_A G) s.heap s.heap [] := va_S.rf
  have hl : lv_has ls 4 [(0, .ref x0), (1, .int x1)] := hl
  have hown : s.vm.findClass R_ZoneNodes = some m.cls := hown
  unfold f_ZoneNodes_tick at hm
  have hL31 : ∀ (n : Nat) (X : zh_T) (w0 : Nat) (w1 : Int32) (w2 : Int32) (w3 : Int32) (v : Unit) (X1 : zh_T) (H : Heap) (locs : List Loc) (ls : Array Slot), L_ZoneNodes_tick_31 N w0 w1 w2 n X w3 = some (v, X1) → zh_w G X H → va_S (zh_A G) s.heap H locs → lv_has ls 4 [(0, .ref w0), (1, .int w1), (2, .int w2), (3, .int w3)] → (∀ (H : Heap) (locs : List Loc) (ls : Array Slot), zh_w G X1 H → va_S (zh_A G) s.heap H locs → lv_has ls 4 [(0, .ref w0), (1, .int w1), (2, .int w2)] → W p l e { frames := 5, cells := 0, slots := 0, locals := 111 } s m args below meth c H locs 0 0 (MQ below (zh_Q G (some (.int r)) X') args s 0 0 (zh_A G)) (F0 m 59 ls [])) → W p l e { frames := 5, cells := 0, slots := 0, locals := 111 } s m args below meth c H locs 0 0 (MQ below (zh_Q G (some (.int r)) X') args s 0 0 (zh_A G)) (F0 m 31 ls []) := by
    intro n
    induction n with
    | zero =>
      intro X w0 w1 w2 w3 v X1 H locs ls hm hX hS hl hexit
      rw [L_ZoneNodes_tick_31] at hm
      cases hm
    | succ n ih =>
      intro X w0 w1 w2 w3 v X1 H locs ls hm hX hS hl hexit
      rw [L_ZoneNodes_tick_31] at hm
      refine lv_iload_n hx hb d_ZoneNodes_tick_31 rfl (lv_at hl 3 rfl) ?_
      refine lv_iconst (v := 2) hx hb d_ZoneNodes_tick_32 (by decide) ?_
      refine lv_icmp_ge (tgt := 59) hx hb d_ZoneNodes_tick_33 rfl (fun h9 => ?_) (fun h9 => ?_)
      · replace hm := zi_t h9 hm
        cases hm
        exact hexit _ _ _ hX hS (lv_sub hl [0, 1, 2] rfl)
      · replace hm := zi_f h9 hm
        refine lv_aload_n hx hb d_ZoneNodes_tick_36 rfl (lv_at hl 0 rfl) ?_
        replace hm := zb1_s hm
        obtain ⟨a11, h10, hm⟩ := hm
        refine zr_get (ci := 8) (C := R_ZoneNodes) (T := F_ZoneNodes) (N := 7) hx hb hts in_ZoneNodes hown hk hX rfl 5 (by decide) (hts _ tW97) rfl (zgr_v h10) d_ZoneNodes_tick_37 ?_
        refine lv_iload_n hx hb d_ZoneNodes_tick_40 rfl (lv_at hl 3 rfl) ?_
        replace hm := zb1_s hm
        obtain ⟨a13, h12, hm⟩ := hm
        refine zr_aaload (t := 4) (q := some a13) hx hb hk hX rfl (zar_v h12) d_ZoneNodes_tick_41 ?_
        refine lv_aload_n hx hb d_ZoneNodes_tick_42 rfl (lv_at hl 0 rfl) ?_
        replace hm := zb1_s hm
        obtain ⟨v15, h14, hm⟩ := hm
        refine zr_get (ci := 8) (C := R_ZoneNodes) (T := F_ZoneNodes) (N := 7) hx hb hts in_ZoneNodes hown hk hX rfl 6 (by decide) (hts _ tW219) rfl (zgi_v h14) d_ZoneNodes_tick_43 ?_
        refine lv_aload_n hx hb d_ZoneNodes_tick_46 rfl (lv_at hl 0 rfl) ?_
        replace hm := zb1_s hm
        obtain ⟨a17, h16, hm⟩ := hm
        refine zr_get (ci := 8) (C := R_ZoneNodes) (T := F_ZoneNodes) (N := 7) hx hb hts in_ZoneNodes hown hk hX rfl 3 (by decide) (hts _ tW95) rfl (zgr_v h16) d_ZoneNodes_tick_47 ?_
        replace hm := zb1_s hm
        obtain ⟨_, h19, hm⟩ := hm
        replace hm := zb2_s hm
        obtain ⟨v20, X21, h18, hm⟩ := hm
        refine zr_callv (zr_runV (As := [.int v15, .ref a17]) (rest := []) (n := 2) hx hb hml hown hts hk hX (c_Secondary_askIfTimeHasCome l G N X a13 v15 a17 v20 X21 h18) (hts _ tW423) tW424 (hts _ tW54) (hts _ tW425) (hts _ tW426) rfl h19 (by decide +kernel) ⟨Nat.le_of_ble_eq_true rfl, Nat.le_of_ble_eq_true rfl⟩ rfl rfl hl.1 rfl (lv_room (Nat.le_of_ble_eq_true rfl)) d_ZoneNodes_tick_50 ⟨(Nat.le_of_ble_eq_true rfl), (Nat.le_of_ble_eq_true rfl)⟩) hS (fun H locs hX hS => ?_)
        refine lv_iinc (v := w3 + 1) (lv' := [(3, .int (w3 + 1)), (0, .ref w0), (1, .int w1), (2, .int w2)]) hx hb d_ZoneNodes_tick_53 hl (k := 3) rfl (by rw [show Int32.ofInt 1 = 1 by decide]) (by decide) rfl (fun ls hl => ?_)
        refine lv_goto (tgt := 31) hx hb d_ZoneNodes_tick_56 rfl ?_
        exact ih X21 w0 w1 w2 (w3 + 1) v X1 _ _ _ hm hX hS (lv_sub hl [1, 2, 3, 0] rfl) hexit
  have hL14 : ∀ (n : Nat) (X : zh_T) (w0 : Nat) (w1 : Int32) (w2 : Int32) (v : Unit) (X1 : zh_T) (H : Heap) (locs : List Loc) (ls : Array Slot), L_ZoneNodes_tick_14 N w0 w1 n X w2 = some (v, X1) → zh_w G X H → va_S (zh_A G) s.heap H locs → lv_has ls 4 [(0, .ref w0), (1, .int w1), (2, .int w2)] → (∀ (H : Heap) (locs : List Loc) (ls : Array Slot), zh_w G X1 H → va_S (zh_A G) s.heap H locs → lv_has ls 4 [] → W p l e { frames := 5, cells := 0, slots := 0, locals := 111 } s m args below meth c H locs 0 0 (MQ below (zh_Q G (some (.int r)) X') args s 0 0 (zh_A G)) (F0 m 65 ls [])) → W p l e { frames := 5, cells := 0, slots := 0, locals := 111 } s m args below meth c H locs 0 0 (MQ below (zh_Q G (some (.int r)) X') args s 0 0 (zh_A G)) (F0 m 14 ls []) := by
    intro n
    induction n with
    | zero =>
      intro X w0 w1 w2 v X1 H locs ls hm hX hS hl hexit
      rw [L_ZoneNodes_tick_14] at hm
      cases hm
    | succ n ih =>
      intro X w0 w1 w2 v X1 H locs ls hm hX hS hl hexit
      rw [L_ZoneNodes_tick_14] at hm
      refine lv_iload_n hx hb d_ZoneNodes_tick_14 rfl (lv_at hl 2 rfl) ?_
      refine lv_iload_n hx hb d_ZoneNodes_tick_15 rfl (lv_at hl 1 rfl) ?_
      refine lv_icmp_ge (tgt := 65) hx hb d_ZoneNodes_tick_16 rfl (fun h4 => ?_) (fun h4 => ?_)
      · replace hm := zi_t h4 hm
        cases hm
        exact hexit _ _ _ hX hS (lv_sub hl [] rfl)
      · replace hm := zi_f h4 hm
        refine lv_aload_n hx hb d_ZoneNodes_tick_19 rfl (lv_at hl 0 rfl) ?_
        refine lv_dup hx hb d_ZoneNodes_tick_20 rfl ?_
        replace hm := zb1_s hm
        obtain ⟨v6, h5, hm⟩ := hm
        refine zr_get (ci := 8) (C := R_ZoneNodes) (T := F_ZoneNodes) (N := 7) hx hb hts in_ZoneNodes hown hk hX rfl 6 (by decide) (hts _ tW219) rfl (zgi_v h5) d_ZoneNodes_tick_21 ?_
        refine lv_iconst (v := 1) hx hb d_ZoneNodes_tick_24 (by decide) ?_
        refine lv_iadd hx hb d_ZoneNodes_tick_25 ?_
        replace hm := zb1_s hm
        obtain ⟨X7, h8, hm⟩ := hm
        refine zr_put (ci := 8) (C := R_ZoneNodes) (T := F_ZoneNodes) (N := 7) (ty := .int) (v := .int (v6 + 1)) hx hb hts in_ZoneNodes t_ZoneNodes t_ZoneNodes_ok n_ZoneNodes hown hk hX hS rfl 6 (by decide) (hts _ tW219) rfl rfl (by decide +kernel) rfl rfl h8 d_ZoneNodes_tick_26 (fun H locs hX hS => ?_)
        refine lv_iconst (v := 0) hx hb d_ZoneNodes_tick_29 (by decide) ?_
        refine lv_istore_n (lv' := [(3, .int 0), (0, .ref w0), (1, .int w1), (2, .int w2)]) hx hb d_ZoneNodes_tick_30 rfl hl (by decide) rfl (fun ls hl => ?_)
        replace hm := zb2_s hm
        obtain ⟨v22, X24, h23, hm⟩ := hm
        refine hL31 N X7 w0 w1 w2 0 v22 X24 _ _ _ h23 hX hS (lv_sub hl [1, 2, 3, 0] rfl) (fun H locs ls hX hS hl => ?_)
        refine lv_iinc (v := w2 + 1) (lv' := [(2, .int (w2 + 1)), (0, .ref w0), (1, .int w1)]) hx hb d_ZoneNodes_tick_59 hl (k := 2) rfl (by rw [show Int32.ofInt 1 = 1 by decide]) (by decide) rfl (fun ls hl => ?_)
        refine lv_goto (tgt := 14) hx hb d_ZoneNodes_tick_62 rfl ?_
        exact ih X24 w0 w1 (w2 + 1) v X1 _ _ _ hm hX hS (lv_sub hl [1, 2, 0] rfl) hexit
  refine lv_iload_n hx hb d_ZoneNodes_tick_0 rfl (lv_at hl 1 rfl) ?_
  refine lv_iconst (v := 1) hx hb d_ZoneNodes_tick_1 (by decide) ?_
  refine lv_bipush (v := 20) hx hb d_ZoneNodes_tick_2 (by decide) ?_
  replace hm := zb1_s hm
  obtain ⟨v2, h1, hm⟩ := hm
  refine zr_calli (zr_runS (As := [.int x1, .int 1, .int 20]) (rest := []) (n := 3) hx hb hml hown hts hk hX (c_ZoneNodes_within l G N X x1 1 20 v2 h1) (hts _ tW98) tW99 (hts _ tW100) (hts _ tW101) (by decide +kernel) ⟨Nat.le_of_ble_eq_true rfl, Nat.le_of_ble_eq_true rfl⟩ rfl rfl hl.1 rfl (lv_room (Nat.le_of_ble_eq_true rfl)) d_ZoneNodes_tick_4 ⟨(Nat.le_of_ble_eq_true rfl), (Nat.le_of_ble_eq_true rfl)⟩) hS (fun H locs hX hS => ?_)
  refine lv_if_ne (tgt := 12) hx hb d_ZoneNodes_tick_7 rfl (fun h3 => ?_) (fun h3 => ?_)
  · replace hm := zi_f h3 hm
    refine lv_iconst (v := 0) hx hb d_ZoneNodes_tick_12 (by decide) ?_
    refine lv_istore_n (lv' := [(2, .int 0), (0, .ref x0), (1, .int x1)]) hx hb d_ZoneNodes_tick_13 rfl hl (by decide) rfl (fun ls hl => ?_)
    replace hm := zb2_s hm
    obtain ⟨v25, X27, h26, hm⟩ := hm
    refine hL14 N X x0 x1 0 v25 X27 _ _ _ h26 hX hS (lv_sub hl [1, 2, 0] rfl) (fun H locs ls hX hS hl => ?_)
    refine lv_iconst (v := 1) hx hb d_ZoneNodes_tick_65 (by decide) ?_
    cases hm
    exact W.zret hx hb hr (by decide) (fun t ht hW => zh_end hk hX hS ht hW) hS.2.2 d_ZoneNodes_tick_66
  · replace hm := zi_t h3 hm
    refine lv_iconst (v := 0) hx hb d_ZoneNodes_tick_10 (by decide) ?_
    cases hm
    exact W.zret hx hb hr (by decide) (fun t ht hW => zh_end hk hX hS ht hW) hS.2.2 d_ZoneNodes_tick_11
set_option maxHeartbeats 4000000 in
set_option maxRecDepth 100000 in
theorem c_Draft_empty (l : Launch) (G : zh_G) (N : Nat) (X : zh_T) (x0 : Nat) (r : Unit) (X' : zh_T) (hm : f_Draft_empty N X x0 = some (r, X')) : zM l G y_Draft_empty w_Draft_empty 0 0 X [.ref x0] none X' 0 0 := by
  refine zr_ofW (by decide) (by exact Nat.le_of_ble_eq_true rfl) ?_
  intro p e s m args below meth c ls hx hb hml hr hts hown hin hlocks hk hX hl
  have hS : va_S (zh_A G) s.heap s.heap [] := va_S.rf
  have hl : lv_has ls 1 [(0, .ref x0)] := hl
  have hown : s.vm.findClass R_Draft = some m.cls := hown
  unfold f_Draft_empty at hm
  refine lv_aload_n hx hb d_Draft_empty_0 rfl (lv_at hl 0 rfl) ?_
  refine lv_iconst (v := 0) hx hb d_Draft_empty_1 (by decide) ?_
  replace hm := zb1_s hm
  obtain ⟨X1, h2, hm⟩ := hm
  refine zr_put (ci := 0) (C := R_Draft) (T := F_Draft) (N := 4) (ty := .int) (v := .int 0) hx hb hts in_Draft t_Draft t_Draft_ok n_Draft hown hk hX hS rfl 2 (by decide) (hts _ tW375) rfl rfl (by decide +kernel) rfl rfl h2 d_Draft_empty_2 (fun H locs hX hS => ?_)
  refine lv_aload_n hx hb d_Draft_empty_5 rfl (lv_at hl 0 rfl) ?_
  refine lv_iconst (v := 0) hx hb d_Draft_empty_6 (by decide) ?_
  replace hm := zb1_s hm
  obtain ⟨X3, h4, hm⟩ := hm
  refine zr_put (ci := 0) (C := R_Draft) (T := F_Draft) (N := 4) (ty := .int) (v := .int 0) hx hb hts in_Draft t_Draft t_Draft_ok n_Draft hown hk hX hS rfl 3 (by decide) (hts _ tW240) rfl rfl (by decide +kernel) rfl rfl h4 d_Draft_empty_7 (fun H locs hX hS => ?_)
  cases hm
  exact W.vret hx hb hr (fun t ht hW => zh_end hk hX hS ht hW) hS.2.2 d_Draft_empty_10
set_option maxHeartbeats 4000000 in
set_option maxRecDepth 100000 in
theorem c_ZoneNodes_update (l : Launch) (G : zh_G) (N : Nat) (X : zh_T) (x0 : Nat) (x1 : Int32) (x2 : Int32) (x3 : Int32) (r : Int32) (X' : zh_T) (hm : f_ZoneNodes_update N X x0 x1 x2 x3 = some (r, X')) : zM l G y_ZoneNodes_update w_ZoneNodes_update 6 138 X [.ref x0, .int x1, .int x2, .int x3] (some (.int r)) X' 0 0 := by
  refine zr_ofW (by decide) (by exact Nat.le_of_ble_eq_true rfl) ?_
  intro p e s m args below meth c ls hx hb hml hr hts hown hin hlocks hk hX hl
  have hS : va_S (zh_A G) s.heap s.heap [] := va_S.rf
  have hl : lv_has ls 5 [(0, .ref x0), (1, .int x1), (2, .int x2), (3, .int x3)] := hl
  have hown : s.vm.findClass R_ZoneNodes = some m.cls := hown
  unfold f_ZoneNodes_update at hm
  refine lv_aload_n hx hb d_ZoneNodes_update_0 rfl (lv_at hl 0 rfl) ?_
  replace hm := zb1_s hm
  obtain ⟨a2, h1, hm⟩ := hm
  refine zr_get (ci := 8) (C := R_ZoneNodes) (T := F_ZoneNodes) (N := 7) hx hb hts in_ZoneNodes hown hk hX rfl 4 (by decide) (hts _ tW108) rfl (zgr_v h1) d_ZoneNodes_update_1 ?_
  replace hm := zb1_s hm
  obtain ⟨v4, h3, hm⟩ := hm
  refine zr_getN (ci := 4) (C := R_Primary) (T := F_Primary) (N := 9) hx hb hts in_Primary hown hk hX rfl 8 (by decide) rfl rfl (nF2 hk) rfl (zgi_v h3) d_ZoneNodes_update_4 ?_
  refine lv_if_ne (tgt := 12) hx hb d_ZoneNodes_update_7 rfl (fun h5 => ?_) (fun h5 => ?_)
  · replace hm := zi_f h5 hm
    refine lv_aload_n hx hb d_ZoneNodes_update_12 rfl (lv_at hl 0 rfl) ?_
    refine lv_iload_n hx hb d_ZoneNodes_update_13 rfl (lv_at hl 1 rfl) ?_
    refine lv_iload_n hx hb d_ZoneNodes_update_14 rfl (lv_at hl 2 rfl) ?_
    refine lv_iload_n hx hb d_ZoneNodes_update_15 rfl (lv_at hl 3 rfl) ?_
    replace hm := zb1_s hm
    obtain ⟨_, h7, hm⟩ := hm
    replace hm := zb1_s hm
    obtain ⟨v8, h6, hm⟩ := hm
    refine zr_calli (zr_runV (As := [.int x1, .int x2, .int x3]) (rest := []) (n := 3) hx hb hml hown hts hk hX (c_ZoneNodes_refusal l G N X x0 x1 x2 x3 v8 h6) (hts _ tW427) tW428 (hts _ tW100) (hts _ tW429) (hts _ tW430) rfl h7 (by decide +kernel) ⟨Nat.le_of_ble_eq_true rfl, Nat.le_of_ble_eq_true rfl⟩ rfl rfl hl.1 rfl (lv_room (Nat.le_of_ble_eq_true rfl)) d_ZoneNodes_update_16 ⟨(Nat.le_of_ble_eq_true rfl), (Nat.le_of_ble_eq_true rfl)⟩) hS (fun H locs hX hS => ?_)
    refine lv_istore (lv' := [(4, .int v8), (0, .ref x0), (1, .int x1), (2, .int x2), (3, .int x3)]) hx hb d_ZoneNodes_update_19 hl (by decide) rfl (fun ls hl => ?_)
    refine lv_iload hx hb d_ZoneNodes_update_21 (lv_at hl 0 rfl) ?_
    refine lv_if_ne (tgt := 32) hx hb d_ZoneNodes_update_23 rfl (fun h9 => ?_) (fun h9 => ?_)
    · replace hm := zi_f h9 hm
      refine lv_aload_n hx hb d_ZoneNodes_update_32 rfl (lv_at hl 1 rfl) ?_
      replace hm := zb1_s hm
      obtain ⟨a11, h10, hm⟩ := hm
      refine zr_get (ci := 8) (C := R_ZoneNodes) (T := F_ZoneNodes) (N := 7) hx hb hts in_ZoneNodes hown hk hX rfl 2 (by decide) (hts _ tW88) rfl (zgr_v h10) d_ZoneNodes_update_33 ?_
      replace hm := zb1_s hm
      obtain ⟨_, h13, hm⟩ := hm
      replace hm := zb2_s hm
      obtain ⟨v14, X15, h12, hm⟩ := hm
      refine zr_callv (zr_runV (As := []) (rest := []) (n := 0) hx hb hml hown hts hk hX (c_Draft_empty l G N X a11 v14 X15 h12) (hts _ tW431) tW432 (hts _ tW85) (hts _ tW433) (hts _ tW434) rfl h13 (by decide +kernel) ⟨Nat.le_of_ble_eq_true rfl, Nat.le_of_ble_eq_true rfl⟩ rfl rfl hl.1 rfl (lv_room (Nat.le_of_ble_eq_true rfl)) d_ZoneNodes_update_36 ⟨(Nat.le_of_ble_eq_true rfl), (Nat.le_of_ble_eq_true rfl)⟩) hS (fun H locs hX hS => ?_)
      refine lv_iload hx hb d_ZoneNodes_update_39 (lv_at hl 0 rfl) ?_
      cases hm
      exact W.iret hx hb hr (fun t ht hW => zh_end hk hX hS ht hW) hS.2.2 d_ZoneNodes_update_41
    · replace hm := zi_t h9 hm
      refine lv_aload_n hx hb d_ZoneNodes_update_26 rfl (lv_at hl 1 rfl) ?_
      replace hm := zb1_s hm
      obtain ⟨_, h17, hm⟩ := hm
      replace hm := zb2_s hm
      obtain ⟨v18, X19, h16, hm⟩ := hm
      refine zr_calli (zr_runV (As := []) (rest := []) (n := 0) hx hb hml hown hts hk hX (c_ZoneNodes_makeChanges l G N X x0 v18 X19 h16) (hts _ tW435) tW436 (hts _ tW100) (hts _ tW437) (hts _ tW438) rfl h17 (by decide +kernel) ⟨Nat.le_of_ble_eq_true rfl, Nat.le_of_ble_eq_true rfl⟩ rfl rfl hl.1 rfl (lv_room (Nat.le_of_ble_eq_true rfl)) d_ZoneNodes_update_27 ⟨(Nat.le_of_ble_eq_true rfl), (Nat.le_of_ble_eq_true rfl)⟩) hS (fun H locs hX hS => ?_)
      refine lv_istore (lv' := [(4, .int v18), (0, .ref x0), (1, .int x1), (2, .int x2), (3, .int x3)]) hx hb d_ZoneNodes_update_30 hl (by decide) rfl (fun ls hl => ?_)
      refine lv_aload_n hx hb d_ZoneNodes_update_32 rfl (lv_at hl 1 rfl) ?_
      replace hm := zb1_s hm
      obtain ⟨a21, h20, hm⟩ := hm
      refine zr_get (ci := 8) (C := R_ZoneNodes) (T := F_ZoneNodes) (N := 7) hx hb hts in_ZoneNodes hown hk hX rfl 2 (by decide) (hts _ tW88) rfl (zgr_v h20) d_ZoneNodes_update_33 ?_
      replace hm := zb1_s hm
      obtain ⟨_, h23, hm⟩ := hm
      replace hm := zb2_s hm
      obtain ⟨v24, X25, h22, hm⟩ := hm
      refine zr_callv (zr_runV (As := []) (rest := []) (n := 0) hx hb hml hown hts hk hX (c_Draft_empty l G N X19 a21 v24 X25 h22) (hts _ tW431) tW432 (hts _ tW85) (hts _ tW433) (hts _ tW434) rfl h23 (by decide +kernel) ⟨Nat.le_of_ble_eq_true rfl, Nat.le_of_ble_eq_true rfl⟩ rfl rfl hl.1 rfl (lv_room (Nat.le_of_ble_eq_true rfl)) d_ZoneNodes_update_36 ⟨(Nat.le_of_ble_eq_true rfl), (Nat.le_of_ble_eq_true rfl)⟩) hS (fun H locs hX hS => ?_)
      refine lv_iload hx hb d_ZoneNodes_update_39 (lv_at hl 0 rfl) ?_
      cases hm
      exact W.iret hx hb hr (fun t ht hW => zh_end hk hX hS ht hW) hS.2.2 d_ZoneNodes_update_41
  · replace hm := zi_t h5 hm
    refine lv_iconst (v := (-1)) hx hb d_ZoneNodes_update_10 (by decide) ?_
    cases hm
    exact W.iret hx hb hr (fun t ht hW => zh_end hk hX hS ht hW) hS.2.2 d_ZoneNodes_update_11
set_option maxHeartbeats 4000000 in
set_option maxRecDepth 100000 in
theorem c_ZoneNodesModel_place (l : Launch) (G : zh_G) (N : Nat) (X : zh_T) (x0 : Int32) (x1 : Int32) (x2 : Int32) (r : Int32) (hm : f_ZoneNodesModel_place N X x0 x1 x2 = some r) : zM l G y_ZoneNodesModel_place w_ZoneNodesModel_place 0 0 X [.int x0, .int x1, .int x2] (some (.int r)) X 0 0 := by
  refine zr_ofW (by decide) (by exact Nat.le_of_ble_eq_true rfl) ?_
  intro p e s m args below meth c ls hx hb hml hr hts hown hin hlocks hk hX hl
  have hS : va_S (zh_A G) s.heap s.heap [] := va_S.rf
  have hl : lv_has ls 3 [(0, .int x0), (1, .int x1), (2, .int x2)] := hl
  have hown : s.vm.findClass R_ZoneNodesModel = some m.cls := hown
  unfold f_ZoneNodesModel_place at hm
  refine lv_bipush (v := 32) hx hb d_ZoneNodesModel_place_0 (by decide) ?_
  refine lv_iload_n hx hb d_ZoneNodesModel_place_2 rfl (lv_at hl 0 rfl) ?_
  refine lv_imul hx hb d_ZoneNodesModel_place_3 ?_
  refine lv_bipush (v := 8) hx hb d_ZoneNodesModel_place_4 (by decide) ?_
  refine lv_iload_n hx hb d_ZoneNodesModel_place_6 rfl (lv_at hl 1 rfl) ?_
  refine lv_iconst (v := 1) hx hb d_ZoneNodesModel_place_7 (by decide) ?_
  refine lv_isub hx hb d_ZoneNodesModel_place_8 ?_
  refine lv_imul hx hb d_ZoneNodesModel_place_9 ?_
  refine lv_iadd hx hb d_ZoneNodesModel_place_10 ?_
  refine lv_iload_n hx hb d_ZoneNodesModel_place_11 rfl (lv_at hl 2 rfl) ?_
  refine lv_iadd hx hb d_ZoneNodesModel_place_12 ?_
  cases hm
  exact W.iret hx hb hr (fun t ht hW => zh_end hk hX hS ht hW) hS.2.2 d_ZoneNodesModel_place_13
set_option maxHeartbeats 4000000 in
set_option maxRecDepth 100000 in
theorem c_ZoneNodesModel_rest (l : Launch) (G : zh_G) (N : Nat) (X : zh_T) (x0 : Nat) (x1 : Int32) (x2 : Int32) (r : Unit) (X' : zh_T) (hm : f_ZoneNodesModel_rest N X x0 x1 x2 = some (r, X')) : zM l G y_ZoneNodesModel_rest w_ZoneNodesModel_rest 0 0 X [.ref x0, .int x1, .int x2] none X' 0 0 := by
  refine zr_ofW (by decide) (by exact Nat.le_of_ble_eq_true rfl) ?_
  intro p e s m args below meth c ls hx hb hml hr hts hown hin hlocks hk hX hl
  have hS : va_S (zh_A G) s.heap s.heap [] := va_S.rf
  have hl : lv_has ls 3 [(0, .ref x0), (1, .int x1), (2, .int x2)] := hl
  have hown : s.vm.findClass R_ZoneNodesModel = some m.cls := hown
  unfold f_ZoneNodesModel_rest at hm
  refine lv_aload_n hx hb d_ZoneNodesModel_rest_0 rfl (lv_at hl 0 rfl) ?_
  replace hm := zb1_s hm
  obtain ⟨a2, h1, hm⟩ := hm
  refine zr_get (ci := 9) (C := R_ZoneNodesModel) (T := F_ZoneNodesModel) (N := 32) hx hb hts in_ZoneNodesModel hown hk hX rfl 9 (by decide) (hts _ tW439) rfl (zgr_v h1) d_ZoneNodesModel_rest_1 ?_
  refine lv_iload_n hx hb d_ZoneNodesModel_rest_4 rfl (lv_at hl 1 rfl) ?_
  refine lv_iconst (v := 0) hx hb d_ZoneNodesModel_rest_5 (by decide) ?_
  replace hm := zb1_s hm
  obtain ⟨X3, h4, hm⟩ := hm
  refine zr_iastore hx hb hk hX hS h4 d_ZoneNodesModel_rest_6 (fun H locs hX hS => ?_)
  refine lv_aload_n hx hb d_ZoneNodesModel_rest_7 rfl (lv_at hl 0 rfl) ?_
  replace hm := zb1_s hm
  obtain ⟨a6, h5, hm⟩ := hm
  refine zr_get (ci := 9) (C := R_ZoneNodesModel) (T := F_ZoneNodesModel) (N := 32) hx hb hts in_ZoneNodesModel hown hk hX rfl 10 (by decide) (hts _ tW440) rfl (zgr_v h5) d_ZoneNodesModel_rest_8 ?_
  refine lv_iload_n hx hb d_ZoneNodesModel_rest_11 rfl (lv_at hl 1 rfl) ?_
  refine lv_aload_n hx hb d_ZoneNodesModel_rest_12 rfl (lv_at hl 0 rfl) ?_
  replace hm := zb1_s hm
  obtain ⟨v8, h7, hm⟩ := hm
  refine zr_get (ci := 9) (C := R_ZoneNodesModel) (T := F_ZoneNodesModel) (N := 32) hx hb hts in_ZoneNodesModel hown hk hX rfl 3 (by decide) (hts _ tW441) rfl (zgi_v h7) d_ZoneNodesModel_rest_13 ?_
  refine lv_iload_n hx hb d_ZoneNodesModel_rest_16 rfl (lv_at hl 2 rfl) ?_
  refine lv_iadd hx hb d_ZoneNodesModel_rest_17 ?_
  replace hm := zb1_s hm
  obtain ⟨X9, h10, hm⟩ := hm
  refine zr_iastore hx hb hk hX hS h10 d_ZoneNodesModel_rest_18 (fun H locs hX hS => ?_)
  cases hm
  exact W.vret hx hb hr (fun t ht hW => zh_end hk hX hS ht hW) hS.2.2 d_ZoneNodesModel_rest_19
set_option maxHeartbeats 4000000 in
set_option maxRecDepth 100000 in
theorem c_ZoneNodesModel_init (l : Launch) (G : zh_G) (N : Nat) (X : zh_T) (x0 : Nat) (x1 : Int32) (x2 : Int32) (x3 : Int32) (x4 : Int32) (r : Unit) (X' : zh_T) (hm : f_ZoneNodesModel_init N X x0 x1 x2 x3 x4 = some (r, X')) : zM l G y_ZoneNodesModel_init w_ZoneNodesModel_init 1 22 X [.ref x0, .int x1, .int x2, .int x3, .int x4] none X' 23 4074 := by
  refine zr_ofW (by decide) (by exact Nat.le_of_ble_eq_true rfl) ?_
  intro p e s m args below meth c ls hx hb hml hr hts hown hin hlocks hk hX hl
  have hS : va_S (zh_A G) s.heap s.heap [] := va_S.rf
  have hl : lv_has ls 6 [(0, .ref x0), (1, .int x1), (2, .int x2), (3, .int x3), (4, .int x4)] := hl
  have hown : s.vm.findClass R_ZoneNodesModel = some m.cls := hown
  unfold f_ZoneNodesModel_init at hm
  have hL280 : ∀ (n : Nat) (X : zh_T) (w0 : Nat) (w5 : Int32) (v : Unit) (X1 : zh_T) (H : Heap) (locs : List Loc) (ls : Array Slot), L_ZoneNodesModel_init_280 N w0 n X w5 = some (v, X1) → zh_w G X H → va_S (zh_A G) s.heap H locs → lv_has ls 6 [(0, .ref w0), (5, .int w5)] → (∀ (H : Heap) (locs : List Loc) (ls : Array Slot), zh_w G X1 H → va_S (zh_A G) s.heap H locs → lv_has ls 6 [(0, .ref w0)] → W p l e { frames := 1, cells := 23, slots := 4074, locals := 22 } s m args below meth c H locs 23 4074 (MQ below (zh_Q G none X') args s 23 4074 (zh_A G)) (F0 m 300 ls [])) → W p l e { frames := 1, cells := 23, slots := 4074, locals := 22 } s m args below meth c H locs 23 4074 (MQ below (zh_Q G none X') args s 23 4074 (zh_A G)) (F0 m 280 ls []) := by
    intro n
    induction n with
    | zero =>
      intro X w0 w5 v X1 H locs ls hm hX hS hl hexit
      rw [L_ZoneNodesModel_init_280] at hm
      cases hm
    | succ n ih =>
      intro X w0 w5 v X1 H locs ls hm hX hS hl hexit
      rw [L_ZoneNodesModel_init_280] at hm
      refine lv_iload hx hb d_ZoneNodesModel_init_280 (lv_at hl 1 rfl) ?_
      refine lv_iconst (v := 3) hx hb d_ZoneNodesModel_init_282 (by decide) ?_
      refine lv_icmp_ge (tgt := 300) hx hb d_ZoneNodesModel_init_283 rfl (fun h139 => ?_) (fun h139 => ?_)
      · replace hm := zi_t h139 hm
        cases hm
        exact hexit _ _ _ hX hS (lv_sub hl [0] rfl)
      · replace hm := zi_f h139 hm
        refine lv_aload_n hx hb d_ZoneNodesModel_init_286 rfl (lv_at hl 0 rfl) ?_
        replace hm := zb1_s hm
        obtain ⟨a141, h140, hm⟩ := hm
        refine zr_get (ci := 9) (C := R_ZoneNodesModel) (T := F_ZoneNodesModel) (N := 32) hx hb hts in_ZoneNodesModel hown hk hX rfl 4 (by decide) (hts _ tW443) rfl (zgr_v h140) d_ZoneNodesModel_init_287 ?_
        refine lv_iload hx hb d_ZoneNodesModel_init_290 (lv_at hl 1 rfl) ?_
        refine lv_iconst (v := 1) hx hb d_ZoneNodesModel_init_292 (by decide) ?_
        replace hm := zb1_s hm
        obtain ⟨X142, h143, hm⟩ := hm
        refine zr_bastore hx hb hk hX hS h143 d_ZoneNodesModel_init_293 (fun H locs hX hS => ?_)
        refine lv_iinc (v := w5 + 1) (lv' := [(5, .int (w5 + 1)), (0, .ref w0)]) hx hb d_ZoneNodesModel_init_294 hl (k := 1) rfl (by rw [show Int32.ofInt 1 = 1 by decide]) (by decide) rfl (fun ls hl => ?_)
        refine lv_goto (tgt := 280) hx hb d_ZoneNodesModel_init_297 rfl ?_
        exact ih X142 w0 (w5 + 1) v X1 _ _ _ hm hX hS (lv_sub hl [1, 0] rfl) hexit
  have hJ222 : ∀ (X : zh_T) (w0 : Nat) (w1 : Int32) (w4 : Int32) (u0 : Nat) (u1 : Int32) (H : Heap) (locs : List Loc) (ls : Array Slot), J_ZoneNodesModel_init_222 N X w0 w1 w4 u0 u1 = some (r, X') → zh_w G X H → va_S (zh_A G) s.heap H locs → lv_has ls 6 [(0, .ref w0), (1, .int w1), (4, .int w4)] → W p l e { frames := 1, cells := 23, slots := 4074, locals := 22 } s m args below meth c H locs 23 4074 (MQ below (zh_Q G none X') args s 23 4074 (zh_A G)) (F0 m 222 ls [.int u1, .ref u0]) := by
    intro X w0 w1 w4 u0 u1 H locs ls hm hX hS hl
    unfold J_ZoneNodesModel_init_222 at hm
    replace hm := zb1_s hm
    obtain ⟨X120, h121, hm⟩ := hm
    refine zr_putF (ci := 9) (C := R_ZoneNodesModel) (T := F_ZoneNodesModel) (N := 32) (ty := .int) (v := .int u1) hx hb hts in_ZoneNodesModel t_ZoneNodesModel t_ZoneNodesModel_ok n_ZoneNodesModel hown hk hX hS rfl 1 (by decide) (hts _ tW465) rfl rfl hin rfl (by decide +kernel) rfl rfl h121 d_ZoneNodesModel_init_222 (fun H locs hX hS => ?_)
    refine lv_aload_n hx hb d_ZoneNodesModel_init_225 rfl (lv_at hl 0 rfl) ?_
    refine lv_iload hx hb d_ZoneNodesModel_init_226 (lv_at hl 2 rfl) ?_
    refine lv_bipush (v := 10) hx hb d_ZoneNodesModel_init_228 (by decide) ?_
    refine lv_icmp_lt (tgt := 246) hx hb d_ZoneNodesModel_init_230 rfl (fun h122 => ?_) (fun h122 => ?_)
    · replace hm := zi_t h122 hm
      refine lv_bipush (v := 60) hx hb d_ZoneNodesModel_init_246 (by decide) ?_
      replace hm := zb1_s hm
      obtain ⟨X123, h124, hm⟩ := hm
      refine zr_putF (ci := 9) (C := R_ZoneNodesModel) (T := F_ZoneNodesModel) (N := 32) (ty := .int) (v := .int 60) hx hb hts in_ZoneNodesModel t_ZoneNodesModel t_ZoneNodesModel_ok n_ZoneNodesModel hown hk hX hS rfl 2 (by decide) (hts _ tW466) rfl rfl hin rfl (by decide +kernel) rfl rfl h124 d_ZoneNodesModel_init_248 (fun H locs hX hS => ?_)
      refine lv_aload_n hx hb d_ZoneNodesModel_init_251 rfl (lv_at hl 0 rfl) ?_
      replace hm := zb1_s hm
      obtain ⟨a126, h125, hm⟩ := hm
      refine zr_get (ci := 9) (C := R_ZoneNodesModel) (T := F_ZoneNodesModel) (N := 32) hx hb hts in_ZoneNodesModel hown hk hX rfl 6 (by decide) (hts _ tW445) rfl (zgr_v h125) d_ZoneNodesModel_init_252 ?_
      refine lv_iconst (v := 0) hx hb d_ZoneNodesModel_init_255 (by decide) ?_
      refine lv_iload_n hx hb d_ZoneNodesModel_init_256 rfl (lv_at hl 1 rfl) ?_
      replace hm := zb1_s hm
      obtain ⟨X127, h128, hm⟩ := hm
      refine zr_iastore hx hb hk hX hS h128 d_ZoneNodesModel_init_257 (fun H locs hX hS => ?_)
      refine lv_aload_n hx hb d_ZoneNodesModel_init_258 rfl (lv_at hl 0 rfl) ?_
      replace hm := zb1_s hm
      obtain ⟨a130, h129, hm⟩ := hm
      refine zr_get (ci := 9) (C := R_ZoneNodesModel) (T := F_ZoneNodesModel) (N := 32) hx hb hts in_ZoneNodesModel hown hk hX rfl 5 (by decide) (hts _ tW444) rfl (zgr_v h129) d_ZoneNodesModel_init_259 ?_
      refine lv_iconst (v := 0) hx hb d_ZoneNodesModel_init_262 (by decide) ?_
      refine lv_iconst (v := 1) hx hb d_ZoneNodesModel_init_263 (by decide) ?_
      replace hm := zb1_s hm
      obtain ⟨X131, h132, hm⟩ := hm
      refine zr_bastore hx hb hk hX hS h132 d_ZoneNodesModel_init_264 (fun H locs hX hS => ?_)
      refine lv_aload_n hx hb d_ZoneNodesModel_init_265 rfl (lv_at hl 0 rfl) ?_
      replace hm := zb1_s hm
      obtain ⟨a134, h133, hm⟩ := hm
      refine zr_get (ci := 9) (C := R_ZoneNodesModel) (T := F_ZoneNodesModel) (N := 32) hx hb hts in_ZoneNodesModel hown hk hX rfl 7 (by decide) (hts _ tW446) rfl (zgr_v h133) d_ZoneNodesModel_init_266 ?_
      refine lv_iconst (v := 0) hx hb d_ZoneNodesModel_init_269 (by decide) ?_
      refine lv_iconst (v := 3) hx hb d_ZoneNodesModel_init_270 (by decide) ?_
      refine lv_iconst (v := 1) hx hb d_ZoneNodesModel_init_271 (by decide) ?_
      replace hm := zb1_s hm
      obtain ⟨v136, h135, hm⟩ := hm
      refine zr_calli (zr_runS (As := [.int 0, .int 3, .int 1]) (rest := [.ref a134]) (n := 3) hx hb hml hown hts hk hX (c_ZoneNodesModel_place l G N X131 0 3 1 v136 h135) (hts _ tW467) tW468 (hts _ tW469) (hts _ tW470) (by decide +kernel) ⟨Nat.le_of_ble_eq_true rfl, Nat.le_of_ble_eq_true rfl⟩ rfl rfl hl.1 rfl (lv_room (Nat.le_of_ble_eq_true rfl)) d_ZoneNodesModel_init_272 ⟨(Nat.le_of_ble_eq_true rfl), (Nat.le_of_ble_eq_true rfl)⟩) hS (fun H locs hX hS => ?_)
      refine lv_iconst (v := 1) hx hb d_ZoneNodesModel_init_275 (by decide) ?_
      replace hm := zb1_s hm
      obtain ⟨X137, h138, hm⟩ := hm
      refine zr_bastore hx hb hk hX hS h138 d_ZoneNodesModel_init_276 (fun H locs hX hS => ?_)
      refine lv_iconst (v := 0) hx hb d_ZoneNodesModel_init_277 (by decide) ?_
      refine lv_istore (lv' := [(5, .int 0), (0, .ref w0), (1, .int w1), (4, .int w4)]) hx hb d_ZoneNodesModel_init_278 hl (by decide) rfl (fun ls hl => ?_)
      replace hm := zb2_s hm
      obtain ⟨v144, X146, h145, hm⟩ := hm
      refine hL280 N X137 w0 0 v144 X146 _ _ _ h145 hX hS (lv_sub hl [1, 0] rfl) (fun H locs ls hX hS hl => ?_)
      refine lv_aload_n hx hb d_ZoneNodesModel_init_300 rfl (lv_at hl 0 rfl) ?_
      refine lv_iconst (v := 1) hx hb d_ZoneNodesModel_init_301 (by decide) ?_
      refine lv_iconst (v := 1) hx hb d_ZoneNodesModel_init_302 (by decide) ?_
      replace hm := zb1_s hm
      obtain ⟨_, h148, hm⟩ := hm
      replace hm := zb2_s hm
      obtain ⟨v149, X150, h147, hm⟩ := hm
      refine zr_callv (zr_runV (As := [.int 1, .int 1]) (rest := []) (n := 2) hx hb hml hown hts hk hX (c_ZoneNodesModel_rest l G N X146 w0 1 1 v149 X150 h147) (hts _ tW471) tW472 (hts _ tW469) (hts _ tW473) (hts _ tW474) rfl h148 (by decide +kernel) ⟨Nat.le_of_ble_eq_true rfl, Nat.le_of_ble_eq_true rfl⟩ rfl rfl hl.1 rfl (lv_room (Nat.le_of_ble_eq_true rfl)) d_ZoneNodesModel_init_303 ⟨(Nat.le_of_ble_eq_true rfl), (Nat.le_of_ble_eq_true rfl)⟩) hS (fun H locs hX hS => ?_)
      refine lv_aload_n hx hb d_ZoneNodesModel_init_306 rfl (lv_at hl 0 rfl) ?_
      refine lv_iconst (v := 2) hx hb d_ZoneNodesModel_init_307 (by decide) ?_
      refine lv_iconst (v := 1) hx hb d_ZoneNodesModel_init_308 (by decide) ?_
      replace hm := zb1_s hm
      obtain ⟨_, h152, hm⟩ := hm
      replace hm := zb2_s hm
      obtain ⟨v153, X154, h151, hm⟩ := hm
      refine zr_callv (zr_runV (As := [.int 2, .int 1]) (rest := []) (n := 2) hx hb hml hown hts hk hX (c_ZoneNodesModel_rest l G N X150 w0 2 1 v153 X154 h151) (hts _ tW471) tW472 (hts _ tW469) (hts _ tW473) (hts _ tW474) rfl h152 (by decide +kernel) ⟨Nat.le_of_ble_eq_true rfl, Nat.le_of_ble_eq_true rfl⟩ rfl rfl hl.1 rfl (lv_room (Nat.le_of_ble_eq_true rfl)) d_ZoneNodesModel_init_309 ⟨(Nat.le_of_ble_eq_true rfl), (Nat.le_of_ble_eq_true rfl)⟩) hS (fun H locs hX hS => ?_)
      refine lv_aload_n hx hb d_ZoneNodesModel_init_312 rfl (lv_at hl 0 rfl) ?_
      replace hm := zb1_s hm
      obtain ⟨a156, h155, hm⟩ := hm
      refine zr_get (ci := 9) (C := R_ZoneNodesModel) (T := F_ZoneNodesModel) (N := 32) hx hb hts in_ZoneNodesModel hown hk hX rfl 11 (by decide) (hts _ tW448) rfl (zgr_v h155) d_ZoneNodesModel_init_313 ?_
      refine lv_iconst (v := 1) hx hb d_ZoneNodesModel_init_316 (by decide) ?_
      refine lv_aload_n hx hb d_ZoneNodesModel_init_317 rfl (lv_at hl 0 rfl) ?_
      replace hm := zb1_s hm
      obtain ⟨v158, h157, hm⟩ := hm
      refine zr_get (ci := 9) (C := R_ZoneNodesModel) (T := F_ZoneNodesModel) (N := 32) hx hb hts in_ZoneNodesModel hown hk hX rfl 2 (by decide) (hts _ tW466) rfl (zgi_v h157) d_ZoneNodesModel_init_318 ?_
      replace hm := zb1_s hm
      obtain ⟨X159, h160, hm⟩ := hm
      refine zr_iastore hx hb hk hX hS h160 d_ZoneNodesModel_init_321 (fun H locs hX hS => ?_)
      refine lv_aload_n hx hb d_ZoneNodesModel_init_322 rfl (lv_at hl 0 rfl) ?_
      replace hm := zb1_s hm
      obtain ⟨a162, h161, hm⟩ := hm
      refine zr_get (ci := 9) (C := R_ZoneNodesModel) (T := F_ZoneNodesModel) (N := 32) hx hb hts in_ZoneNodesModel hown hk hX rfl 11 (by decide) (hts _ tW448) rfl (zgr_v h161) d_ZoneNodesModel_init_323 ?_
      refine lv_iconst (v := 2) hx hb d_ZoneNodesModel_init_326 (by decide) ?_
      refine lv_aload_n hx hb d_ZoneNodesModel_init_327 rfl (lv_at hl 0 rfl) ?_
      replace hm := zb1_s hm
      obtain ⟨v164, h163, hm⟩ := hm
      refine zr_get (ci := 9) (C := R_ZoneNodesModel) (T := F_ZoneNodesModel) (N := 32) hx hb hts in_ZoneNodesModel hown hk hX rfl 2 (by decide) (hts _ tW466) rfl (zgi_v h163) d_ZoneNodesModel_init_328 ?_
      replace hm := zb1_s hm
      obtain ⟨X165, h166, hm⟩ := hm
      refine zr_iastore hx hb hk hX hS h166 d_ZoneNodesModel_init_331 (fun H locs hX hS => ?_)
      cases hm
      refine W.widen (k := 23) (n := 4074) (Nat.le_of_ble_eq_true rfl) (Nat.le_of_ble_eq_true rfl) ?_
      exact W.vret hx hb hr (fun t ht hW => zh_end hk hX hS ht hW) hS.2.2 d_ZoneNodesModel_init_332
    · replace hm := zi_f h122 hm
      refine lv_iload hx hb d_ZoneNodesModel_init_233 (lv_at hl 2 rfl) ?_
      refine lv_sipush (v := 200) hx hb d_ZoneNodesModel_init_235 (by decide) ?_
      refine lv_icmp_gt (tgt := 246) hx hb d_ZoneNodesModel_init_238 rfl (fun h167 => ?_) (fun h167 => ?_)
      · replace hm := zi_t h167 hm
        refine lv_bipush (v := 60) hx hb d_ZoneNodesModel_init_246 (by decide) ?_
        replace hm := zb1_s hm
        obtain ⟨X168, h169, hm⟩ := hm
        refine zr_putF (ci := 9) (C := R_ZoneNodesModel) (T := F_ZoneNodesModel) (N := 32) (ty := .int) (v := .int 60) hx hb hts in_ZoneNodesModel t_ZoneNodesModel t_ZoneNodesModel_ok n_ZoneNodesModel hown hk hX hS rfl 2 (by decide) (hts _ tW466) rfl rfl hin rfl (by decide +kernel) rfl rfl h169 d_ZoneNodesModel_init_248 (fun H locs hX hS => ?_)
        refine lv_aload_n hx hb d_ZoneNodesModel_init_251 rfl (lv_at hl 0 rfl) ?_
        replace hm := zb1_s hm
        obtain ⟨a171, h170, hm⟩ := hm
        refine zr_get (ci := 9) (C := R_ZoneNodesModel) (T := F_ZoneNodesModel) (N := 32) hx hb hts in_ZoneNodesModel hown hk hX rfl 6 (by decide) (hts _ tW445) rfl (zgr_v h170) d_ZoneNodesModel_init_252 ?_
        refine lv_iconst (v := 0) hx hb d_ZoneNodesModel_init_255 (by decide) ?_
        refine lv_iload_n hx hb d_ZoneNodesModel_init_256 rfl (lv_at hl 1 rfl) ?_
        replace hm := zb1_s hm
        obtain ⟨X172, h173, hm⟩ := hm
        refine zr_iastore hx hb hk hX hS h173 d_ZoneNodesModel_init_257 (fun H locs hX hS => ?_)
        refine lv_aload_n hx hb d_ZoneNodesModel_init_258 rfl (lv_at hl 0 rfl) ?_
        replace hm := zb1_s hm
        obtain ⟨a175, h174, hm⟩ := hm
        refine zr_get (ci := 9) (C := R_ZoneNodesModel) (T := F_ZoneNodesModel) (N := 32) hx hb hts in_ZoneNodesModel hown hk hX rfl 5 (by decide) (hts _ tW444) rfl (zgr_v h174) d_ZoneNodesModel_init_259 ?_
        refine lv_iconst (v := 0) hx hb d_ZoneNodesModel_init_262 (by decide) ?_
        refine lv_iconst (v := 1) hx hb d_ZoneNodesModel_init_263 (by decide) ?_
        replace hm := zb1_s hm
        obtain ⟨X176, h177, hm⟩ := hm
        refine zr_bastore hx hb hk hX hS h177 d_ZoneNodesModel_init_264 (fun H locs hX hS => ?_)
        refine lv_aload_n hx hb d_ZoneNodesModel_init_265 rfl (lv_at hl 0 rfl) ?_
        replace hm := zb1_s hm
        obtain ⟨a179, h178, hm⟩ := hm
        refine zr_get (ci := 9) (C := R_ZoneNodesModel) (T := F_ZoneNodesModel) (N := 32) hx hb hts in_ZoneNodesModel hown hk hX rfl 7 (by decide) (hts _ tW446) rfl (zgr_v h178) d_ZoneNodesModel_init_266 ?_
        refine lv_iconst (v := 0) hx hb d_ZoneNodesModel_init_269 (by decide) ?_
        refine lv_iconst (v := 3) hx hb d_ZoneNodesModel_init_270 (by decide) ?_
        refine lv_iconst (v := 1) hx hb d_ZoneNodesModel_init_271 (by decide) ?_
        replace hm := zb1_s hm
        obtain ⟨v181, h180, hm⟩ := hm
        refine zr_calli (zr_runS (As := [.int 0, .int 3, .int 1]) (rest := [.ref a179]) (n := 3) hx hb hml hown hts hk hX (c_ZoneNodesModel_place l G N X176 0 3 1 v181 h180) (hts _ tW467) tW468 (hts _ tW469) (hts _ tW470) (by decide +kernel) ⟨Nat.le_of_ble_eq_true rfl, Nat.le_of_ble_eq_true rfl⟩ rfl rfl hl.1 rfl (lv_room (Nat.le_of_ble_eq_true rfl)) d_ZoneNodesModel_init_272 ⟨(Nat.le_of_ble_eq_true rfl), (Nat.le_of_ble_eq_true rfl)⟩) hS (fun H locs hX hS => ?_)
        refine lv_iconst (v := 1) hx hb d_ZoneNodesModel_init_275 (by decide) ?_
        replace hm := zb1_s hm
        obtain ⟨X182, h183, hm⟩ := hm
        refine zr_bastore hx hb hk hX hS h183 d_ZoneNodesModel_init_276 (fun H locs hX hS => ?_)
        refine lv_iconst (v := 0) hx hb d_ZoneNodesModel_init_277 (by decide) ?_
        refine lv_istore (lv' := [(5, .int 0), (0, .ref w0), (1, .int w1), (4, .int w4)]) hx hb d_ZoneNodesModel_init_278 hl (by decide) rfl (fun ls hl => ?_)
        replace hm := zb2_s hm
        obtain ⟨v184, X186, h185, hm⟩ := hm
        refine hL280 N X182 w0 0 v184 X186 _ _ _ h185 hX hS (lv_sub hl [1, 0] rfl) (fun H locs ls hX hS hl => ?_)
        refine lv_aload_n hx hb d_ZoneNodesModel_init_300 rfl (lv_at hl 0 rfl) ?_
        refine lv_iconst (v := 1) hx hb d_ZoneNodesModel_init_301 (by decide) ?_
        refine lv_iconst (v := 1) hx hb d_ZoneNodesModel_init_302 (by decide) ?_
        replace hm := zb1_s hm
        obtain ⟨_, h188, hm⟩ := hm
        replace hm := zb2_s hm
        obtain ⟨v189, X190, h187, hm⟩ := hm
        refine zr_callv (zr_runV (As := [.int 1, .int 1]) (rest := []) (n := 2) hx hb hml hown hts hk hX (c_ZoneNodesModel_rest l G N X186 w0 1 1 v189 X190 h187) (hts _ tW471) tW472 (hts _ tW469) (hts _ tW473) (hts _ tW474) rfl h188 (by decide +kernel) ⟨Nat.le_of_ble_eq_true rfl, Nat.le_of_ble_eq_true rfl⟩ rfl rfl hl.1 rfl (lv_room (Nat.le_of_ble_eq_true rfl)) d_ZoneNodesModel_init_303 ⟨(Nat.le_of_ble_eq_true rfl), (Nat.le_of_ble_eq_true rfl)⟩) hS (fun H locs hX hS => ?_)
        refine lv_aload_n hx hb d_ZoneNodesModel_init_306 rfl (lv_at hl 0 rfl) ?_
        refine lv_iconst (v := 2) hx hb d_ZoneNodesModel_init_307 (by decide) ?_
        refine lv_iconst (v := 1) hx hb d_ZoneNodesModel_init_308 (by decide) ?_
        replace hm := zb1_s hm
        obtain ⟨_, h192, hm⟩ := hm
        replace hm := zb2_s hm
        obtain ⟨v193, X194, h191, hm⟩ := hm
        refine zr_callv (zr_runV (As := [.int 2, .int 1]) (rest := []) (n := 2) hx hb hml hown hts hk hX (c_ZoneNodesModel_rest l G N X190 w0 2 1 v193 X194 h191) (hts _ tW471) tW472 (hts _ tW469) (hts _ tW473) (hts _ tW474) rfl h192 (by decide +kernel) ⟨Nat.le_of_ble_eq_true rfl, Nat.le_of_ble_eq_true rfl⟩ rfl rfl hl.1 rfl (lv_room (Nat.le_of_ble_eq_true rfl)) d_ZoneNodesModel_init_309 ⟨(Nat.le_of_ble_eq_true rfl), (Nat.le_of_ble_eq_true rfl)⟩) hS (fun H locs hX hS => ?_)
        refine lv_aload_n hx hb d_ZoneNodesModel_init_312 rfl (lv_at hl 0 rfl) ?_
        replace hm := zb1_s hm
        obtain ⟨a196, h195, hm⟩ := hm
        refine zr_get (ci := 9) (C := R_ZoneNodesModel) (T := F_ZoneNodesModel) (N := 32) hx hb hts in_ZoneNodesModel hown hk hX rfl 11 (by decide) (hts _ tW448) rfl (zgr_v h195) d_ZoneNodesModel_init_313 ?_
        refine lv_iconst (v := 1) hx hb d_ZoneNodesModel_init_316 (by decide) ?_
        refine lv_aload_n hx hb d_ZoneNodesModel_init_317 rfl (lv_at hl 0 rfl) ?_
        replace hm := zb1_s hm
        obtain ⟨v198, h197, hm⟩ := hm
        refine zr_get (ci := 9) (C := R_ZoneNodesModel) (T := F_ZoneNodesModel) (N := 32) hx hb hts in_ZoneNodesModel hown hk hX rfl 2 (by decide) (hts _ tW466) rfl (zgi_v h197) d_ZoneNodesModel_init_318 ?_
        replace hm := zb1_s hm
        obtain ⟨X199, h200, hm⟩ := hm
        refine zr_iastore hx hb hk hX hS h200 d_ZoneNodesModel_init_321 (fun H locs hX hS => ?_)
        refine lv_aload_n hx hb d_ZoneNodesModel_init_322 rfl (lv_at hl 0 rfl) ?_
        replace hm := zb1_s hm
        obtain ⟨a202, h201, hm⟩ := hm
        refine zr_get (ci := 9) (C := R_ZoneNodesModel) (T := F_ZoneNodesModel) (N := 32) hx hb hts in_ZoneNodesModel hown hk hX rfl 11 (by decide) (hts _ tW448) rfl (zgr_v h201) d_ZoneNodesModel_init_323 ?_
        refine lv_iconst (v := 2) hx hb d_ZoneNodesModel_init_326 (by decide) ?_
        refine lv_aload_n hx hb d_ZoneNodesModel_init_327 rfl (lv_at hl 0 rfl) ?_
        replace hm := zb1_s hm
        obtain ⟨v204, h203, hm⟩ := hm
        refine zr_get (ci := 9) (C := R_ZoneNodesModel) (T := F_ZoneNodesModel) (N := 32) hx hb hts in_ZoneNodesModel hown hk hX rfl 2 (by decide) (hts _ tW466) rfl (zgi_v h203) d_ZoneNodesModel_init_328 ?_
        replace hm := zb1_s hm
        obtain ⟨X205, h206, hm⟩ := hm
        refine zr_iastore hx hb hk hX hS h206 d_ZoneNodesModel_init_331 (fun H locs hX hS => ?_)
        cases hm
        refine W.widen (k := 23) (n := 4074) (Nat.le_of_ble_eq_true rfl) (Nat.le_of_ble_eq_true rfl) ?_
        exact W.vret hx hb hr (fun t ht hW => zh_end hk hX hS ht hW) hS.2.2 d_ZoneNodesModel_init_332
      · replace hm := zi_f h167 hm
        refine lv_iload hx hb d_ZoneNodesModel_init_241 (lv_at hl 2 rfl) ?_
        refine lv_goto (tgt := 248) hx hb d_ZoneNodesModel_init_243 rfl ?_
        replace hm := zb1_s hm
        obtain ⟨X207, h208, hm⟩ := hm
        refine zr_putF (ci := 9) (C := R_ZoneNodesModel) (T := F_ZoneNodesModel) (N := 32) (ty := .int) (v := .int w4) hx hb hts in_ZoneNodesModel t_ZoneNodesModel t_ZoneNodesModel_ok n_ZoneNodesModel hown hk hX hS rfl 2 (by decide) (hts _ tW466) rfl rfl hin rfl (by decide +kernel) rfl rfl h208 d_ZoneNodesModel_init_248 (fun H locs hX hS => ?_)
        refine lv_aload_n hx hb d_ZoneNodesModel_init_251 rfl (lv_at hl 0 rfl) ?_
        replace hm := zb1_s hm
        obtain ⟨a210, h209, hm⟩ := hm
        refine zr_get (ci := 9) (C := R_ZoneNodesModel) (T := F_ZoneNodesModel) (N := 32) hx hb hts in_ZoneNodesModel hown hk hX rfl 6 (by decide) (hts _ tW445) rfl (zgr_v h209) d_ZoneNodesModel_init_252 ?_
        refine lv_iconst (v := 0) hx hb d_ZoneNodesModel_init_255 (by decide) ?_
        refine lv_iload_n hx hb d_ZoneNodesModel_init_256 rfl (lv_at hl 1 rfl) ?_
        replace hm := zb1_s hm
        obtain ⟨X211, h212, hm⟩ := hm
        refine zr_iastore hx hb hk hX hS h212 d_ZoneNodesModel_init_257 (fun H locs hX hS => ?_)
        refine lv_aload_n hx hb d_ZoneNodesModel_init_258 rfl (lv_at hl 0 rfl) ?_
        replace hm := zb1_s hm
        obtain ⟨a214, h213, hm⟩ := hm
        refine zr_get (ci := 9) (C := R_ZoneNodesModel) (T := F_ZoneNodesModel) (N := 32) hx hb hts in_ZoneNodesModel hown hk hX rfl 5 (by decide) (hts _ tW444) rfl (zgr_v h213) d_ZoneNodesModel_init_259 ?_
        refine lv_iconst (v := 0) hx hb d_ZoneNodesModel_init_262 (by decide) ?_
        refine lv_iconst (v := 1) hx hb d_ZoneNodesModel_init_263 (by decide) ?_
        replace hm := zb1_s hm
        obtain ⟨X215, h216, hm⟩ := hm
        refine zr_bastore hx hb hk hX hS h216 d_ZoneNodesModel_init_264 (fun H locs hX hS => ?_)
        refine lv_aload_n hx hb d_ZoneNodesModel_init_265 rfl (lv_at hl 0 rfl) ?_
        replace hm := zb1_s hm
        obtain ⟨a218, h217, hm⟩ := hm
        refine zr_get (ci := 9) (C := R_ZoneNodesModel) (T := F_ZoneNodesModel) (N := 32) hx hb hts in_ZoneNodesModel hown hk hX rfl 7 (by decide) (hts _ tW446) rfl (zgr_v h217) d_ZoneNodesModel_init_266 ?_
        refine lv_iconst (v := 0) hx hb d_ZoneNodesModel_init_269 (by decide) ?_
        refine lv_iconst (v := 3) hx hb d_ZoneNodesModel_init_270 (by decide) ?_
        refine lv_iconst (v := 1) hx hb d_ZoneNodesModel_init_271 (by decide) ?_
        replace hm := zb1_s hm
        obtain ⟨v220, h219, hm⟩ := hm
        refine zr_calli (zr_runS (As := [.int 0, .int 3, .int 1]) (rest := [.ref a218]) (n := 3) hx hb hml hown hts hk hX (c_ZoneNodesModel_place l G N X215 0 3 1 v220 h219) (hts _ tW467) tW468 (hts _ tW469) (hts _ tW470) (by decide +kernel) ⟨Nat.le_of_ble_eq_true rfl, Nat.le_of_ble_eq_true rfl⟩ rfl rfl hl.1 rfl (lv_room (Nat.le_of_ble_eq_true rfl)) d_ZoneNodesModel_init_272 ⟨(Nat.le_of_ble_eq_true rfl), (Nat.le_of_ble_eq_true rfl)⟩) hS (fun H locs hX hS => ?_)
        refine lv_iconst (v := 1) hx hb d_ZoneNodesModel_init_275 (by decide) ?_
        replace hm := zb1_s hm
        obtain ⟨X221, h222, hm⟩ := hm
        refine zr_bastore hx hb hk hX hS h222 d_ZoneNodesModel_init_276 (fun H locs hX hS => ?_)
        refine lv_iconst (v := 0) hx hb d_ZoneNodesModel_init_277 (by decide) ?_
        refine lv_istore (lv' := [(5, .int 0), (0, .ref w0), (1, .int w1), (4, .int w4)]) hx hb d_ZoneNodesModel_init_278 hl (by decide) rfl (fun ls hl => ?_)
        replace hm := zb2_s hm
        obtain ⟨v223, X225, h224, hm⟩ := hm
        refine hL280 N X221 w0 0 v223 X225 _ _ _ h224 hX hS (lv_sub hl [1, 0] rfl) (fun H locs ls hX hS hl => ?_)
        refine lv_aload_n hx hb d_ZoneNodesModel_init_300 rfl (lv_at hl 0 rfl) ?_
        refine lv_iconst (v := 1) hx hb d_ZoneNodesModel_init_301 (by decide) ?_
        refine lv_iconst (v := 1) hx hb d_ZoneNodesModel_init_302 (by decide) ?_
        replace hm := zb1_s hm
        obtain ⟨_, h227, hm⟩ := hm
        replace hm := zb2_s hm
        obtain ⟨v228, X229, h226, hm⟩ := hm
        refine zr_callv (zr_runV (As := [.int 1, .int 1]) (rest := []) (n := 2) hx hb hml hown hts hk hX (c_ZoneNodesModel_rest l G N X225 w0 1 1 v228 X229 h226) (hts _ tW471) tW472 (hts _ tW469) (hts _ tW473) (hts _ tW474) rfl h227 (by decide +kernel) ⟨Nat.le_of_ble_eq_true rfl, Nat.le_of_ble_eq_true rfl⟩ rfl rfl hl.1 rfl (lv_room (Nat.le_of_ble_eq_true rfl)) d_ZoneNodesModel_init_303 ⟨(Nat.le_of_ble_eq_true rfl), (Nat.le_of_ble_eq_true rfl)⟩) hS (fun H locs hX hS => ?_)
        refine lv_aload_n hx hb d_ZoneNodesModel_init_306 rfl (lv_at hl 0 rfl) ?_
        refine lv_iconst (v := 2) hx hb d_ZoneNodesModel_init_307 (by decide) ?_
        refine lv_iconst (v := 1) hx hb d_ZoneNodesModel_init_308 (by decide) ?_
        replace hm := zb1_s hm
        obtain ⟨_, h231, hm⟩ := hm
        replace hm := zb2_s hm
        obtain ⟨v232, X233, h230, hm⟩ := hm
        refine zr_callv (zr_runV (As := [.int 2, .int 1]) (rest := []) (n := 2) hx hb hml hown hts hk hX (c_ZoneNodesModel_rest l G N X229 w0 2 1 v232 X233 h230) (hts _ tW471) tW472 (hts _ tW469) (hts _ tW473) (hts _ tW474) rfl h231 (by decide +kernel) ⟨Nat.le_of_ble_eq_true rfl, Nat.le_of_ble_eq_true rfl⟩ rfl rfl hl.1 rfl (lv_room (Nat.le_of_ble_eq_true rfl)) d_ZoneNodesModel_init_309 ⟨(Nat.le_of_ble_eq_true rfl), (Nat.le_of_ble_eq_true rfl)⟩) hS (fun H locs hX hS => ?_)
        refine lv_aload_n hx hb d_ZoneNodesModel_init_312 rfl (lv_at hl 0 rfl) ?_
        replace hm := zb1_s hm
        obtain ⟨a235, h234, hm⟩ := hm
        refine zr_get (ci := 9) (C := R_ZoneNodesModel) (T := F_ZoneNodesModel) (N := 32) hx hb hts in_ZoneNodesModel hown hk hX rfl 11 (by decide) (hts _ tW448) rfl (zgr_v h234) d_ZoneNodesModel_init_313 ?_
        refine lv_iconst (v := 1) hx hb d_ZoneNodesModel_init_316 (by decide) ?_
        refine lv_aload_n hx hb d_ZoneNodesModel_init_317 rfl (lv_at hl 0 rfl) ?_
        replace hm := zb1_s hm
        obtain ⟨v237, h236, hm⟩ := hm
        refine zr_get (ci := 9) (C := R_ZoneNodesModel) (T := F_ZoneNodesModel) (N := 32) hx hb hts in_ZoneNodesModel hown hk hX rfl 2 (by decide) (hts _ tW466) rfl (zgi_v h236) d_ZoneNodesModel_init_318 ?_
        replace hm := zb1_s hm
        obtain ⟨X238, h239, hm⟩ := hm
        refine zr_iastore hx hb hk hX hS h239 d_ZoneNodesModel_init_321 (fun H locs hX hS => ?_)
        refine lv_aload_n hx hb d_ZoneNodesModel_init_322 rfl (lv_at hl 0 rfl) ?_
        replace hm := zb1_s hm
        obtain ⟨a241, h240, hm⟩ := hm
        refine zr_get (ci := 9) (C := R_ZoneNodesModel) (T := F_ZoneNodesModel) (N := 32) hx hb hts in_ZoneNodesModel hown hk hX rfl 11 (by decide) (hts _ tW448) rfl (zgr_v h240) d_ZoneNodesModel_init_323 ?_
        refine lv_iconst (v := 2) hx hb d_ZoneNodesModel_init_326 (by decide) ?_
        refine lv_aload_n hx hb d_ZoneNodesModel_init_327 rfl (lv_at hl 0 rfl) ?_
        replace hm := zb1_s hm
        obtain ⟨v243, h242, hm⟩ := hm
        refine zr_get (ci := 9) (C := R_ZoneNodesModel) (T := F_ZoneNodesModel) (N := 32) hx hb hts in_ZoneNodesModel hown hk hX rfl 2 (by decide) (hts _ tW466) rfl (zgi_v h242) d_ZoneNodesModel_init_328 ?_
        replace hm := zb1_s hm
        obtain ⟨X244, h245, hm⟩ := hm
        refine zr_iastore hx hb hk hX hS h245 d_ZoneNodesModel_init_331 (fun H locs hX hS => ?_)
        cases hm
        refine W.widen (k := 23) (n := 4074) (Nat.le_of_ble_eq_true rfl) (Nat.le_of_ble_eq_true rfl) ?_
        exact W.vret hx hb hr (fun t ht hW => zh_end hk hX hS ht hW) hS.2.2 d_ZoneNodesModel_init_332
  refine lv_aload_n hx hb d_ZoneNodesModel_init_0 rfl (lv_at hl 0 rfl) ?_
  refine W.objInit hx hb hown (hts _ tW442) (hts _ tW1) (hts _ tW2) rfl (by rw [hml]; exact hl.1) rfl d_ZoneNodesModel_init_1 (Nat.le_of_ble_eq_true rfl) (Nat.le_of_ble_eq_true rfl) ?_
  refine W.eq (g2 := F0 m 4 ls []) rfl ?_
  refine lv_aload_n hx hb d_ZoneNodesModel_init_4 rfl (lv_at hl 0 rfl) ?_
  refine lv_iconst (v := 3) hx hb d_ZoneNodesModel_init_5 (by decide) ?_
  replace hm := zb2_s hm
  obtain ⟨a1, X2, h3, hm⟩ := hm
  refine zr_newaz (n := 3) (N' := 3) hx hb (hts _ tW81) hk hX hS h3 (by decide) rfl (by decide) (Nat.le_of_ble_eq_true rfl) (Nat.le_of_ble_eq_true rfl) d_ZoneNodesModel_init_6 (fun H hX hS => ?_)
  replace hm := zb1_s hm
  obtain ⟨X4, h5, hm⟩ := hm
  refine zr_putF (ci := 9) (C := R_ZoneNodesModel) (T := F_ZoneNodesModel) (N := 32) (ty := (.array .boolean)) (v := .ref a1) hx hb hts in_ZoneNodesModel t_ZoneNodesModel t_ZoneNodesModel_ok n_ZoneNodesModel hown hk hX hS rfl 4 (by decide) (hts _ tW443) rfl rfl hin rfl (by decide +kernel) rfl rfl h5 d_ZoneNodesModel_init_8 (fun H locs hX hS => ?_)
  refine lv_aload_n hx hb d_ZoneNodesModel_init_11 rfl (lv_at hl 0 rfl) ?_
  refine lv_iconst (v := 3) hx hb d_ZoneNodesModel_init_12 (by decide) ?_
  replace hm := zb2_s hm
  obtain ⟨a6, X7, h8, hm⟩ := hm
  refine zr_newaz (n := 3) (N' := 3) hx hb (hts _ tW81) hk hX hS h8 (by decide) rfl (by decide) (Nat.le_of_ble_eq_true rfl) (Nat.le_of_ble_eq_true rfl) d_ZoneNodesModel_init_13 (fun H hX hS => ?_)
  replace hm := zb1_s hm
  obtain ⟨X9, h10, hm⟩ := hm
  refine zr_putF (ci := 9) (C := R_ZoneNodesModel) (T := F_ZoneNodesModel) (N := 32) (ty := (.array .boolean)) (v := .ref a6) hx hb hts in_ZoneNodesModel t_ZoneNodesModel t_ZoneNodesModel_ok n_ZoneNodesModel hown hk hX hS rfl 5 (by decide) (hts _ tW444) rfl rfl hin rfl (by decide +kernel) rfl rfl h10 d_ZoneNodesModel_init_15 (fun H locs hX hS => ?_)
  refine lv_aload_n hx hb d_ZoneNodesModel_init_18 rfl (lv_at hl 0 rfl) ?_
  refine lv_iconst (v := 3) hx hb d_ZoneNodesModel_init_19 (by decide) ?_
  replace hm := zb2_s hm
  obtain ⟨a11, X12, h13, hm⟩ := hm
  refine zr_newai (n := 3) (N' := 3) hx hb (hts _ tW3) hk hX hS h13 (by decide) rfl (by decide) (Nat.le_of_ble_eq_true rfl) (Nat.le_of_ble_eq_true rfl) d_ZoneNodesModel_init_20 (fun H hX hS => ?_)
  replace hm := zb1_s hm
  obtain ⟨X14, h15, hm⟩ := hm
  refine zr_putF (ci := 9) (C := R_ZoneNodesModel) (T := F_ZoneNodesModel) (N := 32) (ty := (.array .int)) (v := .ref a11) hx hb hts in_ZoneNodesModel t_ZoneNodesModel t_ZoneNodesModel_ok n_ZoneNodesModel hown hk hX hS rfl 6 (by decide) (hts _ tW445) rfl rfl hin rfl (by decide +kernel) rfl rfl h15 d_ZoneNodesModel_init_22 (fun H locs hX hS => ?_)
  refine lv_aload_n hx hb d_ZoneNodesModel_init_25 rfl (lv_at hl 0 rfl) ?_
  refine lv_sipush (v := 768) hx hb d_ZoneNodesModel_init_26 (by decide) ?_
  replace hm := zb2_s hm
  obtain ⟨a16, X17, h18, hm⟩ := hm
  refine zr_newaz (n := 768) (N' := 768) hx hb (hts _ tW81) hk hX hS h18 (by decide) rfl (by decide) (Nat.le_of_ble_eq_true rfl) (Nat.le_of_ble_eq_true rfl) d_ZoneNodesModel_init_29 (fun H hX hS => ?_)
  replace hm := zb1_s hm
  obtain ⟨X19, h20, hm⟩ := hm
  refine zr_putF (ci := 9) (C := R_ZoneNodesModel) (T := F_ZoneNodesModel) (N := 32) (ty := (.array .boolean)) (v := .ref a16) hx hb hts in_ZoneNodesModel t_ZoneNodesModel t_ZoneNodesModel_ok n_ZoneNodesModel hown hk hX hS rfl 7 (by decide) (hts _ tW446) rfl rfl hin rfl (by decide +kernel) rfl rfl h20 d_ZoneNodesModel_init_31 (fun H locs hX hS => ?_)
  refine lv_aload_n hx hb d_ZoneNodesModel_init_34 rfl (lv_at hl 0 rfl) ?_
  refine lv_sipush (v := 768) hx hb d_ZoneNodesModel_init_35 (by decide) ?_
  replace hm := zb2_s hm
  obtain ⟨a21, X22, h23, hm⟩ := hm
  refine zr_newaz (n := 768) (N' := 768) hx hb (hts _ tW81) hk hX hS h23 (by decide) rfl (by decide) (Nat.le_of_ble_eq_true rfl) (Nat.le_of_ble_eq_true rfl) d_ZoneNodesModel_init_38 (fun H hX hS => ?_)
  replace hm := zb1_s hm
  obtain ⟨X24, h25, hm⟩ := hm
  refine zr_putF (ci := 9) (C := R_ZoneNodesModel) (T := F_ZoneNodesModel) (N := 32) (ty := (.array .boolean)) (v := .ref a21) hx hb hts in_ZoneNodesModel t_ZoneNodesModel t_ZoneNodesModel_ok n_ZoneNodesModel hown hk hX hS rfl 8 (by decide) (hts _ tW447) rfl rfl hin rfl (by decide +kernel) rfl rfl h25 d_ZoneNodesModel_init_40 (fun H locs hX hS => ?_)
  refine lv_aload_n hx hb d_ZoneNodesModel_init_43 rfl (lv_at hl 0 rfl) ?_
  refine lv_iconst (v := 3) hx hb d_ZoneNodesModel_init_44 (by decide) ?_
  replace hm := zb2_s hm
  obtain ⟨a26, X27, h28, hm⟩ := hm
  refine zr_newai (n := 3) (N' := 3) hx hb (hts _ tW3) hk hX hS h28 (by decide) rfl (by decide) (Nat.le_of_ble_eq_true rfl) (Nat.le_of_ble_eq_true rfl) d_ZoneNodesModel_init_45 (fun H hX hS => ?_)
  replace hm := zb1_s hm
  obtain ⟨X29, h30, hm⟩ := hm
  refine zr_putF (ci := 9) (C := R_ZoneNodesModel) (T := F_ZoneNodesModel) (N := 32) (ty := (.array .int)) (v := .ref a26) hx hb hts in_ZoneNodesModel t_ZoneNodesModel t_ZoneNodesModel_ok n_ZoneNodesModel hown hk hX hS rfl 9 (by decide) (hts _ tW439) rfl rfl hin rfl (by decide +kernel) rfl rfl h30 d_ZoneNodesModel_init_47 (fun H locs hX hS => ?_)
  refine lv_aload_n hx hb d_ZoneNodesModel_init_50 rfl (lv_at hl 0 rfl) ?_
  refine lv_iconst (v := 3) hx hb d_ZoneNodesModel_init_51 (by decide) ?_
  replace hm := zb2_s hm
  obtain ⟨a31, X32, h33, hm⟩ := hm
  refine zr_newai (n := 3) (N' := 3) hx hb (hts _ tW3) hk hX hS h33 (by decide) rfl (by decide) (Nat.le_of_ble_eq_true rfl) (Nat.le_of_ble_eq_true rfl) d_ZoneNodesModel_init_52 (fun H hX hS => ?_)
  replace hm := zb1_s hm
  obtain ⟨X34, h35, hm⟩ := hm
  refine zr_putF (ci := 9) (C := R_ZoneNodesModel) (T := F_ZoneNodesModel) (N := 32) (ty := (.array .int)) (v := .ref a31) hx hb hts in_ZoneNodesModel t_ZoneNodesModel t_ZoneNodesModel_ok n_ZoneNodesModel hown hk hX hS rfl 10 (by decide) (hts _ tW440) rfl rfl hin rfl (by decide +kernel) rfl rfl h35 d_ZoneNodesModel_init_54 (fun H locs hX hS => ?_)
  refine lv_aload_n hx hb d_ZoneNodesModel_init_57 rfl (lv_at hl 0 rfl) ?_
  refine lv_iconst (v := 3) hx hb d_ZoneNodesModel_init_58 (by decide) ?_
  replace hm := zb2_s hm
  obtain ⟨a36, X37, h38, hm⟩ := hm
  refine zr_newai (n := 3) (N' := 3) hx hb (hts _ tW3) hk hX hS h38 (by decide) rfl (by decide) (Nat.le_of_ble_eq_true rfl) (Nat.le_of_ble_eq_true rfl) d_ZoneNodesModel_init_59 (fun H hX hS => ?_)
  replace hm := zb1_s hm
  obtain ⟨X39, h40, hm⟩ := hm
  refine zr_putF (ci := 9) (C := R_ZoneNodesModel) (T := F_ZoneNodesModel) (N := 32) (ty := (.array .int)) (v := .ref a36) hx hb hts in_ZoneNodesModel t_ZoneNodesModel t_ZoneNodesModel_ok n_ZoneNodesModel hown hk hX hS rfl 11 (by decide) (hts _ tW448) rfl rfl hin rfl (by decide +kernel) rfl rfl h40 d_ZoneNodesModel_init_61 (fun H locs hX hS => ?_)
  refine lv_aload_n hx hb d_ZoneNodesModel_init_64 rfl (lv_at hl 0 rfl) ?_
  refine lv_iconst (v := 3) hx hb d_ZoneNodesModel_init_65 (by decide) ?_
  replace hm := zb2_s hm
  obtain ⟨a41, X42, h43, hm⟩ := hm
  refine zr_newaz (n := 3) (N' := 3) hx hb (hts _ tW81) hk hX hS h43 (by decide) rfl (by decide) (Nat.le_of_ble_eq_true rfl) (Nat.le_of_ble_eq_true rfl) d_ZoneNodesModel_init_66 (fun H hX hS => ?_)
  replace hm := zb1_s hm
  obtain ⟨X44, h45, hm⟩ := hm
  refine zr_putF (ci := 9) (C := R_ZoneNodesModel) (T := F_ZoneNodesModel) (N := 32) (ty := (.array .boolean)) (v := .ref a41) hx hb hts in_ZoneNodesModel t_ZoneNodesModel t_ZoneNodesModel_ok n_ZoneNodesModel hown hk hX hS rfl 12 (by decide) (hts _ tW449) rfl rfl hin rfl (by decide +kernel) rfl rfl h45 d_ZoneNodesModel_init_68 (fun H locs hX hS => ?_)
  refine lv_aload_n hx hb d_ZoneNodesModel_init_71 rfl (lv_at hl 0 rfl) ?_
  refine lv_iconst (v := 3) hx hb d_ZoneNodesModel_init_72 (by decide) ?_
  replace hm := zb2_s hm
  obtain ⟨a46, X47, h48, hm⟩ := hm
  refine zr_newai (n := 3) (N' := 3) hx hb (hts _ tW3) hk hX hS h48 (by decide) rfl (by decide) (Nat.le_of_ble_eq_true rfl) (Nat.le_of_ble_eq_true rfl) d_ZoneNodesModel_init_73 (fun H hX hS => ?_)
  replace hm := zb1_s hm
  obtain ⟨X49, h50, hm⟩ := hm
  refine zr_putF (ci := 9) (C := R_ZoneNodesModel) (T := F_ZoneNodesModel) (N := 32) (ty := (.array .int)) (v := .ref a46) hx hb hts in_ZoneNodesModel t_ZoneNodesModel t_ZoneNodesModel_ok n_ZoneNodesModel hown hk hX hS rfl 13 (by decide) (hts _ tW450) rfl rfl hin rfl (by decide +kernel) rfl rfl h50 d_ZoneNodesModel_init_75 (fun H locs hX hS => ?_)
  refine lv_aload_n hx hb d_ZoneNodesModel_init_78 rfl (lv_at hl 0 rfl) ?_
  refine lv_bipush (v := 32) hx hb d_ZoneNodesModel_init_79 (by decide) ?_
  replace hm := zb2_s hm
  obtain ⟨a51, X52, h53, hm⟩ := hm
  refine zr_newai (n := 32) (N' := 32) hx hb (hts _ tW3) hk hX hS h53 (by decide) rfl (by decide) (Nat.le_of_ble_eq_true rfl) (Nat.le_of_ble_eq_true rfl) d_ZoneNodesModel_init_81 (fun H hX hS => ?_)
  replace hm := zb1_s hm
  obtain ⟨X54, h55, hm⟩ := hm
  refine zr_putF (ci := 9) (C := R_ZoneNodesModel) (T := F_ZoneNodesModel) (N := 32) (ty := (.array .int)) (v := .ref a51) hx hb hts in_ZoneNodesModel t_ZoneNodesModel t_ZoneNodesModel_ok n_ZoneNodesModel hown hk hX hS rfl 16 (by decide) (hts _ tW451) rfl rfl hin rfl (by decide +kernel) rfl rfl h55 d_ZoneNodesModel_init_83 (fun H locs hX hS => ?_)
  refine lv_aload_n hx hb d_ZoneNodesModel_init_86 rfl (lv_at hl 0 rfl) ?_
  refine lv_bipush (v := 6) hx hb d_ZoneNodesModel_init_87 (by decide) ?_
  replace hm := zb2_s hm
  obtain ⟨a56, X57, h58, hm⟩ := hm
  refine zr_newai (n := 6) (N' := 6) hx hb (hts _ tW3) hk hX hS h58 (by decide) rfl (by decide) (Nat.le_of_ble_eq_true rfl) (Nat.le_of_ble_eq_true rfl) d_ZoneNodesModel_init_89 (fun H hX hS => ?_)
  replace hm := zb1_s hm
  obtain ⟨X59, h60, hm⟩ := hm
  refine zr_putF (ci := 9) (C := R_ZoneNodesModel) (T := F_ZoneNodesModel) (N := 32) (ty := (.array .int)) (v := .ref a56) hx hb hts in_ZoneNodesModel t_ZoneNodesModel t_ZoneNodesModel_ok n_ZoneNodesModel hown hk hX hS rfl 19 (by decide) (hts _ tW452) rfl rfl hin rfl (by decide +kernel) rfl rfl h60 d_ZoneNodesModel_init_91 (fun H locs hX hS => ?_)
  refine lv_aload_n hx hb d_ZoneNodesModel_init_94 rfl (lv_at hl 0 rfl) ?_
  refine lv_bipush (v := 6) hx hb d_ZoneNodesModel_init_95 (by decide) ?_
  replace hm := zb2_s hm
  obtain ⟨a61, X62, h63, hm⟩ := hm
  refine zr_newaz (n := 6) (N' := 6) hx hb (hts _ tW81) hk hX hS h63 (by decide) rfl (by decide) (Nat.le_of_ble_eq_true rfl) (Nat.le_of_ble_eq_true rfl) d_ZoneNodesModel_init_97 (fun H hX hS => ?_)
  replace hm := zb1_s hm
  obtain ⟨X64, h65, hm⟩ := hm
  refine zr_putF (ci := 9) (C := R_ZoneNodesModel) (T := F_ZoneNodesModel) (N := 32) (ty := (.array .boolean)) (v := .ref a61) hx hb hts in_ZoneNodesModel t_ZoneNodesModel t_ZoneNodesModel_ok n_ZoneNodesModel hown hk hX hS rfl 20 (by decide) (hts _ tW453) rfl rfl hin rfl (by decide +kernel) rfl rfl h65 d_ZoneNodesModel_init_99 (fun H locs hX hS => ?_)
  refine lv_aload_n hx hb d_ZoneNodesModel_init_102 rfl (lv_at hl 0 rfl) ?_
  refine lv_sipush (v := 1536) hx hb d_ZoneNodesModel_init_103 (by decide) ?_
  replace hm := zb2_s hm
  obtain ⟨a66, X67, h68, hm⟩ := hm
  refine zr_newaz (n := 1536) (N' := 1536) hx hb (hts _ tW81) hk hX hS h68 (by decide) rfl (by decide) (Nat.le_of_ble_eq_true rfl) (Nat.le_of_ble_eq_true rfl) d_ZoneNodesModel_init_106 (fun H hX hS => ?_)
  replace hm := zb1_s hm
  obtain ⟨X69, h70, hm⟩ := hm
  refine zr_putF (ci := 9) (C := R_ZoneNodesModel) (T := F_ZoneNodesModel) (N := 32) (ty := (.array .boolean)) (v := .ref a66) hx hb hts in_ZoneNodesModel t_ZoneNodesModel t_ZoneNodesModel_ok n_ZoneNodesModel hown hk hX hS rfl 21 (by decide) (hts _ tW454) rfl rfl hin rfl (by decide +kernel) rfl rfl h70 d_ZoneNodesModel_init_108 (fun H locs hX hS => ?_)
  refine lv_aload_n hx hb d_ZoneNodesModel_init_111 rfl (lv_at hl 0 rfl) ?_
  refine lv_bipush (v := 6) hx hb d_ZoneNodesModel_init_112 (by decide) ?_
  replace hm := zb2_s hm
  obtain ⟨a71, X72, h73, hm⟩ := hm
  refine zr_newai (n := 6) (N' := 6) hx hb (hts _ tW3) hk hX hS h73 (by decide) rfl (by decide) (Nat.le_of_ble_eq_true rfl) (Nat.le_of_ble_eq_true rfl) d_ZoneNodesModel_init_114 (fun H hX hS => ?_)
  replace hm := zb1_s hm
  obtain ⟨X74, h75, hm⟩ := hm
  refine zr_putF (ci := 9) (C := R_ZoneNodesModel) (T := F_ZoneNodesModel) (N := 32) (ty := (.array .int)) (v := .ref a71) hx hb hts in_ZoneNodesModel t_ZoneNodesModel t_ZoneNodesModel_ok n_ZoneNodesModel hown hk hX hS rfl 22 (by decide) (hts _ tW455) rfl rfl hin rfl (by decide +kernel) rfl rfl h75 d_ZoneNodesModel_init_116 (fun H locs hX hS => ?_)
  refine lv_aload_n hx hb d_ZoneNodesModel_init_119 rfl (lv_at hl 0 rfl) ?_
  refine lv_sipush (v := 256) hx hb d_ZoneNodesModel_init_120 (by decide) ?_
  replace hm := zb2_s hm
  obtain ⟨a76, X77, h78, hm⟩ := hm
  refine zr_newaz (n := 256) (N' := 256) hx hb (hts _ tW81) hk hX hS h78 (by decide) rfl (by decide) (Nat.le_of_ble_eq_true rfl) (Nat.le_of_ble_eq_true rfl) d_ZoneNodesModel_init_123 (fun H hX hS => ?_)
  replace hm := zb1_s hm
  obtain ⟨X79, h80, hm⟩ := hm
  refine zr_putF (ci := 9) (C := R_ZoneNodesModel) (T := F_ZoneNodesModel) (N := 32) (ty := (.array .boolean)) (v := .ref a76) hx hb hts in_ZoneNodesModel t_ZoneNodesModel t_ZoneNodesModel_ok n_ZoneNodesModel hown hk hX hS rfl 23 (by decide) (hts _ tW456) rfl rfl hin rfl (by decide +kernel) rfl rfl h80 d_ZoneNodesModel_init_125 (fun H locs hX hS => ?_)
  refine lv_aload_n hx hb d_ZoneNodesModel_init_128 rfl (lv_at hl 0 rfl) ?_
  refine lv_bipush (v := 96) hx hb d_ZoneNodesModel_init_129 (by decide) ?_
  replace hm := zb2_s hm
  obtain ⟨a81, X82, h83, hm⟩ := hm
  refine zr_newai (n := 96) (N' := 96) hx hb (hts _ tW3) hk hX hS h83 (by decide) rfl (by decide) (Nat.le_of_ble_eq_true rfl) (Nat.le_of_ble_eq_true rfl) d_ZoneNodesModel_init_131 (fun H hX hS => ?_)
  replace hm := zb1_s hm
  obtain ⟨X84, h85, hm⟩ := hm
  refine zr_putF (ci := 9) (C := R_ZoneNodesModel) (T := F_ZoneNodesModel) (N := 32) (ty := (.array .int)) (v := .ref a81) hx hb hts in_ZoneNodesModel t_ZoneNodesModel t_ZoneNodesModel_ok n_ZoneNodesModel hown hk hX hS rfl 25 (by decide) (hts _ tW457) rfl rfl hin rfl (by decide +kernel) rfl rfl h85 d_ZoneNodesModel_init_133 (fun H locs hX hS => ?_)
  refine lv_aload_n hx hb d_ZoneNodesModel_init_136 rfl (lv_at hl 0 rfl) ?_
  refine lv_bipush (v := 96) hx hb d_ZoneNodesModel_init_137 (by decide) ?_
  replace hm := zb2_s hm
  obtain ⟨a86, X87, h88, hm⟩ := hm
  refine zr_newai (n := 96) (N' := 96) hx hb (hts _ tW3) hk hX hS h88 (by decide) rfl (by decide) (Nat.le_of_ble_eq_true rfl) (Nat.le_of_ble_eq_true rfl) d_ZoneNodesModel_init_139 (fun H hX hS => ?_)
  replace hm := zb1_s hm
  obtain ⟨X89, h90, hm⟩ := hm
  refine zr_putF (ci := 9) (C := R_ZoneNodesModel) (T := F_ZoneNodesModel) (N := 32) (ty := (.array .int)) (v := .ref a86) hx hb hts in_ZoneNodesModel t_ZoneNodesModel t_ZoneNodesModel_ok n_ZoneNodesModel hown hk hX hS rfl 26 (by decide) (hts _ tW458) rfl rfl hin rfl (by decide +kernel) rfl rfl h90 d_ZoneNodesModel_init_141 (fun H locs hX hS => ?_)
  refine lv_aload_n hx hb d_ZoneNodesModel_init_144 rfl (lv_at hl 0 rfl) ?_
  refine lv_bipush (v := 96) hx hb d_ZoneNodesModel_init_145 (by decide) ?_
  replace hm := zb2_s hm
  obtain ⟨a91, X92, h93, hm⟩ := hm
  refine zr_newai (n := 96) (N' := 96) hx hb (hts _ tW3) hk hX hS h93 (by decide) rfl (by decide) (Nat.le_of_ble_eq_true rfl) (Nat.le_of_ble_eq_true rfl) d_ZoneNodesModel_init_147 (fun H hX hS => ?_)
  replace hm := zb1_s hm
  obtain ⟨X94, h95, hm⟩ := hm
  refine zr_putF (ci := 9) (C := R_ZoneNodesModel) (T := F_ZoneNodesModel) (N := 32) (ty := (.array .int)) (v := .ref a91) hx hb hts in_ZoneNodesModel t_ZoneNodesModel t_ZoneNodesModel_ok n_ZoneNodesModel hown hk hX hS rfl 27 (by decide) (hts _ tW459) rfl rfl hin rfl (by decide +kernel) rfl rfl h95 d_ZoneNodesModel_init_149 (fun H locs hX hS => ?_)
  refine lv_aload_n hx hb d_ZoneNodesModel_init_152 rfl (lv_at hl 0 rfl) ?_
  refine lv_bipush (v := 96) hx hb d_ZoneNodesModel_init_153 (by decide) ?_
  replace hm := zb2_s hm
  obtain ⟨a96, X97, h98, hm⟩ := hm
  refine zr_newai (n := 96) (N' := 96) hx hb (hts _ tW3) hk hX hS h98 (by decide) rfl (by decide) (Nat.le_of_ble_eq_true rfl) (Nat.le_of_ble_eq_true rfl) d_ZoneNodesModel_init_155 (fun H hX hS => ?_)
  replace hm := zb1_s hm
  obtain ⟨X99, h100, hm⟩ := hm
  refine zr_putF (ci := 9) (C := R_ZoneNodesModel) (T := F_ZoneNodesModel) (N := 32) (ty := (.array .int)) (v := .ref a96) hx hb hts in_ZoneNodesModel t_ZoneNodesModel t_ZoneNodesModel_ok n_ZoneNodesModel hown hk hX hS rfl 28 (by decide) (hts _ tW460) rfl rfl hin rfl (by decide +kernel) rfl rfl h100 d_ZoneNodesModel_init_157 (fun H locs hX hS => ?_)
  refine lv_aload_n hx hb d_ZoneNodesModel_init_160 rfl (lv_at hl 0 rfl) ?_
  refine lv_bipush (v := 96) hx hb d_ZoneNodesModel_init_161 (by decide) ?_
  replace hm := zb2_s hm
  obtain ⟨a101, X102, h103, hm⟩ := hm
  refine zr_newai (n := 96) (N' := 96) hx hb (hts _ tW3) hk hX hS h103 (by decide) rfl (by decide) (Nat.le_of_ble_eq_true rfl) (Nat.le_of_ble_eq_true rfl) d_ZoneNodesModel_init_163 (fun H hX hS => ?_)
  replace hm := zb1_s hm
  obtain ⟨X104, h105, hm⟩ := hm
  refine zr_putF (ci := 9) (C := R_ZoneNodesModel) (T := F_ZoneNodesModel) (N := 32) (ty := (.array .int)) (v := .ref a101) hx hb hts in_ZoneNodesModel t_ZoneNodesModel t_ZoneNodesModel_ok n_ZoneNodesModel hown hk hX hS rfl 29 (by decide) (hts _ tW461) rfl rfl hin rfl (by decide +kernel) rfl rfl h105 d_ZoneNodesModel_init_165 (fun H locs hX hS => ?_)
  refine lv_aload_n hx hb d_ZoneNodesModel_init_168 rfl (lv_at hl 0 rfl) ?_
  refine lv_bipush (v := 96) hx hb d_ZoneNodesModel_init_169 (by decide) ?_
  replace hm := zb2_s hm
  obtain ⟨a106, X107, h108, hm⟩ := hm
  refine zr_newaz (n := 96) (N' := 96) hx hb (hts _ tW81) hk hX hS h108 (by decide) rfl (by decide) (Nat.le_of_ble_eq_true rfl) (Nat.le_of_ble_eq_true rfl) d_ZoneNodesModel_init_171 (fun H hX hS => ?_)
  replace hm := zb1_s hm
  obtain ⟨X109, h110, hm⟩ := hm
  refine zr_putF (ci := 9) (C := R_ZoneNodesModel) (T := F_ZoneNodesModel) (N := 32) (ty := (.array .boolean)) (v := .ref a106) hx hb hts in_ZoneNodesModel t_ZoneNodesModel t_ZoneNodesModel_ok n_ZoneNodesModel hown hk hX hS rfl 30 (by decide) (hts _ tW462) rfl rfl hin rfl (by decide +kernel) rfl rfl h110 d_ZoneNodesModel_init_173 (fun H locs hX hS => ?_)
  refine lv_aload_n hx hb d_ZoneNodesModel_init_176 rfl (lv_at hl 0 rfl) ?_
  refine lv_bipush (v := 96) hx hb d_ZoneNodesModel_init_177 (by decide) ?_
  replace hm := zb2_s hm
  obtain ⟨a111, X112, h113, hm⟩ := hm
  refine zr_newaz (n := 96) (N' := 96) hx hb (hts _ tW81) hk hX hS h113 (by decide) rfl (by decide) (Nat.le_of_ble_eq_true rfl) (Nat.le_of_ble_eq_true rfl) d_ZoneNodesModel_init_179 (fun H hX hS => ?_)
  replace hm := zb1_s hm
  obtain ⟨X114, h115, hm⟩ := hm
  refine zr_putF (ci := 9) (C := R_ZoneNodesModel) (T := F_ZoneNodesModel) (N := 32) (ty := (.array .boolean)) (v := .ref a111) hx hb hts in_ZoneNodesModel t_ZoneNodesModel t_ZoneNodesModel_ok n_ZoneNodesModel hown hk hX hS rfl 31 (by decide) (hts _ tW463) rfl rfl hin rfl (by decide +kernel) rfl rfl h115 d_ZoneNodesModel_init_181 (fun H locs hX hS => ?_)
  refine lv_aload_n hx hb d_ZoneNodesModel_init_184 rfl (lv_at hl 0 rfl) ?_
  refine lv_iload_n hx hb d_ZoneNodesModel_init_185 rfl (lv_at hl 2 rfl) ?_
  refine lv_iconst (v := 4) hx hb d_ZoneNodesModel_init_186 (by decide) ?_
  refine lv_icmp_lt (tgt := 200) hx hb d_ZoneNodesModel_init_187 rfl (fun h116 => ?_) (fun h116 => ?_)
  · replace hm := zi_t h116 hm
    refine lv_bipush (v := 10) hx hb d_ZoneNodesModel_init_200 (by decide) ?_
    replace hm := zb1_s hm
    obtain ⟨X117, h118, hm⟩ := hm
    refine zr_putF (ci := 9) (C := R_ZoneNodesModel) (T := F_ZoneNodesModel) (N := 32) (ty := .int) (v := .int 10) hx hb hts in_ZoneNodesModel t_ZoneNodesModel t_ZoneNodesModel_ok n_ZoneNodesModel hown hk hX hS rfl 0 (by decide) (hts _ tW464) rfl rfl hin rfl (by decide +kernel) rfl rfl h118 d_ZoneNodesModel_init_202 (fun H locs hX hS => ?_)
    refine lv_aload_n hx hb d_ZoneNodesModel_init_205 rfl (lv_at hl 0 rfl) ?_
    refine lv_iload_n hx hb d_ZoneNodesModel_init_206 rfl (lv_at hl 3 rfl) ?_
    refine lv_iconst (v := 2) hx hb d_ZoneNodesModel_init_207 (by decide) ?_
    refine lv_icmp_lt (tgt := 221) hx hb d_ZoneNodesModel_init_208 rfl (fun h119 => ?_) (fun h119 => ?_)
    · replace hm := zi_t h119 hm
      refine lv_iconst (v := 4) hx hb d_ZoneNodesModel_init_221 (by decide) ?_
      exact hJ222 X117 x0 x1 x4 x0 4 _ _ _ hm hX hS (lv_sub hl [0, 1, 4] rfl)
    · replace hm := zi_f h119 hm
      refine lv_iload_n hx hb d_ZoneNodesModel_init_211 rfl (lv_at hl 3 rfl) ?_
      refine lv_bipush (v := 20) hx hb d_ZoneNodesModel_init_212 (by decide) ?_
      refine lv_icmp_gt (tgt := 221) hx hb d_ZoneNodesModel_init_214 rfl (fun h246 => ?_) (fun h246 => ?_)
      · replace hm := zi_t h246 hm
        refine lv_iconst (v := 4) hx hb d_ZoneNodesModel_init_221 (by decide) ?_
        exact hJ222 X117 x0 x1 x4 x0 4 _ _ _ hm hX hS (lv_sub hl [0, 1, 4] rfl)
      · replace hm := zi_f h246 hm
        refine lv_iload_n hx hb d_ZoneNodesModel_init_217 rfl (lv_at hl 3 rfl) ?_
        refine lv_goto (tgt := 222) hx hb d_ZoneNodesModel_init_218 rfl ?_
        exact hJ222 X117 x0 x1 x4 x0 x3 _ _ _ hm hX hS (lv_sub hl [0, 1, 4] rfl)
  · replace hm := zi_f h116 hm
    refine lv_iload_n hx hb d_ZoneNodesModel_init_190 rfl (lv_at hl 2 rfl) ?_
    refine lv_bipush (v := 50) hx hb d_ZoneNodesModel_init_191 (by decide) ?_
    refine lv_icmp_gt (tgt := 200) hx hb d_ZoneNodesModel_init_193 rfl (fun h247 => ?_) (fun h247 => ?_)
    · replace hm := zi_t h247 hm
      refine lv_bipush (v := 10) hx hb d_ZoneNodesModel_init_200 (by decide) ?_
      replace hm := zb1_s hm
      obtain ⟨X248, h249, hm⟩ := hm
      refine zr_putF (ci := 9) (C := R_ZoneNodesModel) (T := F_ZoneNodesModel) (N := 32) (ty := .int) (v := .int 10) hx hb hts in_ZoneNodesModel t_ZoneNodesModel t_ZoneNodesModel_ok n_ZoneNodesModel hown hk hX hS rfl 0 (by decide) (hts _ tW464) rfl rfl hin rfl (by decide +kernel) rfl rfl h249 d_ZoneNodesModel_init_202 (fun H locs hX hS => ?_)
      refine lv_aload_n hx hb d_ZoneNodesModel_init_205 rfl (lv_at hl 0 rfl) ?_
      refine lv_iload_n hx hb d_ZoneNodesModel_init_206 rfl (lv_at hl 3 rfl) ?_
      refine lv_iconst (v := 2) hx hb d_ZoneNodesModel_init_207 (by decide) ?_
      refine lv_icmp_lt (tgt := 221) hx hb d_ZoneNodesModel_init_208 rfl (fun h250 => ?_) (fun h250 => ?_)
      · replace hm := zi_t h250 hm
        refine lv_iconst (v := 4) hx hb d_ZoneNodesModel_init_221 (by decide) ?_
        exact hJ222 X248 x0 x1 x4 x0 4 _ _ _ hm hX hS (lv_sub hl [0, 1, 4] rfl)
      · replace hm := zi_f h250 hm
        refine lv_iload_n hx hb d_ZoneNodesModel_init_211 rfl (lv_at hl 3 rfl) ?_
        refine lv_bipush (v := 20) hx hb d_ZoneNodesModel_init_212 (by decide) ?_
        refine lv_icmp_gt (tgt := 221) hx hb d_ZoneNodesModel_init_214 rfl (fun h251 => ?_) (fun h251 => ?_)
        · replace hm := zi_t h251 hm
          refine lv_iconst (v := 4) hx hb d_ZoneNodesModel_init_221 (by decide) ?_
          exact hJ222 X248 x0 x1 x4 x0 4 _ _ _ hm hX hS (lv_sub hl [0, 1, 4] rfl)
        · replace hm := zi_f h251 hm
          refine lv_iload_n hx hb d_ZoneNodesModel_init_217 rfl (lv_at hl 3 rfl) ?_
          refine lv_goto (tgt := 222) hx hb d_ZoneNodesModel_init_218 rfl ?_
          exact hJ222 X248 x0 x1 x4 x0 x3 _ _ _ hm hX hS (lv_sub hl [0, 1, 4] rfl)
    · replace hm := zi_f h247 hm
      refine lv_iload_n hx hb d_ZoneNodesModel_init_196 rfl (lv_at hl 2 rfl) ?_
      refine lv_goto (tgt := 202) hx hb d_ZoneNodesModel_init_197 rfl ?_
      replace hm := zb1_s hm
      obtain ⟨X252, h253, hm⟩ := hm
      refine zr_putF (ci := 9) (C := R_ZoneNodesModel) (T := F_ZoneNodesModel) (N := 32) (ty := .int) (v := .int x2) hx hb hts in_ZoneNodesModel t_ZoneNodesModel t_ZoneNodesModel_ok n_ZoneNodesModel hown hk hX hS rfl 0 (by decide) (hts _ tW464) rfl rfl hin rfl (by decide +kernel) rfl rfl h253 d_ZoneNodesModel_init_202 (fun H locs hX hS => ?_)
      refine lv_aload_n hx hb d_ZoneNodesModel_init_205 rfl (lv_at hl 0 rfl) ?_
      refine lv_iload_n hx hb d_ZoneNodesModel_init_206 rfl (lv_at hl 3 rfl) ?_
      refine lv_iconst (v := 2) hx hb d_ZoneNodesModel_init_207 (by decide) ?_
      refine lv_icmp_lt (tgt := 221) hx hb d_ZoneNodesModel_init_208 rfl (fun h254 => ?_) (fun h254 => ?_)
      · replace hm := zi_t h254 hm
        refine lv_iconst (v := 4) hx hb d_ZoneNodesModel_init_221 (by decide) ?_
        exact hJ222 X252 x0 x1 x4 x0 4 _ _ _ hm hX hS (lv_sub hl [0, 1, 4] rfl)
      · replace hm := zi_f h254 hm
        refine lv_iload_n hx hb d_ZoneNodesModel_init_211 rfl (lv_at hl 3 rfl) ?_
        refine lv_bipush (v := 20) hx hb d_ZoneNodesModel_init_212 (by decide) ?_
        refine lv_icmp_gt (tgt := 221) hx hb d_ZoneNodesModel_init_214 rfl (fun h255 => ?_) (fun h255 => ?_)
        · replace hm := zi_t h255 hm
          refine lv_iconst (v := 4) hx hb d_ZoneNodesModel_init_221 (by decide) ?_
          exact hJ222 X252 x0 x1 x4 x0 4 _ _ _ hm hX hS (lv_sub hl [0, 1, 4] rfl)
        · replace hm := zi_f h255 hm
          refine lv_iload_n hx hb d_ZoneNodesModel_init_217 rfl (lv_at hl 3 rfl) ?_
          refine lv_goto (tgt := 222) hx hb d_ZoneNodesModel_init_218 rfl ?_
          exact hJ222 X252 x0 x1 x4 x0 x3 _ _ _ hm hX hS (lv_sub hl [0, 1, 4] rfl)
