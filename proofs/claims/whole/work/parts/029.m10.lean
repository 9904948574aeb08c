set_option maxHeartbeats 4000000 in
set_option maxRecDepth 100000 in
theorem c_ZoneNodesModel_drop (l : Launch) (G : zh_G) (N : Nat) (X : zh_T) (x0 : Nat) (x1 : Int32) (r : Int32) (X' : zh_T) (hm : f_ZoneNodesModel_drop N X x0 x1 = some (r, X')) : zM l G y_ZoneNodesModel_drop w_ZoneNodesModel_drop 1 22 X [.ref x0, .int x1] (some (.int r)) X' 0 0 := by
  refine zr_ofW (by decide) (by exact Nat.le_of_ble_eq_true rfl) ?_
  intro p e s m args below meth c ls hx hb hml hr hts hown hin hlocks hk hX hl
  have hS : va_S (zh_A G) s.heap s.heap [] := va_S.rf
  have hl : lv_has ls 2 [(0, .ref x0), (1, .int x1)] := hl
  have hown : s.vm.findClass R_ZoneNodesModel = some m.cls := hown
  unfold f_ZoneNodesModel_drop at hm
  refine lv_aload_n hx hb d_ZoneNodesModel_drop_0 rfl (lv_at hl 0 rfl) ?_
  refine lv_iload_n hx hb d_ZoneNodesModel_drop_1 rfl (lv_at hl 1 rfl) ?_
  replace hm := zb1_s hm
  obtain ⟨_, h2, hm⟩ := hm
  replace hm := zb1_s hm
  obtain ⟨v3, h1, hm⟩ := hm
  refine zr_calli (zr_runV (As := [.int x1]) (rest := []) (n := 1) hx hb hml hown hts hk hX (c_ZoneNodesModel_isMessage l G N X x0 x1 v3 h1) (hts _ tW476) tW477 (hts _ tW469) (hts _ tW478) (hts _ tW479) rfl h2 (by decide +kernel) ⟨Nat.le_of_ble_eq_true rfl, Nat.le_of_ble_eq_true rfl⟩ rfl rfl hl.1 rfl (lv_room (Nat.le_of_ble_eq_true rfl)) d_ZoneNodesModel_drop_2 ⟨(Nat.le_of_ble_eq_true rfl), (Nat.le_of_ble_eq_true rfl)⟩) hS (fun H locs hX hS => ?_)
  refine lv_if_eq (tgt := 18) hx hb d_ZoneNodesModel_drop_5 rfl (fun h4 => ?_) (fun h4 => ?_)
  · replace hm := zi_t h4 hm
    refine lv_iconst (v := 0) hx hb d_ZoneNodesModel_drop_18 (by decide) ?_
    cases hm
    exact W.zret hx hb hr (by decide) (fun t ht hW => zh_end hk hX hS ht hW) hS.2.2 d_ZoneNodesModel_drop_19
  · replace hm := zi_f h4 hm
    refine lv_aload_n hx hb d_ZoneNodesModel_drop_8 rfl (lv_at hl 0 rfl) ?_
    replace hm := zb1_s hm
    obtain ⟨a6, h5, hm⟩ := hm
    refine zr_get (ci := 9) (C := R_ZoneNodesModel) (T := F_ZoneNodesModel) (N := 32) hx hb hts in_ZoneNodesModel hown hk hX rfl 25 (by decide) (hts _ tW457) rfl (zgr_v h5) d_ZoneNodesModel_drop_9 ?_
    refine lv_iload_n hx hb d_ZoneNodesModel_drop_12 rfl (lv_at hl 1 rfl) ?_
    replace hm := zb1_s hm
    obtain ⟨v7, h8, hm⟩ := hm
    refine zr_iaload hx hb hk hX h8 d_ZoneNodesModel_drop_13 ?_
    refine lv_iconst (v := 4) hx hb d_ZoneNodesModel_drop_14 (by decide) ?_
    refine lv_icmp_lt (tgt := 20) hx hb d_ZoneNodesModel_drop_15 rfl (fun h9 => ?_) (fun h9 => ?_)
    · replace hm := zi_t h9 hm
      refine lv_aload_n hx hb d_ZoneNodesModel_drop_20 rfl (lv_at hl 0 rfl) ?_
      refine lv_iload_n hx hb d_ZoneNodesModel_drop_21 rfl (lv_at hl 1 rfl) ?_
      replace hm := zb1_s hm
      obtain ⟨_, h11, hm⟩ := hm
      replace hm := zb2_s hm
      obtain ⟨v12, X13, h10, hm⟩ := hm
      refine zr_callv (zr_runV (As := [.int x1]) (rest := []) (n := 1) hx hb hml hown hts hk hX (c_ZoneNodesModel_remove l G N X x0 x1 v12 X13 h10) (hts _ tW489) tW490 (hts _ tW469) (hts _ tW491) (hts _ tW492) rfl h11 (by decide +kernel) ⟨Nat.le_of_ble_eq_true rfl, Nat.le_of_ble_eq_true rfl⟩ rfl rfl hl.1 rfl (lv_room (Nat.le_of_ble_eq_true rfl)) d_ZoneNodesModel_drop_22 ⟨(Nat.le_of_ble_eq_true rfl), (Nat.le_of_ble_eq_true rfl)⟩) hS (fun H locs hX hS => ?_)
      refine lv_iconst (v := 1) hx hb d_ZoneNodesModel_drop_25 (by decide) ?_
      cases hm
      exact W.zret hx hb hr (by decide) (fun t ht hW => zh_end hk hX hS ht hW) hS.2.2 d_ZoneNodesModel_drop_26
    · replace hm := zi_f h9 hm
      refine lv_iconst (v := 0) hx hb d_ZoneNodesModel_drop_18 (by decide) ?_
      cases hm
      exact W.zret hx hb hr (by decide) (fun t ht hW => zh_end hk hX hS ht hW) hS.2.2 d_ZoneNodesModel_drop_19
set_option maxHeartbeats 4000000 in
set_option maxRecDepth 100000 in
theorem c_ZoneNodesModel_has (l : Launch) (G : zh_G) (N : Nat) (X : zh_T) (x0 : Nat) (x1 : Int32) (x2 : Int32) (x3 : Int32) (x4 : Int32) (r : Int32) (hm : f_ZoneNodesModel_has N X x0 x1 x2 x3 x4 = some r) : zM l G y_ZoneNodesModel_has w_ZoneNodesModel_has 1 22 X [.ref x0, .int x1, .int x2, .int x3, .int x4] (some (.int r)) X 0 0 := by
  refine zr_ofW (by decide) (by exact Nat.le_of_ble_eq_true rfl) ?_
  intro p e s m args below meth c ls hx hb hml hr hts hown hin hlocks hk hX hl
  have hS : va_S (zh_A G) s.heap s.heap [] := va_S.rf
  have hl : lv_has ls 5 [(0, .ref x0), (1, .int x1), (2, .int x2), (3, .int x3), (4, .int x4)] := hl
  have hown : s.vm.findClass R_ZoneNodesModel = some m.cls := hown
  unfold f_ZoneNodesModel_has at hm
  refine lv_iload_n hx hb d_ZoneNodesModel_has_0 rfl (lv_at hl 1 rfl) ?_
  replace hm := zb1_s hm
  obtain ⟨v2, h1, hm⟩ := hm
  refine zr_calli (zr_runS (As := [.int x1]) (rest := []) (n := 1) hx hb hml hown hts hk hX (c_ZoneNodesModel_isNode l G N X x1 v2 h1) (hts _ tW493) tW494 (hts _ tW469) (hts _ tW495) (by decide +kernel) ⟨Nat.le_of_ble_eq_true rfl, Nat.le_of_ble_eq_true rfl⟩ rfl rfl hl.1 rfl (lv_room (Nat.le_of_ble_eq_true rfl)) d_ZoneNodesModel_has_1 ⟨(Nat.le_of_ble_eq_true rfl), (Nat.le_of_ble_eq_true rfl)⟩) hS (fun H locs hX hS => ?_)
  refine lv_if_eq (tgt := 51) hx hb d_ZoneNodesModel_has_4 rfl (fun h3 => ?_) (fun h3 => ?_)
  · replace hm := zi_t h3 hm
    refine lv_iconst (v := 0) hx hb d_ZoneNodesModel_has_51 (by decide) ?_
    cases hm
    exact W.zret hx hb hr (by decide) (fun t ht hW => zh_end hk hX hS ht hW) hS.2.2 d_ZoneNodesModel_has_52
  · replace hm := zi_f h3 hm
    refine lv_aload_n hx hb d_ZoneNodesModel_has_7 rfl (lv_at hl 0 rfl) ?_
    replace hm := zb1_s hm
    obtain ⟨a5, h4, hm⟩ := hm
    refine zr_get (ci := 9) (C := R_ZoneNodesModel) (T := F_ZoneNodesModel) (N := 32) hx hb hts in_ZoneNodesModel hown hk hX rfl 5 (by decide) (hts _ tW444) rfl (zgr_v h4) d_ZoneNodesModel_has_8 ?_
    refine lv_iload_n hx hb d_ZoneNodesModel_has_11 rfl (lv_at hl 1 rfl) ?_
    replace hm := zb1_s hm
    obtain ⟨v6, h7, hm⟩ := hm
    refine zr_baload hx hb hk hX h7 d_ZoneNodesModel_has_12 ?_
    refine lv_if_eq (tgt := 51) hx hb d_ZoneNodesModel_has_13 rfl (fun h8 => ?_) (fun h8 => ?_)
    · replace hm := zi_t h8 hm
      refine lv_iconst (v := 0) hx hb d_ZoneNodesModel_has_51 (by decide) ?_
      cases hm
      exact W.zret hx hb hr (by decide) (fun t ht hW => zh_end hk hX hS ht hW) hS.2.2 d_ZoneNodesModel_has_52
    · replace hm := zi_f h8 hm
      refine lv_iload_n hx hb d_ZoneNodesModel_has_16 rfl (lv_at hl 2 rfl) ?_
      refine lv_iload_n hx hb d_ZoneNodesModel_has_17 rfl (lv_at hl 3 rfl) ?_
      refine lv_iload hx hb d_ZoneNodesModel_has_18 (lv_at hl 4 rfl) ?_
      replace hm := zb1_s hm
      obtain ⟨v10, h9, hm⟩ := hm
      refine zr_calli (zr_runS (As := [.int x2, .int x3, .int x4]) (rest := []) (n := 3) hx hb hml hown hts hk hX (c_ZoneNodesModel_isRecord l G N X x2 x3 x4 v10 h9) (hts _ tW481) tW482 (hts _ tW469) (hts _ tW483) (by decide +kernel) ⟨Nat.le_of_ble_eq_true rfl, Nat.le_of_ble_eq_true rfl⟩ rfl rfl hl.1 rfl (lv_room (Nat.le_of_ble_eq_true rfl)) d_ZoneNodesModel_has_20 ⟨(Nat.le_of_ble_eq_true rfl), (Nat.le_of_ble_eq_true rfl)⟩) hS (fun H locs hX hS => ?_)
      refine lv_if_eq (tgt := 51) hx hb d_ZoneNodesModel_has_23 rfl (fun h11 => ?_) (fun h11 => ?_)
      · replace hm := zi_t h11 hm
        refine lv_iconst (v := 0) hx hb d_ZoneNodesModel_has_51 (by decide) ?_
        cases hm
        exact W.zret hx hb hr (by decide) (fun t ht hW => zh_end hk hX hS ht hW) hS.2.2 d_ZoneNodesModel_has_52
      · replace hm := zi_f h11 hm
        refine lv_aload_n hx hb d_ZoneNodesModel_has_26 rfl (lv_at hl 0 rfl) ?_
        replace hm := zb1_s hm
        obtain ⟨a13, h12, hm⟩ := hm
        refine zr_get (ci := 9) (C := R_ZoneNodesModel) (T := F_ZoneNodesModel) (N := 32) hx hb hts in_ZoneNodesModel hown hk hX rfl 7 (by decide) (hts _ tW446) rfl (zgr_v h12) d_ZoneNodesModel_has_27 ?_
        refine lv_sipush (v := 256) hx hb d_ZoneNodesModel_has_30 (by decide) ?_
        refine lv_iload_n hx hb d_ZoneNodesModel_has_33 rfl (lv_at hl 1 rfl) ?_
        refine lv_imul hx hb d_ZoneNodesModel_has_34 ?_
        refine lv_iload_n hx hb d_ZoneNodesModel_has_35 rfl (lv_at hl 2 rfl) ?_
        refine lv_iload_n hx hb d_ZoneNodesModel_has_36 rfl (lv_at hl 3 rfl) ?_
        refine lv_iload hx hb d_ZoneNodesModel_has_37 (lv_at hl 4 rfl) ?_
        replace hm := zb1_s hm
        obtain ⟨v15, h14, hm⟩ := hm
        refine zr_calli (zr_runS (As := [.int x2, .int x3, .int x4]) (rest := [.int (256 * x1), .ref a13]) (n := 3) hx hb hml hown hts hk hX (c_ZoneNodesModel_place l G N X x2 x3 x4 v15 h14) (hts _ tW467) tW468 (hts _ tW469) (hts _ tW470) (by decide +kernel) ⟨Nat.le_of_ble_eq_true rfl, Nat.le_of_ble_eq_true rfl⟩ rfl rfl hl.1 rfl (lv_room (Nat.le_of_ble_eq_true rfl)) d_ZoneNodesModel_has_39 ⟨(Nat.le_of_ble_eq_true rfl), (Nat.le_of_ble_eq_true rfl)⟩) hS (fun H locs hX hS => ?_)
        refine lv_iadd hx hb d_ZoneNodesModel_has_42 ?_
        replace hm := zb1_s hm
        obtain ⟨v16, h17, hm⟩ := hm
        refine zr_baload hx hb hk hX h17 d_ZoneNodesModel_has_43 ?_
        refine lv_if_eq (tgt := 51) hx hb d_ZoneNodesModel_has_44 rfl (fun h18 => ?_) (fun h18 => ?_)
        · replace hm := zi_t h18 hm
          refine lv_iconst (v := 0) hx hb d_ZoneNodesModel_has_51 (by decide) ?_
          cases hm
          exact W.zret hx hb hr (by decide) (fun t ht hW => zh_end hk hX hS ht hW) hS.2.2 d_ZoneNodesModel_has_52
        · replace hm := zi_f h18 hm
          refine lv_iconst (v := 1) hx hb d_ZoneNodesModel_has_47 (by decide) ?_
          refine lv_goto (tgt := 52) hx hb d_ZoneNodesModel_has_48 rfl ?_
          cases hm
          exact W.zret hx hb hr (by decide) (fun t ht hW => zh_end hk hX hS ht hW) hS.2.2 d_ZoneNodesModel_has_52
set_option maxHeartbeats 4000000 in
set_option maxRecDepth 100000 in
theorem c_ZoneNodesModel_journal (l : Launch) (G : zh_G) (N : Nat) (X : zh_T) (x0 : Nat) (r : Int32) (hm : f_ZoneNodesModel_journal N X x0 = some r) : zM l G y_ZoneNodesModel_journal w_ZoneNodesModel_journal 0 0 X [.ref x0] (some (.int r)) X 0 0 := by
  refine zr_ofW (by decide) (by exact Nat.le_of_ble_eq_true rfl) ?_
  intro p e s m args below meth c ls hx hb hml hr hts hown hin hlocks hk hX hl
  have hS : va_S (zh_A G) s.heap s.heap [] := va_S.rf
  have hl : lv_has ls 1 [(0, .ref x0)] := hl
  have hown : s.vm.findClass R_ZoneNodesModel = some m.cls := hown
  unfold f_ZoneNodesModel_journal at hm
  refine lv_aload_n hx hb d_ZoneNodesModel_journal_0 rfl (lv_at hl 0 rfl) ?_
  replace hm := zb1_s hm
  obtain ⟨v2, h1, hm⟩ := hm
  refine zr_get (ci := 9) (C := R_ZoneNodesModel) (T := F_ZoneNodesModel) (N := 32) hx hb hts in_ZoneNodesModel hown hk hX rfl 18 (by decide) (hts _ tW508) rfl (zgi_v h1) d_ZoneNodesModel_journal_1 ?_
  cases hm
  exact W.iret hx hb hr (fun t ht hW => zh_end hk hX hS ht hW) hS.2.2 d_ZoneNodesModel_journal_4
set_option maxHeartbeats 4000000 in
set_option maxRecDepth 100000 in
theorem c_ZoneNodesModel_key (l : Launch) (G : zh_G) (N : Nat) (X : zh_T) (x0 : Nat) (x1 : Int32) (x2 : Int32) (r : Int32) (X' : zh_T) (hm : f_ZoneNodesModel_key N X x0 x1 x2 = some (r, X')) : zM l G y_ZoneNodesModel_key w_ZoneNodesModel_key 0 0 X [.ref x0, .int x1, .int x2] (some (.int r)) X' 0 0 := by
  refine zr_ofW (by decide) (by exact Nat.le_of_ble_eq_true rfl) ?_
  intro p e s m args below meth c ls hx hb hml hr hts hown hin hlocks hk hX hl
  have hS : va_S (zh_A G) s.heap s.heap [] := va_S.rf
  have hl : lv_has ls 3 [(0, .ref x0), (1, .int x1), (2, .int x2)] := hl
  have hown : s.vm.findClass R_ZoneNodesModel = some m.cls := hown
  unfold f_ZoneNodesModel_key at hm
  refine lv_iload_n hx hb d_ZoneNodesModel_key_0 rfl (lv_at hl 1 rfl) ?_
  refine lv_if_lt (tgt := 9) hx hb d_ZoneNodesModel_key_1 rfl (fun h1 => ?_) (fun h1 => ?_)
  · replace hm := zi_t h1 hm
    refine lv_iconst (v := 0) hx hb d_ZoneNodesModel_key_9 (by decide) ?_
    cases hm
    exact W.zret hx hb hr (by decide) (fun t ht hW => zh_end hk hX hS ht hW) hS.2.2 d_ZoneNodesModel_key_10
  · replace hm := zi_f h1 hm
    refine lv_iload_n hx hb d_ZoneNodesModel_key_4 rfl (lv_at hl 1 rfl) ?_
    refine lv_iconst (v := 2) hx hb d_ZoneNodesModel_key_5 (by decide) ?_
    refine lv_icmp_le (tgt := 11) hx hb d_ZoneNodesModel_key_6 rfl (fun h2 => ?_) (fun h2 => ?_)
    · replace hm := zi_t h2 hm
      refine lv_aload_n hx hb d_ZoneNodesModel_key_11 rfl (lv_at hl 0 rfl) ?_
      replace hm := zb1_s hm
      obtain ⟨a4, h3, hm⟩ := hm
      refine zr_get (ci := 9) (C := R_ZoneNodesModel) (T := F_ZoneNodesModel) (N := 32) hx hb hts in_ZoneNodesModel hown hk hX rfl 12 (by decide) (hts _ tW449) rfl (zgr_v h3) d_ZoneNodesModel_key_12 ?_
      refine lv_iload_n hx hb d_ZoneNodesModel_key_15 rfl (lv_at hl 1 rfl) ?_
      refine lv_iconst (v := 1) hx hb d_ZoneNodesModel_key_16 (by decide) ?_
      replace hm := zb1_s hm
      obtain ⟨X5, h6, hm⟩ := hm
      refine zr_bastore hx hb hk hX hS h6 d_ZoneNodesModel_key_17 (fun H locs hX hS => ?_)
      refine lv_aload_n hx hb d_ZoneNodesModel_key_18 rfl (lv_at hl 0 rfl) ?_
      replace hm := zb1_s hm
      obtain ⟨a8, h7, hm⟩ := hm
      refine zr_get (ci := 9) (C := R_ZoneNodesModel) (T := F_ZoneNodesModel) (N := 32) hx hb hts in_ZoneNodesModel hown hk hX rfl 13 (by decide) (hts _ tW450) rfl (zgr_v h7) d_ZoneNodesModel_key_19 ?_
      refine lv_iload_n hx hb d_ZoneNodesModel_key_22 rfl (lv_at hl 1 rfl) ?_
      refine lv_iload_n hx hb d_ZoneNodesModel_key_23 rfl (lv_at hl 2 rfl) ?_
      replace hm := zb1_s hm
      obtain ⟨X9, h10, hm⟩ := hm
      refine zr_iastore hx hb hk hX hS h10 d_ZoneNodesModel_key_24 (fun H locs hX hS => ?_)
      refine lv_iconst (v := 1) hx hb d_ZoneNodesModel_key_25 (by decide) ?_
      cases hm
      exact W.zret hx hb hr (by decide) (fun t ht hW => zh_end hk hX hS ht hW) hS.2.2 d_ZoneNodesModel_key_26
    · replace hm := zi_f h2 hm
      refine lv_iconst (v := 0) hx hb d_ZoneNodesModel_key_9 (by decide) ?_
      cases hm
      exact W.zret hx hb hr (by decide) (fun t ht hW => zh_end hk hX hS ht hW) hS.2.2 d_ZoneNodesModel_key_10
set_option maxHeartbeats 4000000 in
set_option maxRecDepth 100000 in
theorem c_ZoneNodesModel_message (l : Launch) (G : zh_G) (N : Nat) (X : zh_T) (x0 : Nat) (x1 : Int32) (r : Int32) (hm : f_ZoneNodesModel_message N X x0 x1 = some r) : zM l G y_ZoneNodesModel_message w_ZoneNodesModel_message 1 21 X [.ref x0, .int x1] (some (.int r)) X 0 0 := by
  refine zr_ofW (by decide) (by exact Nat.le_of_ble_eq_true rfl) ?_
  intro p e s m args below meth c ls hx hb hml hr hts hown hin hlocks hk hX hl
  have hS : va_S (zh_A G) s.heap s.heap [] := va_S.rf
  have hl : lv_has ls 2 [(0, .ref x0), (1, .int x1)] := hl
  have hown : s.vm.findClass R_ZoneNodesModel = some m.cls := hown
  unfold f_ZoneNodesModel_message at hm
  refine lv_aload_n hx hb d_ZoneNodesModel_message_0 rfl (lv_at hl 0 rfl) ?_
  refine lv_iload_n hx hb d_ZoneNodesModel_message_1 rfl (lv_at hl 1 rfl) ?_
  replace hm := zb1_s hm
  obtain ⟨_, h2, hm⟩ := hm
  replace hm := zb1_s hm
  obtain ⟨v3, h1, hm⟩ := hm
  refine zr_calli (zr_runV (As := [.int x1]) (rest := []) (n := 1) hx hb hml hown hts hk hX (c_ZoneNodesModel_isMessage l G N X x0 x1 v3 h1) (hts _ tW476) tW477 (hts _ tW469) (hts _ tW478) (hts _ tW479) rfl h2 (by decide +kernel) ⟨Nat.le_of_ble_eq_true rfl, Nat.le_of_ble_eq_true rfl⟩ rfl rfl hl.1 rfl (lv_room (Nat.le_of_ble_eq_true rfl)) d_ZoneNodesModel_message_2 ⟨(Nat.le_of_ble_eq_true rfl), (Nat.le_of_ble_eq_true rfl)⟩) hS (fun H locs hX hS => ?_)
  refine lv_if_eq (tgt := 48) hx hb d_ZoneNodesModel_message_5 rfl (fun h4 => ?_) (fun h4 => ?_)
  · replace hm := zi_t h4 hm
    refine lv_iconst (v := (-1)) hx hb d_ZoneNodesModel_message_48 (by decide) ?_
    cases hm
    exact W.iret hx hb hr (fun t ht hW => zh_end hk hX hS ht hW) hS.2.2 d_ZoneNodesModel_message_49
  · replace hm := zi_f h4 hm
    refine lv_ldc (v := 100000) hx hb hown (hts _ tW537) d_ZoneNodesModel_message_8 ?_
    refine lv_aload_n hx hb d_ZoneNodesModel_message_10 rfl (lv_at hl 0 rfl) ?_
    replace hm := zb1_s hm
    obtain ⟨a6, h5, hm⟩ := hm
    refine zr_get (ci := 9) (C := R_ZoneNodesModel) (T := F_ZoneNodesModel) (N := 32) hx hb hts in_ZoneNodesModel hown hk hX rfl 25 (by decide) (hts _ tW457) rfl (zgr_v h5) d_ZoneNodesModel_message_11 ?_
    refine lv_iload_n hx hb d_ZoneNodesModel_message_14 rfl (lv_at hl 1 rfl) ?_
    replace hm := zb1_s hm
    obtain ⟨v7, h8, hm⟩ := hm
    refine zr_iaload hx hb hk hX h8 d_ZoneNodesModel_message_15 ?_
    refine lv_imul hx hb d_ZoneNodesModel_message_16 ?_
    refine lv_sipush (v := 10000) hx hb d_ZoneNodesModel_message_17 (by decide) ?_
    refine lv_aload_n hx hb d_ZoneNodesModel_message_20 rfl (lv_at hl 0 rfl) ?_
    replace hm := zb1_s hm
    obtain ⟨a10, h9, hm⟩ := hm
    refine zr_get (ci := 9) (C := R_ZoneNodesModel) (T := F_ZoneNodesModel) (N := 32) hx hb hts in_ZoneNodesModel hown hk hX rfl 26 (by decide) (hts _ tW458) rfl (zgr_v h9) d_ZoneNodesModel_message_21 ?_
    refine lv_iload_n hx hb d_ZoneNodesModel_message_24 rfl (lv_at hl 1 rfl) ?_
    replace hm := zb1_s hm
    obtain ⟨v11, h12, hm⟩ := hm
    refine zr_iaload hx hb hk hX h12 d_ZoneNodesModel_message_25 ?_
    refine lv_imul hx hb d_ZoneNodesModel_message_26 ?_
    refine lv_iadd hx hb d_ZoneNodesModel_message_27 ?_
    refine lv_bipush (v := 100) hx hb d_ZoneNodesModel_message_28 (by decide) ?_
    refine lv_aload_n hx hb d_ZoneNodesModel_message_30 rfl (lv_at hl 0 rfl) ?_
    replace hm := zb1_s hm
    obtain ⟨a14, h13, hm⟩ := hm
    refine zr_get (ci := 9) (C := R_ZoneNodesModel) (T := F_ZoneNodesModel) (N := 32) hx hb hts in_ZoneNodesModel hown hk hX rfl 28 (by decide) (hts _ tW460) rfl (zgr_v h13) d_ZoneNodesModel_message_31 ?_
    refine lv_iload_n hx hb d_ZoneNodesModel_message_34 rfl (lv_at hl 1 rfl) ?_
    replace hm := zb1_s hm
    obtain ⟨v15, h16, hm⟩ := hm
    refine zr_iaload hx hb hk hX h16 d_ZoneNodesModel_message_35 ?_
    refine lv_imul hx hb d_ZoneNodesModel_message_36 ?_
    refine lv_iadd hx hb d_ZoneNodesModel_message_37 ?_
    refine lv_aload_n hx hb d_ZoneNodesModel_message_38 rfl (lv_at hl 0 rfl) ?_
    replace hm := zb1_s hm
    obtain ⟨a18, h17, hm⟩ := hm
    refine zr_get (ci := 9) (C := R_ZoneNodesModel) (T := F_ZoneNodesModel) (N := 32) hx hb hts in_ZoneNodesModel hown hk hX rfl 29 (by decide) (hts _ tW461) rfl (zgr_v h17) d_ZoneNodesModel_message_39 ?_
    refine lv_iload_n hx hb d_ZoneNodesModel_message_42 rfl (lv_at hl 1 rfl) ?_
    replace hm := zb1_s hm
    obtain ⟨v19, h20, hm⟩ := hm
    refine zr_iaload hx hb hk hX h20 d_ZoneNodesModel_message_43 ?_
    refine lv_iadd hx hb d_ZoneNodesModel_message_44 ?_
    refine lv_goto (tgt := 49) hx hb d_ZoneNodesModel_message_45 rfl ?_
    cases hm
    exact W.iret hx hb hr (fun t ht hW => zh_end hk hX hS ht hW) hS.2.2 d_ZoneNodesModel_message_49
set_option maxHeartbeats 4000000 in
set_option maxRecDepth 100000 in
theorem c_ZoneNodesModel_messages (l : Launch) (G : zh_G) (N : Nat) (X : zh_T) (x0 : Nat) (r : Int32) (hm : f_ZoneNodesModel_messages N X x0 = some r) : zM l G y_ZoneNodesModel_messages w_ZoneNodesModel_messages 0 0 X [.ref x0] (some (.int r)) X 0 0 := by
  refine zr_ofW (by decide) (by exact Nat.le_of_ble_eq_true rfl) ?_
  intro p e s m args below meth c ls hx hb hml hr hts hown hin hlocks hk hX hl
  have hS : va_S (zh_A G) s.heap s.heap [] := va_S.rf
  have hl : lv_has ls 1 [(0, .ref x0)] := hl
  have hown : s.vm.findClass R_ZoneNodesModel = some m.cls := hown
  unfold f_ZoneNodesModel_messages at hm
  refine lv_aload_n hx hb d_ZoneNodesModel_messages_0 rfl (lv_at hl 0 rfl) ?_
  replace hm := zb1_s hm
  obtain ⟨v2, h1, hm⟩ := hm
  refine zr_get (ci := 9) (C := R_ZoneNodesModel) (T := F_ZoneNodesModel) (N := 32) hx hb hts in_ZoneNodesModel hown hk hX rfl 24 (by decide) (hts _ tW475) rfl (zgi_v h1) d_ZoneNodesModel_messages_1 ?_
  cases hm
  exact W.iret hx hb hr (fun t ht hW => zh_end hk hX hS ht hW) hS.2.2 d_ZoneNodesModel_messages_4
set_option maxHeartbeats 4000000 in
set_option maxRecDepth 100000 in
theorem c_ZoneNodesModel_need (l : Launch) (G : zh_G) (N : Nat) (X : zh_T) (x0 : Nat) (x1 : Int32) (x2 : Int32) (x3 : Int32) (x4 : Int32) (r : Int32) (X' : zh_T) (hm : f_ZoneNodesModel_need N X x0 x1 x2 x3 x4 = some (r, X')) : zM l G y_ZoneNodesModel_need w_ZoneNodesModel_need 1 25 X [.ref x0, .int x1, .int x2, .int x3, .int x4] (some (.int r)) X' 0 0 := by
  refine zr_ofW (by decide) (by exact Nat.le_of_ble_eq_true rfl) ?_
  intro p e s m args below meth c ls hx hb hml hr hts hown hin hlocks hk hX hl
  have hS : va_S (zh_A G) s.heap s.heap [] := va_S.rf
  have hl : lv_has ls 5 [(0, .ref x0), (1, .int x1), (2, .int x2), (3, .int x3), (4, .int x4)] := hl
  have hown : s.vm.findClass R_ZoneNodesModel = some m.cls := hown
  unfold f_ZoneNodesModel_need at hm
  refine lv_iload_n hx hb d_ZoneNodesModel_need_0 rfl (lv_at hl 1 rfl) ?_
  refine lv_if_lt (tgt := 27) hx hb d_ZoneNodesModel_need_1 rfl (fun h1 => ?_) (fun h1 => ?_)
  · replace hm := zi_t h1 hm
    refine lv_iconst (v := 0) hx hb d_ZoneNodesModel_need_27 (by decide) ?_
    cases hm
    exact W.zret hx hb hr (by decide) (fun t ht hW => zh_end hk hX hS ht hW) hS.2.2 d_ZoneNodesModel_need_28
  · replace hm := zi_f h1 hm
    refine lv_iload_n hx hb d_ZoneNodesModel_need_4 rfl (lv_at hl 1 rfl) ?_
    refine lv_iconst (v := 4) hx hb d_ZoneNodesModel_need_5 (by decide) ?_
    refine lv_icmp_gt (tgt := 27) hx hb d_ZoneNodesModel_need_6 rfl (fun h2 => ?_) (fun h2 => ?_)
    · replace hm := zi_t h2 hm
      refine lv_iconst (v := 0) hx hb d_ZoneNodesModel_need_27 (by decide) ?_
      cases hm
      exact W.zret hx hb hr (by decide) (fun t ht hW => zh_end hk hX hS ht hW) hS.2.2 d_ZoneNodesModel_need_28
    · replace hm := zi_f h2 hm
      refine lv_iload_n hx hb d_ZoneNodesModel_need_9 rfl (lv_at hl 2 rfl) ?_
      refine lv_iload_n hx hb d_ZoneNodesModel_need_10 rfl (lv_at hl 3 rfl) ?_
      refine lv_iload hx hb d_ZoneNodesModel_need_11 (lv_at hl 4 rfl) ?_
      replace hm := zb1_s hm
      obtain ⟨v4, h3, hm⟩ := hm
      refine zr_calli (zr_runS (As := [.int x2, .int x3, .int x4]) (rest := []) (n := 3) hx hb hml hown hts hk hX (c_ZoneNodesModel_isRecord l G N X x2 x3 x4 v4 h3) (hts _ tW481) tW482 (hts _ tW469) (hts _ tW483) (by decide +kernel) ⟨Nat.le_of_ble_eq_true rfl, Nat.le_of_ble_eq_true rfl⟩ rfl rfl hl.1 rfl (lv_room (Nat.le_of_ble_eq_true rfl)) d_ZoneNodesModel_need_13 ⟨(Nat.le_of_ble_eq_true rfl), (Nat.le_of_ble_eq_true rfl)⟩) hS (fun H locs hX hS => ?_)
      refine lv_if_eq (tgt := 27) hx hb d_ZoneNodesModel_need_16 rfl (fun h5 => ?_) (fun h5 => ?_)
      · replace hm := zi_t h5 hm
        refine lv_iconst (v := 0) hx hb d_ZoneNodesModel_need_27 (by decide) ?_
        cases hm
        exact W.zret hx hb hr (by decide) (fun t ht hW => zh_end hk hX hS ht hW) hS.2.2 d_ZoneNodesModel_need_28
      · replace hm := zi_f h5 hm
        refine lv_aload_n hx hb d_ZoneNodesModel_need_19 rfl (lv_at hl 0 rfl) ?_
        replace hm := zb1_s hm
        obtain ⟨v7, h6, hm⟩ := hm
        refine zr_get (ci := 9) (C := R_ZoneNodesModel) (T := F_ZoneNodesModel) (N := 32) hx hb hts in_ZoneNodesModel hown hk hX rfl 14 (by decide) (hts _ tW538) rfl (zgi_v h6) d_ZoneNodesModel_need_20 ?_
        refine lv_iconst (v := 4) hx hb d_ZoneNodesModel_need_23 (by decide) ?_
        refine lv_icmp_lt (tgt := 29) hx hb d_ZoneNodesModel_need_24 rfl (fun h8 => ?_) (fun h8 => ?_)
        · replace hm := zi_t h8 hm
          refine lv_aload_n hx hb d_ZoneNodesModel_need_29 rfl (lv_at hl 0 rfl) ?_
          refine lv_aload_n hx hb d_ZoneNodesModel_need_30 rfl (lv_at hl 0 rfl) ?_
          replace hm := zb1_s hm
          obtain ⟨v10, h9, hm⟩ := hm
          refine zr_get (ci := 9) (C := R_ZoneNodesModel) (T := F_ZoneNodesModel) (N := 32) hx hb hts in_ZoneNodesModel hown hk hX rfl 14 (by decide) (hts _ tW538) rfl (zgi_v h9) d_ZoneNodesModel_need_31 ?_
          refine lv_iload_n hx hb d_ZoneNodesModel_need_34 rfl (lv_at hl 1 rfl) ?_
          refine lv_iload_n hx hb d_ZoneNodesModel_need_35 rfl (lv_at hl 2 rfl) ?_
          refine lv_iload_n hx hb d_ZoneNodesModel_need_36 rfl (lv_at hl 3 rfl) ?_
          refine lv_iload hx hb d_ZoneNodesModel_need_37 (lv_at hl 4 rfl) ?_
          replace hm := zb1_s hm
          obtain ⟨_, h12, hm⟩ := hm
          replace hm := zb2_s hm
          obtain ⟨v13, X14, h11, hm⟩ := hm
          refine zr_callv (zr_runV (As := [.int v10, .int x1, .int x2, .int x3, .int x4]) (rest := []) (n := 5) hx hb hml hown hts hk hX (c_ZoneNodesModel_say l G N X x0 v10 x1 x2 x3 x4 v13 X14 h11) (hts _ tW485) tW486 (hts _ tW469) (hts _ tW487) (hts _ tW488) rfl h12 (by decide +kernel) ⟨Nat.le_of_ble_eq_true rfl, Nat.le_of_ble_eq_true rfl⟩ rfl rfl hl.1 rfl (lv_room (Nat.le_of_ble_eq_true rfl)) d_ZoneNodesModel_need_39 ⟨(Nat.le_of_ble_eq_true rfl), (Nat.le_of_ble_eq_true rfl)⟩) hS (fun H locs hX hS => ?_)
          refine lv_aload_n hx hb d_ZoneNodesModel_need_42 rfl (lv_at hl 0 rfl) ?_
          refine lv_dup hx hb d_ZoneNodesModel_need_43 rfl ?_
          replace hm := zb1_s hm
          obtain ⟨v16, h15, hm⟩ := hm
          refine zr_get (ci := 9) (C := R_ZoneNodesModel) (T := F_ZoneNodesModel) (N := 32) hx hb hts in_ZoneNodesModel hown hk hX rfl 14 (by decide) (hts _ tW538) rfl (zgi_v h15) d_ZoneNodesModel_need_44 ?_
          refine lv_iconst (v := 1) hx hb d_ZoneNodesModel_need_47 (by decide) ?_
          refine lv_iadd hx hb d_ZoneNodesModel_need_48 ?_
          replace hm := zb1_s hm
          obtain ⟨X17, h18, hm⟩ := hm
          refine zr_put (ci := 9) (C := R_ZoneNodesModel) (T := F_ZoneNodesModel) (N := 32) (ty := .int) (v := .int (v16 + 1)) hx hb hts in_ZoneNodesModel t_ZoneNodesModel t_ZoneNodesModel_ok n_ZoneNodesModel hown hk hX hS rfl 14 (by decide) (hts _ tW538) rfl rfl (by decide +kernel) rfl rfl h18 d_ZoneNodesModel_need_49 (fun H locs hX hS => ?_)
          refine lv_iconst (v := 1) hx hb d_ZoneNodesModel_need_52 (by decide) ?_
          cases hm
          exact W.zret hx hb hr (by decide) (fun t ht hW => zh_end hk hX hS ht hW) hS.2.2 d_ZoneNodesModel_need_53
        · replace hm := zi_f h8 hm
          refine lv_iconst (v := 0) hx hb d_ZoneNodesModel_need_27 (by decide) ?_
          cases hm
          exact W.zret hx hb hr (by decide) (fun t ht hW => zh_end hk hX hS ht hW) hS.2.2 d_ZoneNodesModel_need_28
set_option maxHeartbeats 4000000 in
set_option maxRecDepth 100000 in
theorem c_ZoneNodesModel_shown (l : Launch) (G : zh_G) (N : Nat) (X : zh_T) (x0 : Nat) (x1 : Int32) (x2 : Int32) (x3 : Int32) (x4 : Int32) (r : Int32) (hm : f_ZoneNodesModel_shown N X x0 x1 x2 x3 x4 = some r) : zM l G y_ZoneNodesModel_shown w_ZoneNodesModel_shown 0 0 X [.ref x0, .int x1, .int x2, .int x3, .int x4] (some (.int r)) X 0 0 := by
  refine zr_ofW (by decide) (by exact Nat.le_of_ble_eq_true rfl) ?_
  intro p e s m args below meth c ls hx hb hml hr hts hown hin hlocks hk hX hl
  have hS : va_S (zh_A G) s.heap s.heap [] := va_S.rf
  have hl : lv_has ls 7 [(0, .ref x0), (1, .int x1), (2, .int x2), (3, .int x3), (4, .int x4)] := hl
  have hown : s.vm.findClass R_ZoneNodesModel = some m.cls := hown
  unfold f_ZoneNodesModel_shown at hm
  have hL6 : ∀ (n : Nat) (X : zh_T) (w0 : Nat) (w1 : Int32) (w2 : Int32) (w3 : Int32) (w4 : Int32) (w5 : Int32) (w6 : Int32) (v : Int32) (H : Heap) (locs : List Loc) (ls : Array Slot), L_ZoneNodesModel_shown_6 N X w0 w1 w2 w3 w4 n w5 w6 = some v → zh_w G X H → va_S (zh_A G) s.heap H locs → lv_has ls 7 [(0, .ref w0), (1, .int w1), (2, .int w2), (3, .int w3), (4, .int w4), (5, .int w5), (6, .int w6)] → (∀ (H : Heap) (locs : List Loc) (ls : Array Slot), zh_w G X H → va_S (zh_A G) s.heap H locs → lv_has ls 7 [(5, .int v)] → W p l e { frames := 0, cells := 0, slots := 0, locals := 0 } s m args below meth c H locs 0 0 (MQ below (zh_Q G (some (.int r)) X) args s 0 0 (zh_A G)) (F0 m 52 ls [])) → W p l e { frames := 0, cells := 0, slots := 0, locals := 0 } s m args below meth c H locs 0 0 (MQ below (zh_Q G (some (.int r)) X) args s 0 0 (zh_A G)) (F0 m 6 ls []) := by
    intro n
    induction n with
    | zero =>
      intro X w0 w1 w2 w3 w4 w5 w6 v H locs ls hm hX hS hl hexit
      rw [L_ZoneNodesModel_shown_6] at hm
      cases hm
    | succ n ih =>
      intro X w0 w1 w2 w3 w4 w5 w6 v H locs ls hm hX hS hl hexit
      rw [L_ZoneNodesModel_shown_6] at hm
      refine lv_iload hx hb d_ZoneNodesModel_shown_6 (lv_at hl 6 rfl) ?_
      refine lv_iload hx hb d_ZoneNodesModel_shown_8 (lv_at hl 4 rfl) ?_
      refine lv_icmp_ge (tgt := 52) hx hb d_ZoneNodesModel_shown_10 rfl (fun h1 => ?_) (fun h1 => ?_)
      · replace hm := zi_t h1 hm
        cases hm
        exact hexit _ _ _ hX hS (lv_sub hl [5] rfl)
      · replace hm := zi_f h1 hm
        refine lv_iload hx hb d_ZoneNodesModel_shown_13 (lv_at hl 5 rfl) ?_
        refine lv_aload_n hx hb d_ZoneNodesModel_shown_15 rfl (lv_at hl 0 rfl) ?_
        replace hm := zb1_s hm
        obtain ⟨a3, h2, hm⟩ := hm
        refine zr_get (ci := 9) (C := R_ZoneNodesModel) (T := F_ZoneNodesModel) (N := 32) hx hb hts in_ZoneNodesModel hown hk hX rfl 7 (by decide) (hts _ tW446) rfl (zgr_v h2) d_ZoneNodesModel_shown_16 ?_
        refine lv_sipush (v := 256) hx hb d_ZoneNodesModel_shown_19 (by decide) ?_
        refine lv_iload_n hx hb d_ZoneNodesModel_shown_22 rfl (lv_at hl 1 rfl) ?_
        refine lv_imul hx hb d_ZoneNodesModel_shown_23 ?_
        refine lv_bipush (v := 32) hx hb d_ZoneNodesModel_shown_24 (by decide) ?_
        refine lv_iload_n hx hb d_ZoneNodesModel_shown_26 rfl (lv_at hl 2 rfl) ?_
        refine lv_imul hx hb d_ZoneNodesModel_shown_27 ?_
        refine lv_iadd hx hb d_ZoneNodesModel_shown_28 ?_
        refine lv_iload_n hx hb d_ZoneNodesModel_shown_29 rfl (lv_at hl 3 rfl) ?_
        refine lv_iadd hx hb d_ZoneNodesModel_shown_30 ?_
        refine lv_iload hx hb d_ZoneNodesModel_shown_31 (lv_at hl 6 rfl) ?_
        refine lv_iadd hx hb d_ZoneNodesModel_shown_33 ?_
        replace hm := zb1_s hm
        obtain ⟨v4, h5, hm⟩ := hm
        refine zr_baload hx hb hk hX h5 d_ZoneNodesModel_shown_34 ?_
        refine lv_if_eq (tgt := 42) hx hb d_ZoneNodesModel_shown_35 rfl (fun h6 => ?_) (fun h6 => ?_)
        · replace hm := zi_t h6 hm
          refine lv_iconst (v := 0) hx hb d_ZoneNodesModel_shown_42 (by decide) ?_
          refine lv_iadd hx hb d_ZoneNodesModel_shown_43 ?_
          refine lv_istore (lv' := [(5, .int (w5 + 0)), (0, .ref w0), (1, .int w1), (2, .int w2), (3, .int w3), (4, .int w4), (6, .int w6)]) hx hb d_ZoneNodesModel_shown_44 hl (by decide) rfl (fun ls hl => ?_)
          refine lv_iinc (v := w6 + 1) (lv' := [(6, .int (w6 + 1)), (5, .int (w5 + 0)), (0, .ref w0), (1, .int w1), (2, .int w2), (3, .int w3), (4, .int w4)]) hx hb d_ZoneNodesModel_shown_46 hl (k := 6) rfl (by rw [show Int32.ofInt 1 = 1 by decide]) (by decide) rfl (fun ls hl => ?_)
          refine lv_goto (tgt := 6) hx hb d_ZoneNodesModel_shown_49 rfl ?_
          exact ih X w0 w1 w2 w3 w4 (w5 + 0) (w6 + 1) v _ _ _ hm hX hS (lv_sub hl [2, 3, 4, 5, 6, 1, 0] rfl) hexit
        · replace hm := zi_f h6 hm
          refine lv_iconst (v := 1) hx hb d_ZoneNodesModel_shown_38 (by decide) ?_
          refine lv_goto (tgt := 43) hx hb d_ZoneNodesModel_shown_39 rfl ?_
          refine lv_iadd hx hb d_ZoneNodesModel_shown_43 ?_
          refine lv_istore (lv' := [(5, .int (w5 + 1)), (0, .ref w0), (1, .int w1), (2, .int w2), (3, .int w3), (4, .int w4), (6, .int w6)]) hx hb d_ZoneNodesModel_shown_44 hl (by decide) rfl (fun ls hl => ?_)
          refine lv_iinc (v := w6 + 1) (lv' := [(6, .int (w6 + 1)), (5, .int (w5 + 1)), (0, .ref w0), (1, .int w1), (2, .int w2), (3, .int w3), (4, .int w4)]) hx hb d_ZoneNodesModel_shown_46 hl (k := 6) rfl (by rw [show Int32.ofInt 1 = 1 by decide]) (by decide) rfl (fun ls hl => ?_)
          refine lv_goto (tgt := 6) hx hb d_ZoneNodesModel_shown_49 rfl ?_
          exact ih X w0 w1 w2 w3 w4 (w5 + 1) (w6 + 1) v _ _ _ hm hX hS (lv_sub hl [2, 3, 4, 5, 6, 1, 0] rfl) hexit
  refine lv_iconst (v := 0) hx hb d_ZoneNodesModel_shown_0 (by decide) ?_
  refine lv_istore (lv' := [(5, .int 0), (0, .ref x0), (1, .int x1), (2, .int x2), (3, .int x3), (4, .int x4)]) hx hb d_ZoneNodesModel_shown_1 hl (by decide) rfl (fun ls hl => ?_)
  refine lv_iconst (v := 0) hx hb d_ZoneNodesModel_shown_3 (by decide) ?_
  refine lv_istore (lv' := [(6, .int 0), (5, .int 0), (0, .ref x0), (1, .int x1), (2, .int x2), (3, .int x3), (4, .int x4)]) hx hb d_ZoneNodesModel_shown_4 hl (by decide) rfl (fun ls hl => ?_)
  replace hm := zb1_s hm
  obtain ⟨v7, h8, hm⟩ := hm
  refine hL6 N X x0 x1 x2 x3 x4 0 0 v7 _ _ _ h8 hX hS (lv_sub hl [2, 3, 4, 5, 6, 1, 0] rfl) (fun H locs ls hX hS hl => ?_)
  refine lv_iload hx hb d_ZoneNodesModel_shown_52 (lv_at hl 0 rfl) ?_
  cases hm
  exact W.iret hx hb hr (fun t ht hW => zh_end hk hX hS ht hW) hS.2.2 d_ZoneNodesModel_shown_54
set_option maxHeartbeats 4000000 in
set_option maxRecDepth 100000 in
theorem c_ZoneNodesModel_query (l : Launch) (G : zh_G) (N : Nat) (X : zh_T) (x0 : Nat) (x1 : Int32) (x2 : Int32) (x3 : Int32) (r : Int32) (hm : f_ZoneNodesModel_query N X x0 x1 x2 x3 = some r) : zM l G y_ZoneNodesModel_query w_ZoneNodesModel_query 1 26 X [.ref x0, .int x1, .int x2, .int x3] (some (.int r)) X 0 0 := by
  refine zr_ofW (by decide) (by exact Nat.le_of_ble_eq_true rfl) ?_
  intro p e s m args below meth c ls hx hb hml hr hts hown hin hlocks hk hX hl
  have hS : va_S (zh_A G) s.heap s.heap [] := va_S.rf
  have hl : lv_has ls 8 [(0, .ref x0), (1, .int x1), (2, .int x2), (3, .int x3)] := hl
  have hown : s.vm.findClass R_ZoneNodesModel = some m.cls := hown
  unfold f_ZoneNodesModel_query at hm
  have hL72 : ∀ (n : Nat) (X : zh_T) (w0 : Nat) (w1 : Int32) (w3 : Int32) (w4 : Int32) (w5 : Int32) (w6 : Int32) (w7 : Int32) (v : Int32) (H : Heap) (locs : List Loc) (ls : Array Slot), L_ZoneNodesModel_query_72 N X w0 w1 w3 w4 w5 n w6 w7 = some v → zh_w G X H → va_S (zh_A G) s.heap H locs → lv_has ls 8 [(0, .ref w0), (1, .int w1), (3, .int w3), (4, .int w4), (5, .int w5), (6, .int w6), (7, .int w7)] → (∀ (H : Heap) (locs : List Loc) (ls : Array Slot), zh_w G X H → va_S (zh_A G) s.heap H locs → lv_has ls 8 [(0, .ref w0), (1, .int w1), (3, .int w3), (4, .int w4), (5, .int w5), (6, .int v)] → W p l e { frames := 1, cells := 0, slots := 0, locals := 26 } s m args below meth c H locs 0 0 (MQ below (zh_Q G (some (.int r)) X) args s 0 0 (zh_A G)) (F0 m 121 ls [])) → W p l e { frames := 1, cells := 0, slots := 0, locals := 26 } s m args below meth c H locs 0 0 (MQ below (zh_Q G (some (.int r)) X) args s 0 0 (zh_A G)) (F0 m 72 ls []) := by
    intro n
    induction n with
    | zero =>
      intro X w0 w1 w3 w4 w5 w6 w7 v H locs ls hm hX hS hl hexit
      rw [L_ZoneNodesModel_query_72] at hm
      cases hm
    | succ n ih =>
      intro X w0 w1 w3 w4 w5 w6 w7 v H locs ls hm hX hS hl hexit
      rw [L_ZoneNodesModel_query_72] at hm
      refine lv_iload hx hb d_ZoneNodesModel_query_72 (lv_at hl 6 rfl) ?_
      refine lv_bipush (v := 8) hx hb d_ZoneNodesModel_query_74 (by decide) ?_
      refine lv_icmp_ge (tgt := 121) hx hb d_ZoneNodesModel_query_76 rfl (fun h19 => ?_) (fun h19 => ?_)
      · replace hm := zi_t h19 hm
        cases hm
        exact hexit _ _ _ hX hS (lv_sub hl [0, 1, 2, 3, 4, 5] rfl)
      · replace hm := zi_f h19 hm
        refine lv_iload_n hx hb d_ZoneNodesModel_query_79 rfl (lv_at hl 2 rfl) ?_
        refine lv_iconst (v := 2) hx hb d_ZoneNodesModel_query_80 (by decide) ?_
        refine lv_icmp_eq (tgt := 111) hx hb d_ZoneNodesModel_query_81 rfl (fun h20 => ?_) (fun h20 => ?_)
        · replace hm := zi_t h20 hm
          refine lv_iload hx hb d_ZoneNodesModel_query_111 (lv_at hl 5 rfl) ?_
          refine lv_istore (lv' := [(6, .int w6), (0, .ref w0), (1, .int w1), (3, .int w3), (4, .int w4), (5, .int w5), (7, .int w7)]) hx hb d_ZoneNodesModel_query_113 hl (by decide) rfl (fun ls hl => ?_)
          refine lv_iinc (v := w7 + 1) (lv' := [(7, .int (w7 + 1)), (6, .int w6), (0, .ref w0), (1, .int w1), (3, .int w3), (4, .int w4), (5, .int w5)]) hx hb d_ZoneNodesModel_query_115 hl (k := 6) rfl (by rw [show Int32.ofInt 1 = 1 by decide]) (by decide) rfl (fun ls hl => ?_)
          refine lv_goto (tgt := 72) hx hb d_ZoneNodesModel_query_118 rfl ?_
          exact ih X w0 w1 w3 w4 w5 w6 (w7 + 1) v _ _ _ hm hX hS (lv_sub hl [2, 3, 4, 5, 6, 1, 0] rfl) hexit
        · replace hm := zi_f h20 hm
          refine lv_aload_n hx hb d_ZoneNodesModel_query_84 rfl (lv_at hl 0 rfl) ?_
          replace hm := zb1_s hm
          obtain ⟨a22, h21, hm⟩ := hm
          refine zr_get (ci := 9) (C := R_ZoneNodesModel) (T := F_ZoneNodesModel) (N := 32) hx hb hts in_ZoneNodesModel hown hk hX rfl 7 (by decide) (hts _ tW446) rfl (zgr_v h21) d_ZoneNodesModel_query_85 ?_
          refine lv_sipush (v := 256) hx hb d_ZoneNodesModel_query_88 (by decide) ?_
          refine lv_iload_n hx hb d_ZoneNodesModel_query_91 rfl (lv_at hl 1 rfl) ?_
          refine lv_imul hx hb d_ZoneNodesModel_query_92 ?_
          refine lv_iload hx hb d_ZoneNodesModel_query_93 (lv_at hl 3 rfl) ?_
          refine lv_iconst (v := 2) hx hb d_ZoneNodesModel_query_95 (by decide) ?_
          refine lv_iload hx hb d_ZoneNodesModel_query_96 (lv_at hl 6 rfl) ?_
          replace hm := zb1_s hm
          obtain ⟨v24, h23, hm⟩ := hm
          refine zr_calli (zr_runS (As := [.int w4, .int 2, .int w7]) (rest := [.int (256 * w1), .ref a22]) (n := 3) hx hb hml hown hts hk hX (c_ZoneNodesModel_place l G N X w4 2 w7 v24 h23) (hts _ tW467) tW468 (hts _ tW469) (hts _ tW470) (by decide +kernel) ⟨Nat.le_of_ble_eq_true rfl, Nat.le_of_ble_eq_true rfl⟩ rfl rfl hl.1 rfl (lv_room (Nat.le_of_ble_eq_true rfl)) d_ZoneNodesModel_query_98 ⟨(Nat.le_of_ble_eq_true rfl), (Nat.le_of_ble_eq_true rfl)⟩) hS (fun H locs hX hS => ?_)
          refine lv_iadd hx hb d_ZoneNodesModel_query_101 ?_
          replace hm := zb1_s hm
          obtain ⟨v25, h26, hm⟩ := hm
          refine zr_baload hx hb hk hX h26 d_ZoneNodesModel_query_102 ?_
          refine lv_if_eq (tgt := 111) hx hb d_ZoneNodesModel_query_103 rfl (fun h27 => ?_) (fun h27 => ?_)
          · replace hm := zi_t h27 hm
            refine lv_iload hx hb d_ZoneNodesModel_query_111 (lv_at hl 5 rfl) ?_
            refine lv_istore (lv' := [(6, .int w6), (0, .ref w0), (1, .int w1), (3, .int w3), (4, .int w4), (5, .int w5), (7, .int w7)]) hx hb d_ZoneNodesModel_query_113 hl (by decide) rfl (fun ls hl => ?_)
            refine lv_iinc (v := w7 + 1) (lv' := [(7, .int (w7 + 1)), (6, .int w6), (0, .ref w0), (1, .int w1), (3, .int w3), (4, .int w4), (5, .int w5)]) hx hb d_ZoneNodesModel_query_115 hl (k := 6) rfl (by rw [show Int32.ofInt 1 = 1 by decide]) (by decide) rfl (fun ls hl => ?_)
            refine lv_goto (tgt := 72) hx hb d_ZoneNodesModel_query_118 rfl ?_
            exact ih X w0 w1 w3 w4 w5 w6 (w7 + 1) v _ _ _ hm hX hS (lv_sub hl [2, 3, 4, 5, 6, 1, 0] rfl) hexit
          · replace hm := zi_f h27 hm
            refine lv_iload hx hb d_ZoneNodesModel_query_106 (lv_at hl 6 rfl) ?_
            refine lv_goto (tgt := 113) hx hb d_ZoneNodesModel_query_108 rfl ?_
            refine lv_istore (lv' := [(6, .int w7), (0, .ref w0), (1, .int w1), (3, .int w3), (4, .int w4), (5, .int w5), (7, .int w7)]) hx hb d_ZoneNodesModel_query_113 hl (by decide) rfl (fun ls hl => ?_)
            refine lv_iinc (v := w7 + 1) (lv' := [(7, .int (w7 + 1)), (6, .int w7), (0, .ref w0), (1, .int w1), (3, .int w3), (4, .int w4), (5, .int w5)]) hx hb d_ZoneNodesModel_query_115 hl (k := 6) rfl (by rw [show Int32.ofInt 1 = 1 by decide]) (by decide) rfl (fun ls hl => ?_)
            refine lv_goto (tgt := 72) hx hb d_ZoneNodesModel_query_118 rfl ?_
            exact ih X w0 w1 w3 w4 w5 w7 (w7 + 1) v _ _ _ hm hX hS (lv_sub hl [2, 3, 4, 5, 6, 1, 0] rfl) hexit
  have hL59 : ∀ (n : Nat) (X : zh_T) (w0 : Nat) (w1 : Int32) (w3 : Int32) (w4 : Int32) (w5 : Int32) (o : (Int32 ⊕ Unit)) (H : Heap) (locs : List Loc) (ls : Array Slot), L_ZoneNodesModel_query_59 N X w0 w1 w3 n w4 w5 = some o → zh_w G X H → va_S (zh_A G) s.heap H locs → lv_has ls 8 [(0, .ref w0), (1, .int w1), (3, .int w3), (4, .int w4), (5, .int w5)] → (∀ r0 : Int32, o = Sum.inl r0 → r0 = r) → (∀ v : Unit, o = Sum.inr v → ∀ (H : Heap) (locs : List Loc) (ls : Array Slot), zh_w G X H → va_S (zh_A G) s.heap H locs → lv_has ls 8 [] → W p l e { frames := 1, cells := 0, slots := 0, locals := 26 } s m args below meth c H locs 0 0 (MQ below (zh_Q G (some (.int r)) X) args s 0 0 (zh_A G)) (F0 m 171 ls [])) → W p l e { frames := 1, cells := 0, slots := 0, locals := 26 } s m args below meth c H locs 0 0 (MQ below (zh_Q G (some (.int r)) X) args s 0 0 (zh_A G)) (F0 m 59 ls []) := by
    intro n
    induction n with
    | zero =>
      intro X w0 w1 w3 w4 w5 o H locs ls hm hX hS hl hret hexit
      rw [L_ZoneNodesModel_query_59] at hm
      cases hm
    | succ n ih =>
      intro X w0 w1 w3 w4 w5 o H locs ls hm hX hS hl hret hexit
      rw [L_ZoneNodesModel_query_59] at hm
      refine lv_iload hx hb d_ZoneNodesModel_query_59 (lv_at hl 4 rfl) ?_
      refine lv_bipush (v := 9) hx hb d_ZoneNodesModel_query_61 (by decide) ?_
      refine lv_icmp_ge (tgt := 171) hx hb d_ZoneNodesModel_query_63 rfl (fun h18 => ?_) (fun h18 => ?_)
      · replace hm := zi_t h18 hm
        exact hexit _ (Option.some.inj hm).symm _ _ _ hX hS (lv_sub hl [] rfl)
      · replace hm := zi_f h18 hm
        refine lv_iconst (v := (-1)) hx hb d_ZoneNodesModel_query_66 (by decide) ?_
        refine lv_istore (lv' := [(6, .int (-1)), (0, .ref w0), (1, .int w1), (3, .int w3), (4, .int w4), (5, .int w5)]) hx hb d_ZoneNodesModel_query_67 hl (by decide) rfl (fun ls hl => ?_)
        refine lv_iconst (v := 0) hx hb d_ZoneNodesModel_query_69 (by decide) ?_
        refine lv_istore (lv' := [(7, .int 0), (6, .int (-1)), (0, .ref w0), (1, .int w1), (3, .int w3), (4, .int w4), (5, .int w5)]) hx hb d_ZoneNodesModel_query_70 hl (by decide) rfl (fun ls hl => ?_)
        replace hm := zb1_s hm
        obtain ⟨v28, h29, hm⟩ := hm
        refine hL72 N X w0 w1 w3 w4 w5 (-1) 0 v28 _ _ _ h29 hX hS (lv_sub hl [2, 3, 4, 5, 6, 1, 0] rfl) (fun H locs ls hX hS hl => ?_)
        refine lv_iload hx hb d_ZoneNodesModel_query_121 (lv_at hl 5 rfl) ?_
        refine lv_if_ge (tgt := 161) hx hb d_ZoneNodesModel_query_123 rfl (fun h30 => ?_) (fun h30 => ?_)
        · replace hm := zi_t h30 hm
          refine lv_iload hx hb d_ZoneNodesModel_query_161 (lv_at hl 5 rfl) ?_
          refine lv_istore (lv' := [(4, .int v28), (0, .ref w0), (1, .int w1), (3, .int w3), (5, .int w5), (6, .int v28)]) hx hb d_ZoneNodesModel_query_163 hl (by decide) rfl (fun ls hl => ?_)
          refine lv_iinc (v := w5 + 1) (lv' := [(5, .int (w5 + 1)), (4, .int v28), (0, .ref w0), (1, .int w1), (3, .int w3), (6, .int v28)]) hx hb d_ZoneNodesModel_query_165 hl (k := 4) rfl (by rw [show Int32.ofInt 1 = 1 by decide]) (by decide) rfl (fun ls hl => ?_)
          refine lv_goto (tgt := 59) hx hb d_ZoneNodesModel_query_168 rfl ?_
          exact ih X w0 w1 w3 v28 (w5 + 1) o _ _ _ hm hX hS (lv_sub hl [2, 3, 4, 1, 0] rfl) hret hexit
        · replace hm := zi_f h30 hm
          refine lv_aload_n hx hb d_ZoneNodesModel_query_126 rfl (lv_at hl 0 rfl) ?_
          refine lv_iload_n hx hb d_ZoneNodesModel_query_127 rfl (lv_at hl 1 rfl) ?_
          refine lv_iload hx hb d_ZoneNodesModel_query_128 (lv_at hl 3 rfl) ?_
          refine lv_iconst (v := 0) hx hb d_ZoneNodesModel_query_130 (by decide) ?_
          refine lv_bipush (v := 32) hx hb d_ZoneNodesModel_query_131 (by decide) ?_
          replace hm := zb1_s hm
          obtain ⟨_, h32, hm⟩ := hm
          replace hm := zb1_s hm
          obtain ⟨v33, h31, hm⟩ := hm
          refine zr_calli (zr_runV (As := [.int w1, .int w4, .int 0, .int 32]) (rest := []) (n := 4) hx hb hml hown hts hk hX (c_ZoneNodesModel_shown l G N X w0 w1 w4 0 32 v33 h31) (hts _ tW539) tW540 (hts _ tW469) (hts _ tW541) (hts _ tW542) rfl h32 (by decide +kernel) ⟨Nat.le_of_ble_eq_true rfl, Nat.le_of_ble_eq_true rfl⟩ rfl rfl hl.1 rfl (lv_room (Nat.le_of_ble_eq_true rfl)) d_ZoneNodesModel_query_133 ⟨(Nat.le_of_ble_eq_true rfl), (Nat.le_of_ble_eq_true rfl)⟩) hS (fun H locs hX hS => ?_)
          refine lv_if_ne (tgt := 145) hx hb d_ZoneNodesModel_query_136 rfl (fun h34 => ?_) (fun h34 => ?_)
          · replace hm := zi_f h34 hm
            refine lv_aload_n hx hb d_ZoneNodesModel_query_145 rfl (lv_at hl 0 rfl) ?_
            refine lv_iload_n hx hb d_ZoneNodesModel_query_146 rfl (lv_at hl 1 rfl) ?_
            refine lv_iload hx hb d_ZoneNodesModel_query_147 (lv_at hl 3 rfl) ?_
            refine lv_bipush (v := 8) hx hb d_ZoneNodesModel_query_149 (by decide) ?_
            refine lv_iload_n hx hb d_ZoneNodesModel_query_151 rfl (lv_at hl 2 rfl) ?_
            refine lv_iconst (v := 1) hx hb d_ZoneNodesModel_query_152 (by decide) ?_
            refine lv_isub hx hb d_ZoneNodesModel_query_153 ?_
            refine lv_imul hx hb d_ZoneNodesModel_query_154 ?_
            refine lv_bipush (v := 8) hx hb d_ZoneNodesModel_query_155 (by decide) ?_
            replace hm := zb1_s hm
            obtain ⟨_, h36, hm⟩ := hm
            replace hm := zb1_s hm
            obtain ⟨v37, h35, hm⟩ := hm
            refine zr_calli (zr_runV (As := [.int w1, .int w4, .int (8 * (w3 - 1)), .int 8]) (rest := []) (n := 4) hx hb hml hown hts hk hX (c_ZoneNodesModel_shown l G N X w0 w1 w4 (8 * (w3 - 1)) 8 v37 h35) (hts _ tW539) tW540 (hts _ tW469) (hts _ tW541) (hts _ tW542) rfl h36 (by decide +kernel) ⟨Nat.le_of_ble_eq_true rfl, Nat.le_of_ble_eq_true rfl⟩ rfl rfl hl.1 rfl (lv_room (Nat.le_of_ble_eq_true rfl)) d_ZoneNodesModel_query_157 ⟨(Nat.le_of_ble_eq_true rfl), (Nat.le_of_ble_eq_true rfl)⟩) hS (fun H locs hX hS => ?_)
            obtain rfl := hret _ (Option.some.inj hm).symm
            exact W.iret hx hb hr (fun t ht hW => zh_end hk hX hS ht hW) hS.2.2 d_ZoneNodesModel_query_160
          · replace hm := zi_t h34 hm
            refine lv_sipush (v := 300) hx hb d_ZoneNodesModel_query_139 (by decide) ?_
            refine lv_goto (tgt := 160) hx hb d_ZoneNodesModel_query_142 rfl ?_
            obtain rfl := hret _ (Option.some.inj hm).symm
            exact W.iret hx hb hr (fun t ht hW => zh_end hk hX hS ht hW) hS.2.2 d_ZoneNodesModel_query_160
  refine lv_iload_n hx hb d_ZoneNodesModel_query_0 rfl (lv_at hl 1 rfl) ?_
  replace hm := zb1_s hm
  obtain ⟨v2, h1, hm⟩ := hm
  refine zr_calli (zr_runS (As := [.int x1]) (rest := []) (n := 1) hx hb hml hown hts hk hX (c_ZoneNodesModel_isNode l G N X x1 v2 h1) (hts _ tW493) tW494 (hts _ tW469) (hts _ tW495) (by decide +kernel) ⟨Nat.le_of_ble_eq_true rfl, Nat.le_of_ble_eq_true rfl⟩ rfl rfl hl.1 rfl (lv_room (Nat.le_of_ble_eq_true rfl)) d_ZoneNodesModel_query_1 ⟨(Nat.le_of_ble_eq_true rfl), (Nat.le_of_ble_eq_true rfl)⟩) hS (fun H locs hX hS => ?_)
  refine lv_if_eq (tgt := 51) hx hb d_ZoneNodesModel_query_4 rfl (fun h3 => ?_) (fun h3 => ?_)
  · replace hm := zi_t h3 hm
    refine lv_iconst (v := (-1)) hx hb d_ZoneNodesModel_query_51 (by decide) ?_
    cases hm
    exact W.iret hx hb hr (fun t ht hW => zh_end hk hX hS ht hW) hS.2.2 d_ZoneNodesModel_query_52
  · replace hm := zi_f h3 hm
    refine lv_iload_n hx hb d_ZoneNodesModel_query_7 rfl (lv_at hl 2 rfl) ?_
    refine lv_iload_n hx hb d_ZoneNodesModel_query_8 rfl (lv_at hl 3 rfl) ?_
    refine lv_iconst (v := 0) hx hb d_ZoneNodesModel_query_9 (by decide) ?_
    replace hm := zb1_s hm
    obtain ⟨v5, h4, hm⟩ := hm
    refine zr_calli (zr_runS (As := [.int x2, .int x3, .int 0]) (rest := []) (n := 3) hx hb hml hown hts hk hX (c_ZoneNodesModel_isRecord l G N X x2 x3 0 v5 h4) (hts _ tW481) tW482 (hts _ tW469) (hts _ tW483) (by decide +kernel) ⟨Nat.le_of_ble_eq_true rfl, Nat.le_of_ble_eq_true rfl⟩ rfl rfl hl.1 rfl (lv_room (Nat.le_of_ble_eq_true rfl)) d_ZoneNodesModel_query_10 ⟨(Nat.le_of_ble_eq_true rfl), (Nat.le_of_ble_eq_true rfl)⟩) hS (fun H locs hX hS => ?_)
    refine lv_if_eq (tgt := 51) hx hb d_ZoneNodesModel_query_13 rfl (fun h6 => ?_) (fun h6 => ?_)
    · replace hm := zi_t h6 hm
      refine lv_iconst (v := (-1)) hx hb d_ZoneNodesModel_query_51 (by decide) ?_
      cases hm
      exact W.iret hx hb hr (fun t ht hW => zh_end hk hX hS ht hW) hS.2.2 d_ZoneNodesModel_query_52
    · replace hm := zi_f h6 hm
      refine lv_aload_n hx hb d_ZoneNodesModel_query_16 rfl (lv_at hl 0 rfl) ?_
      replace hm := zb1_s hm
      obtain ⟨a8, h7, hm⟩ := hm
      refine zr_get (ci := 9) (C := R_ZoneNodesModel) (T := F_ZoneNodesModel) (N := 32) hx hb hts in_ZoneNodesModel hown hk hX rfl 4 (by decide) (hts _ tW443) rfl (zgr_v h7) d_ZoneNodesModel_query_17 ?_
      refine lv_iload_n hx hb d_ZoneNodesModel_query_20 rfl (lv_at hl 1 rfl) ?_
      replace hm := zb1_s hm
      obtain ⟨v9, h10, hm⟩ := hm
      refine zr_baload hx hb hk hX h10 d_ZoneNodesModel_query_21 ?_
      refine lv_if_eq (tgt := 51) hx hb d_ZoneNodesModel_query_22 rfl (fun h11 => ?_) (fun h11 => ?_)
      · replace hm := zi_t h11 hm
        refine lv_iconst (v := (-1)) hx hb d_ZoneNodesModel_query_51 (by decide) ?_
        cases hm
        exact W.iret hx hb hr (fun t ht hW => zh_end hk hX hS ht hW) hS.2.2 d_ZoneNodesModel_query_52
      · replace hm := zi_f h11 hm
        refine lv_aload_n hx hb d_ZoneNodesModel_query_25 rfl (lv_at hl 0 rfl) ?_
        replace hm := zb1_s hm
        obtain ⟨a13, h12, hm⟩ := hm
        refine zr_get (ci := 9) (C := R_ZoneNodesModel) (T := F_ZoneNodesModel) (N := 32) hx hb hts in_ZoneNodesModel hown hk hX rfl 5 (by decide) (hts _ tW444) rfl (zgr_v h12) d_ZoneNodesModel_query_26 ?_
        refine lv_iload_n hx hb d_ZoneNodesModel_query_29 rfl (lv_at hl 1 rfl) ?_
        replace hm := zb1_s hm
        obtain ⟨v14, h15, hm⟩ := hm
        refine zr_baload hx hb hk hX h15 d_ZoneNodesModel_query_30 ?_
        refine lv_if_eq (tgt := 51) hx hb d_ZoneNodesModel_query_31 rfl (fun h16 => ?_) (fun h16 => ?_)
        · replace hm := zi_t h16 hm
          refine lv_iconst (v := (-1)) hx hb d_ZoneNodesModel_query_51 (by decide) ?_
          cases hm
          exact W.iret hx hb hr (fun t ht hW => zh_end hk hX hS ht hW) hS.2.2 d_ZoneNodesModel_query_52
        · replace hm := zi_f h16 hm
          refine lv_iload_n hx hb d_ZoneNodesModel_query_34 rfl (lv_at hl 1 rfl) ?_
          refine lv_if_le (tgt := 53) hx hb d_ZoneNodesModel_query_35 rfl (fun h17 => ?_) (fun h17 => ?_)
          · replace hm := zi_t h17 hm
            refine lv_iload_n hx hb d_ZoneNodesModel_query_53 rfl (lv_at hl 2 rfl) ?_
            refine lv_istore (lv' := [(4, .int x2), (0, .ref x0), (1, .int x1), (2, .int x2), (3, .int x3)]) hx hb d_ZoneNodesModel_query_54 hl (by decide) rfl (fun ls hl => ?_)
            refine lv_iconst (v := 0) hx hb d_ZoneNodesModel_query_56 (by decide) ?_
            refine lv_istore (lv' := [(5, .int 0), (4, .int x2), (0, .ref x0), (1, .int x1), (2, .int x2), (3, .int x3)]) hx hb d_ZoneNodesModel_query_57 hl (by decide) rfl (fun ls hl => ?_)
            replace hm := zbs_s hm
            obtain ⟨o40, h39, hm⟩ := hm
            refine hL59 N X x0 x1 x3 x2 0 o40 _ _ _ h39 hX hS (lv_sub hl [2, 3, 5, 1, 0] rfl) (fun r0 e0 => ?_) (fun v38 e0 H locs ls hX hS hl => ?_)
            · subst e0
              replace hm := zs_l hm
              exact Option.some.inj hm
            · subst e0
              replace hm := zs_r hm
              refine lv_sipush (v := 200) hx hb d_ZoneNodesModel_query_171 (by decide) ?_
              cases hm
              exact W.iret hx hb hr (fun t ht hW => zh_end hk hX hS ht hW) hS.2.2 d_ZoneNodesModel_query_174
          · replace hm := zi_f h17 hm
            refine lv_aload_n hx hb d_ZoneNodesModel_query_38 rfl (lv_at hl 0 rfl) ?_
            replace hm := zb1_s hm
            obtain ⟨v42, h41, hm⟩ := hm
            refine zr_get (ci := 9) (C := R_ZoneNodesModel) (T := F_ZoneNodesModel) (N := 32) hx hb hts in_ZoneNodesModel hown hk hX rfl 3 (by decide) (hts _ tW441) rfl (zgi_v h41) d_ZoneNodesModel_query_39 ?_
            refine lv_aload_n hx hb d_ZoneNodesModel_query_42 rfl (lv_at hl 0 rfl) ?_
            replace hm := zb1_s hm
            obtain ⟨a44, h43, hm⟩ := hm
            refine zr_get (ci := 9) (C := R_ZoneNodesModel) (T := F_ZoneNodesModel) (N := 32) hx hb hts in_ZoneNodesModel hown hk hX rfl 11 (by decide) (hts _ tW448) rfl (zgr_v h43) d_ZoneNodesModel_query_43 ?_
            refine lv_iload_n hx hb d_ZoneNodesModel_query_46 rfl (lv_at hl 1 rfl) ?_
            replace hm := zb1_s hm
            obtain ⟨v45, h46, hm⟩ := hm
            refine zr_iaload hx hb hk hX h46 d_ZoneNodesModel_query_47 ?_
            refine lv_icmp_lt (tgt := 53) hx hb d_ZoneNodesModel_query_48 rfl (fun h47 => ?_) (fun h47 => ?_)
            · replace hm := zi_t h47 hm
              refine lv_iload_n hx hb d_ZoneNodesModel_query_53 rfl (lv_at hl 2 rfl) ?_
              refine lv_istore (lv' := [(4, .int x2), (0, .ref x0), (1, .int x1), (2, .int x2), (3, .int x3)]) hx hb d_ZoneNodesModel_query_54 hl (by decide) rfl (fun ls hl => ?_)
              refine lv_iconst (v := 0) hx hb d_ZoneNodesModel_query_56 (by decide) ?_
              refine lv_istore (lv' := [(5, .int 0), (4, .int x2), (0, .ref x0), (1, .int x1), (2, .int x2), (3, .int x3)]) hx hb d_ZoneNodesModel_query_57 hl (by decide) rfl (fun ls hl => ?_)
              replace hm := zbs_s hm
              obtain ⟨o50, h49, hm⟩ := hm
              refine hL59 N X x0 x1 x3 x2 0 o50 _ _ _ h49 hX hS (lv_sub hl [2, 3, 5, 1, 0] rfl) (fun r0 e0 => ?_) (fun v48 e0 H locs ls hX hS hl => ?_)
              · subst e0
                replace hm := zs_l hm
                exact Option.some.inj hm
              · subst e0
                replace hm := zs_r hm
                refine lv_sipush (v := 200) hx hb d_ZoneNodesModel_query_171 (by decide) ?_
                cases hm
                exact W.iret hx hb hr (fun t ht hW => zh_end hk hX hS ht hW) hS.2.2 d_ZoneNodesModel_query_174
            · replace hm := zi_f h47 hm
              refine lv_iconst (v := (-1)) hx hb d_ZoneNodesModel_query_51 (by decide) ?_
              cases hm
              exact W.iret hx hb hr (fun t ht hW => zh_end hk hX hS ht hW) hS.2.2 d_ZoneNodesModel_query_52
set_option maxHeartbeats 4000000 in
set_option maxRecDepth 100000 in
theorem c_ZoneNodesModel_notifyBoth (l : Launch) (G : zh_G) (N : Nat) (X : zh_T) (x0 : Nat) (r : Unit) (X' : zh_T) (hm : f_ZoneNodesModel_notifyBoth N X x0 = some (r, X')) : zM l G y_ZoneNodesModel_notifyBoth w_ZoneNodesModel_notifyBoth 2 52 X [.ref x0] none X' 0 0 := by
  refine zr_ofW (by decide) (by exact Nat.le_of_ble_eq_true rfl) ?_
  intro p e s m args below meth c ls hx hb hml hr hts hown hin hlocks hk hX hl
  have hS : va_S (zh_A G) s.heap s.heap [] := va_S.rf
  have hl : lv_has ls 1 [(0, .ref x0)] := hl
  have hown : s.vm.findClass R_ZoneNodesModel = some m.cls := hown
  unfold f_ZoneNodesModel_notifyBoth at hm
  refine lv_aload_n hx hb d_ZoneNodesModel_notifyBoth_0 rfl (lv_at hl 0 rfl) ?_
  refine lv_iconst (v := 1) hx hb d_ZoneNodesModel_notifyBoth_1 (by decide) ?_
  refine lv_iconst (v := 1) hx hb d_ZoneNodesModel_notifyBoth_2 (by decide) ?_
  refine lv_aload_n hx hb d_ZoneNodesModel_notifyBoth_3 rfl (lv_at hl 0 rfl) ?_
  replace hm := zb1_s hm
  obtain ⟨a2, h1, hm⟩ := hm
  refine zr_get (ci := 9) (C := R_ZoneNodesModel) (T := F_ZoneNodesModel) (N := 32) hx hb hts in_ZoneNodesModel hown hk hX rfl 6 (by decide) (hts _ tW445) rfl (zgr_v h1) d_ZoneNodesModel_notifyBoth_4 ?_
  refine lv_iconst (v := 0) hx hb d_ZoneNodesModel_notifyBoth_7 (by decide) ?_
  replace hm := zb1_s hm
  obtain ⟨v3, h4, hm⟩ := hm
  refine zr_iaload hx hb hk hX h4 d_ZoneNodesModel_notifyBoth_8 ?_
  replace hm := zb1_s hm
  obtain ⟨_, h6, hm⟩ := hm
  replace hm := zb2_s hm
  obtain ⟨v7, X8, h5, hm⟩ := hm
  refine zr_callv (zr_runV (As := [.int 1, .int 1, .int v3]) (rest := []) (n := 3) hx hb hml hown hts hk hX (c_ZoneNodesModel_send l G N X x0 1 1 v3 v7 X8 h5) (hts _ tW504) tW505 (hts _ tW469) (hts _ tW506) (hts _ tW507) rfl h6 (by decide +kernel) ⟨Nat.le_of_ble_eq_true rfl, Nat.le_of_ble_eq_true rfl⟩ rfl rfl hl.1 rfl (lv_room (Nat.le_of_ble_eq_true rfl)) d_ZoneNodesModel_notifyBoth_9 ⟨(Nat.le_of_ble_eq_true rfl), (Nat.le_of_ble_eq_true rfl)⟩) hS (fun H locs hX hS => ?_)
  refine lv_aload_n hx hb d_ZoneNodesModel_notifyBoth_12 rfl (lv_at hl 0 rfl) ?_
  refine lv_iconst (v := 1) hx hb d_ZoneNodesModel_notifyBoth_13 (by decide) ?_
  refine lv_iconst (v := 2) hx hb d_ZoneNodesModel_notifyBoth_14 (by decide) ?_
  refine lv_aload_n hx hb d_ZoneNodesModel_notifyBoth_15 rfl (lv_at hl 0 rfl) ?_
  replace hm := zb1_s hm
  obtain ⟨a10, h9, hm⟩ := hm
  refine zr_get (ci := 9) (C := R_ZoneNodesModel) (T := F_ZoneNodesModel) (N := 32) hx hb hts in_ZoneNodesModel hown hk hX rfl 6 (by decide) (hts _ tW445) rfl (zgr_v h9) d_ZoneNodesModel_notifyBoth_16 ?_
  refine lv_iconst (v := 0) hx hb d_ZoneNodesModel_notifyBoth_19 (by decide) ?_
  replace hm := zb1_s hm
  obtain ⟨v11, h12, hm⟩ := hm
  refine zr_iaload hx hb hk hX h12 d_ZoneNodesModel_notifyBoth_20 ?_
  replace hm := zb1_s hm
  obtain ⟨_, h14, hm⟩ := hm
  replace hm := zb2_s hm
  obtain ⟨v15, X16, h13, hm⟩ := hm
  refine zr_callv (zr_runV (As := [.int 1, .int 2, .int v11]) (rest := []) (n := 3) hx hb hml hown hts hk hX (c_ZoneNodesModel_send l G N X8 x0 1 2 v11 v15 X16 h13) (hts _ tW504) tW505 (hts _ tW469) (hts _ tW506) (hts _ tW507) rfl h14 (by decide +kernel) ⟨Nat.le_of_ble_eq_true rfl, Nat.le_of_ble_eq_true rfl⟩ rfl rfl hl.1 rfl (lv_room (Nat.le_of_ble_eq_true rfl)) d_ZoneNodesModel_notifyBoth_21 ⟨(Nat.le_of_ble_eq_true rfl), (Nat.le_of_ble_eq_true rfl)⟩) hS (fun H locs hX hS => ?_)
  cases hm
  exact W.vret hx hb hr (fun t ht hW => zh_end hk hX hS ht hW) hS.2.2 d_ZoneNodesModel_notifyBoth_24
set_option maxHeartbeats 4000000 in
set_option maxRecDepth 100000 in
theorem c_ZoneNodesModel_install (l : Launch) (G : zh_G) (N : Nat) (X : zh_T) (x0 : Nat) (r : Unit) (X' : zh_T) (hm : f_ZoneNodesModel_install N X x0 = some (r, X')) : zM l G y_ZoneNodesModel_install w_ZoneNodesModel_install 3 72 X [.ref x0] none X' 0 0 := by
  refine zr_ofW (by decide) (by exact Nat.le_of_ble_eq_true rfl) ?_
  intro p e s m args below meth c ls hx hb hml hr hts hown hin hlocks hk hX hl
  have hS : va_S (zh_A G) s.heap s.heap [] := va_S.rf
  have hl : lv_has ls 3 [(0, .ref x0)] := hl
  have hown : s.vm.findClass R_ZoneNodesModel = some m.cls := hown
  unfold f_ZoneNodesModel_install at hm
  have hL9 : ∀ (n : Nat) (X : zh_T) (w0 : Nat) (w1 : Int32) (w2 : Int32) (v : Unit) (X1 : zh_T) (H : Heap) (locs : List Loc) (ls : Array Slot), L_ZoneNodesModel_install_9 N w0 w1 n X w2 = some (v, X1) → zh_w G X H → va_S (zh_A G) s.heap H locs → lv_has ls 3 [(0, .ref w0), (1, .int w1), (2, .int w2)] → (∀ (H : Heap) (locs : List Loc) (ls : Array Slot), zh_w G X1 H → va_S (zh_A G) s.heap H locs → lv_has ls 3 [(0, .ref w0), (1, .int w1)] → W p l e { frames := 3, cells := 0, slots := 0, locals := 72 } s m args below meth c H locs 0 0 (MQ below (zh_Q G none X') args s 0 0 (zh_A G)) (F0 m 40 ls [])) → W p l e { frames := 3, cells := 0, slots := 0, locals := 72 } s m args below meth c H locs 0 0 (MQ below (zh_Q G none X') args s 0 0 (zh_A G)) (F0 m 9 ls []) := by
    intro n
    induction n with
    | zero =>
      intro X w0 w1 w2 v X1 H locs ls hm hX hS hl hexit
      rw [L_ZoneNodesModel_install_9] at hm
      cases hm
    | succ n ih =>
      intro X w0 w1 w2 v X1 H locs ls hm hX hS hl hexit
      rw [L_ZoneNodesModel_install_9] at hm
      refine lv_iload_n hx hb d_ZoneNodesModel_install_9 rfl (lv_at hl 2 rfl) ?_
      refine lv_sipush (v := 256) hx hb d_ZoneNodesModel_install_10 (by decide) ?_
      refine lv_icmp_ge (tgt := 40) hx hb d_ZoneNodesModel_install_13 rfl (fun h3 => ?_) (fun h3 => ?_)
      · replace hm := zi_t h3 hm
        cases hm
        exact hexit _ _ _ hX hS (lv_sub hl [0, 1] rfl)
      · replace hm := zi_f h3 hm
        refine lv_aload_n hx hb d_ZoneNodesModel_install_16 rfl (lv_at hl 0 rfl) ?_
        replace hm := zb1_s hm
        obtain ⟨a5, h4, hm⟩ := hm
        refine zr_get (ci := 9) (C := R_ZoneNodesModel) (T := F_ZoneNodesModel) (N := 32) hx hb hts in_ZoneNodesModel hown hk hX rfl 7 (by decide) (hts _ tW446) rfl (zgr_v h4) d_ZoneNodesModel_install_17 ?_
        refine lv_iload_n hx hb d_ZoneNodesModel_install_20 rfl (lv_at hl 2 rfl) ?_
        refine lv_aload_n hx hb d_ZoneNodesModel_install_21 rfl (lv_at hl 0 rfl) ?_
        replace hm := zb1_s hm
        obtain ⟨a7, h6, hm⟩ := hm
        refine zr_get (ci := 9) (C := R_ZoneNodesModel) (T := F_ZoneNodesModel) (N := 32) hx hb hts in_ZoneNodesModel hown hk hX rfl 21 (by decide) (hts _ tW454) rfl (zgr_v h6) d_ZoneNodesModel_install_22 ?_
        refine lv_sipush (v := 256) hx hb d_ZoneNodesModel_install_25 (by decide) ?_
        refine lv_iload_n hx hb d_ZoneNodesModel_install_28 rfl (lv_at hl 1 rfl) ?_
        refine lv_imul hx hb d_ZoneNodesModel_install_29 ?_
        refine lv_iload_n hx hb d_ZoneNodesModel_install_30 rfl (lv_at hl 2 rfl) ?_
        refine lv_iadd hx hb d_ZoneNodesModel_install_31 ?_
        replace hm := zb1_s hm
        obtain ⟨v8, h9, hm⟩ := hm
        refine zr_baload hx hb hk hX h9 d_ZoneNodesModel_install_32 ?_
        replace hm := zb1_s hm
        obtain ⟨X10, h11, hm⟩ := hm
        refine zr_bastore hx hb hk hX hS h11 d_ZoneNodesModel_install_33 (fun H locs hX hS => ?_)
        refine lv_iinc (v := w2 + 1) (lv' := [(2, .int (w2 + 1)), (0, .ref w0), (1, .int w1)]) hx hb d_ZoneNodesModel_install_34 hl (k := 2) rfl (by rw [show Int32.ofInt 1 = 1 by decide]) (by decide) rfl (fun ls hl => ?_)
        refine lv_goto (tgt := 9) hx hb d_ZoneNodesModel_install_37 rfl ?_
        exact ih X10 w0 w1 (w2 + 1) v X1 _ _ _ hm hX hS (lv_sub hl [1, 2, 0] rfl) hexit
  have hL69 : ∀ (n : Nat) (X : zh_T) (w0 : Nat) (w2 : Int32) (v : Unit) (X1 : zh_T) (H : Heap) (locs : List Loc) (ls : Array Slot), L_ZoneNodesModel_install_69 N w0 n X w2 = some (v, X1) → zh_w G X H → va_S (zh_A G) s.heap H locs → lv_has ls 3 [(0, .ref w0), (2, .int w2)] → (∀ (H : Heap) (locs : List Loc) (ls : Array Slot), zh_w G X1 H → va_S (zh_A G) s.heap H locs → lv_has ls 3 [(0, .ref w0)] → W p l e { frames := 3, cells := 0, slots := 0, locals := 72 } s m args below meth c H locs 0 0 (MQ below (zh_Q G none X') args s 0 0 (zh_A G)) (F0 m 122 ls [])) → W p l e { frames := 3, cells := 0, slots := 0, locals := 72 } s m args below meth c H locs 0 0 (MQ below (zh_Q G none X') args s 0 0 (zh_A G)) (F0 m 69 ls []) := by
    intro n
    induction n with
    | zero =>
      intro X w0 w2 v X1 H locs ls hm hX hS hl hexit
      rw [L_ZoneNodesModel_install_69] at hm
      cases hm
    | succ n ih =>
      intro X w0 w2 v X1 H locs ls hm hX hS hl hexit
      rw [L_ZoneNodesModel_install_69] at hm
      refine lv_iload_n hx hb d_ZoneNodesModel_install_69 rfl (lv_at hl 1 rfl) ?_
      refine lv_iconst (v := 4) hx hb d_ZoneNodesModel_install_70 (by decide) ?_
      refine lv_icmp_ge (tgt := 122) hx hb d_ZoneNodesModel_install_71 rfl (fun h32 => ?_) (fun h32 => ?_)
      · replace hm := zi_t h32 hm
        cases hm
        exact hexit _ _ _ hX hS (lv_sub hl [0] rfl)
      · replace hm := zi_f h32 hm
        refine lv_aload_n hx hb d_ZoneNodesModel_install_74 rfl (lv_at hl 0 rfl) ?_
        replace hm := zb1_s hm
        obtain ⟨a34, h33, hm⟩ := hm
        refine zr_get (ci := 9) (C := R_ZoneNodesModel) (T := F_ZoneNodesModel) (N := 32) hx hb hts in_ZoneNodesModel hown hk hX rfl 19 (by decide) (hts _ tW452) rfl (zgr_v h33) d_ZoneNodesModel_install_75 ?_
        refine lv_iload_n hx hb d_ZoneNodesModel_install_78 rfl (lv_at hl 1 rfl) ?_
        refine lv_aload_n hx hb d_ZoneNodesModel_install_79 rfl (lv_at hl 0 rfl) ?_
        replace hm := zb1_s hm
        obtain ⟨a36, h35, hm⟩ := hm
        refine zr_get (ci := 9) (C := R_ZoneNodesModel) (T := F_ZoneNodesModel) (N := 32) hx hb hts in_ZoneNodesModel hown hk hX rfl 19 (by decide) (hts _ tW452) rfl (zgr_v h35) d_ZoneNodesModel_install_80 ?_
        refine lv_iload_n hx hb d_ZoneNodesModel_install_83 rfl (lv_at hl 1 rfl) ?_
        refine lv_iconst (v := 1) hx hb d_ZoneNodesModel_install_84 (by decide) ?_
        refine lv_iadd hx hb d_ZoneNodesModel_install_85 ?_
        replace hm := zb1_s hm
        obtain ⟨v37, h38, hm⟩ := hm
        refine zr_iaload hx hb hk hX h38 d_ZoneNodesModel_install_86 ?_
        replace hm := zb1_s hm
        obtain ⟨X39, h40, hm⟩ := hm
        refine zr_iastore hx hb hk hX hS h40 d_ZoneNodesModel_install_87 (fun H locs hX hS => ?_)
        refine lv_aload_n hx hb d_ZoneNodesModel_install_88 rfl (lv_at hl 0 rfl) ?_
        replace hm := zb1_s hm
        obtain ⟨a42, h41, hm⟩ := hm
        refine zr_get (ci := 9) (C := R_ZoneNodesModel) (T := F_ZoneNodesModel) (N := 32) hx hb hts in_ZoneNodesModel hown hk hX rfl 20 (by decide) (hts _ tW453) rfl (zgr_v h41) d_ZoneNodesModel_install_89 ?_
        refine lv_iload_n hx hb d_ZoneNodesModel_install_92 rfl (lv_at hl 1 rfl) ?_
        refine lv_aload_n hx hb d_ZoneNodesModel_install_93 rfl (lv_at hl 0 rfl) ?_
        replace hm := zb1_s hm
        obtain ⟨a44, h43, hm⟩ := hm
        refine zr_get (ci := 9) (C := R_ZoneNodesModel) (T := F_ZoneNodesModel) (N := 32) hx hb hts in_ZoneNodesModel hown hk hX rfl 20 (by decide) (hts _ tW453) rfl (zgr_v h43) d_ZoneNodesModel_install_94 ?_
        refine lv_iload_n hx hb d_ZoneNodesModel_install_97 rfl (lv_at hl 1 rfl) ?_
        refine lv_iconst (v := 1) hx hb d_ZoneNodesModel_install_98 (by decide) ?_
        refine lv_iadd hx hb d_ZoneNodesModel_install_99 ?_
        replace hm := zb1_s hm
        obtain ⟨v45, h46, hm⟩ := hm
        refine zr_baload hx hb hk hX h46 d_ZoneNodesModel_install_100 ?_
        replace hm := zb1_s hm
        obtain ⟨X47, h48, hm⟩ := hm
        refine zr_bastore hx hb hk hX hS h48 d_ZoneNodesModel_install_101 (fun H locs hX hS => ?_)
        refine lv_aload_n hx hb d_ZoneNodesModel_install_102 rfl (lv_at hl 0 rfl) ?_
        replace hm := zb1_s hm
        obtain ⟨a50, h49, hm⟩ := hm
        refine zr_get (ci := 9) (C := R_ZoneNodesModel) (T := F_ZoneNodesModel) (N := 32) hx hb hts in_ZoneNodesModel hown hk hX rfl 22 (by decide) (hts _ tW455) rfl (zgr_v h49) d_ZoneNodesModel_install_103 ?_
        refine lv_iload_n hx hb d_ZoneNodesModel_install_106 rfl (lv_at hl 1 rfl) ?_
        refine lv_aload_n hx hb d_ZoneNodesModel_install_107 rfl (lv_at hl 0 rfl) ?_
        replace hm := zb1_s hm
        obtain ⟨a52, h51, hm⟩ := hm
        refine zr_get (ci := 9) (C := R_ZoneNodesModel) (T := F_ZoneNodesModel) (N := 32) hx hb hts in_ZoneNodesModel hown hk hX rfl 22 (by decide) (hts _ tW455) rfl (zgr_v h51) d_ZoneNodesModel_install_108 ?_
        refine lv_iload_n hx hb d_ZoneNodesModel_install_111 rfl (lv_at hl 1 rfl) ?_
        refine lv_iconst (v := 1) hx hb d_ZoneNodesModel_install_112 (by decide) ?_
        refine lv_iadd hx hb d_ZoneNodesModel_install_113 ?_
        replace hm := zb1_s hm
        obtain ⟨v53, h54, hm⟩ := hm
        refine zr_iaload hx hb hk hX h54 d_ZoneNodesModel_install_114 ?_
        replace hm := zb1_s hm
        obtain ⟨X55, h56, hm⟩ := hm
        refine zr_iastore hx hb hk hX hS h56 d_ZoneNodesModel_install_115 (fun H locs hX hS => ?_)
        refine lv_iinc (v := w2 + 1) (lv' := [(2, .int (w2 + 1)), (0, .ref w0)]) hx hb d_ZoneNodesModel_install_116 hl (k := 1) rfl (by rw [show Int32.ofInt 1 = 1 by decide]) (by decide) rfl (fun ls hl => ?_)
        refine lv_goto (tgt := 69) hx hb d_ZoneNodesModel_install_119 rfl ?_
        exact ih X55 w0 (w2 + 1) v X1 _ _ _ hm hX hS (lv_sub hl [1, 0] rfl) hexit
  have hL124 : ∀ (n : Nat) (X : zh_T) (w0 : Nat) (w2 : Int32) (v : Unit) (X1 : zh_T) (H : Heap) (locs : List Loc) (ls : Array Slot), L_ZoneNodesModel_install_124 N w0 n X w2 = some (v, X1) → zh_w G X H → va_S (zh_A G) s.heap H locs → lv_has ls 3 [(0, .ref w0), (2, .int w2)] → (∀ (H : Heap) (locs : List Loc) (ls : Array Slot), zh_w G X1 H → va_S (zh_A G) s.heap H locs → lv_has ls 3 [(0, .ref w0)] → W p l e { frames := 3, cells := 0, slots := 0, locals := 72 } s m args below meth c H locs 0 0 (MQ below (zh_Q G none X') args s 0 0 (zh_A G)) (F0 m 153 ls [])) → W p l e { frames := 3, cells := 0, slots := 0, locals := 72 } s m args below meth c H locs 0 0 (MQ below (zh_Q G none X') args s 0 0 (zh_A G)) (F0 m 124 ls []) := by
    intro n
    induction n with
    | zero =>
      intro X w0 w2 v X1 H locs ls hm hX hS hl hexit
      rw [L_ZoneNodesModel_install_124] at hm
      cases hm
    | succ n ih =>
      intro X w0 w2 v X1 H locs ls hm hX hS hl hexit
      rw [L_ZoneNodesModel_install_124] at hm
      refine lv_iload_n hx hb d_ZoneNodesModel_install_124 rfl (lv_at hl 1 rfl) ?_
      refine lv_sipush (v := 1024) hx hb d_ZoneNodesModel_install_125 (by decide) ?_
      refine lv_icmp_ge (tgt := 153) hx hb d_ZoneNodesModel_install_128 rfl (fun h60 => ?_) (fun h60 => ?_)
      · replace hm := zi_t h60 hm
        cases hm
        exact hexit _ _ _ hX hS (lv_sub hl [0] rfl)
      · replace hm := zi_f h60 hm
        refine lv_aload_n hx hb d_ZoneNodesModel_install_131 rfl (lv_at hl 0 rfl) ?_
        replace hm := zb1_s hm
        obtain ⟨a62, h61, hm⟩ := hm
        refine zr_get (ci := 9) (C := R_ZoneNodesModel) (T := F_ZoneNodesModel) (N := 32) hx hb hts in_ZoneNodesModel hown hk hX rfl 21 (by decide) (hts _ tW454) rfl (zgr_v h61) d_ZoneNodesModel_install_132 ?_
        refine lv_iload_n hx hb d_ZoneNodesModel_install_135 rfl (lv_at hl 1 rfl) ?_
        refine lv_aload_n hx hb d_ZoneNodesModel_install_136 rfl (lv_at hl 0 rfl) ?_
        replace hm := zb1_s hm
        obtain ⟨a64, h63, hm⟩ := hm
        refine zr_get (ci := 9) (C := R_ZoneNodesModel) (T := F_ZoneNodesModel) (N := 32) hx hb hts in_ZoneNodesModel hown hk hX rfl 21 (by decide) (hts _ tW454) rfl (zgr_v h63) d_ZoneNodesModel_install_137 ?_
        refine lv_iload_n hx hb d_ZoneNodesModel_install_140 rfl (lv_at hl 1 rfl) ?_
        refine lv_sipush (v := 256) hx hb d_ZoneNodesModel_install_141 (by decide) ?_
        refine lv_iadd hx hb d_ZoneNodesModel_install_144 ?_
        replace hm := zb1_s hm
        obtain ⟨v65, h66, hm⟩ := hm
        refine zr_baload hx hb hk hX h66 d_ZoneNodesModel_install_145 ?_
        replace hm := zb1_s hm
        obtain ⟨X67, h68, hm⟩ := hm
        refine zr_bastore hx hb hk hX hS h68 d_ZoneNodesModel_install_146 (fun H locs hX hS => ?_)
        refine lv_iinc (v := w2 + 1) (lv' := [(2, .int (w2 + 1)), (0, .ref w0)]) hx hb d_ZoneNodesModel_install_147 hl (k := 1) rfl (by rw [show Int32.ofInt 1 = 1 by decide]) (by decide) rfl (fun ls hl => ?_)
        refine lv_goto (tgt := 124) hx hb d_ZoneNodesModel_install_150 rfl ?_
        exact ih X67 w0 (w2 + 1) v X1 _ _ _ hm hX hS (lv_sub hl [1, 0] rfl) hexit
  refine lv_aload_n hx hb d_ZoneNodesModel_install_0 rfl (lv_at hl 0 rfl) ?_
  replace hm := zb1_s hm
  obtain ⟨v2, h1, hm⟩ := hm
  refine zr_get (ci := 9) (C := R_ZoneNodesModel) (T := F_ZoneNodesModel) (N := 32) hx hb hts in_ZoneNodesModel hown hk hX rfl 18 (by decide) (hts _ tW508) rfl (zgi_v h1) d_ZoneNodesModel_install_1 ?_
  refine lv_iconst (v := 1) hx hb d_ZoneNodesModel_install_4 (by decide) ?_
  refine lv_isub hx hb d_ZoneNodesModel_install_5 ?_
  refine lv_istore_n (lv' := [(1, .int (v2 - 1)), (0, .ref x0)]) hx hb d_ZoneNodesModel_install_6 rfl hl (by decide) rfl (fun ls hl => ?_)
  refine lv_iconst (v := 0) hx hb d_ZoneNodesModel_install_7 (by decide) ?_
  refine lv_istore_n (lv' := [(2, .int 0), (1, .int (v2 - 1)), (0, .ref x0)]) hx hb d_ZoneNodesModel_install_8 rfl hl (by decide) rfl (fun ls hl => ?_)
  replace hm := zb2_s hm
  obtain ⟨v12, X14, h13, hm⟩ := hm
  refine hL9 N X x0 (v2 - 1) 0 v12 X14 _ _ _ h13 hX hS (lv_sub hl [2, 1, 0] rfl) (fun H locs ls hX hS hl => ?_)
  refine lv_aload_n hx hb d_ZoneNodesModel_install_40 rfl (lv_at hl 0 rfl) ?_
  replace hm := zb1_s hm
  obtain ⟨a16, h15, hm⟩ := hm
  refine zr_get (ci := 9) (C := R_ZoneNodesModel) (T := F_ZoneNodesModel) (N := 32) hx hb hts in_ZoneNodesModel hown hk hX rfl 6 (by decide) (hts _ tW445) rfl (zgr_v h15) d_ZoneNodesModel_install_41 ?_
  refine lv_iconst (v := 0) hx hb d_ZoneNodesModel_install_44 (by decide) ?_
  refine lv_aload_n hx hb d_ZoneNodesModel_install_45 rfl (lv_at hl 0 rfl) ?_
  replace hm := zb1_s hm
  obtain ⟨a18, h17, hm⟩ := hm
  refine zr_get (ci := 9) (C := R_ZoneNodesModel) (T := F_ZoneNodesModel) (N := 32) hx hb hts in_ZoneNodesModel hown hk hX rfl 19 (by decide) (hts _ tW452) rfl (zgr_v h17) d_ZoneNodesModel_install_46 ?_
  refine lv_iload_n hx hb d_ZoneNodesModel_install_49 rfl (lv_at hl 1 rfl) ?_
  replace hm := zb1_s hm
  obtain ⟨v19, h20, hm⟩ := hm
  refine zr_iaload hx hb hk hX h20 d_ZoneNodesModel_install_50 ?_
  refine lv_iconst (v := 1) hx hb d_ZoneNodesModel_install_51 (by decide) ?_
  refine lv_iadd hx hb d_ZoneNodesModel_install_52 ?_
  replace hm := zb1_s hm
  obtain ⟨X21, h22, hm⟩ := hm
  refine zr_iastore hx hb hk hX hS h22 d_ZoneNodesModel_install_53 (fun H locs hX hS => ?_)
  refine lv_aload_n hx hb d_ZoneNodesModel_install_54 rfl (lv_at hl 0 rfl) ?_
  replace hm := zb1_s hm
  obtain ⟨v24, h23, hm⟩ := hm
  refine zr_get (ci := 9) (C := R_ZoneNodesModel) (T := F_ZoneNodesModel) (N := 32) hx hb hts in_ZoneNodesModel hown hk hX rfl 18 (by decide) (hts _ tW508) rfl (zgi_v h23) d_ZoneNodesModel_install_55 ?_
  refine lv_iconst (v := 5) hx hb d_ZoneNodesModel_install_58 (by decide) ?_
  refine lv_icmp_ne (tgt := 153) hx hb d_ZoneNodesModel_install_59 rfl (fun h25 => ?_) (fun h25 => ?_)
  · replace hm := zi_f h25 hm
    refine lv_aload_n hx hb d_ZoneNodesModel_install_153 rfl (lv_at hl 0 rfl) ?_
    replace hm := zb1_s hm
    obtain ⟨_, h27, hm⟩ := hm
    replace hm := zb2_s hm
    obtain ⟨v28, X29, h26, hm⟩ := hm
    refine zr_callv (zr_runV (As := []) (rest := []) (n := 0) hx hb hml hown hts hk hX (c_ZoneNodesModel_notifyBoth l G N X21 x0 v28 X29 h26) (hts _ tW543) tW544 (hts _ tW469) (hts _ tW545) (hts _ tW546) rfl h27 (by decide +kernel) ⟨Nat.le_of_ble_eq_true rfl, Nat.le_of_ble_eq_true rfl⟩ rfl rfl hl.1 rfl (lv_room (Nat.le_of_ble_eq_true rfl)) d_ZoneNodesModel_install_154 ⟨(Nat.le_of_ble_eq_true rfl), (Nat.le_of_ble_eq_true rfl)⟩) hS (fun H locs hX hS => ?_)
    cases hm
    exact W.vret hx hb hr (fun t ht hW => zh_end hk hX hS ht hW) hS.2.2 d_ZoneNodesModel_install_157
  · replace hm := zi_t h25 hm
    refine lv_aload_n hx hb d_ZoneNodesModel_install_62 rfl (lv_at hl 0 rfl) ?_
    refine lv_iconst (v := 4) hx hb d_ZoneNodesModel_install_63 (by decide) ?_
    replace hm := zb1_s hm
    obtain ⟨X30, h31, hm⟩ := hm
    refine zr_put (ci := 9) (C := R_ZoneNodesModel) (T := F_ZoneNodesModel) (N := 32) (ty := .int) (v := .int 4) hx hb hts in_ZoneNodesModel t_ZoneNodesModel t_ZoneNodesModel_ok n_ZoneNodesModel hown hk hX hS rfl 18 (by decide) (hts _ tW508) rfl rfl (by decide +kernel) rfl rfl h31 d_ZoneNodesModel_install_64 (fun H locs hX hS => ?_)
    refine lv_iconst (v := 0) hx hb d_ZoneNodesModel_install_67 (by decide) ?_
    refine lv_istore_n (lv' := [(2, .int 0), (0, .ref x0), (1, .int (v2 - 1))]) hx hb d_ZoneNodesModel_install_68 rfl hl (by decide) rfl (fun ls hl => ?_)
    replace hm := zb2_s hm
    obtain ⟨v57, X59, h58, hm⟩ := hm
    refine hL69 N X30 x0 0 v57 X59 _ _ _ h58 hX hS (lv_sub hl [1, 0] rfl) (fun H locs ls hX hS hl => ?_)
    refine lv_iconst (v := 0) hx hb d_ZoneNodesModel_install_122 (by decide) ?_
    refine lv_istore_n (lv' := [(2, .int 0), (0, .ref x0)]) hx hb d_ZoneNodesModel_install_123 rfl hl (by decide) rfl (fun ls hl => ?_)
    replace hm := zb2_s hm
    obtain ⟨v69, X71, h70, hm⟩ := hm
    refine hL124 N X59 x0 0 v69 X71 _ _ _ h70 hX hS (lv_sub hl [1, 0] rfl) (fun H locs ls hX hS hl => ?_)
    refine lv_aload_n hx hb d_ZoneNodesModel_install_153 rfl (lv_at hl 0 rfl) ?_
    replace hm := zb1_s hm
    obtain ⟨_, h73, hm⟩ := hm
    replace hm := zb2_s hm
    obtain ⟨v74, X75, h72, hm⟩ := hm
    refine zr_callv (zr_runV (As := []) (rest := []) (n := 0) hx hb hml hown hts hk hX (c_ZoneNodesModel_notifyBoth l G N X71 x0 v74 X75 h72) (hts _ tW543) tW544 (hts _ tW469) (hts _ tW545) (hts _ tW546) rfl h73 (by decide +kernel) ⟨Nat.le_of_ble_eq_true rfl, Nat.le_of_ble_eq_true rfl⟩ rfl rfl hl.1 rfl (lv_room (Nat.le_of_ble_eq_true rfl)) d_ZoneNodesModel_install_154 ⟨(Nat.le_of_ble_eq_true rfl), (Nat.le_of_ble_eq_true rfl)⟩) hS (fun H locs hX hS => ?_)
    cases hm
    exact W.vret hx hb hr (fun t ht hW => zh_end hk hX hS ht hW) hS.2.2 d_ZoneNodesModel_install_157
