set_option maxHeartbeats 4000000 in
set_option maxRecDepth 100000 in
theorem c_ZoneNodesModel_isMessage (l : Launch) (G : zh_G) (N : Nat) (X : zh_T) (x0 : Nat) (x1 : Int32) (r : Int32) (hm : f_ZoneNodesModel_isMessage N X x0 x1 = some r) : zM l G y_ZoneNodesModel_isMessage w_ZoneNodesModel_isMessage 0 0 X [.ref x0, .int x1] (some (.int r)) X 0 0 := by
  refine zr_ofW (by decide) (by exact Nat.le_of_ble_eq_true rfl) ?_
  intro p e s m args below meth c ls hx hb hml hr hts hown hin hlocks hk hX hl
  have hS : va_S (zh_A G) s.heap s.heap [] := va_S.rf
  have hl : lv_has ls 2 [(0, .ref x0), (1, .int x1)] := hl
  have hown : s.vm.findClass R_ZoneNodesModel = some m.cls := hown
  unfold f_ZoneNodesModel_isMessage at hm
  refine lv_iload_n hx hb d_ZoneNodesModel_isMessage_0 rfl (lv_at hl 1 rfl) ?_
  refine lv_if_lt (tgt := 16) hx hb d_ZoneNodesModel_isMessage_1 rfl (fun h1 => ?_) (fun h1 => ?_)
  · replace hm := zi_t h1 hm
    refine lv_iconst (v := 0) hx hb d_ZoneNodesModel_isMessage_16 (by decide) ?_
    cases hm
    exact W.zret hx hb hr (by decide) (fun t ht hW => zh_end hk hX hS ht hW) hS.2.2 d_ZoneNodesModel_isMessage_17
  · replace hm := zi_f h1 hm
    refine lv_iload_n hx hb d_ZoneNodesModel_isMessage_4 rfl (lv_at hl 1 rfl) ?_
    refine lv_aload_n hx hb d_ZoneNodesModel_isMessage_5 rfl (lv_at hl 0 rfl) ?_
    replace hm := zb1_s hm
    obtain ⟨v3, h2, hm⟩ := hm
    refine zr_get (ci := 9) (C := R_ZoneNodesModel) (T := F_ZoneNodesModel) (N := 32) hx hb hts in_ZoneNodesModel hown hk hX rfl 24 (by decide) (hts _ tW475) rfl (zgi_v h2) d_ZoneNodesModel_isMessage_6 ?_
    refine lv_icmp_ge (tgt := 16) hx hb d_ZoneNodesModel_isMessage_9 rfl (fun h4 => ?_) (fun h4 => ?_)
    · replace hm := zi_t h4 hm
      refine lv_iconst (v := 0) hx hb d_ZoneNodesModel_isMessage_16 (by decide) ?_
      cases hm
      exact W.zret hx hb hr (by decide) (fun t ht hW => zh_end hk hX hS ht hW) hS.2.2 d_ZoneNodesModel_isMessage_17
    · replace hm := zi_f h4 hm
      refine lv_iconst (v := 1) hx hb d_ZoneNodesModel_isMessage_12 (by decide) ?_
      refine lv_goto (tgt := 17) hx hb d_ZoneNodesModel_isMessage_13 rfl ?_
      cases hm
      exact W.zret hx hb hr (by decide) (fun t ht hW => zh_end hk hX hS ht hW) hS.2.2 d_ZoneNodesModel_isMessage_17
set_option maxHeartbeats 4000000 in
set_option maxRecDepth 100000 in
theorem c_ZoneNodesModel_alter (l : Launch) (G : zh_G) (N : Nat) (X : zh_T) (x0 : Nat) (x1 : Int32) (r : Int32) (X' : zh_T) (hm : f_ZoneNodesModel_alter N X x0 x1 = some (r, X')) : zM l G y_ZoneNodesModel_alter w_ZoneNodesModel_alter 1 21 X [.ref x0, .int x1] (some (.int r)) X' 0 0 := by
  refine zr_ofW (by decide) (by exact Nat.le_of_ble_eq_true rfl) ?_
  intro p e s m args below meth c ls hx hb hml hr hts hown hin hlocks hk hX hl
  have hS : va_S (zh_A G) s.heap s.heap [] := va_S.rf
  have hl : lv_has ls 2 [(0, .ref x0), (1, .int x1)] := hl
  have hown : s.vm.findClass R_ZoneNodesModel = some m.cls := hown
  unfold f_ZoneNodesModel_alter at hm
  refine lv_aload_n hx hb d_ZoneNodesModel_alter_0 rfl (lv_at hl 0 rfl) ?_
  refine lv_iload_n hx hb d_ZoneNodesModel_alter_1 rfl (lv_at hl 1 rfl) ?_
  replace hm := zb1_s hm
  obtain ⟨_, h2, hm⟩ := hm
  replace hm := zb1_s hm
  obtain ⟨v3, h1, hm⟩ := hm
  refine zr_calli (zr_runV (As := [.int x1]) (rest := []) (n := 1) hx hb hml hown hts hk hX (c_ZoneNodesModel_isMessage l G N X x0 x1 v3 h1) (hts _ tW476) tW477 (hts _ tW469) (hts _ tW478) (hts _ tW479) rfl h2 (by decide +kernel) ⟨Nat.le_of_ble_eq_true rfl, Nat.le_of_ble_eq_true rfl⟩ rfl rfl hl.1 rfl (lv_room (Nat.le_of_ble_eq_true rfl)) d_ZoneNodesModel_alter_2 ⟨(Nat.le_of_ble_eq_true rfl), (Nat.le_of_ble_eq_true rfl)⟩) hS (fun H locs hX hS => ?_)
  refine lv_if_eq (tgt := 27) hx hb d_ZoneNodesModel_alter_5 rfl (fun h4 => ?_) (fun h4 => ?_)
  · replace hm := zi_t h4 hm
    refine lv_iconst (v := 0) hx hb d_ZoneNodesModel_alter_27 (by decide) ?_
    cases hm
    exact W.zret hx hb hr (by decide) (fun t ht hW => zh_end hk hX hS ht hW) hS.2.2 d_ZoneNodesModel_alter_28
  · replace hm := zi_f h4 hm
    refine lv_aload_n hx hb d_ZoneNodesModel_alter_8 rfl (lv_at hl 0 rfl) ?_
    replace hm := zb1_s hm
    obtain ⟨a6, h5, hm⟩ := hm
    refine zr_get (ci := 9) (C := R_ZoneNodesModel) (T := F_ZoneNodesModel) (N := 32) hx hb hts in_ZoneNodesModel hown hk hX rfl 25 (by decide) (hts _ tW457) rfl (zgr_v h5) d_ZoneNodesModel_alter_9 ?_
    refine lv_iload_n hx hb d_ZoneNodesModel_alter_12 rfl (lv_at hl 1 rfl) ?_
    replace hm := zb1_s hm
    obtain ⟨v7, h8, hm⟩ := hm
    refine zr_iaload hx hb hk hX h8 d_ZoneNodesModel_alter_13 ?_
    refine lv_iconst (v := 5) hx hb d_ZoneNodesModel_alter_14 (by decide) ?_
    refine lv_icmp_ne (tgt := 27) hx hb d_ZoneNodesModel_alter_15 rfl (fun h9 => ?_) (fun h9 => ?_)
    · replace hm := zi_f h9 hm
      refine lv_iconst (v := 0) hx hb d_ZoneNodesModel_alter_27 (by decide) ?_
      cases hm
      exact W.zret hx hb hr (by decide) (fun t ht hW => zh_end hk hX hS ht hW) hS.2.2 d_ZoneNodesModel_alter_28
    · replace hm := zi_t h9 hm
      refine lv_aload_n hx hb d_ZoneNodesModel_alter_18 rfl (lv_at hl 0 rfl) ?_
      replace hm := zb1_s hm
      obtain ⟨a11, h10, hm⟩ := hm
      refine zr_get (ci := 9) (C := R_ZoneNodesModel) (T := F_ZoneNodesModel) (N := 32) hx hb hts in_ZoneNodesModel hown hk hX rfl 30 (by decide) (hts _ tW462) rfl (zgr_v h10) d_ZoneNodesModel_alter_19 ?_
      refine lv_iload_n hx hb d_ZoneNodesModel_alter_22 rfl (lv_at hl 1 rfl) ?_
      replace hm := zb1_s hm
      obtain ⟨v12, h13, hm⟩ := hm
      refine zr_baload hx hb hk hX h13 d_ZoneNodesModel_alter_23 ?_
      refine lv_if_eq (tgt := 29) hx hb d_ZoneNodesModel_alter_24 rfl (fun h14 => ?_) (fun h14 => ?_)
      · replace hm := zi_t h14 hm
        refine lv_aload_n hx hb d_ZoneNodesModel_alter_29 rfl (lv_at hl 0 rfl) ?_
        replace hm := zb1_s hm
        obtain ⟨a16, h15, hm⟩ := hm
        refine zr_get (ci := 9) (C := R_ZoneNodesModel) (T := F_ZoneNodesModel) (N := 32) hx hb hts in_ZoneNodesModel hown hk hX rfl 30 (by decide) (hts _ tW462) rfl (zgr_v h15) d_ZoneNodesModel_alter_30 ?_
        refine lv_iload_n hx hb d_ZoneNodesModel_alter_33 rfl (lv_at hl 1 rfl) ?_
        refine lv_iconst (v := 1) hx hb d_ZoneNodesModel_alter_34 (by decide) ?_
        replace hm := zb1_s hm
        obtain ⟨X17, h18, hm⟩ := hm
        refine zr_bastore hx hb hk hX hS h18 d_ZoneNodesModel_alter_35 (fun H locs hX hS => ?_)
        refine lv_iconst (v := 1) hx hb d_ZoneNodesModel_alter_36 (by decide) ?_
        cases hm
        exact W.zret hx hb hr (by decide) (fun t ht hW => zh_end hk hX hS ht hW) hS.2.2 d_ZoneNodesModel_alter_37
      · replace hm := zi_f h14 hm
        refine lv_iconst (v := 0) hx hb d_ZoneNodesModel_alter_27 (by decide) ?_
        cases hm
        exact W.zret hx hb hr (by decide) (fun t ht hW => zh_end hk hX hS ht hW) hS.2.2 d_ZoneNodesModel_alter_28
set_option maxHeartbeats 4000000 in
set_option maxRecDepth 100000 in
theorem c_ZoneNodesModel_arm (l : Launch) (G : zh_G) (N : Nat) (X : zh_T) (x0 : Nat) (x1 : Int32) (r : Int32) (X' : zh_T) (hm : f_ZoneNodesModel_arm N X x0 x1 = some (r, X')) : zM l G y_ZoneNodesModel_arm w_ZoneNodesModel_arm 0 0 X [.ref x0, .int x1] (some (.int r)) X' 0 0 := by
  refine zr_ofW (by decide) (by exact Nat.le_of_ble_eq_true rfl) ?_
  intro p e s m args below meth c ls hx hb hml hr hts hown hin hlocks hk hX hl
  have hS : va_S (zh_A G) s.heap s.heap [] := va_S.rf
  have hl : lv_has ls 2 [(0, .ref x0), (1, .int x1)] := hl
  have hown : s.vm.findClass R_ZoneNodesModel = some m.cls := hown
  unfold f_ZoneNodesModel_arm at hm
  refine lv_iload_n hx hb d_ZoneNodesModel_arm_0 rfl (lv_at hl 1 rfl) ?_
  refine lv_if_lt (tgt := 18) hx hb d_ZoneNodesModel_arm_1 rfl (fun h1 => ?_) (fun h1 => ?_)
  · replace hm := zi_t h1 hm
    refine lv_iconst (v := 0) hx hb d_ZoneNodesModel_arm_18 (by decide) ?_
    cases hm
    exact W.zret hx hb hr (by decide) (fun t ht hW => zh_end hk hX hS ht hW) hS.2.2 d_ZoneNodesModel_arm_19
  · replace hm := zi_f h1 hm
    refine lv_iload_n hx hb d_ZoneNodesModel_arm_4 rfl (lv_at hl 1 rfl) ?_
    refine lv_iconst (v := 3) hx hb d_ZoneNodesModel_arm_5 (by decide) ?_
    refine lv_icmp_gt (tgt := 18) hx hb d_ZoneNodesModel_arm_6 rfl (fun h2 => ?_) (fun h2 => ?_)
    · replace hm := zi_t h2 hm
      refine lv_iconst (v := 0) hx hb d_ZoneNodesModel_arm_18 (by decide) ?_
      cases hm
      exact W.zret hx hb hr (by decide) (fun t ht hW => zh_end hk hX hS ht hW) hS.2.2 d_ZoneNodesModel_arm_19
    · replace hm := zi_f h2 hm
      refine lv_aload_n hx hb d_ZoneNodesModel_arm_9 rfl (lv_at hl 0 rfl) ?_
      replace hm := zb1_s hm
      obtain ⟨a4, h3, hm⟩ := hm
      refine zr_get (ci := 9) (C := R_ZoneNodesModel) (T := F_ZoneNodesModel) (N := 32) hx hb hts in_ZoneNodesModel hown hk hX rfl 4 (by decide) (hts _ tW443) rfl (zgr_v h3) d_ZoneNodesModel_arm_10 ?_
      refine lv_iconst (v := 0) hx hb d_ZoneNodesModel_arm_13 (by decide) ?_
      replace hm := zb1_s hm
      obtain ⟨v5, h6, hm⟩ := hm
      refine zr_baload hx hb hk hX h6 d_ZoneNodesModel_arm_14 ?_
      refine lv_if_ne (tgt := 20) hx hb d_ZoneNodesModel_arm_15 rfl (fun h7 => ?_) (fun h7 => ?_)
      · replace hm := zi_f h7 hm
        refine lv_aload_n hx hb d_ZoneNodesModel_arm_20 rfl (lv_at hl 0 rfl) ?_
        refine lv_iload_n hx hb d_ZoneNodesModel_arm_21 rfl (lv_at hl 1 rfl) ?_
        replace hm := zb1_s hm
        obtain ⟨X8, h9, hm⟩ := hm
        refine zr_put (ci := 9) (C := R_ZoneNodesModel) (T := F_ZoneNodesModel) (N := 32) (ty := .int) (v := .int x1) hx hb hts in_ZoneNodesModel t_ZoneNodesModel t_ZoneNodesModel_ok n_ZoneNodesModel hown hk hX hS rfl 17 (by decide) (hts _ tW480) rfl rfl (by decide +kernel) rfl rfl h9 d_ZoneNodesModel_arm_22 (fun H locs hX hS => ?_)
        refine lv_iconst (v := 1) hx hb d_ZoneNodesModel_arm_25 (by decide) ?_
        cases hm
        exact W.zret hx hb hr (by decide) (fun t ht hW => zh_end hk hX hS ht hW) hS.2.2 d_ZoneNodesModel_arm_26
      · replace hm := zi_t h7 hm
        refine lv_iconst (v := 0) hx hb d_ZoneNodesModel_arm_18 (by decide) ?_
        cases hm
        exact W.zret hx hb hr (by decide) (fun t ht hW => zh_end hk hX hS ht hW) hS.2.2 d_ZoneNodesModel_arm_19
set_option maxHeartbeats 4000000 in
set_option maxRecDepth 100000 in
theorem c_ZoneNodesModel_isRecord (l : Launch) (G : zh_G) (N : Nat) (X : zh_T) (x0 : Int32) (x1 : Int32) (x2 : Int32) (r : Int32) (hm : f_ZoneNodesModel_isRecord N X x0 x1 x2 = some r) : zM l G y_ZoneNodesModel_isRecord w_ZoneNodesModel_isRecord 0 0 X [.int x0, .int x1, .int x2] (some (.int r)) X 0 0 := by
  refine zr_ofW (by decide) (by exact Nat.le_of_ble_eq_true rfl) ?_
  intro p e s m args below meth c ls hx hb hml hr hts hown hin hlocks hk hX hl
  have hS : va_S (zh_A G) s.heap s.heap [] := va_S.rf
  have hl : lv_has ls 3 [(0, .int x0), (1, .int x1), (2, .int x2)] := hl
  have hown : s.vm.findClass R_ZoneNodesModel = some m.cls := hown
  unfold f_ZoneNodesModel_isRecord at hm
  refine lv_iload_n hx hb d_ZoneNodesModel_isRecord_0 rfl (lv_at hl 0 rfl) ?_
  refine lv_if_lt (tgt := 34) hx hb d_ZoneNodesModel_isRecord_1 rfl (fun h1 => ?_) (fun h1 => ?_)
  · replace hm := zi_t h1 hm
    refine lv_iconst (v := 0) hx hb d_ZoneNodesModel_isRecord_34 (by decide) ?_
    cases hm
    exact W.zret hx hb hr (by decide) (fun t ht hW => zh_end hk hX hS ht hW) hS.2.2 d_ZoneNodesModel_isRecord_35
  · replace hm := zi_f h1 hm
    refine lv_iload_n hx hb d_ZoneNodesModel_isRecord_4 rfl (lv_at hl 0 rfl) ?_
    refine lv_bipush (v := 7) hx hb d_ZoneNodesModel_isRecord_5 (by decide) ?_
    refine lv_icmp_gt (tgt := 34) hx hb d_ZoneNodesModel_isRecord_7 rfl (fun h2 => ?_) (fun h2 => ?_)
    · replace hm := zi_t h2 hm
      refine lv_iconst (v := 0) hx hb d_ZoneNodesModel_isRecord_34 (by decide) ?_
      cases hm
      exact W.zret hx hb hr (by decide) (fun t ht hW => zh_end hk hX hS ht hW) hS.2.2 d_ZoneNodesModel_isRecord_35
    · replace hm := zi_f h2 hm
      refine lv_iload_n hx hb d_ZoneNodesModel_isRecord_10 rfl (lv_at hl 1 rfl) ?_
      refine lv_iconst (v := 1) hx hb d_ZoneNodesModel_isRecord_11 (by decide) ?_
      refine lv_icmp_lt (tgt := 34) hx hb d_ZoneNodesModel_isRecord_12 rfl (fun h3 => ?_) (fun h3 => ?_)
      · replace hm := zi_t h3 hm
        refine lv_iconst (v := 0) hx hb d_ZoneNodesModel_isRecord_34 (by decide) ?_
        cases hm
        exact W.zret hx hb hr (by decide) (fun t ht hW => zh_end hk hX hS ht hW) hS.2.2 d_ZoneNodesModel_isRecord_35
      · replace hm := zi_f h3 hm
        refine lv_iload_n hx hb d_ZoneNodesModel_isRecord_15 rfl (lv_at hl 1 rfl) ?_
        refine lv_iconst (v := 4) hx hb d_ZoneNodesModel_isRecord_16 (by decide) ?_
        refine lv_icmp_gt (tgt := 34) hx hb d_ZoneNodesModel_isRecord_17 rfl (fun h4 => ?_) (fun h4 => ?_)
        · replace hm := zi_t h4 hm
          refine lv_iconst (v := 0) hx hb d_ZoneNodesModel_isRecord_34 (by decide) ?_
          cases hm
          exact W.zret hx hb hr (by decide) (fun t ht hW => zh_end hk hX hS ht hW) hS.2.2 d_ZoneNodesModel_isRecord_35
        · replace hm := zi_f h4 hm
          refine lv_iload_n hx hb d_ZoneNodesModel_isRecord_20 rfl (lv_at hl 2 rfl) ?_
          refine lv_if_lt (tgt := 34) hx hb d_ZoneNodesModel_isRecord_21 rfl (fun h5 => ?_) (fun h5 => ?_)
          · replace hm := zi_t h5 hm
            refine lv_iconst (v := 0) hx hb d_ZoneNodesModel_isRecord_34 (by decide) ?_
            cases hm
            exact W.zret hx hb hr (by decide) (fun t ht hW => zh_end hk hX hS ht hW) hS.2.2 d_ZoneNodesModel_isRecord_35
          · replace hm := zi_f h5 hm
            refine lv_iload_n hx hb d_ZoneNodesModel_isRecord_24 rfl (lv_at hl 2 rfl) ?_
            refine lv_bipush (v := 7) hx hb d_ZoneNodesModel_isRecord_25 (by decide) ?_
            refine lv_icmp_gt (tgt := 34) hx hb d_ZoneNodesModel_isRecord_27 rfl (fun h6 => ?_) (fun h6 => ?_)
            · replace hm := zi_t h6 hm
              refine lv_iconst (v := 0) hx hb d_ZoneNodesModel_isRecord_34 (by decide) ?_
              cases hm
              exact W.zret hx hb hr (by decide) (fun t ht hW => zh_end hk hX hS ht hW) hS.2.2 d_ZoneNodesModel_isRecord_35
            · replace hm := zi_f h6 hm
              refine lv_iconst (v := 1) hx hb d_ZoneNodesModel_isRecord_30 (by decide) ?_
              refine lv_goto (tgt := 35) hx hb d_ZoneNodesModel_isRecord_31 rfl ?_
              cases hm
              exact W.zret hx hb hr (by decide) (fun t ht hW => zh_end hk hX hS ht hW) hS.2.2 d_ZoneNodesModel_isRecord_35
set_option maxHeartbeats 4000000 in
set_option maxRecDepth 100000 in
theorem c_ZoneNodesModel_say (l : Launch) (G : zh_G) (N : Nat) (X : zh_T) (x0 : Nat) (x1 : Int32) (x2 : Int32) (x3 : Int32) (x4 : Int32) (x5 : Int32) (r : Unit) (X' : zh_T) (hm : f_ZoneNodesModel_say N X x0 x1 x2 x3 x4 x5 = some (r, X')) : zM l G y_ZoneNodesModel_say w_ZoneNodesModel_say 0 0 X [.ref x0, .int x1, .int x2, .int x3, .int x4, .int x5] none X' 0 0 := by
  refine zr_ofW (by decide) (by exact Nat.le_of_ble_eq_true rfl) ?_
  intro p e s m args below meth c ls hx hb hml hr hts hown hin hlocks hk hX hl
  have hS : va_S (zh_A G) s.heap s.heap [] := va_S.rf
  have hl : lv_has ls 6 [(0, .ref x0), (1, .int x1), (2, .int x2), (3, .int x3), (4, .int x4), (5, .int x5)] := hl
  have hown : s.vm.findClass R_ZoneNodesModel = some m.cls := hown
  unfold f_ZoneNodesModel_say at hm
  refine lv_aload_n hx hb d_ZoneNodesModel_say_0 rfl (lv_at hl 0 rfl) ?_
  replace hm := zb1_s hm
  obtain ⟨a2, h1, hm⟩ := hm
  refine zr_get (ci := 9) (C := R_ZoneNodesModel) (T := F_ZoneNodesModel) (N := 32) hx hb hts in_ZoneNodesModel hown hk hX rfl 16 (by decide) (hts _ tW451) rfl (zgr_v h1) d_ZoneNodesModel_say_1 ?_
  refine lv_iconst (v := 4) hx hb d_ZoneNodesModel_say_4 (by decide) ?_
  refine lv_iload_n hx hb d_ZoneNodesModel_say_5 rfl (lv_at hl 1 rfl) ?_
  refine lv_imul hx hb d_ZoneNodesModel_say_6 ?_
  refine lv_iload_n hx hb d_ZoneNodesModel_say_7 rfl (lv_at hl 2 rfl) ?_
  replace hm := zb1_s hm
  obtain ⟨X3, h4, hm⟩ := hm
  refine zr_iastore hx hb hk hX hS h4 d_ZoneNodesModel_say_8 (fun H locs hX hS => ?_)
  refine lv_aload_n hx hb d_ZoneNodesModel_say_9 rfl (lv_at hl 0 rfl) ?_
  replace hm := zb1_s hm
  obtain ⟨a6, h5, hm⟩ := hm
  refine zr_get (ci := 9) (C := R_ZoneNodesModel) (T := F_ZoneNodesModel) (N := 32) hx hb hts in_ZoneNodesModel hown hk hX rfl 16 (by decide) (hts _ tW451) rfl (zgr_v h5) d_ZoneNodesModel_say_10 ?_
  refine lv_iconst (v := 4) hx hb d_ZoneNodesModel_say_13 (by decide) ?_
  refine lv_iload_n hx hb d_ZoneNodesModel_say_14 rfl (lv_at hl 1 rfl) ?_
  refine lv_imul hx hb d_ZoneNodesModel_say_15 ?_
  refine lv_iconst (v := 1) hx hb d_ZoneNodesModel_say_16 (by decide) ?_
  refine lv_iadd hx hb d_ZoneNodesModel_say_17 ?_
  refine lv_iload_n hx hb d_ZoneNodesModel_say_18 rfl (lv_at hl 3 rfl) ?_
  replace hm := zb1_s hm
  obtain ⟨X7, h8, hm⟩ := hm
  refine zr_iastore hx hb hk hX hS h8 d_ZoneNodesModel_say_19 (fun H locs hX hS => ?_)
  refine lv_aload_n hx hb d_ZoneNodesModel_say_20 rfl (lv_at hl 0 rfl) ?_
  replace hm := zb1_s hm
  obtain ⟨a10, h9, hm⟩ := hm
  refine zr_get (ci := 9) (C := R_ZoneNodesModel) (T := F_ZoneNodesModel) (N := 32) hx hb hts in_ZoneNodesModel hown hk hX rfl 16 (by decide) (hts _ tW451) rfl (zgr_v h9) d_ZoneNodesModel_say_21 ?_
  refine lv_iconst (v := 4) hx hb d_ZoneNodesModel_say_24 (by decide) ?_
  refine lv_iload_n hx hb d_ZoneNodesModel_say_25 rfl (lv_at hl 1 rfl) ?_
  refine lv_imul hx hb d_ZoneNodesModel_say_26 ?_
  refine lv_iconst (v := 2) hx hb d_ZoneNodesModel_say_27 (by decide) ?_
  refine lv_iadd hx hb d_ZoneNodesModel_say_28 ?_
  refine lv_iload hx hb d_ZoneNodesModel_say_29 (lv_at hl 4 rfl) ?_
  replace hm := zb1_s hm
  obtain ⟨X11, h12, hm⟩ := hm
  refine zr_iastore hx hb hk hX hS h12 d_ZoneNodesModel_say_31 (fun H locs hX hS => ?_)
  refine lv_aload_n hx hb d_ZoneNodesModel_say_32 rfl (lv_at hl 0 rfl) ?_
  replace hm := zb1_s hm
  obtain ⟨a14, h13, hm⟩ := hm
  refine zr_get (ci := 9) (C := R_ZoneNodesModel) (T := F_ZoneNodesModel) (N := 32) hx hb hts in_ZoneNodesModel hown hk hX rfl 16 (by decide) (hts _ tW451) rfl (zgr_v h13) d_ZoneNodesModel_say_33 ?_
  refine lv_iconst (v := 4) hx hb d_ZoneNodesModel_say_36 (by decide) ?_
  refine lv_iload_n hx hb d_ZoneNodesModel_say_37 rfl (lv_at hl 1 rfl) ?_
  refine lv_imul hx hb d_ZoneNodesModel_say_38 ?_
  refine lv_iconst (v := 3) hx hb d_ZoneNodesModel_say_39 (by decide) ?_
  refine lv_iadd hx hb d_ZoneNodesModel_say_40 ?_
  refine lv_iload hx hb d_ZoneNodesModel_say_41 (lv_at hl 5 rfl) ?_
  replace hm := zb1_s hm
  obtain ⟨X15, h16, hm⟩ := hm
  refine zr_iastore hx hb hk hX hS h16 d_ZoneNodesModel_say_43 (fun H locs hX hS => ?_)
  cases hm
  exact W.vret hx hb hr (fun t ht hW => zh_end hk hX hS ht hW) hS.2.2 d_ZoneNodesModel_say_44
set_option maxHeartbeats 4000000 in
set_option maxRecDepth 100000 in
theorem c_ZoneNodesModel_change (l : Launch) (G : zh_G) (N : Nat) (X : zh_T) (x0 : Nat) (x1 : Int32) (x2 : Int32) (x3 : Int32) (x4 : Int32) (r : Int32) (X' : zh_T) (hm : f_ZoneNodesModel_change N X x0 x1 x2 x3 x4 = some (r, X')) : zM l G y_ZoneNodesModel_change w_ZoneNodesModel_change 1 25 X [.ref x0, .int x1, .int x2, .int x3, .int x4] (some (.int r)) X' 0 0 := by
  refine zr_ofW (by decide) (by exact Nat.le_of_ble_eq_true rfl) ?_
  intro p e s m args below meth c ls hx hb hml hr hts hown hin hlocks hk hX hl
  have hS : va_S (zh_A G) s.heap s.heap [] := va_S.rf
  have hl : lv_has ls 5 [(0, .ref x0), (1, .int x1), (2, .int x2), (3, .int x3), (4, .int x4)] := hl
  have hown : s.vm.findClass R_ZoneNodesModel = some m.cls := hown
  unfold f_ZoneNodesModel_change at hm
  refine lv_iload_n hx hb d_ZoneNodesModel_change_0 rfl (lv_at hl 1 rfl) ?_
  refine lv_if_lt (tgt := 27) hx hb d_ZoneNodesModel_change_1 rfl (fun h1 => ?_) (fun h1 => ?_)
  · replace hm := zi_t h1 hm
    refine lv_iconst (v := 0) hx hb d_ZoneNodesModel_change_27 (by decide) ?_
    cases hm
    exact W.zret hx hb hr (by decide) (fun t ht hW => zh_end hk hX hS ht hW) hS.2.2 d_ZoneNodesModel_change_28
  · replace hm := zi_f h1 hm
    refine lv_iload_n hx hb d_ZoneNodesModel_change_4 rfl (lv_at hl 1 rfl) ?_
    refine lv_iconst (v := 3) hx hb d_ZoneNodesModel_change_5 (by decide) ?_
    refine lv_icmp_gt (tgt := 27) hx hb d_ZoneNodesModel_change_6 rfl (fun h2 => ?_) (fun h2 => ?_)
    · replace hm := zi_t h2 hm
      refine lv_iconst (v := 0) hx hb d_ZoneNodesModel_change_27 (by decide) ?_
      cases hm
      exact W.zret hx hb hr (by decide) (fun t ht hW => zh_end hk hX hS ht hW) hS.2.2 d_ZoneNodesModel_change_28
    · replace hm := zi_f h2 hm
      refine lv_iload_n hx hb d_ZoneNodesModel_change_9 rfl (lv_at hl 2 rfl) ?_
      refine lv_iload_n hx hb d_ZoneNodesModel_change_10 rfl (lv_at hl 3 rfl) ?_
      refine lv_iload hx hb d_ZoneNodesModel_change_11 (lv_at hl 4 rfl) ?_
      replace hm := zb1_s hm
      obtain ⟨v4, h3, hm⟩ := hm
      refine zr_calli (zr_runS (As := [.int x2, .int x3, .int x4]) (rest := []) (n := 3) hx hb hml hown hts hk hX (c_ZoneNodesModel_isRecord l G N X x2 x3 x4 v4 h3) (hts _ tW481) tW482 (hts _ tW469) (hts _ tW483) (by decide +kernel) ⟨Nat.le_of_ble_eq_true rfl, Nat.le_of_ble_eq_true rfl⟩ rfl rfl hl.1 rfl (lv_room (Nat.le_of_ble_eq_true rfl)) d_ZoneNodesModel_change_13 ⟨(Nat.le_of_ble_eq_true rfl), (Nat.le_of_ble_eq_true rfl)⟩) hS (fun H locs hX hS => ?_)
      refine lv_if_eq (tgt := 27) hx hb d_ZoneNodesModel_change_16 rfl (fun h5 => ?_) (fun h5 => ?_)
      · replace hm := zi_t h5 hm
        refine lv_iconst (v := 0) hx hb d_ZoneNodesModel_change_27 (by decide) ?_
        cases hm
        exact W.zret hx hb hr (by decide) (fun t ht hW => zh_end hk hX hS ht hW) hS.2.2 d_ZoneNodesModel_change_28
      · replace hm := zi_f h5 hm
        refine lv_aload_n hx hb d_ZoneNodesModel_change_19 rfl (lv_at hl 0 rfl) ?_
        replace hm := zb1_s hm
        obtain ⟨v7, h6, hm⟩ := hm
        refine zr_get (ci := 9) (C := R_ZoneNodesModel) (T := F_ZoneNodesModel) (N := 32) hx hb hts in_ZoneNodesModel hown hk hX rfl 15 (by decide) (hts _ tW484) rfl (zgi_v h6) d_ZoneNodesModel_change_20 ?_
        refine lv_iconst (v := 4) hx hb d_ZoneNodesModel_change_23 (by decide) ?_
        refine lv_icmp_lt (tgt := 29) hx hb d_ZoneNodesModel_change_24 rfl (fun h8 => ?_) (fun h8 => ?_)
        · replace hm := zi_t h8 hm
          refine lv_aload_n hx hb d_ZoneNodesModel_change_29 rfl (lv_at hl 0 rfl) ?_
          refine lv_iconst (v := 4) hx hb d_ZoneNodesModel_change_30 (by decide) ?_
          refine lv_aload_n hx hb d_ZoneNodesModel_change_31 rfl (lv_at hl 0 rfl) ?_
          replace hm := zb1_s hm
          obtain ⟨v10, h9, hm⟩ := hm
          refine zr_get (ci := 9) (C := R_ZoneNodesModel) (T := F_ZoneNodesModel) (N := 32) hx hb hts in_ZoneNodesModel hown hk hX rfl 15 (by decide) (hts _ tW484) rfl (zgi_v h9) d_ZoneNodesModel_change_32 ?_
          refine lv_iadd hx hb d_ZoneNodesModel_change_35 ?_
          refine lv_iload_n hx hb d_ZoneNodesModel_change_36 rfl (lv_at hl 1 rfl) ?_
          refine lv_iload_n hx hb d_ZoneNodesModel_change_37 rfl (lv_at hl 2 rfl) ?_
          refine lv_iload_n hx hb d_ZoneNodesModel_change_38 rfl (lv_at hl 3 rfl) ?_
          refine lv_iload hx hb d_ZoneNodesModel_change_39 (lv_at hl 4 rfl) ?_
          replace hm := zb1_s hm
          obtain ⟨_, h12, hm⟩ := hm
          replace hm := zb2_s hm
          obtain ⟨v13, X14, h11, hm⟩ := hm
          refine zr_callv (zr_runV (As := [.int (4 + v10), .int x1, .int x2, .int x3, .int x4]) (rest := []) (n := 5) hx hb hml hown hts hk hX (c_ZoneNodesModel_say l G N X x0 (4 + v10) x1 x2 x3 x4 v13 X14 h11) (hts _ tW485) tW486 (hts _ tW469) (hts _ tW487) (hts _ tW488) rfl h12 (by decide +kernel) ⟨Nat.le_of_ble_eq_true rfl, Nat.le_of_ble_eq_true rfl⟩ rfl rfl hl.1 rfl (lv_room (Nat.le_of_ble_eq_true rfl)) d_ZoneNodesModel_change_41 ⟨(Nat.le_of_ble_eq_true rfl), (Nat.le_of_ble_eq_true rfl)⟩) hS (fun H locs hX hS => ?_)
          refine lv_aload_n hx hb d_ZoneNodesModel_change_44 rfl (lv_at hl 0 rfl) ?_
          refine lv_dup hx hb d_ZoneNodesModel_change_45 rfl ?_
          replace hm := zb1_s hm
          obtain ⟨v16, h15, hm⟩ := hm
          refine zr_get (ci := 9) (C := R_ZoneNodesModel) (T := F_ZoneNodesModel) (N := 32) hx hb hts in_ZoneNodesModel hown hk hX rfl 15 (by decide) (hts _ tW484) rfl (zgi_v h15) d_ZoneNodesModel_change_46 ?_
          refine lv_iconst (v := 1) hx hb d_ZoneNodesModel_change_49 (by decide) ?_
          refine lv_iadd hx hb d_ZoneNodesModel_change_50 ?_
          replace hm := zb1_s hm
          obtain ⟨X17, h18, hm⟩ := hm
          refine zr_put (ci := 9) (C := R_ZoneNodesModel) (T := F_ZoneNodesModel) (N := 32) (ty := .int) (v := .int (v16 + 1)) hx hb hts in_ZoneNodesModel t_ZoneNodesModel t_ZoneNodesModel_ok n_ZoneNodesModel hown hk hX hS rfl 15 (by decide) (hts _ tW484) rfl rfl (by decide +kernel) rfl rfl h18 d_ZoneNodesModel_change_51 (fun H locs hX hS => ?_)
          refine lv_iconst (v := 1) hx hb d_ZoneNodesModel_change_54 (by decide) ?_
          cases hm
          exact W.zret hx hb hr (by decide) (fun t ht hW => zh_end hk hX hS ht hW) hS.2.2 d_ZoneNodesModel_change_55
        · replace hm := zi_f h8 hm
          refine lv_iconst (v := 0) hx hb d_ZoneNodesModel_change_27 (by decide) ?_
          cases hm
          exact W.zret hx hb hr (by decide) (fun t ht hW => zh_end hk hX hS ht hW) hS.2.2 d_ZoneNodesModel_change_28
set_option maxHeartbeats 4000000 in
set_option maxRecDepth 100000 in
theorem c_ZoneNodesModel_remove (l : Launch) (G : zh_G) (N : Nat) (X : zh_T) (x0 : Nat) (x1 : Int32) (r : Unit) (X' : zh_T) (hm : f_ZoneNodesModel_remove N X x0 x1 = some (r, X')) : zM l G y_ZoneNodesModel_remove w_ZoneNodesModel_remove 0 0 X [.ref x0, .int x1] none X' 0 0 := by
  refine zr_ofW (by decide) (by exact Nat.le_of_ble_eq_true rfl) ?_
  intro p e s m args below meth c ls hx hb hml hr hts hown hin hlocks hk hX hl
  have hS : va_S (zh_A G) s.heap s.heap [] := va_S.rf
  have hl : lv_has ls 3 [(0, .ref x0), (1, .int x1)] := hl
  have hown : s.vm.findClass R_ZoneNodesModel = some m.cls := hown
  unfold f_ZoneNodesModel_remove at hm
  have hL12 : ∀ (n : Nat) (X : zh_T) (w0 : Nat) (w2 : Int32) (v : Unit) (X1 : zh_T) (H : Heap) (locs : List Loc) (ls : Array Slot), L_ZoneNodesModel_remove_12 N w0 n X w2 = some (v, X1) → zh_w G X H → va_S (zh_A G) s.heap H locs → lv_has ls 3 [(0, .ref w0), (2, .int w2)] → (∀ (H : Heap) (locs : List Loc) (ls : Array Slot), zh_w G X1 H → va_S (zh_A G) s.heap H locs → lv_has ls 3 [] → W p l e { frames := 0, cells := 0, slots := 0, locals := 0 } s m args below meth c H locs 0 0 (MQ below (zh_Q G none X') args s 0 0 (zh_A G)) (F0 m 124 ls [])) → W p l e { frames := 0, cells := 0, slots := 0, locals := 0 } s m args below meth c H locs 0 0 (MQ below (zh_Q G none X') args s 0 0 (zh_A G)) (F0 m 12 ls []) := by
    intro n
    induction n with
    | zero =>
      intro X w0 w2 v X1 H locs ls hm hX hS hl hexit
      rw [L_ZoneNodesModel_remove_12] at hm
      cases hm
    | succ n ih =>
      intro X w0 w2 v X1 H locs ls hm hX hS hl hexit
      rw [L_ZoneNodesModel_remove_12] at hm
      refine lv_iload_n hx hb d_ZoneNodesModel_remove_12 rfl (lv_at hl 1 rfl) ?_
      refine lv_aload_n hx hb d_ZoneNodesModel_remove_13 rfl (lv_at hl 0 rfl) ?_
      replace hm := zb1_s hm
      obtain ⟨v6, h5, hm⟩ := hm
      refine zr_get (ci := 9) (C := R_ZoneNodesModel) (T := F_ZoneNodesModel) (N := 32) hx hb hts in_ZoneNodesModel hown hk hX rfl 24 (by decide) (hts _ tW475) rfl (zgi_v h5) d_ZoneNodesModel_remove_14 ?_
      refine lv_icmp_ge (tgt := 124) hx hb d_ZoneNodesModel_remove_17 rfl (fun h7 => ?_) (fun h7 => ?_)
      · replace hm := zi_t h7 hm
        cases hm
        exact hexit _ _ _ hX hS (lv_sub hl [] rfl)
      · replace hm := zi_f h7 hm
        refine lv_aload_n hx hb d_ZoneNodesModel_remove_20 rfl (lv_at hl 0 rfl) ?_
        replace hm := zb1_s hm
        obtain ⟨a9, h8, hm⟩ := hm
        refine zr_get (ci := 9) (C := R_ZoneNodesModel) (T := F_ZoneNodesModel) (N := 32) hx hb hts in_ZoneNodesModel hown hk hX rfl 25 (by decide) (hts _ tW457) rfl (zgr_v h8) d_ZoneNodesModel_remove_21 ?_
        refine lv_iload_n hx hb d_ZoneNodesModel_remove_24 rfl (lv_at hl 1 rfl) ?_
        refine lv_aload_n hx hb d_ZoneNodesModel_remove_25 rfl (lv_at hl 0 rfl) ?_
        replace hm := zb1_s hm
        obtain ⟨a11, h10, hm⟩ := hm
        refine zr_get (ci := 9) (C := R_ZoneNodesModel) (T := F_ZoneNodesModel) (N := 32) hx hb hts in_ZoneNodesModel hown hk hX rfl 25 (by decide) (hts _ tW457) rfl (zgr_v h10) d_ZoneNodesModel_remove_26 ?_
        refine lv_iload_n hx hb d_ZoneNodesModel_remove_29 rfl (lv_at hl 1 rfl) ?_
        refine lv_iconst (v := 1) hx hb d_ZoneNodesModel_remove_30 (by decide) ?_
        refine lv_iadd hx hb d_ZoneNodesModel_remove_31 ?_
        replace hm := zb1_s hm
        obtain ⟨v12, h13, hm⟩ := hm
        refine zr_iaload hx hb hk hX h13 d_ZoneNodesModel_remove_32 ?_
        replace hm := zb1_s hm
        obtain ⟨X14, h15, hm⟩ := hm
        refine zr_iastore hx hb hk hX hS h15 d_ZoneNodesModel_remove_33 (fun H locs hX hS => ?_)
        refine lv_aload_n hx hb d_ZoneNodesModel_remove_34 rfl (lv_at hl 0 rfl) ?_
        replace hm := zb1_s hm
        obtain ⟨a17, h16, hm⟩ := hm
        refine zr_get (ci := 9) (C := R_ZoneNodesModel) (T := F_ZoneNodesModel) (N := 32) hx hb hts in_ZoneNodesModel hown hk hX rfl 26 (by decide) (hts _ tW458) rfl (zgr_v h16) d_ZoneNodesModel_remove_35 ?_
        refine lv_iload_n hx hb d_ZoneNodesModel_remove_38 rfl (lv_at hl 1 rfl) ?_
        refine lv_aload_n hx hb d_ZoneNodesModel_remove_39 rfl (lv_at hl 0 rfl) ?_
        replace hm := zb1_s hm
        obtain ⟨a19, h18, hm⟩ := hm
        refine zr_get (ci := 9) (C := R_ZoneNodesModel) (T := F_ZoneNodesModel) (N := 32) hx hb hts in_ZoneNodesModel hown hk hX rfl 26 (by decide) (hts _ tW458) rfl (zgr_v h18) d_ZoneNodesModel_remove_40 ?_
        refine lv_iload_n hx hb d_ZoneNodesModel_remove_43 rfl (lv_at hl 1 rfl) ?_
        refine lv_iconst (v := 1) hx hb d_ZoneNodesModel_remove_44 (by decide) ?_
        refine lv_iadd hx hb d_ZoneNodesModel_remove_45 ?_
        replace hm := zb1_s hm
        obtain ⟨v20, h21, hm⟩ := hm
        refine zr_iaload hx hb hk hX h21 d_ZoneNodesModel_remove_46 ?_
        replace hm := zb1_s hm
        obtain ⟨X22, h23, hm⟩ := hm
        refine zr_iastore hx hb hk hX hS h23 d_ZoneNodesModel_remove_47 (fun H locs hX hS => ?_)
        refine lv_aload_n hx hb d_ZoneNodesModel_remove_48 rfl (lv_at hl 0 rfl) ?_
        replace hm := zb1_s hm
        obtain ⟨a25, h24, hm⟩ := hm
        refine zr_get (ci := 9) (C := R_ZoneNodesModel) (T := F_ZoneNodesModel) (N := 32) hx hb hts in_ZoneNodesModel hown hk hX rfl 27 (by decide) (hts _ tW459) rfl (zgr_v h24) d_ZoneNodesModel_remove_49 ?_
        refine lv_iload_n hx hb d_ZoneNodesModel_remove_52 rfl (lv_at hl 1 rfl) ?_
        refine lv_aload_n hx hb d_ZoneNodesModel_remove_53 rfl (lv_at hl 0 rfl) ?_
        replace hm := zb1_s hm
        obtain ⟨a27, h26, hm⟩ := hm
        refine zr_get (ci := 9) (C := R_ZoneNodesModel) (T := F_ZoneNodesModel) (N := 32) hx hb hts in_ZoneNodesModel hown hk hX rfl 27 (by decide) (hts _ tW459) rfl (zgr_v h26) d_ZoneNodesModel_remove_54 ?_
        refine lv_iload_n hx hb d_ZoneNodesModel_remove_57 rfl (lv_at hl 1 rfl) ?_
        refine lv_iconst (v := 1) hx hb d_ZoneNodesModel_remove_58 (by decide) ?_
        refine lv_iadd hx hb d_ZoneNodesModel_remove_59 ?_
        replace hm := zb1_s hm
        obtain ⟨v28, h29, hm⟩ := hm
        refine zr_iaload hx hb hk hX h29 d_ZoneNodesModel_remove_60 ?_
        replace hm := zb1_s hm
        obtain ⟨X30, h31, hm⟩ := hm
        refine zr_iastore hx hb hk hX hS h31 d_ZoneNodesModel_remove_61 (fun H locs hX hS => ?_)
        refine lv_aload_n hx hb d_ZoneNodesModel_remove_62 rfl (lv_at hl 0 rfl) ?_
        replace hm := zb1_s hm
        obtain ⟨a33, h32, hm⟩ := hm
        refine zr_get (ci := 9) (C := R_ZoneNodesModel) (T := F_ZoneNodesModel) (N := 32) hx hb hts in_ZoneNodesModel hown hk hX rfl 28 (by decide) (hts _ tW460) rfl (zgr_v h32) d_ZoneNodesModel_remove_63 ?_
        refine lv_iload_n hx hb d_ZoneNodesModel_remove_66 rfl (lv_at hl 1 rfl) ?_
        refine lv_aload_n hx hb d_ZoneNodesModel_remove_67 rfl (lv_at hl 0 rfl) ?_
        replace hm := zb1_s hm
        obtain ⟨a35, h34, hm⟩ := hm
        refine zr_get (ci := 9) (C := R_ZoneNodesModel) (T := F_ZoneNodesModel) (N := 32) hx hb hts in_ZoneNodesModel hown hk hX rfl 28 (by decide) (hts _ tW460) rfl (zgr_v h34) d_ZoneNodesModel_remove_68 ?_
        refine lv_iload_n hx hb d_ZoneNodesModel_remove_71 rfl (lv_at hl 1 rfl) ?_
        refine lv_iconst (v := 1) hx hb d_ZoneNodesModel_remove_72 (by decide) ?_
        refine lv_iadd hx hb d_ZoneNodesModel_remove_73 ?_
        replace hm := zb1_s hm
        obtain ⟨v36, h37, hm⟩ := hm
        refine zr_iaload hx hb hk hX h37 d_ZoneNodesModel_remove_74 ?_
        replace hm := zb1_s hm
        obtain ⟨X38, h39, hm⟩ := hm
        refine zr_iastore hx hb hk hX hS h39 d_ZoneNodesModel_remove_75 (fun H locs hX hS => ?_)
        refine lv_aload_n hx hb d_ZoneNodesModel_remove_76 rfl (lv_at hl 0 rfl) ?_
        replace hm := zb1_s hm
        obtain ⟨a41, h40, hm⟩ := hm
        refine zr_get (ci := 9) (C := R_ZoneNodesModel) (T := F_ZoneNodesModel) (N := 32) hx hb hts in_ZoneNodesModel hown hk hX rfl 29 (by decide) (hts _ tW461) rfl (zgr_v h40) d_ZoneNodesModel_remove_77 ?_
        refine lv_iload_n hx hb d_ZoneNodesModel_remove_80 rfl (lv_at hl 1 rfl) ?_
        refine lv_aload_n hx hb d_ZoneNodesModel_remove_81 rfl (lv_at hl 0 rfl) ?_
        replace hm := zb1_s hm
        obtain ⟨a43, h42, hm⟩ := hm
        refine zr_get (ci := 9) (C := R_ZoneNodesModel) (T := F_ZoneNodesModel) (N := 32) hx hb hts in_ZoneNodesModel hown hk hX rfl 29 (by decide) (hts _ tW461) rfl (zgr_v h42) d_ZoneNodesModel_remove_82 ?_
        refine lv_iload_n hx hb d_ZoneNodesModel_remove_85 rfl (lv_at hl 1 rfl) ?_
        refine lv_iconst (v := 1) hx hb d_ZoneNodesModel_remove_86 (by decide) ?_
        refine lv_iadd hx hb d_ZoneNodesModel_remove_87 ?_
        replace hm := zb1_s hm
        obtain ⟨v44, h45, hm⟩ := hm
        refine zr_iaload hx hb hk hX h45 d_ZoneNodesModel_remove_88 ?_
        replace hm := zb1_s hm
        obtain ⟨X46, h47, hm⟩ := hm
        refine zr_iastore hx hb hk hX hS h47 d_ZoneNodesModel_remove_89 (fun H locs hX hS => ?_)
        refine lv_aload_n hx hb d_ZoneNodesModel_remove_90 rfl (lv_at hl 0 rfl) ?_
        replace hm := zb1_s hm
        obtain ⟨a49, h48, hm⟩ := hm
        refine zr_get (ci := 9) (C := R_ZoneNodesModel) (T := F_ZoneNodesModel) (N := 32) hx hb hts in_ZoneNodesModel hown hk hX rfl 30 (by decide) (hts _ tW462) rfl (zgr_v h48) d_ZoneNodesModel_remove_91 ?_
        refine lv_iload_n hx hb d_ZoneNodesModel_remove_94 rfl (lv_at hl 1 rfl) ?_
        refine lv_aload_n hx hb d_ZoneNodesModel_remove_95 rfl (lv_at hl 0 rfl) ?_
        replace hm := zb1_s hm
        obtain ⟨a51, h50, hm⟩ := hm
        refine zr_get (ci := 9) (C := R_ZoneNodesModel) (T := F_ZoneNodesModel) (N := 32) hx hb hts in_ZoneNodesModel hown hk hX rfl 30 (by decide) (hts _ tW462) rfl (zgr_v h50) d_ZoneNodesModel_remove_96 ?_
        refine lv_iload_n hx hb d_ZoneNodesModel_remove_99 rfl (lv_at hl 1 rfl) ?_
        refine lv_iconst (v := 1) hx hb d_ZoneNodesModel_remove_100 (by decide) ?_
        refine lv_iadd hx hb d_ZoneNodesModel_remove_101 ?_
        replace hm := zb1_s hm
        obtain ⟨v52, h53, hm⟩ := hm
        refine zr_baload hx hb hk hX h53 d_ZoneNodesModel_remove_102 ?_
        replace hm := zb1_s hm
        obtain ⟨X54, h55, hm⟩ := hm
        refine zr_bastore hx hb hk hX hS h55 d_ZoneNodesModel_remove_103 (fun H locs hX hS => ?_)
        refine lv_aload_n hx hb d_ZoneNodesModel_remove_104 rfl (lv_at hl 0 rfl) ?_
        replace hm := zb1_s hm
        obtain ⟨a57, h56, hm⟩ := hm
        refine zr_get (ci := 9) (C := R_ZoneNodesModel) (T := F_ZoneNodesModel) (N := 32) hx hb hts in_ZoneNodesModel hown hk hX rfl 31 (by decide) (hts _ tW463) rfl (zgr_v h56) d_ZoneNodesModel_remove_105 ?_
        refine lv_iload_n hx hb d_ZoneNodesModel_remove_108 rfl (lv_at hl 1 rfl) ?_
        refine lv_aload_n hx hb d_ZoneNodesModel_remove_109 rfl (lv_at hl 0 rfl) ?_
        replace hm := zb1_s hm
        obtain ⟨a59, h58, hm⟩ := hm
        refine zr_get (ci := 9) (C := R_ZoneNodesModel) (T := F_ZoneNodesModel) (N := 32) hx hb hts in_ZoneNodesModel hown hk hX rfl 31 (by decide) (hts _ tW463) rfl (zgr_v h58) d_ZoneNodesModel_remove_110 ?_
        refine lv_iload_n hx hb d_ZoneNodesModel_remove_113 rfl (lv_at hl 1 rfl) ?_
        refine lv_iconst (v := 1) hx hb d_ZoneNodesModel_remove_114 (by decide) ?_
        refine lv_iadd hx hb d_ZoneNodesModel_remove_115 ?_
        replace hm := zb1_s hm
        obtain ⟨v60, h61, hm⟩ := hm
        refine zr_baload hx hb hk hX h61 d_ZoneNodesModel_remove_116 ?_
        replace hm := zb1_s hm
        obtain ⟨X62, h63, hm⟩ := hm
        refine zr_bastore hx hb hk hX hS h63 d_ZoneNodesModel_remove_117 (fun H locs hX hS => ?_)
        refine lv_iinc (v := w2 + 1) (lv' := [(2, .int (w2 + 1)), (0, .ref w0)]) hx hb d_ZoneNodesModel_remove_118 hl (k := 1) rfl (by rw [show Int32.ofInt 1 = 1 by decide]) (by decide) rfl (fun ls hl => ?_)
        refine lv_goto (tgt := 12) hx hb d_ZoneNodesModel_remove_121 rfl ?_
        exact ih X62 w0 (w2 + 1) v X1 _ _ _ hm hX hS (lv_sub hl [1, 0] rfl) hexit
  refine lv_aload_n hx hb d_ZoneNodesModel_remove_0 rfl (lv_at hl 0 rfl) ?_
  refine lv_dup hx hb d_ZoneNodesModel_remove_1 rfl ?_
  replace hm := zb1_s hm
  obtain ⟨v2, h1, hm⟩ := hm
  refine zr_get (ci := 9) (C := R_ZoneNodesModel) (T := F_ZoneNodesModel) (N := 32) hx hb hts in_ZoneNodesModel hown hk hX rfl 24 (by decide) (hts _ tW475) rfl (zgi_v h1) d_ZoneNodesModel_remove_2 ?_
  refine lv_iconst (v := 1) hx hb d_ZoneNodesModel_remove_5 (by decide) ?_
  refine lv_isub hx hb d_ZoneNodesModel_remove_6 ?_
  replace hm := zb1_s hm
  obtain ⟨X3, h4, hm⟩ := hm
  refine zr_put (ci := 9) (C := R_ZoneNodesModel) (T := F_ZoneNodesModel) (N := 32) (ty := .int) (v := .int (v2 - 1)) hx hb hts in_ZoneNodesModel t_ZoneNodesModel t_ZoneNodesModel_ok n_ZoneNodesModel hown hk hX hS rfl 24 (by decide) (hts _ tW475) rfl rfl (by decide +kernel) rfl rfl h4 d_ZoneNodesModel_remove_7 (fun H locs hX hS => ?_)
  refine lv_iload_n hx hb d_ZoneNodesModel_remove_10 rfl (lv_at hl 1 rfl) ?_
  refine lv_istore_n (lv' := [(2, .int x1), (0, .ref x0), (1, .int x1)]) hx hb d_ZoneNodesModel_remove_11 rfl hl (by decide) rfl (fun ls hl => ?_)
  replace hm := zb2_s hm
  obtain ⟨v64, X66, h65, hm⟩ := hm
  refine hL12 N X3 x0 x1 v64 X66 _ _ _ h65 hX hS (lv_sub hl [1, 0] rfl) (fun H locs ls hX hS hl => ?_)
  cases hm
  exact W.vret hx hb hr (fun t ht hW => zh_end hk hX hS ht hW) hS.2.2 d_ZoneNodesModel_remove_124
set_option maxHeartbeats 4000000 in
set_option maxRecDepth 100000 in
theorem c_ZoneNodesModel_cutOff (l : Launch) (G : zh_G) (N : Nat) (X : zh_T) (x0 : Nat) (x1 : Int32) (r : Unit) (X' : zh_T) (hm : f_ZoneNodesModel_cutOff N X x0 x1 = some (r, X')) : zM l G y_ZoneNodesModel_cutOff w_ZoneNodesModel_cutOff 1 22 X [.ref x0, .int x1] none X' 0 0 := by
  refine zr_ofW (by decide) (by exact Nat.le_of_ble_eq_true rfl) ?_
  intro p e s m args below meth c ls hx hb hml hr hts hown hin hlocks hk hX hl
  have hS : va_S (zh_A G) s.heap s.heap [] := va_S.rf
  have hl : lv_has ls 3 [(0, .ref x0), (1, .int x1)] := hl
  have hown : s.vm.findClass R_ZoneNodesModel = some m.cls := hown
  unfold f_ZoneNodesModel_cutOff at hm
  have hL7 : ∀ (n : Nat) (X : zh_T) (w0 : Nat) (w1 : Int32) (w2 : Int32) (v : Unit) (X1 : zh_T) (H : Heap) (locs : List Loc) (ls : Array Slot), L_ZoneNodesModel_cutOff_7 N w0 w1 n X w2 = some (v, X1) → zh_w G X H → va_S (zh_A G) s.heap H locs → lv_has ls 3 [(0, .ref w0), (1, .int w1), (2, .int w2)] → (∀ (H : Heap) (locs : List Loc) (ls : Array Slot), zh_w G X1 H → va_S (zh_A G) s.heap H locs → lv_has ls 3 [] → W p l e { frames := 1, cells := 0, slots := 0, locals := 22 } s m args below meth c H locs 0 0 (MQ below (zh_Q G none X') args s 0 0 (zh_A G)) (F0 m 42 ls [])) → W p l e { frames := 1, cells := 0, slots := 0, locals := 22 } s m args below meth c H locs 0 0 (MQ below (zh_Q G none X') args s 0 0 (zh_A G)) (F0 m 7 ls []) := by
    intro n
    induction n with
    | zero =>
      intro X w0 w1 w2 v X1 H locs ls hm hX hS hl hexit
      rw [L_ZoneNodesModel_cutOff_7] at hm
      cases hm
    | succ n ih =>
      intro X w0 w1 w2 v X1 H locs ls hm hX hS hl hexit
      rw [L_ZoneNodesModel_cutOff_7] at hm
      refine lv_iload_n hx hb d_ZoneNodesModel_cutOff_7 rfl (lv_at hl 2 rfl) ?_
      refine lv_if_lt (tgt := 42) hx hb d_ZoneNodesModel_cutOff_8 rfl (fun h3 => ?_) (fun h3 => ?_)
      · replace hm := zi_t h3 hm
        cases hm
        exact hexit _ _ _ hX hS (lv_sub hl [] rfl)
      · replace hm := zi_f h3 hm
        refine lv_aload_n hx hb d_ZoneNodesModel_cutOff_11 rfl (lv_at hl 0 rfl) ?_
        replace hm := zb1_s hm
        obtain ⟨a5, h4, hm⟩ := hm
        refine zr_get (ci := 9) (C := R_ZoneNodesModel) (T := F_ZoneNodesModel) (N := 32) hx hb hts in_ZoneNodesModel hown hk hX rfl 25 (by decide) (hts _ tW457) rfl (zgr_v h4) d_ZoneNodesModel_cutOff_12 ?_
        refine lv_iload_n hx hb d_ZoneNodesModel_cutOff_15 rfl (lv_at hl 2 rfl) ?_
        replace hm := zb1_s hm
        obtain ⟨v6, h7, hm⟩ := hm
        refine zr_iaload hx hb hk hX h7 d_ZoneNodesModel_cutOff_16 ?_
        refine lv_iconst (v := 4) hx hb d_ZoneNodesModel_cutOff_17 (by decide) ?_
        refine lv_icmp_lt (tgt := 36) hx hb d_ZoneNodesModel_cutOff_18 rfl (fun h8 => ?_) (fun h8 => ?_)
        · replace hm := zi_t h8 hm
          refine lv_iinc (v := w2 + (-1)) (lv' := [(2, .int (w2 + (-1))), (0, .ref w0), (1, .int w1)]) hx hb d_ZoneNodesModel_cutOff_36 hl (k := 2) rfl (by rw [show Int32.ofInt (-1) = (-1) by decide]) (by decide) rfl (fun ls hl => ?_)
          refine lv_goto (tgt := 7) hx hb d_ZoneNodesModel_cutOff_39 rfl ?_
          exact ih X w0 w1 (w2 + (-1)) v X1 _ _ _ hm hX hS (lv_sub hl [1, 2, 0] rfl) hexit
        · replace hm := zi_f h8 hm
          refine lv_aload_n hx hb d_ZoneNodesModel_cutOff_21 rfl (lv_at hl 0 rfl) ?_
          replace hm := zb1_s hm
          obtain ⟨a10, h9, hm⟩ := hm
          refine zr_get (ci := 9) (C := R_ZoneNodesModel) (T := F_ZoneNodesModel) (N := 32) hx hb hts in_ZoneNodesModel hown hk hX rfl 26 (by decide) (hts _ tW458) rfl (zgr_v h9) d_ZoneNodesModel_cutOff_22 ?_
          refine lv_iload_n hx hb d_ZoneNodesModel_cutOff_25 rfl (lv_at hl 2 rfl) ?_
          replace hm := zb1_s hm
          obtain ⟨v11, h12, hm⟩ := hm
          refine zr_iaload hx hb hk hX h12 d_ZoneNodesModel_cutOff_26 ?_
          refine lv_iload_n hx hb d_ZoneNodesModel_cutOff_27 rfl (lv_at hl 1 rfl) ?_
          refine lv_icmp_ne (tgt := 36) hx hb d_ZoneNodesModel_cutOff_28 rfl (fun h13 => ?_) (fun h13 => ?_)
          · replace hm := zi_f h13 hm
            refine lv_iinc (v := w2 + (-1)) (lv' := [(2, .int (w2 + (-1))), (0, .ref w0), (1, .int w1)]) hx hb d_ZoneNodesModel_cutOff_36 hl (k := 2) rfl (by rw [show Int32.ofInt (-1) = (-1) by decide]) (by decide) rfl (fun ls hl => ?_)
            refine lv_goto (tgt := 7) hx hb d_ZoneNodesModel_cutOff_39 rfl ?_
            exact ih X w0 w1 (w2 + (-1)) v X1 _ _ _ hm hX hS (lv_sub hl [1, 2, 0] rfl) hexit
          · replace hm := zi_t h13 hm
            refine lv_aload_n hx hb d_ZoneNodesModel_cutOff_31 rfl (lv_at hl 0 rfl) ?_
            refine lv_iload_n hx hb d_ZoneNodesModel_cutOff_32 rfl (lv_at hl 2 rfl) ?_
            replace hm := zb1_s hm
            obtain ⟨_, h15, hm⟩ := hm
            replace hm := zb2_s hm
            obtain ⟨v16, X17, h14, hm⟩ := hm
            refine zr_callv (zr_runV (As := [.int w2]) (rest := []) (n := 1) hx hb hml hown hts hk hX (c_ZoneNodesModel_remove l G N X w0 w2 v16 X17 h14) (hts _ tW489) tW490 (hts _ tW469) (hts _ tW491) (hts _ tW492) rfl h15 (by decide +kernel) ⟨Nat.le_of_ble_eq_true rfl, Nat.le_of_ble_eq_true rfl⟩ rfl rfl hl.1 rfl (lv_room (Nat.le_of_ble_eq_true rfl)) d_ZoneNodesModel_cutOff_33 ⟨(Nat.le_of_ble_eq_true rfl), (Nat.le_of_ble_eq_true rfl)⟩) hS (fun H locs hX hS => ?_)
            refine lv_iinc (v := w2 + (-1)) (lv' := [(2, .int (w2 + (-1))), (0, .ref w0), (1, .int w1)]) hx hb d_ZoneNodesModel_cutOff_36 hl (k := 2) rfl (by rw [show Int32.ofInt (-1) = (-1) by decide]) (by decide) rfl (fun ls hl => ?_)
            refine lv_goto (tgt := 7) hx hb d_ZoneNodesModel_cutOff_39 rfl ?_
            exact ih X17 w0 w1 (w2 + (-1)) v X1 _ _ _ hm hX hS (lv_sub hl [1, 2, 0] rfl) hexit
  refine lv_aload_n hx hb d_ZoneNodesModel_cutOff_0 rfl (lv_at hl 0 rfl) ?_
  replace hm := zb1_s hm
  obtain ⟨v2, h1, hm⟩ := hm
  refine zr_get (ci := 9) (C := R_ZoneNodesModel) (T := F_ZoneNodesModel) (N := 32) hx hb hts in_ZoneNodesModel hown hk hX rfl 24 (by decide) (hts _ tW475) rfl (zgi_v h1) d_ZoneNodesModel_cutOff_1 ?_
  refine lv_iconst (v := 1) hx hb d_ZoneNodesModel_cutOff_4 (by decide) ?_
  refine lv_isub hx hb d_ZoneNodesModel_cutOff_5 ?_
  refine lv_istore_n (lv' := [(2, .int (v2 - 1)), (0, .ref x0), (1, .int x1)]) hx hb d_ZoneNodesModel_cutOff_6 rfl hl (by decide) rfl (fun ls hl => ?_)
  replace hm := zb2_s hm
  obtain ⟨v18, X20, h19, hm⟩ := hm
  refine hL7 N X x0 x1 (v2 - 1) v18 X20 _ _ _ h19 hX hS (lv_sub hl [1, 2, 0] rfl) (fun H locs ls hX hS hl => ?_)
  cases hm
  exact W.vret hx hb hr (fun t ht hW => zh_end hk hX hS ht hW) hS.2.2 d_ZoneNodesModel_cutOff_42
set_option maxHeartbeats 4000000 in
set_option maxRecDepth 100000 in
theorem c_ZoneNodesModel_isNode (l : Launch) (G : zh_G) (N : Nat) (X : zh_T) (x0 : Int32) (r : Int32) (hm : f_ZoneNodesModel_isNode N X x0 = some r) : zM l G y_ZoneNodesModel_isNode w_ZoneNodesModel_isNode 0 0 X [.int x0] (some (.int r)) X 0 0 := by
  refine zr_ofW (by decide) (by exact Nat.le_of_ble_eq_true rfl) ?_
  intro p e s m args below meth c ls hx hb hml hr hts hown hin hlocks hk hX hl
  have hS : va_S (zh_A G) s.heap s.heap [] := va_S.rf
  have hl : lv_has ls 1 [(0, .int x0)] := hl
  have hown : s.vm.findClass R_ZoneNodesModel = some m.cls := hown
  unfold f_ZoneNodesModel_isNode at hm
  refine lv_iload_n hx hb d_ZoneNodesModel_isNode_0 rfl (lv_at hl 0 rfl) ?_
  refine lv_if_lt (tgt := 13) hx hb d_ZoneNodesModel_isNode_1 rfl (fun h1 => ?_) (fun h1 => ?_)
  · replace hm := zi_t h1 hm
    refine lv_iconst (v := 0) hx hb d_ZoneNodesModel_isNode_13 (by decide) ?_
    cases hm
    exact W.zret hx hb hr (by decide) (fun t ht hW => zh_end hk hX hS ht hW) hS.2.2 d_ZoneNodesModel_isNode_14
  · replace hm := zi_f h1 hm
    refine lv_iload_n hx hb d_ZoneNodesModel_isNode_4 rfl (lv_at hl 0 rfl) ?_
    refine lv_iconst (v := 2) hx hb d_ZoneNodesModel_isNode_5 (by decide) ?_
    refine lv_icmp_gt (tgt := 13) hx hb d_ZoneNodesModel_isNode_6 rfl (fun h2 => ?_) (fun h2 => ?_)
    · replace hm := zi_t h2 hm
      refine lv_iconst (v := 0) hx hb d_ZoneNodesModel_isNode_13 (by decide) ?_
      cases hm
      exact W.zret hx hb hr (by decide) (fun t ht hW => zh_end hk hX hS ht hW) hS.2.2 d_ZoneNodesModel_isNode_14
    · replace hm := zi_f h2 hm
      refine lv_iconst (v := 1) hx hb d_ZoneNodesModel_isNode_9 (by decide) ?_
      refine lv_goto (tgt := 14) hx hb d_ZoneNodesModel_isNode_10 rfl ?_
      cases hm
      exact W.zret hx hb hr (by decide) (fun t ht hW => zh_end hk hX hS ht hW) hS.2.2 d_ZoneNodesModel_isNode_14
set_option maxHeartbeats 4000000 in
set_option maxRecDepth 100000 in
theorem c_ZoneNodesModel_crash (l : Launch) (G : zh_G) (N : Nat) (X : zh_T) (x0 : Nat) (x1 : Int32) (r : Int32) (X' : zh_T) (hm : f_ZoneNodesModel_crash N X x0 x1 = some (r, X')) : zM l G y_ZoneNodesModel_crash w_ZoneNodesModel_crash 2 44 X [.ref x0, .int x1] (some (.int r)) X' 0 0 := by
  refine zr_ofW (by decide) (by exact Nat.le_of_ble_eq_true rfl) ?_
  intro p e s m args below meth c ls hx hb hml hr hts hown hin hlocks hk hX hl
  have hS : va_S (zh_A G) s.heap s.heap [] := va_S.rf
  have hl : lv_has ls 3 [(0, .ref x0), (1, .int x1)] := hl
  have hown : s.vm.findClass R_ZoneNodesModel = some m.cls := hown
  unfold f_ZoneNodesModel_crash at hm
  have hL43 : ∀ (n : Nat) (X : zh_T) (w0 : Nat) (w1 : Int32) (w2 : Int32) (v : Unit) (X1 : zh_T) (H : Heap) (locs : List Loc) (ls : Array Slot), L_ZoneNodesModel_crash_43 N w0 w1 n X w2 = some (v, X1) → zh_w G X H → va_S (zh_A G) s.heap H locs → lv_has ls 3 [(0, .ref w0), (1, .int w1), (2, .int w2)] → (∀ (H : Heap) (locs : List Loc) (ls : Array Slot), zh_w G X1 H → va_S (zh_A G) s.heap H locs → lv_has ls 3 [] → W p l e { frames := 2, cells := 0, slots := 0, locals := 44 } s m args below meth c H locs 0 0 (MQ below (zh_Q G (some (.int r)) X') args s 0 0 (zh_A G)) (F0 m 100 ls [])) → W p l e { frames := 2, cells := 0, slots := 0, locals := 44 } s m args below meth c H locs 0 0 (MQ below (zh_Q G (some (.int r)) X') args s 0 0 (zh_A G)) (F0 m 43 ls []) := by
    intro n
    induction n with
    | zero =>
      intro X w0 w1 w2 v X1 H locs ls hm hX hS hl hexit
      rw [L_ZoneNodesModel_crash_43] at hm
      cases hm
    | succ n ih =>
      intro X w0 w1 w2 v X1 H locs ls hm hX hS hl hexit
      rw [L_ZoneNodesModel_crash_43] at hm
      refine lv_iload_n hx hb d_ZoneNodesModel_crash_43 rfl (lv_at hl 2 rfl) ?_
      refine lv_iconst (v := 2) hx hb d_ZoneNodesModel_crash_44 (by decide) ?_
      refine lv_icmp_gt (tgt := 100) hx hb d_ZoneNodesModel_crash_45 rfl (fun h18 => ?_) (fun h18 => ?_)
      · replace hm := zi_t h18 hm
        cases hm
        exact hexit _ _ _ hX hS (lv_sub hl [] rfl)
      · replace hm := zi_f h18 hm
        refine lv_iload_n hx hb d_ZoneNodesModel_crash_48 rfl (lv_at hl 1 rfl) ?_
        refine lv_if_eq (tgt := 57) hx hb d_ZoneNodesModel_crash_49 rfl (fun h19 => ?_) (fun h19 => ?_)
        · replace hm := zi_t h19 hm
          refine lv_aload_n hx hb d_ZoneNodesModel_crash_57 rfl (lv_at hl 0 rfl) ?_
          refine lv_iload_n hx hb d_ZoneNodesModel_crash_58 rfl (lv_at hl 2 rfl) ?_
          replace hm := zb1_s hm
          obtain ⟨_, h21, hm⟩ := hm
          replace hm := zb2_s hm
          obtain ⟨v22, X23, h20, hm⟩ := hm
          refine zr_callv (zr_runV (As := [.int w2]) (rest := []) (n := 1) hx hb hml hown hts hk hX (c_ZoneNodesModel_cutOff l G N X w0 w2 v22 X23 h20) (hts _ tW496) tW497 (hts _ tW469) (hts _ tW498) (hts _ tW499) rfl h21 (by decide +kernel) ⟨Nat.le_of_ble_eq_true rfl, Nat.le_of_ble_eq_true rfl⟩ rfl rfl hl.1 rfl (lv_room (Nat.le_of_ble_eq_true rfl)) d_ZoneNodesModel_crash_59 ⟨(Nat.le_of_ble_eq_true rfl), (Nat.le_of_ble_eq_true rfl)⟩) hS (fun H locs hX hS => ?_)
          refine lv_iload_n hx hb d_ZoneNodesModel_crash_62 rfl (lv_at hl 1 rfl) ?_
          refine lv_if_ne (tgt := 94) hx hb d_ZoneNodesModel_crash_63 rfl (fun h24 => ?_) (fun h24 => ?_)
          · replace hm := zi_f h24 hm
            refine lv_iinc (v := w2 + 1) (lv' := [(2, .int (w2 + 1)), (0, .ref w0), (1, .int w1)]) hx hb d_ZoneNodesModel_crash_94 hl (k := 2) rfl (by rw [show Int32.ofInt 1 = 1 by decide]) (by decide) rfl (fun ls hl => ?_)
            refine lv_goto (tgt := 43) hx hb d_ZoneNodesModel_crash_97 rfl ?_
            exact ih X23 w0 w1 (w2 + 1) v X1 _ _ _ hm hX hS (lv_sub hl [1, 2, 0] rfl) hexit
          · replace hm := zi_t h24 hm
            refine lv_aload_n hx hb d_ZoneNodesModel_crash_66 rfl (lv_at hl 0 rfl) ?_
            replace hm := zb1_s hm
            obtain ⟨a26, h25, hm⟩ := hm
            refine zr_get (ci := 9) (C := R_ZoneNodesModel) (T := F_ZoneNodesModel) (N := 32) hx hb hts in_ZoneNodesModel hown hk hX rfl 4 (by decide) (hts _ tW443) rfl (zgr_v h25) d_ZoneNodesModel_crash_67 ?_
            refine lv_iload_n hx hb d_ZoneNodesModel_crash_70 rfl (lv_at hl 2 rfl) ?_
            replace hm := zb1_s hm
            obtain ⟨v27, h28, hm⟩ := hm
            refine zr_baload hx hb hk hX h28 d_ZoneNodesModel_crash_71 ?_
            refine lv_if_eq (tgt := 94) hx hb d_ZoneNodesModel_crash_72 rfl (fun h29 => ?_) (fun h29 => ?_)
            · replace hm := zi_t h29 hm
              refine lv_iinc (v := w2 + 1) (lv' := [(2, .int (w2 + 1)), (0, .ref w0), (1, .int w1)]) hx hb d_ZoneNodesModel_crash_94 hl (k := 2) rfl (by rw [show Int32.ofInt 1 = 1 by decide]) (by decide) rfl (fun ls hl => ?_)
              refine lv_goto (tgt := 43) hx hb d_ZoneNodesModel_crash_97 rfl ?_
              exact ih X23 w0 w1 (w2 + 1) v X1 _ _ _ hm hX hS (lv_sub hl [1, 2, 0] rfl) hexit
            · replace hm := zi_f h29 hm
              refine lv_aload_n hx hb d_ZoneNodesModel_crash_75 rfl (lv_at hl 0 rfl) ?_
              replace hm := zb1_s hm
              obtain ⟨a31, h30, hm⟩ := hm
              refine zr_get (ci := 9) (C := R_ZoneNodesModel) (T := F_ZoneNodesModel) (N := 32) hx hb hts in_ZoneNodesModel hown hk hX rfl 9 (by decide) (hts _ tW439) rfl (zgr_v h30) d_ZoneNodesModel_crash_76 ?_
              refine lv_iload_n hx hb d_ZoneNodesModel_crash_79 rfl (lv_at hl 2 rfl) ?_
              replace hm := zb1_s hm
              obtain ⟨v32, h33, hm⟩ := hm
              refine zr_iaload hx hb hk hX h33 d_ZoneNodesModel_crash_80 ?_
              refine lv_iconst (v := 2) hx hb d_ZoneNodesModel_crash_81 (by decide) ?_
              refine lv_icmp_ne (tgt := 94) hx hb d_ZoneNodesModel_crash_82 rfl (fun h34 => ?_) (fun h34 => ?_)
              · replace hm := zi_f h34 hm
                refine lv_iinc (v := w2 + 1) (lv' := [(2, .int (w2 + 1)), (0, .ref w0), (1, .int w1)]) hx hb d_ZoneNodesModel_crash_94 hl (k := 2) rfl (by rw [show Int32.ofInt 1 = 1 by decide]) (by decide) rfl (fun ls hl => ?_)
                refine lv_goto (tgt := 43) hx hb d_ZoneNodesModel_crash_97 rfl ?_
                exact ih X23 w0 w1 (w2 + 1) v X1 _ _ _ hm hX hS (lv_sub hl [1, 2, 0] rfl) hexit
              · replace hm := zi_t h34 hm
                refine lv_aload_n hx hb d_ZoneNodesModel_crash_85 rfl (lv_at hl 0 rfl) ?_
                refine lv_iload_n hx hb d_ZoneNodesModel_crash_86 rfl (lv_at hl 2 rfl) ?_
                refine lv_aload_n hx hb d_ZoneNodesModel_crash_87 rfl (lv_at hl 0 rfl) ?_
                replace hm := zb1_s hm
                obtain ⟨v36, h35, hm⟩ := hm
                refine zr_get (ci := 9) (C := R_ZoneNodesModel) (T := F_ZoneNodesModel) (N := 32) hx hb hts in_ZoneNodesModel hown hk hX rfl 1 (by decide) (hts _ tW465) rfl (zgi_v h35) d_ZoneNodesModel_crash_88 ?_
                replace hm := zb1_s hm
                obtain ⟨_, h38, hm⟩ := hm
                replace hm := zb2_s hm
                obtain ⟨v39, X40, h37, hm⟩ := hm
                refine zr_callv (zr_runV (As := [.int w2, .int v36]) (rest := []) (n := 2) hx hb hml hown hts hk hX (c_ZoneNodesModel_rest l G N X23 w0 w2 v36 v39 X40 h37) (hts _ tW471) tW472 (hts _ tW469) (hts _ tW473) (hts _ tW474) rfl h38 (by decide +kernel) ⟨Nat.le_of_ble_eq_true rfl, Nat.le_of_ble_eq_true rfl⟩ rfl rfl hl.1 rfl (lv_room (Nat.le_of_ble_eq_true rfl)) d_ZoneNodesModel_crash_91 ⟨(Nat.le_of_ble_eq_true rfl), (Nat.le_of_ble_eq_true rfl)⟩) hS (fun H locs hX hS => ?_)
                refine lv_iinc (v := w2 + 1) (lv' := [(2, .int (w2 + 1)), (0, .ref w0), (1, .int w1)]) hx hb d_ZoneNodesModel_crash_94 hl (k := 2) rfl (by rw [show Int32.ofInt 1 = 1 by decide]) (by decide) rfl (fun ls hl => ?_)
                refine lv_goto (tgt := 43) hx hb d_ZoneNodesModel_crash_97 rfl ?_
                exact ih X40 w0 w1 (w2 + 1) v X1 _ _ _ hm hX hS (lv_sub hl [1, 2, 0] rfl) hexit
        · replace hm := zi_f h19 hm
          refine lv_iload_n hx hb d_ZoneNodesModel_crash_52 rfl (lv_at hl 1 rfl) ?_
          refine lv_iload_n hx hb d_ZoneNodesModel_crash_53 rfl (lv_at hl 2 rfl) ?_
          refine lv_icmp_ne (tgt := 62) hx hb d_ZoneNodesModel_crash_54 rfl (fun h41 => ?_) (fun h41 => ?_)
          · replace hm := zi_f h41 hm
            refine lv_iload_n hx hb d_ZoneNodesModel_crash_62 rfl (lv_at hl 1 rfl) ?_
            refine lv_if_ne (tgt := 94) hx hb d_ZoneNodesModel_crash_63 rfl (fun h42 => ?_) (fun h42 => ?_)
            · replace hm := zi_f h42 hm
              refine lv_iinc (v := w2 + 1) (lv' := [(2, .int (w2 + 1)), (0, .ref w0), (1, .int w1)]) hx hb d_ZoneNodesModel_crash_94 hl (k := 2) rfl (by rw [show Int32.ofInt 1 = 1 by decide]) (by decide) rfl (fun ls hl => ?_)
              refine lv_goto (tgt := 43) hx hb d_ZoneNodesModel_crash_97 rfl ?_
              exact ih X w0 w1 (w2 + 1) v X1 _ _ _ hm hX hS (lv_sub hl [1, 2, 0] rfl) hexit
            · replace hm := zi_t h42 hm
              refine lv_aload_n hx hb d_ZoneNodesModel_crash_66 rfl (lv_at hl 0 rfl) ?_
              replace hm := zb1_s hm
              obtain ⟨a44, h43, hm⟩ := hm
              refine zr_get (ci := 9) (C := R_ZoneNodesModel) (T := F_ZoneNodesModel) (N := 32) hx hb hts in_ZoneNodesModel hown hk hX rfl 4 (by decide) (hts _ tW443) rfl (zgr_v h43) d_ZoneNodesModel_crash_67 ?_
              refine lv_iload_n hx hb d_ZoneNodesModel_crash_70 rfl (lv_at hl 2 rfl) ?_
              replace hm := zb1_s hm
              obtain ⟨v45, h46, hm⟩ := hm
              refine zr_baload hx hb hk hX h46 d_ZoneNodesModel_crash_71 ?_
              refine lv_if_eq (tgt := 94) hx hb d_ZoneNodesModel_crash_72 rfl (fun h47 => ?_) (fun h47 => ?_)
              · replace hm := zi_t h47 hm
                refine lv_iinc (v := w2 + 1) (lv' := [(2, .int (w2 + 1)), (0, .ref w0), (1, .int w1)]) hx hb d_ZoneNodesModel_crash_94 hl (k := 2) rfl (by rw [show Int32.ofInt 1 = 1 by decide]) (by decide) rfl (fun ls hl => ?_)
                refine lv_goto (tgt := 43) hx hb d_ZoneNodesModel_crash_97 rfl ?_
                exact ih X w0 w1 (w2 + 1) v X1 _ _ _ hm hX hS (lv_sub hl [1, 2, 0] rfl) hexit
              · replace hm := zi_f h47 hm
                refine lv_aload_n hx hb d_ZoneNodesModel_crash_75 rfl (lv_at hl 0 rfl) ?_
                replace hm := zb1_s hm
                obtain ⟨a49, h48, hm⟩ := hm
                refine zr_get (ci := 9) (C := R_ZoneNodesModel) (T := F_ZoneNodesModel) (N := 32) hx hb hts in_ZoneNodesModel hown hk hX rfl 9 (by decide) (hts _ tW439) rfl (zgr_v h48) d_ZoneNodesModel_crash_76 ?_
                refine lv_iload_n hx hb d_ZoneNodesModel_crash_79 rfl (lv_at hl 2 rfl) ?_
                replace hm := zb1_s hm
                obtain ⟨v50, h51, hm⟩ := hm
                refine zr_iaload hx hb hk hX h51 d_ZoneNodesModel_crash_80 ?_
                refine lv_iconst (v := 2) hx hb d_ZoneNodesModel_crash_81 (by decide) ?_
                refine lv_icmp_ne (tgt := 94) hx hb d_ZoneNodesModel_crash_82 rfl (fun h52 => ?_) (fun h52 => ?_)
                · replace hm := zi_f h52 hm
                  refine lv_iinc (v := w2 + 1) (lv' := [(2, .int (w2 + 1)), (0, .ref w0), (1, .int w1)]) hx hb d_ZoneNodesModel_crash_94 hl (k := 2) rfl (by rw [show Int32.ofInt 1 = 1 by decide]) (by decide) rfl (fun ls hl => ?_)
                  refine lv_goto (tgt := 43) hx hb d_ZoneNodesModel_crash_97 rfl ?_
                  exact ih X w0 w1 (w2 + 1) v X1 _ _ _ hm hX hS (lv_sub hl [1, 2, 0] rfl) hexit
                · replace hm := zi_t h52 hm
                  refine lv_aload_n hx hb d_ZoneNodesModel_crash_85 rfl (lv_at hl 0 rfl) ?_
                  refine lv_iload_n hx hb d_ZoneNodesModel_crash_86 rfl (lv_at hl 2 rfl) ?_
                  refine lv_aload_n hx hb d_ZoneNodesModel_crash_87 rfl (lv_at hl 0 rfl) ?_
                  replace hm := zb1_s hm
                  obtain ⟨v54, h53, hm⟩ := hm
                  refine zr_get (ci := 9) (C := R_ZoneNodesModel) (T := F_ZoneNodesModel) (N := 32) hx hb hts in_ZoneNodesModel hown hk hX rfl 1 (by decide) (hts _ tW465) rfl (zgi_v h53) d_ZoneNodesModel_crash_88 ?_
                  replace hm := zb1_s hm
                  obtain ⟨_, h56, hm⟩ := hm
                  replace hm := zb2_s hm
                  obtain ⟨v57, X58, h55, hm⟩ := hm
                  refine zr_callv (zr_runV (As := [.int w2, .int v54]) (rest := []) (n := 2) hx hb hml hown hts hk hX (c_ZoneNodesModel_rest l G N X w0 w2 v54 v57 X58 h55) (hts _ tW471) tW472 (hts _ tW469) (hts _ tW473) (hts _ tW474) rfl h56 (by decide +kernel) ⟨Nat.le_of_ble_eq_true rfl, Nat.le_of_ble_eq_true rfl⟩ rfl rfl hl.1 rfl (lv_room (Nat.le_of_ble_eq_true rfl)) d_ZoneNodesModel_crash_91 ⟨(Nat.le_of_ble_eq_true rfl), (Nat.le_of_ble_eq_true rfl)⟩) hS (fun H locs hX hS => ?_)
                  refine lv_iinc (v := w2 + 1) (lv' := [(2, .int (w2 + 1)), (0, .ref w0), (1, .int w1)]) hx hb d_ZoneNodesModel_crash_94 hl (k := 2) rfl (by rw [show Int32.ofInt 1 = 1 by decide]) (by decide) rfl (fun ls hl => ?_)
                  refine lv_goto (tgt := 43) hx hb d_ZoneNodesModel_crash_97 rfl ?_
                  exact ih X58 w0 w1 (w2 + 1) v X1 _ _ _ hm hX hS (lv_sub hl [1, 2, 0] rfl) hexit
          · replace hm := zi_t h41 hm
            refine lv_aload_n hx hb d_ZoneNodesModel_crash_57 rfl (lv_at hl 0 rfl) ?_
            refine lv_iload_n hx hb d_ZoneNodesModel_crash_58 rfl (lv_at hl 2 rfl) ?_
            replace hm := zb1_s hm
            obtain ⟨_, h60, hm⟩ := hm
            replace hm := zb2_s hm
            obtain ⟨v61, X62, h59, hm⟩ := hm
            refine zr_callv (zr_runV (As := [.int w2]) (rest := []) (n := 1) hx hb hml hown hts hk hX (c_ZoneNodesModel_cutOff l G N X w0 w2 v61 X62 h59) (hts _ tW496) tW497 (hts _ tW469) (hts _ tW498) (hts _ tW499) rfl h60 (by decide +kernel) ⟨Nat.le_of_ble_eq_true rfl, Nat.le_of_ble_eq_true rfl⟩ rfl rfl hl.1 rfl (lv_room (Nat.le_of_ble_eq_true rfl)) d_ZoneNodesModel_crash_59 ⟨(Nat.le_of_ble_eq_true rfl), (Nat.le_of_ble_eq_true rfl)⟩) hS (fun H locs hX hS => ?_)
            refine lv_iload_n hx hb d_ZoneNodesModel_crash_62 rfl (lv_at hl 1 rfl) ?_
            refine lv_if_ne (tgt := 94) hx hb d_ZoneNodesModel_crash_63 rfl (fun h63 => ?_) (fun h63 => ?_)
            · replace hm := zi_f h63 hm
              refine lv_iinc (v := w2 + 1) (lv' := [(2, .int (w2 + 1)), (0, .ref w0), (1, .int w1)]) hx hb d_ZoneNodesModel_crash_94 hl (k := 2) rfl (by rw [show Int32.ofInt 1 = 1 by decide]) (by decide) rfl (fun ls hl => ?_)
              refine lv_goto (tgt := 43) hx hb d_ZoneNodesModel_crash_97 rfl ?_
              exact ih X62 w0 w1 (w2 + 1) v X1 _ _ _ hm hX hS (lv_sub hl [1, 2, 0] rfl) hexit
            · replace hm := zi_t h63 hm
              refine lv_aload_n hx hb d_ZoneNodesModel_crash_66 rfl (lv_at hl 0 rfl) ?_
              replace hm := zb1_s hm
              obtain ⟨a65, h64, hm⟩ := hm
              refine zr_get (ci := 9) (C := R_ZoneNodesModel) (T := F_ZoneNodesModel) (N := 32) hx hb hts in_ZoneNodesModel hown hk hX rfl 4 (by decide) (hts _ tW443) rfl (zgr_v h64) d_ZoneNodesModel_crash_67 ?_
              refine lv_iload_n hx hb d_ZoneNodesModel_crash_70 rfl (lv_at hl 2 rfl) ?_
              replace hm := zb1_s hm
              obtain ⟨v66, h67, hm⟩ := hm
              refine zr_baload hx hb hk hX h67 d_ZoneNodesModel_crash_71 ?_
              refine lv_if_eq (tgt := 94) hx hb d_ZoneNodesModel_crash_72 rfl (fun h68 => ?_) (fun h68 => ?_)
              · replace hm := zi_t h68 hm
                refine lv_iinc (v := w2 + 1) (lv' := [(2, .int (w2 + 1)), (0, .ref w0), (1, .int w1)]) hx hb d_ZoneNodesModel_crash_94 hl (k := 2) rfl (by rw [show Int32.ofInt 1 = 1 by decide]) (by decide) rfl (fun ls hl => ?_)
                refine lv_goto (tgt := 43) hx hb d_ZoneNodesModel_crash_97 rfl ?_
                exact ih X62 w0 w1 (w2 + 1) v X1 _ _ _ hm hX hS (lv_sub hl [1, 2, 0] rfl) hexit
              · replace hm := zi_f h68 hm
                refine lv_aload_n hx hb d_ZoneNodesModel_crash_75 rfl (lv_at hl 0 rfl) ?_
                replace hm := zb1_s hm
                obtain ⟨a70, h69, hm⟩ := hm
                refine zr_get (ci := 9) (C := R_ZoneNodesModel) (T := F_ZoneNodesModel) (N := 32) hx hb hts in_ZoneNodesModel hown hk hX rfl 9 (by decide) (hts _ tW439) rfl (zgr_v h69) d_ZoneNodesModel_crash_76 ?_
                refine lv_iload_n hx hb d_ZoneNodesModel_crash_79 rfl (lv_at hl 2 rfl) ?_
                replace hm := zb1_s hm
                obtain ⟨v71, h72, hm⟩ := hm
                refine zr_iaload hx hb hk hX h72 d_ZoneNodesModel_crash_80 ?_
                refine lv_iconst (v := 2) hx hb d_ZoneNodesModel_crash_81 (by decide) ?_
                refine lv_icmp_ne (tgt := 94) hx hb d_ZoneNodesModel_crash_82 rfl (fun h73 => ?_) (fun h73 => ?_)
                · replace hm := zi_f h73 hm
                  refine lv_iinc (v := w2 + 1) (lv' := [(2, .int (w2 + 1)), (0, .ref w0), (1, .int w1)]) hx hb d_ZoneNodesModel_crash_94 hl (k := 2) rfl (by rw [show Int32.ofInt 1 = 1 by decide]) (by decide) rfl (fun ls hl => ?_)
                  refine lv_goto (tgt := 43) hx hb d_ZoneNodesModel_crash_97 rfl ?_
                  exact ih X62 w0 w1 (w2 + 1) v X1 _ _ _ hm hX hS (lv_sub hl [1, 2, 0] rfl) hexit
                · replace hm := zi_t h73 hm
                  refine lv_aload_n hx hb d_ZoneNodesModel_crash_85 rfl (lv_at hl 0 rfl) ?_
                  refine lv_iload_n hx hb d_ZoneNodesModel_crash_86 rfl (lv_at hl 2 rfl) ?_
                  refine lv_aload_n hx hb d_ZoneNodesModel_crash_87 rfl (lv_at hl 0 rfl) ?_
                  replace hm := zb1_s hm
                  obtain ⟨v75, h74, hm⟩ := hm
                  refine zr_get (ci := 9) (C := R_ZoneNodesModel) (T := F_ZoneNodesModel) (N := 32) hx hb hts in_ZoneNodesModel hown hk hX rfl 1 (by decide) (hts _ tW465) rfl (zgi_v h74) d_ZoneNodesModel_crash_88 ?_
                  replace hm := zb1_s hm
                  obtain ⟨_, h77, hm⟩ := hm
                  replace hm := zb2_s hm
                  obtain ⟨v78, X79, h76, hm⟩ := hm
                  refine zr_callv (zr_runV (As := [.int w2, .int v75]) (rest := []) (n := 2) hx hb hml hown hts hk hX (c_ZoneNodesModel_rest l G N X62 w0 w2 v75 v78 X79 h76) (hts _ tW471) tW472 (hts _ tW469) (hts _ tW473) (hts _ tW474) rfl h77 (by decide +kernel) ⟨Nat.le_of_ble_eq_true rfl, Nat.le_of_ble_eq_true rfl⟩ rfl rfl hl.1 rfl (lv_room (Nat.le_of_ble_eq_true rfl)) d_ZoneNodesModel_crash_91 ⟨(Nat.le_of_ble_eq_true rfl), (Nat.le_of_ble_eq_true rfl)⟩) hS (fun H locs hX hS => ?_)
                  refine lv_iinc (v := w2 + 1) (lv' := [(2, .int (w2 + 1)), (0, .ref w0), (1, .int w1)]) hx hb d_ZoneNodesModel_crash_94 hl (k := 2) rfl (by rw [show Int32.ofInt 1 = 1 by decide]) (by decide) rfl (fun ls hl => ?_)
                  refine lv_goto (tgt := 43) hx hb d_ZoneNodesModel_crash_97 rfl ?_
                  exact ih X79 w0 w1 (w2 + 1) v X1 _ _ _ hm hX hS (lv_sub hl [1, 2, 0] rfl) hexit
  refine lv_iload_n hx hb d_ZoneNodesModel_crash_0 rfl (lv_at hl 1 rfl) ?_
  replace hm := zb1_s hm
  obtain ⟨v2, h1, hm⟩ := hm
  refine zr_calli (zr_runS (As := [.int x1]) (rest := []) (n := 1) hx hb hml hown hts hk hX (c_ZoneNodesModel_isNode l G N X x1 v2 h1) (hts _ tW493) tW494 (hts _ tW469) (hts _ tW495) (by decide +kernel) ⟨Nat.le_of_ble_eq_true rfl, Nat.le_of_ble_eq_true rfl⟩ rfl rfl hl.1 rfl (lv_room (Nat.le_of_ble_eq_true rfl)) d_ZoneNodesModel_crash_1 ⟨(Nat.le_of_ble_eq_true rfl), (Nat.le_of_ble_eq_true rfl)⟩) hS (fun H locs hX hS => ?_)
  refine lv_if_eq (tgt := 16) hx hb d_ZoneNodesModel_crash_4 rfl (fun h3 => ?_) (fun h3 => ?_)
  · replace hm := zi_t h3 hm
    refine lv_iconst (v := 0) hx hb d_ZoneNodesModel_crash_16 (by decide) ?_
    cases hm
    exact W.zret hx hb hr (by decide) (fun t ht hW => zh_end hk hX hS ht hW) hS.2.2 d_ZoneNodesModel_crash_17
  · replace hm := zi_f h3 hm
    refine lv_aload_n hx hb d_ZoneNodesModel_crash_7 rfl (lv_at hl 0 rfl) ?_
    replace hm := zb1_s hm
    obtain ⟨a5, h4, hm⟩ := hm
    refine zr_get (ci := 9) (C := R_ZoneNodesModel) (T := F_ZoneNodesModel) (N := 32) hx hb hts in_ZoneNodesModel hown hk hX rfl 4 (by decide) (hts _ tW443) rfl (zgr_v h4) d_ZoneNodesModel_crash_8 ?_
    refine lv_iload_n hx hb d_ZoneNodesModel_crash_11 rfl (lv_at hl 1 rfl) ?_
    replace hm := zb1_s hm
    obtain ⟨v6, h7, hm⟩ := hm
    refine zr_baload hx hb hk hX h7 d_ZoneNodesModel_crash_12 ?_
    refine lv_if_ne (tgt := 18) hx hb d_ZoneNodesModel_crash_13 rfl (fun h8 => ?_) (fun h8 => ?_)
    · replace hm := zi_f h8 hm
      refine lv_aload_n hx hb d_ZoneNodesModel_crash_18 rfl (lv_at hl 0 rfl) ?_
      replace hm := zb1_s hm
      obtain ⟨a10, h9, hm⟩ := hm
      refine zr_get (ci := 9) (C := R_ZoneNodesModel) (T := F_ZoneNodesModel) (N := 32) hx hb hts in_ZoneNodesModel hown hk hX rfl 4 (by decide) (hts _ tW443) rfl (zgr_v h9) d_ZoneNodesModel_crash_19 ?_
      refine lv_iload_n hx hb d_ZoneNodesModel_crash_22 rfl (lv_at hl 1 rfl) ?_
      refine lv_iconst (v := 0) hx hb d_ZoneNodesModel_crash_23 (by decide) ?_
      replace hm := zb1_s hm
      obtain ⟨X11, h12, hm⟩ := hm
      refine zr_bastore hx hb hk hX hS h12 d_ZoneNodesModel_crash_24 (fun H locs hX hS => ?_)
      refine lv_aload_n hx hb d_ZoneNodesModel_crash_25 rfl (lv_at hl 0 rfl) ?_
      refine lv_iload_n hx hb d_ZoneNodesModel_crash_26 rfl (lv_at hl 1 rfl) ?_
      refine lv_if_ne (tgt := 34) hx hb d_ZoneNodesModel_crash_27 rfl (fun h13 => ?_) (fun h13 => ?_)
      · replace hm := zi_f h13 hm
        refine lv_aload_n hx hb d_ZoneNodesModel_crash_34 rfl (lv_at hl 0 rfl) ?_
        replace hm := zb1_s hm
        obtain ⟨v15, h14, hm⟩ := hm
        refine zr_get (ci := 9) (C := R_ZoneNodesModel) (T := F_ZoneNodesModel) (N := 32) hx hb hts in_ZoneNodesModel hown hk hX rfl 17 (by decide) (hts _ tW480) rfl (zgi_v h14) d_ZoneNodesModel_crash_35 ?_
        replace hm := zb1_s hm
        obtain ⟨X16, h17, hm⟩ := hm
        refine zr_put (ci := 9) (C := R_ZoneNodesModel) (T := F_ZoneNodesModel) (N := 32) (ty := .int) (v := .int v15) hx hb hts in_ZoneNodesModel t_ZoneNodesModel t_ZoneNodesModel_ok n_ZoneNodesModel hown hk hX hS rfl 17 (by decide) (hts _ tW480) rfl rfl (by decide +kernel) rfl rfl h17 d_ZoneNodesModel_crash_38 (fun H locs hX hS => ?_)
        refine lv_iconst (v := 1) hx hb d_ZoneNodesModel_crash_41 (by decide) ?_
        refine lv_istore_n (lv' := [(2, .int 1), (0, .ref x0), (1, .int x1)]) hx hb d_ZoneNodesModel_crash_42 rfl hl (by decide) rfl (fun ls hl => ?_)
        replace hm := zb2_s hm
        obtain ⟨v80, X82, h81, hm⟩ := hm
        refine hL43 N X16 x0 x1 1 v80 X82 _ _ _ h81 hX hS (lv_sub hl [1, 2, 0] rfl) (fun H locs ls hX hS hl => ?_)
        refine lv_iconst (v := 1) hx hb d_ZoneNodesModel_crash_100 (by decide) ?_
        cases hm
        exact W.zret hx hb hr (by decide) (fun t ht hW => zh_end hk hX hS ht hW) hS.2.2 d_ZoneNodesModel_crash_101
      · replace hm := zi_t h13 hm
        refine lv_iconst (v := 0) hx hb d_ZoneNodesModel_crash_30 (by decide) ?_
        refine lv_goto (tgt := 38) hx hb d_ZoneNodesModel_crash_31 rfl ?_
        replace hm := zb1_s hm
        obtain ⟨X83, h84, hm⟩ := hm
        refine zr_put (ci := 9) (C := R_ZoneNodesModel) (T := F_ZoneNodesModel) (N := 32) (ty := .int) (v := .int 0) hx hb hts in_ZoneNodesModel t_ZoneNodesModel t_ZoneNodesModel_ok n_ZoneNodesModel hown hk hX hS rfl 17 (by decide) (hts _ tW480) rfl rfl (by decide +kernel) rfl rfl h84 d_ZoneNodesModel_crash_38 (fun H locs hX hS => ?_)
        refine lv_iconst (v := 1) hx hb d_ZoneNodesModel_crash_41 (by decide) ?_
        refine lv_istore_n (lv' := [(2, .int 1), (0, .ref x0), (1, .int x1)]) hx hb d_ZoneNodesModel_crash_42 rfl hl (by decide) rfl (fun ls hl => ?_)
        replace hm := zb2_s hm
        obtain ⟨v85, X87, h86, hm⟩ := hm
        refine hL43 N X83 x0 x1 1 v85 X87 _ _ _ h86 hX hS (lv_sub hl [1, 2, 0] rfl) (fun H locs ls hX hS hl => ?_)
        refine lv_iconst (v := 1) hx hb d_ZoneNodesModel_crash_100 (by decide) ?_
        cases hm
        exact W.zret hx hb hr (by decide) (fun t ht hW => zh_end hk hX hS ht hW) hS.2.2 d_ZoneNodesModel_crash_101
    · replace hm := zi_t h8 hm
      refine lv_iconst (v := 0) hx hb d_ZoneNodesModel_crash_16 (by decide) ?_
      cases hm
      exact W.zret hx hb hr (by decide) (fun t ht hW => zh_end hk hX hS ht hW) hS.2.2 d_ZoneNodesModel_crash_17
set_option maxHeartbeats 4000000 in
set_option maxRecDepth 100000 in
theorem c_ZoneNodesModel_append (l : Launch) (G : zh_G) (N : Nat) (X : zh_T) (x0 : Nat) (x1 : Int32) (x2 : Int32) (x3 : Int32) (x4 : Int32) (x5 : Int32) (x6 : Int32) (x7 : Int32) (r : Unit) (X' : zh_T) (hm : f_ZoneNodesModel_append N X x0 x1 x2 x3 x4 x5 x6 x7 = some (r, X')) : zM l G y_ZoneNodesModel_append w_ZoneNodesModel_append 0 0 X [.ref x0, .int x1, .int x2, .int x3, .int x4, .int x5, .int x6, .int x7] none X' 0 0 := by
  refine zr_ofW (by decide) (by exact Nat.le_of_ble_eq_true rfl) ?_
  intro p e s m args below meth c ls hx hb hml hr hts hown hin hlocks hk hX hl
  have hS : va_S (zh_A G) s.heap s.heap [] := va_S.rf
  have hl : lv_has ls 8 [(0, .ref x0), (1, .int x1), (2, .int x2), (3, .int x3), (4, .int x4), (5, .int x5), (6, .int x6), (7, .int x7)] := hl
  have hown : s.vm.findClass R_ZoneNodesModel = some m.cls := hown
  unfold f_ZoneNodesModel_append at hm
  refine lv_aload_n hx hb d_ZoneNodesModel_append_0 rfl (lv_at hl 0 rfl) ?_
  replace hm := zb1_s hm
  obtain ⟨a2, h1, hm⟩ := hm
  refine zr_get (ci := 9) (C := R_ZoneNodesModel) (T := F_ZoneNodesModel) (N := 32) hx hb hts in_ZoneNodesModel hown hk hX rfl 25 (by decide) (hts _ tW457) rfl (zgr_v h1) d_ZoneNodesModel_append_1 ?_
  refine lv_aload_n hx hb d_ZoneNodesModel_append_4 rfl (lv_at hl 0 rfl) ?_
  replace hm := zb1_s hm
  obtain ⟨v4, h3, hm⟩ := hm
  refine zr_get (ci := 9) (C := R_ZoneNodesModel) (T := F_ZoneNodesModel) (N := 32) hx hb hts in_ZoneNodesModel hown hk hX rfl 24 (by decide) (hts _ tW475) rfl (zgi_v h3) d_ZoneNodesModel_append_5 ?_
  refine lv_iload_n hx hb d_ZoneNodesModel_append_8 rfl (lv_at hl 1 rfl) ?_
  replace hm := zb1_s hm
  obtain ⟨X5, h6, hm⟩ := hm
  refine zr_iastore hx hb hk hX hS h6 d_ZoneNodesModel_append_9 (fun H locs hX hS => ?_)
  refine lv_aload_n hx hb d_ZoneNodesModel_append_10 rfl (lv_at hl 0 rfl) ?_
  replace hm := zb1_s hm
  obtain ⟨a8, h7, hm⟩ := hm
  refine zr_get (ci := 9) (C := R_ZoneNodesModel) (T := F_ZoneNodesModel) (N := 32) hx hb hts in_ZoneNodesModel hown hk hX rfl 26 (by decide) (hts _ tW458) rfl (zgr_v h7) d_ZoneNodesModel_append_11 ?_
  refine lv_aload_n hx hb d_ZoneNodesModel_append_14 rfl (lv_at hl 0 rfl) ?_
  replace hm := zb1_s hm
  obtain ⟨v10, h9, hm⟩ := hm
  refine zr_get (ci := 9) (C := R_ZoneNodesModel) (T := F_ZoneNodesModel) (N := 32) hx hb hts in_ZoneNodesModel hown hk hX rfl 24 (by decide) (hts _ tW475) rfl (zgi_v h9) d_ZoneNodesModel_append_15 ?_
  refine lv_iload_n hx hb d_ZoneNodesModel_append_18 rfl (lv_at hl 2 rfl) ?_
  replace hm := zb1_s hm
  obtain ⟨X11, h12, hm⟩ := hm
  refine zr_iastore hx hb hk hX hS h12 d_ZoneNodesModel_append_19 (fun H locs hX hS => ?_)
  refine lv_aload_n hx hb d_ZoneNodesModel_append_20 rfl (lv_at hl 0 rfl) ?_
  replace hm := zb1_s hm
  obtain ⟨a14, h13, hm⟩ := hm
  refine zr_get (ci := 9) (C := R_ZoneNodesModel) (T := F_ZoneNodesModel) (N := 32) hx hb hts in_ZoneNodesModel hown hk hX rfl 27 (by decide) (hts _ tW459) rfl (zgr_v h13) d_ZoneNodesModel_append_21 ?_
  refine lv_aload_n hx hb d_ZoneNodesModel_append_24 rfl (lv_at hl 0 rfl) ?_
  replace hm := zb1_s hm
  obtain ⟨v16, h15, hm⟩ := hm
  refine zr_get (ci := 9) (C := R_ZoneNodesModel) (T := F_ZoneNodesModel) (N := 32) hx hb hts in_ZoneNodesModel hown hk hX rfl 24 (by decide) (hts _ tW475) rfl (zgi_v h15) d_ZoneNodesModel_append_25 ?_
  refine lv_iload_n hx hb d_ZoneNodesModel_append_28 rfl (lv_at hl 3 rfl) ?_
  replace hm := zb1_s hm
  obtain ⟨X17, h18, hm⟩ := hm
  refine zr_iastore hx hb hk hX hS h18 d_ZoneNodesModel_append_29 (fun H locs hX hS => ?_)
  refine lv_aload_n hx hb d_ZoneNodesModel_append_30 rfl (lv_at hl 0 rfl) ?_
  replace hm := zb1_s hm
  obtain ⟨a20, h19, hm⟩ := hm
  refine zr_get (ci := 9) (C := R_ZoneNodesModel) (T := F_ZoneNodesModel) (N := 32) hx hb hts in_ZoneNodesModel hown hk hX rfl 28 (by decide) (hts _ tW460) rfl (zgr_v h19) d_ZoneNodesModel_append_31 ?_
  refine lv_aload_n hx hb d_ZoneNodesModel_append_34 rfl (lv_at hl 0 rfl) ?_
  replace hm := zb1_s hm
  obtain ⟨v22, h21, hm⟩ := hm
  refine zr_get (ci := 9) (C := R_ZoneNodesModel) (T := F_ZoneNodesModel) (N := 32) hx hb hts in_ZoneNodesModel hown hk hX rfl 24 (by decide) (hts _ tW475) rfl (zgi_v h21) d_ZoneNodesModel_append_35 ?_
  refine lv_iload hx hb d_ZoneNodesModel_append_38 (lv_at hl 4 rfl) ?_
  replace hm := zb1_s hm
  obtain ⟨X23, h24, hm⟩ := hm
  refine zr_iastore hx hb hk hX hS h24 d_ZoneNodesModel_append_40 (fun H locs hX hS => ?_)
  refine lv_aload_n hx hb d_ZoneNodesModel_append_41 rfl (lv_at hl 0 rfl) ?_
  replace hm := zb1_s hm
  obtain ⟨a26, h25, hm⟩ := hm
  refine zr_get (ci := 9) (C := R_ZoneNodesModel) (T := F_ZoneNodesModel) (N := 32) hx hb hts in_ZoneNodesModel hown hk hX rfl 29 (by decide) (hts _ tW461) rfl (zgr_v h25) d_ZoneNodesModel_append_42 ?_
  refine lv_aload_n hx hb d_ZoneNodesModel_append_45 rfl (lv_at hl 0 rfl) ?_
  replace hm := zb1_s hm
  obtain ⟨v28, h27, hm⟩ := hm
  refine zr_get (ci := 9) (C := R_ZoneNodesModel) (T := F_ZoneNodesModel) (N := 32) hx hb hts in_ZoneNodesModel hown hk hX rfl 24 (by decide) (hts _ tW475) rfl (zgi_v h27) d_ZoneNodesModel_append_46 ?_
  refine lv_iload hx hb d_ZoneNodesModel_append_49 (lv_at hl 5 rfl) ?_
  replace hm := zb1_s hm
  obtain ⟨X29, h30, hm⟩ := hm
  refine zr_iastore hx hb hk hX hS h30 d_ZoneNodesModel_append_51 (fun H locs hX hS => ?_)
  refine lv_aload_n hx hb d_ZoneNodesModel_append_52 rfl (lv_at hl 0 rfl) ?_
  replace hm := zb1_s hm
  obtain ⟨a32, h31, hm⟩ := hm
  refine zr_get (ci := 9) (C := R_ZoneNodesModel) (T := F_ZoneNodesModel) (N := 32) hx hb hts in_ZoneNodesModel hown hk hX rfl 30 (by decide) (hts _ tW462) rfl (zgr_v h31) d_ZoneNodesModel_append_53 ?_
  refine lv_aload_n hx hb d_ZoneNodesModel_append_56 rfl (lv_at hl 0 rfl) ?_
  replace hm := zb1_s hm
  obtain ⟨v34, h33, hm⟩ := hm
  refine zr_get (ci := 9) (C := R_ZoneNodesModel) (T := F_ZoneNodesModel) (N := 32) hx hb hts in_ZoneNodesModel hown hk hX rfl 24 (by decide) (hts _ tW475) rfl (zgi_v h33) d_ZoneNodesModel_append_57 ?_
  refine lv_iload hx hb d_ZoneNodesModel_append_60 (lv_at hl 6 rfl) ?_
  replace hm := zb1_s hm
  obtain ⟨X35, h36, hm⟩ := hm
  refine zr_bastore hx hb hk hX hS h36 d_ZoneNodesModel_append_62 (fun H locs hX hS => ?_)
  refine lv_aload_n hx hb d_ZoneNodesModel_append_63 rfl (lv_at hl 0 rfl) ?_
  replace hm := zb1_s hm
  obtain ⟨a38, h37, hm⟩ := hm
  refine zr_get (ci := 9) (C := R_ZoneNodesModel) (T := F_ZoneNodesModel) (N := 32) hx hb hts in_ZoneNodesModel hown hk hX rfl 31 (by decide) (hts _ tW463) rfl (zgr_v h37) d_ZoneNodesModel_append_64 ?_
  refine lv_aload_n hx hb d_ZoneNodesModel_append_67 rfl (lv_at hl 0 rfl) ?_
  replace hm := zb1_s hm
  obtain ⟨v40, h39, hm⟩ := hm
  refine zr_get (ci := 9) (C := R_ZoneNodesModel) (T := F_ZoneNodesModel) (N := 32) hx hb hts in_ZoneNodesModel hown hk hX rfl 24 (by decide) (hts _ tW475) rfl (zgi_v h39) d_ZoneNodesModel_append_68 ?_
  refine lv_iload hx hb d_ZoneNodesModel_append_71 (lv_at hl 7 rfl) ?_
  replace hm := zb1_s hm
  obtain ⟨X41, h42, hm⟩ := hm
  refine zr_bastore hx hb hk hX hS h42 d_ZoneNodesModel_append_73 (fun H locs hX hS => ?_)
  refine lv_aload_n hx hb d_ZoneNodesModel_append_74 rfl (lv_at hl 0 rfl) ?_
  refine lv_dup hx hb d_ZoneNodesModel_append_75 rfl ?_
  replace hm := zb1_s hm
  obtain ⟨v44, h43, hm⟩ := hm
  refine zr_get (ci := 9) (C := R_ZoneNodesModel) (T := F_ZoneNodesModel) (N := 32) hx hb hts in_ZoneNodesModel hown hk hX rfl 24 (by decide) (hts _ tW475) rfl (zgi_v h43) d_ZoneNodesModel_append_76 ?_
  refine lv_iconst (v := 1) hx hb d_ZoneNodesModel_append_79 (by decide) ?_
  refine lv_iadd hx hb d_ZoneNodesModel_append_80 ?_
  replace hm := zb1_s hm
  obtain ⟨X45, h46, hm⟩ := hm
  refine zr_put (ci := 9) (C := R_ZoneNodesModel) (T := F_ZoneNodesModel) (N := 32) (ty := .int) (v := .int (v44 + 1)) hx hb hts in_ZoneNodesModel t_ZoneNodesModel t_ZoneNodesModel_ok n_ZoneNodesModel hown hk hX hS rfl 24 (by decide) (hts _ tW475) rfl rfl (by decide +kernel) rfl rfl h46 d_ZoneNodesModel_append_81 (fun H locs hX hS => ?_)
  cases hm
  exact W.vret hx hb hr (fun t ht hW => zh_end hk hX hS ht hW) hS.2.2 d_ZoneNodesModel_append_84
