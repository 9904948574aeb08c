set_option maxHeartbeats 4000000 in
set_option maxRecDepth 100000 in
theorem c_ZoneNodesModel_restart (l : Launch) (G : zh_G) (N : Nat) (X : zh_T) (x0 : Nat) (x1 : Int32) (r : Int32) (X' : zh_T) (hm : f_ZoneNodesModel_restart N X x0 x1 = some (r, X')) : zM l G y_ZoneNodesModel_restart w_ZoneNodesModel_restart 4 94 X [.ref x0, .int x1] (some (.int r)) X' 0 0 := by
  refine zr_ofW (by decide) (by exact Nat.le_of_ble_eq_true rfl) ?_
  intro p e s m args below meth c ls hx hb hml hr hts hown hin hlocks hk hX hl
  have hS : va_S (zh_A G) s.heap s.heap [] := va_S.rf
  have hl : lv_has ls 3 [(0, .ref x0), (1, .int x1)] := hl
  have hown : s.vm.findClass R_ZoneNodesModel = some m.cls := hown
  unfold f_ZoneNodesModel_restart at hm
  have hJ83 : ∀ (X : zh_T) (w0 : Nat) (H : Heap) (locs : List Loc) (ls : Array Slot), J_ZoneNodesModel_restart_83 N X w0 = some (r, X') → zh_w G X H → va_S (zh_A G) s.heap H locs → lv_has ls 3 [(0, .ref w0)] → W p l e { frames := 4, cells := 0, slots := 0, locals := 94 } s m args below meth c H locs 0 0 (MQ below (zh_Q G (some (.int r)) X') args s 0 0 (zh_A G)) (F0 m 83 ls []) := by
    intro X w0 H locs ls hm hX hS hl
    unfold J_ZoneNodesModel_restart_83 at hm
    refine lv_aload_n hx hb d_ZoneNodesModel_restart_83 rfl (lv_at hl 0 rfl) ?_
    replace hm := zb1_s hm
    obtain ⟨v18, h17, hm⟩ := hm
    refine zr_get (ci := 9) (C := R_ZoneNodesModel) (T := F_ZoneNodesModel) (N := 32) hx hb hts in_ZoneNodesModel hown hk hX rfl 18 (by decide) (hts _ tW508) rfl (zgi_v h17) d_ZoneNodesModel_restart_84 ?_
    refine lv_if_le (tgt := 114) hx hb d_ZoneNodesModel_restart_87 rfl (fun h19 => ?_) (fun h19 => ?_)
    · replace hm := zi_t h19 hm
      refine lv_iconst (v := 0) hx hb d_ZoneNodesModel_restart_114 (by decide) ?_
      refine lv_istore_n (lv' := [(2, .int 0), (0, .ref w0)]) hx hb d_ZoneNodesModel_restart_115 rfl hl (by decide) rfl (fun ls hl => ?_)
      refine lv_iload_n hx hb d_ZoneNodesModel_restart_116 rfl (lv_at hl 0 rfl) ?_
      refine lv_if_eq (tgt := 127) hx hb d_ZoneNodesModel_restart_117 rfl (fun _ => ?_) (fun h => absurd h (by decide))
      refine lv_aload_n hx hb d_ZoneNodesModel_restart_127 rfl (lv_at hl 1 rfl) ?_
      replace hm := zb1_s hm
      obtain ⟨_, h21, hm⟩ := hm
      replace hm := zb2_s hm
      obtain ⟨v22, X23, h20, hm⟩ := hm
      refine zr_callv (zr_runV (As := []) (rest := []) (n := 0) hx hb hml hown hts hk hX (c_ZoneNodesModel_notifyBoth l G N X w0 v22 X23 h20) (hts _ tW543) tW544 (hts _ tW469) (hts _ tW545) (hts _ tW546) rfl h21 (by decide +kernel) ⟨Nat.le_of_ble_eq_true rfl, Nat.le_of_ble_eq_true rfl⟩ rfl rfl hl.1 rfl (lv_room (Nat.le_of_ble_eq_true rfl)) d_ZoneNodesModel_restart_128 ⟨(Nat.le_of_ble_eq_true rfl), (Nat.le_of_ble_eq_true rfl)⟩) hS (fun H locs hX hS => ?_)
      refine lv_iconst (v := 1) hx hb d_ZoneNodesModel_restart_131 (by decide) ?_
      cases hm
      exact W.zret hx hb hr (by decide) (fun t ht hW => zh_end hk hX hS ht hW) hS.2.2 d_ZoneNodesModel_restart_132
    · replace hm := zi_f h19 hm
      refine lv_aload_n hx hb d_ZoneNodesModel_restart_90 rfl (lv_at hl 0 rfl) ?_
      replace hm := zb1_s hm
      obtain ⟨a25, h24, hm⟩ := hm
      refine zr_get (ci := 9) (C := R_ZoneNodesModel) (T := F_ZoneNodesModel) (N := 32) hx hb hts in_ZoneNodesModel hown hk hX rfl 19 (by decide) (hts _ tW452) rfl (zgr_v h24) d_ZoneNodesModel_restart_91 ?_
      refine lv_aload_n hx hb d_ZoneNodesModel_restart_94 rfl (lv_at hl 0 rfl) ?_
      replace hm := zb1_s hm
      obtain ⟨v27, h26, hm⟩ := hm
      refine zr_get (ci := 9) (C := R_ZoneNodesModel) (T := F_ZoneNodesModel) (N := 32) hx hb hts in_ZoneNodesModel hown hk hX rfl 18 (by decide) (hts _ tW508) rfl (zgi_v h26) d_ZoneNodesModel_restart_95 ?_
      refine lv_iconst (v := 1) hx hb d_ZoneNodesModel_restart_98 (by decide) ?_
      refine lv_isub hx hb d_ZoneNodesModel_restart_99 ?_
      replace hm := zb1_s hm
      obtain ⟨v28, h29, hm⟩ := hm
      refine zr_iaload hx hb hk hX h29 d_ZoneNodesModel_restart_100 ?_
      refine lv_aload_n hx hb d_ZoneNodesModel_restart_101 rfl (lv_at hl 0 rfl) ?_
      replace hm := zb1_s hm
      obtain ⟨a31, h30, hm⟩ := hm
      refine zr_get (ci := 9) (C := R_ZoneNodesModel) (T := F_ZoneNodesModel) (N := 32) hx hb hts in_ZoneNodesModel hown hk hX rfl 6 (by decide) (hts _ tW445) rfl (zgr_v h30) d_ZoneNodesModel_restart_102 ?_
      refine lv_iconst (v := 0) hx hb d_ZoneNodesModel_restart_105 (by decide) ?_
      replace hm := zb1_s hm
      obtain ⟨v32, h33, hm⟩ := hm
      refine zr_iaload hx hb hk hX h33 d_ZoneNodesModel_restart_106 ?_
      refine lv_icmp_ne (tgt := 114) hx hb d_ZoneNodesModel_restart_107 rfl (fun h34 => ?_) (fun h34 => ?_)
      · replace hm := zi_f h34 hm
        refine lv_iconst (v := 0) hx hb d_ZoneNodesModel_restart_114 (by decide) ?_
        refine lv_istore_n (lv' := [(2, .int 0), (0, .ref w0)]) hx hb d_ZoneNodesModel_restart_115 rfl hl (by decide) rfl (fun ls hl => ?_)
        refine lv_iload_n hx hb d_ZoneNodesModel_restart_116 rfl (lv_at hl 0 rfl) ?_
        refine lv_if_eq (tgt := 127) hx hb d_ZoneNodesModel_restart_117 rfl (fun _ => ?_) (fun h => absurd h (by decide))
        refine lv_aload_n hx hb d_ZoneNodesModel_restart_127 rfl (lv_at hl 1 rfl) ?_
        replace hm := zb1_s hm
        obtain ⟨_, h36, hm⟩ := hm
        replace hm := zb2_s hm
        obtain ⟨v37, X38, h35, hm⟩ := hm
        refine zr_callv (zr_runV (As := []) (rest := []) (n := 0) hx hb hml hown hts hk hX (c_ZoneNodesModel_notifyBoth l G N X w0 v37 X38 h35) (hts _ tW543) tW544 (hts _ tW469) (hts _ tW545) (hts _ tW546) rfl h36 (by decide +kernel) ⟨Nat.le_of_ble_eq_true rfl, Nat.le_of_ble_eq_true rfl⟩ rfl rfl hl.1 rfl (lv_room (Nat.le_of_ble_eq_true rfl)) d_ZoneNodesModel_restart_128 ⟨(Nat.le_of_ble_eq_true rfl), (Nat.le_of_ble_eq_true rfl)⟩) hS (fun H locs hX hS => ?_)
        refine lv_iconst (v := 1) hx hb d_ZoneNodesModel_restart_131 (by decide) ?_
        cases hm
        exact W.zret hx hb hr (by decide) (fun t ht hW => zh_end hk hX hS ht hW) hS.2.2 d_ZoneNodesModel_restart_132
      · replace hm := zi_t h34 hm
        refine lv_iconst (v := 1) hx hb d_ZoneNodesModel_restart_110 (by decide) ?_
        refine lv_goto (tgt := 115) hx hb d_ZoneNodesModel_restart_111 rfl ?_
        refine lv_istore_n (lv' := [(2, .int 1), (0, .ref w0)]) hx hb d_ZoneNodesModel_restart_115 rfl hl (by decide) rfl (fun ls hl => ?_)
        refine lv_iload_n hx hb d_ZoneNodesModel_restart_116 rfl (lv_at hl 0 rfl) ?_
        refine lv_if_eq (tgt := 127) hx hb d_ZoneNodesModel_restart_117 rfl (fun h => absurd h (by decide)) (fun _ => ?_)
        refine lv_aload_n hx hb d_ZoneNodesModel_restart_120 rfl (lv_at hl 1 rfl) ?_
        replace hm := zb1_s hm
        obtain ⟨_, h40, hm⟩ := hm
        replace hm := zb2_s hm
        obtain ⟨v41, X42, h39, hm⟩ := hm
        refine zr_callv (zr_runV (As := []) (rest := []) (n := 0) hx hb hml hown hts hk hX (c_ZoneNodesModel_install l G N X w0 v41 X42 h39) (hts _ tW547) tW548 (hts _ tW469) (hts _ tW549) (hts _ tW550) rfl h40 (by decide +kernel) ⟨Nat.le_of_ble_eq_true rfl, Nat.le_of_ble_eq_true rfl⟩ rfl rfl hl.1 rfl (lv_room (Nat.le_of_ble_eq_true rfl)) d_ZoneNodesModel_restart_121 ⟨(Nat.le_of_ble_eq_true rfl), (Nat.le_of_ble_eq_true rfl)⟩) hS (fun H locs hX hS => ?_)
        refine lv_goto (tgt := 131) hx hb d_ZoneNodesModel_restart_124 rfl ?_
        refine lv_iconst (v := 1) hx hb d_ZoneNodesModel_restart_131 (by decide) ?_
        cases hm
        exact W.zret hx hb hr (by decide) (fun t ht hW => zh_end hk hX hS ht hW) hS.2.2 d_ZoneNodesModel_restart_132
  refine lv_iload_n hx hb d_ZoneNodesModel_restart_0 rfl (lv_at hl 1 rfl) ?_
  replace hm := zb1_s hm
  obtain ⟨v2, h1, hm⟩ := hm
  refine zr_calli (zr_runS (As := [.int x1]) (rest := []) (n := 1) hx hb hml hown hts hk hX (c_ZoneNodesModel_isNode l G N X x1 v2 h1) (hts _ tW493) tW494 (hts _ tW469) (hts _ tW495) (by decide +kernel) ⟨Nat.le_of_ble_eq_true rfl, Nat.le_of_ble_eq_true rfl⟩ rfl rfl hl.1 rfl (lv_room (Nat.le_of_ble_eq_true rfl)) d_ZoneNodesModel_restart_1 ⟨(Nat.le_of_ble_eq_true rfl), (Nat.le_of_ble_eq_true rfl)⟩) hS (fun H locs hX hS => ?_)
  refine lv_if_eq (tgt := 16) hx hb d_ZoneNodesModel_restart_4 rfl (fun h3 => ?_) (fun h3 => ?_)
  · replace hm := zi_t h3 hm
    refine lv_iconst (v := 0) hx hb d_ZoneNodesModel_restart_16 (by decide) ?_
    cases hm
    exact W.zret hx hb hr (by decide) (fun t ht hW => zh_end hk hX hS ht hW) hS.2.2 d_ZoneNodesModel_restart_17
  · replace hm := zi_f h3 hm
    refine lv_aload_n hx hb d_ZoneNodesModel_restart_7 rfl (lv_at hl 0 rfl) ?_
    replace hm := zb1_s hm
    obtain ⟨a5, h4, hm⟩ := hm
    refine zr_get (ci := 9) (C := R_ZoneNodesModel) (T := F_ZoneNodesModel) (N := 32) hx hb hts in_ZoneNodesModel hown hk hX rfl 4 (by decide) (hts _ tW443) rfl (zgr_v h4) d_ZoneNodesModel_restart_8 ?_
    refine lv_iload_n hx hb d_ZoneNodesModel_restart_11 rfl (lv_at hl 1 rfl) ?_
    replace hm := zb1_s hm
    obtain ⟨v6, h7, hm⟩ := hm
    refine zr_baload hx hb hk hX h7 d_ZoneNodesModel_restart_12 ?_
    refine lv_if_eq (tgt := 18) hx hb d_ZoneNodesModel_restart_13 rfl (fun h8 => ?_) (fun h8 => ?_)
    · replace hm := zi_t h8 hm
      refine lv_aload_n hx hb d_ZoneNodesModel_restart_18 rfl (lv_at hl 0 rfl) ?_
      replace hm := zb1_s hm
      obtain ⟨a10, h9, hm⟩ := hm
      refine zr_get (ci := 9) (C := R_ZoneNodesModel) (T := F_ZoneNodesModel) (N := 32) hx hb hts in_ZoneNodesModel hown hk hX rfl 4 (by decide) (hts _ tW443) rfl (zgr_v h9) d_ZoneNodesModel_restart_19 ?_
      refine lv_iload_n hx hb d_ZoneNodesModel_restart_22 rfl (lv_at hl 1 rfl) ?_
      refine lv_iconst (v := 1) hx hb d_ZoneNodesModel_restart_23 (by decide) ?_
      replace hm := zb1_s hm
      obtain ⟨X11, h12, hm⟩ := hm
      refine zr_bastore hx hb hk hX hS h12 d_ZoneNodesModel_restart_24 (fun H locs hX hS => ?_)
      refine lv_iload_n hx hb d_ZoneNodesModel_restart_25 rfl (lv_at hl 1 rfl) ?_
      refine lv_if_le (tgt := 52) hx hb d_ZoneNodesModel_restart_26 rfl (fun h13 => ?_) (fun h13 => ?_)
      · replace hm := zi_t h13 hm
        refine lv_aload_n hx hb d_ZoneNodesModel_restart_52 rfl (lv_at hl 0 rfl) ?_
        replace hm := zb1_s hm
        obtain ⟨v15, h14, hm⟩ := hm
        refine zr_get (ci := 9) (C := R_ZoneNodesModel) (T := F_ZoneNodesModel) (N := 32) hx hb hts in_ZoneNodesModel hown hk hX rfl 18 (by decide) (hts _ tW508) rfl (zgi_v h14) d_ZoneNodesModel_restart_53 ?_
        refine lv_if_le (tgt := 83) hx hb d_ZoneNodesModel_restart_56 rfl (fun h16 => ?_) (fun h16 => ?_)
        · replace hm := zi_t h16 hm
          exact hJ83 X11 x0 _ _ _ hm hX hS (lv_sub hl [0] rfl)
        · replace hm := zi_f h16 hm
          refine lv_aload_n hx hb d_ZoneNodesModel_restart_59 rfl (lv_at hl 0 rfl) ?_
          replace hm := zb1_s hm
          obtain ⟨a44, h43, hm⟩ := hm
          refine zr_get (ci := 9) (C := R_ZoneNodesModel) (T := F_ZoneNodesModel) (N := 32) hx hb hts in_ZoneNodesModel hown hk hX rfl 20 (by decide) (hts _ tW453) rfl (zgr_v h43) d_ZoneNodesModel_restart_60 ?_
          refine lv_aload_n hx hb d_ZoneNodesModel_restart_63 rfl (lv_at hl 0 rfl) ?_
          replace hm := zb1_s hm
          obtain ⟨v46, h45, hm⟩ := hm
          refine zr_get (ci := 9) (C := R_ZoneNodesModel) (T := F_ZoneNodesModel) (N := 32) hx hb hts in_ZoneNodesModel hown hk hX rfl 18 (by decide) (hts _ tW508) rfl (zgi_v h45) d_ZoneNodesModel_restart_64 ?_
          refine lv_iconst (v := 1) hx hb d_ZoneNodesModel_restart_67 (by decide) ?_
          refine lv_isub hx hb d_ZoneNodesModel_restart_68 ?_
          replace hm := zb1_s hm
          obtain ⟨v47, h48, hm⟩ := hm
          refine zr_baload hx hb hk hX h48 d_ZoneNodesModel_restart_69 ?_
          refine lv_if_ne (tgt := 83) hx hb d_ZoneNodesModel_restart_70 rfl (fun h49 => ?_) (fun h49 => ?_)
          · replace hm := zi_f h49 hm
            exact hJ83 X11 x0 _ _ _ hm hX hS (lv_sub hl [0] rfl)
          · replace hm := zi_t h49 hm
            refine lv_aload_n hx hb d_ZoneNodesModel_restart_73 rfl (lv_at hl 0 rfl) ?_
            refine lv_dup hx hb d_ZoneNodesModel_restart_74 rfl ?_
            replace hm := zb1_s hm
            obtain ⟨v51, h50, hm⟩ := hm
            refine zr_get (ci := 9) (C := R_ZoneNodesModel) (T := F_ZoneNodesModel) (N := 32) hx hb hts in_ZoneNodesModel hown hk hX rfl 18 (by decide) (hts _ tW508) rfl (zgi_v h50) d_ZoneNodesModel_restart_75 ?_
            refine lv_iconst (v := 1) hx hb d_ZoneNodesModel_restart_78 (by decide) ?_
            refine lv_isub hx hb d_ZoneNodesModel_restart_79 ?_
            replace hm := zb1_s hm
            obtain ⟨X52, h53, hm⟩ := hm
            refine zr_put (ci := 9) (C := R_ZoneNodesModel) (T := F_ZoneNodesModel) (N := 32) (ty := .int) (v := .int (v51 - 1)) hx hb hts in_ZoneNodesModel t_ZoneNodesModel t_ZoneNodesModel_ok n_ZoneNodesModel hown hk hX hS rfl 18 (by decide) (hts _ tW508) rfl rfl (by decide +kernel) rfl rfl h53 d_ZoneNodesModel_restart_80 (fun H locs hX hS => ?_)
            exact hJ83 X52 x0 _ _ _ hm hX hS (lv_sub hl [0] rfl)
      · replace hm := zi_f h13 hm
        refine lv_aload_n hx hb d_ZoneNodesModel_restart_29 rfl (lv_at hl 0 rfl) ?_
        refine lv_iload_n hx hb d_ZoneNodesModel_restart_30 rfl (lv_at hl 1 rfl) ?_
        refine lv_iconst (v := 1) hx hb d_ZoneNodesModel_restart_31 (by decide) ?_
        replace hm := zb1_s hm
        obtain ⟨_, h55, hm⟩ := hm
        replace hm := zb2_s hm
        obtain ⟨v56, X57, h54, hm⟩ := hm
        refine zr_callv (zr_runV (As := [.int x1, .int 1]) (rest := []) (n := 2) hx hb hml hown hts hk hX (c_ZoneNodesModel_rest l G N X11 x0 x1 1 v56 X57 h54) (hts _ tW471) tW472 (hts _ tW469) (hts _ tW473) (hts _ tW474) rfl h55 (by decide +kernel) ⟨Nat.le_of_ble_eq_true rfl, Nat.le_of_ble_eq_true rfl⟩ rfl rfl hl.1 rfl (lv_room (Nat.le_of_ble_eq_true rfl)) d_ZoneNodesModel_restart_32 ⟨(Nat.le_of_ble_eq_true rfl), (Nat.le_of_ble_eq_true rfl)⟩) hS (fun H locs hX hS => ?_)
        refine lv_aload_n hx hb d_ZoneNodesModel_restart_35 rfl (lv_at hl 0 rfl) ?_
        replace hm := zb1_s hm
        obtain ⟨a59, h58, hm⟩ := hm
        refine zr_get (ci := 9) (C := R_ZoneNodesModel) (T := F_ZoneNodesModel) (N := 32) hx hb hts in_ZoneNodesModel hown hk hX rfl 11 (by decide) (hts _ tW448) rfl (zgr_v h58) d_ZoneNodesModel_restart_36 ?_
        refine lv_iload_n hx hb d_ZoneNodesModel_restart_39 rfl (lv_at hl 1 rfl) ?_
        refine lv_aload_n hx hb d_ZoneNodesModel_restart_40 rfl (lv_at hl 0 rfl) ?_
        replace hm := zb1_s hm
        obtain ⟨v61, h60, hm⟩ := hm
        refine zr_get (ci := 9) (C := R_ZoneNodesModel) (T := F_ZoneNodesModel) (N := 32) hx hb hts in_ZoneNodesModel hown hk hX rfl 3 (by decide) (hts _ tW441) rfl (zgi_v h60) d_ZoneNodesModel_restart_41 ?_
        refine lv_aload_n hx hb d_ZoneNodesModel_restart_44 rfl (lv_at hl 0 rfl) ?_
        replace hm := zb1_s hm
        obtain ⟨v63, h62, hm⟩ := hm
        refine zr_get (ci := 9) (C := R_ZoneNodesModel) (T := F_ZoneNodesModel) (N := 32) hx hb hts in_ZoneNodesModel hown hk hX rfl 2 (by decide) (hts _ tW466) rfl (zgi_v h62) d_ZoneNodesModel_restart_45 ?_
        refine lv_iadd hx hb d_ZoneNodesModel_restart_48 ?_
        replace hm := zb1_s hm
        obtain ⟨X64, h65, hm⟩ := hm
        refine zr_iastore hx hb hk hX hS h65 d_ZoneNodesModel_restart_49 (fun H locs hX hS => ?_)
        refine lv_iconst (v := 1) hx hb d_ZoneNodesModel_restart_50 (by decide) ?_
        cases hm
        exact W.zret hx hb hr (by decide) (fun t ht hW => zh_end hk hX hS ht hW) hS.2.2 d_ZoneNodesModel_restart_51
    · replace hm := zi_f h8 hm
      refine lv_iconst (v := 0) hx hb d_ZoneNodesModel_restart_16 (by decide) ?_
      cases hm
      exact W.zret hx hb hr (by decide) (fun t ht hW => zh_end hk hX hS ht hW) hS.2.2 d_ZoneNodesModel_restart_17
set_option maxHeartbeats 4000000 in
set_option maxRecDepth 100000 in
theorem c_ZoneNodesModel_line (l : Launch) (G : zh_G) (N : Nat) (X : zh_T) (x0 : Nat) (x1 : Int32) (r : Int32) (hm : f_ZoneNodesModel_line N X x0 x1 = some r) : zM l G y_ZoneNodesModel_line w_ZoneNodesModel_line 0 0 X [.ref x0, .int x1] (some (.int r)) X 0 0 := by
  refine zr_ofW (by decide) (by exact Nat.le_of_ble_eq_true rfl) ?_
  intro p e s m args below meth c ls hx hb hml hr hts hown hin hlocks hk hX hl
  have hS : va_S (zh_A G) s.heap s.heap [] := va_S.rf
  have hl : lv_has ls 2 [(0, .ref x0), (1, .int x1)] := hl
  have hown : s.vm.findClass R_ZoneNodesModel = some m.cls := hown
  unfold f_ZoneNodesModel_line at hm
  refine lv_sipush (v := 1000) hx hb d_ZoneNodesModel_line_0 (by decide) ?_
  refine lv_aload_n hx hb d_ZoneNodesModel_line_3 rfl (lv_at hl 0 rfl) ?_
  replace hm := zb1_s hm
  obtain ⟨a2, h1, hm⟩ := hm
  refine zr_get (ci := 9) (C := R_ZoneNodesModel) (T := F_ZoneNodesModel) (N := 32) hx hb hts in_ZoneNodesModel hown hk hX rfl 16 (by decide) (hts _ tW451) rfl (zgr_v h1) d_ZoneNodesModel_line_4 ?_
  refine lv_iconst (v := 4) hx hb d_ZoneNodesModel_line_7 (by decide) ?_
  refine lv_iload_n hx hb d_ZoneNodesModel_line_8 rfl (lv_at hl 1 rfl) ?_
  refine lv_imul hx hb d_ZoneNodesModel_line_9 ?_
  replace hm := zb1_s hm
  obtain ⟨v3, h4, hm⟩ := hm
  refine zr_iaload hx hb hk hX h4 d_ZoneNodesModel_line_10 ?_
  refine lv_imul hx hb d_ZoneNodesModel_line_11 ?_
  refine lv_bipush (v := 100) hx hb d_ZoneNodesModel_line_12 (by decide) ?_
  refine lv_aload_n hx hb d_ZoneNodesModel_line_14 rfl (lv_at hl 0 rfl) ?_
  replace hm := zb1_s hm
  obtain ⟨a6, h5, hm⟩ := hm
  refine zr_get (ci := 9) (C := R_ZoneNodesModel) (T := F_ZoneNodesModel) (N := 32) hx hb hts in_ZoneNodesModel hown hk hX rfl 16 (by decide) (hts _ tW451) rfl (zgr_v h5) d_ZoneNodesModel_line_15 ?_
  refine lv_iconst (v := 4) hx hb d_ZoneNodesModel_line_18 (by decide) ?_
  refine lv_iload_n hx hb d_ZoneNodesModel_line_19 rfl (lv_at hl 1 rfl) ?_
  refine lv_imul hx hb d_ZoneNodesModel_line_20 ?_
  refine lv_iconst (v := 1) hx hb d_ZoneNodesModel_line_21 (by decide) ?_
  refine lv_iadd hx hb d_ZoneNodesModel_line_22 ?_
  replace hm := zb1_s hm
  obtain ⟨v7, h8, hm⟩ := hm
  refine zr_iaload hx hb hk hX h8 d_ZoneNodesModel_line_23 ?_
  refine lv_imul hx hb d_ZoneNodesModel_line_24 ?_
  refine lv_iadd hx hb d_ZoneNodesModel_line_25 ?_
  refine lv_bipush (v := 10) hx hb d_ZoneNodesModel_line_26 (by decide) ?_
  refine lv_aload_n hx hb d_ZoneNodesModel_line_28 rfl (lv_at hl 0 rfl) ?_
  replace hm := zb1_s hm
  obtain ⟨a10, h9, hm⟩ := hm
  refine zr_get (ci := 9) (C := R_ZoneNodesModel) (T := F_ZoneNodesModel) (N := 32) hx hb hts in_ZoneNodesModel hown hk hX rfl 16 (by decide) (hts _ tW451) rfl (zgr_v h9) d_ZoneNodesModel_line_29 ?_
  refine lv_iconst (v := 4) hx hb d_ZoneNodesModel_line_32 (by decide) ?_
  refine lv_iload_n hx hb d_ZoneNodesModel_line_33 rfl (lv_at hl 1 rfl) ?_
  refine lv_imul hx hb d_ZoneNodesModel_line_34 ?_
  refine lv_iconst (v := 2) hx hb d_ZoneNodesModel_line_35 (by decide) ?_
  refine lv_iadd hx hb d_ZoneNodesModel_line_36 ?_
  replace hm := zb1_s hm
  obtain ⟨v11, h12, hm⟩ := hm
  refine zr_iaload hx hb hk hX h12 d_ZoneNodesModel_line_37 ?_
  refine lv_imul hx hb d_ZoneNodesModel_line_38 ?_
  refine lv_iadd hx hb d_ZoneNodesModel_line_39 ?_
  refine lv_aload_n hx hb d_ZoneNodesModel_line_40 rfl (lv_at hl 0 rfl) ?_
  replace hm := zb1_s hm
  obtain ⟨a14, h13, hm⟩ := hm
  refine zr_get (ci := 9) (C := R_ZoneNodesModel) (T := F_ZoneNodesModel) (N := 32) hx hb hts in_ZoneNodesModel hown hk hX rfl 16 (by decide) (hts _ tW451) rfl (zgr_v h13) d_ZoneNodesModel_line_41 ?_
  refine lv_iconst (v := 4) hx hb d_ZoneNodesModel_line_44 (by decide) ?_
  refine lv_iload_n hx hb d_ZoneNodesModel_line_45 rfl (lv_at hl 1 rfl) ?_
  refine lv_imul hx hb d_ZoneNodesModel_line_46 ?_
  refine lv_iconst (v := 3) hx hb d_ZoneNodesModel_line_47 (by decide) ?_
  refine lv_iadd hx hb d_ZoneNodesModel_line_48 ?_
  replace hm := zb1_s hm
  obtain ⟨v15, h16, hm⟩ := hm
  refine zr_iaload hx hb hk hX h16 d_ZoneNodesModel_line_49 ?_
  refine lv_iadd hx hb d_ZoneNodesModel_line_50 ?_
  cases hm
  exact W.iret hx hb hr (fun t ht hW => zh_end hk hX hS ht hW) hS.2.2 d_ZoneNodesModel_line_51
set_option maxHeartbeats 4000000 in
set_option maxRecDepth 100000 in
theorem c_ZoneNodesModel_mixed (l : Launch) (G : zh_G) (N : Nat) (X : zh_T) (x0 : Int32) (x1 : Int32) (r : Int32) (hm : f_ZoneNodesModel_mixed N X x0 x1 = some r) : zM l G y_ZoneNodesModel_mixed w_ZoneNodesModel_mixed 0 0 X [.int x0, .int x1] (some (.int r)) X 0 0 := by
  refine zr_ofW (by decide) (by exact Nat.le_of_ble_eq_true rfl) ?_
  intro p e s m args below meth c ls hx hb hml hr hts hown hin hlocks hk hX hl
  have hS : va_S (zh_A G) s.heap s.heap [] := va_S.rf
  have hl : lv_has ls 3 [(0, .int x0), (1, .int x1)] := hl
  have hown : s.vm.findClass R_ZoneNodesModel = some m.cls := hown
  unfold f_ZoneNodesModel_mixed at hm
  refine lv_iload_n hx hb d_ZoneNodesModel_mixed_0 rfl (lv_at hl 0 rfl) ?_
  refine lv_iload_n hx hb d_ZoneNodesModel_mixed_1 rfl (lv_at hl 1 rfl) ?_
  refine lv_ixor hx hb d_ZoneNodesModel_mixed_2 ?_
  refine lv_ldc (v := 16777619) hx hb hown (hts _ tW551) d_ZoneNodesModel_mixed_3 ?_
  refine lv_imul hx hb d_ZoneNodesModel_mixed_5 ?_
  refine lv_istore_n (lv' := [(2, .int ((x0 ^^^ x1) * 16777619)), (0, .int x0), (1, .int x1)]) hx hb d_ZoneNodesModel_mixed_6 rfl hl (by decide) rfl (fun ls hl => ?_)
  refine lv_iload_n hx hb d_ZoneNodesModel_mixed_7 rfl (lv_at hl 0 rfl) ?_
  refine lv_iload_n hx hb d_ZoneNodesModel_mixed_8 rfl (lv_at hl 0 rfl) ?_
  refine lv_bipush (v := 15) hx hb d_ZoneNodesModel_mixed_9 (by decide) ?_
  refine lv_iushr (v := zi_ushr ((x0 ^^^ x1) * 16777619) 15) hx hb d_ZoneNodesModel_mixed_11 rfl ?_
  refine lv_ixor hx hb d_ZoneNodesModel_mixed_12 ?_
  cases hm
  exact W.iret hx hb hr (fun t ht hW => zh_end hk hX hS ht hW) hS.2.2 d_ZoneNodesModel_mixed_13
set_option maxHeartbeats 4000000 in
set_option maxRecDepth 100000 in
theorem c_ZoneNodesModel_sealed (l : Launch) (G : zh_G) (N : Nat) (X : zh_T) (x0 : Nat) (x1 : Int32) (x2 : Int32) (r : Int32) (hm : f_ZoneNodesModel_sealed N X x0 x1 x2 = some r) : zM l G y_ZoneNodesModel_sealed w_ZoneNodesModel_sealed 1 22 X [.ref x0, .int x1, .int x2] (some (.int r)) X 0 0 := by
  refine zr_ofW (by decide) (by exact Nat.le_of_ble_eq_true rfl) ?_
  intro p e s m args below meth c ls hx hb hml hr hts hown hin hlocks hk hX hl
  have hS : va_S (zh_A G) s.heap s.heap [] := va_S.rf
  have hl : lv_has ls 5 [(0, .ref x0), (1, .int x1), (2, .int x2)] := hl
  have hown : s.vm.findClass R_ZoneNodesModel = some m.cls := hown
  unfold f_ZoneNodesModel_sealed at hm
  have hL17 : ∀ (n : Nat) (X : zh_T) (w0 : Nat) (w2 : Int32) (w3 : Int32) (w4 : Int32) (v : Int32) (H : Heap) (locs : List Loc) (ls : Array Slot), L_ZoneNodesModel_sealed_17 N X w0 w2 n w3 w4 = some v → zh_w G X H → va_S (zh_A G) s.heap H locs → lv_has ls 5 [(0, .ref w0), (2, .int w2), (3, .int w3), (4, .int w4)] → (∀ (H : Heap) (locs : List Loc) (ls : Array Slot), zh_w G X H → va_S (zh_A G) s.heap H locs → lv_has ls 5 [(0, .ref w0), (2, .int w2), (3, .int v)] → W p l e { frames := 1, cells := 0, slots := 0, locals := 22 } s m args below meth c H locs 0 0 (MQ below (zh_Q G (some (.int r)) X) args s 0 0 (zh_A G)) (F0 m 43 ls [])) → W p l e { frames := 1, cells := 0, slots := 0, locals := 22 } s m args below meth c H locs 0 0 (MQ below (zh_Q G (some (.int r)) X) args s 0 0 (zh_A G)) (F0 m 17 ls []) := by
    intro n
    induction n with
    | zero =>
      intro X w0 w2 w3 w4 v H locs ls hm hX hS hl hexit
      rw [L_ZoneNodesModel_sealed_17] at hm
      cases hm
    | succ n ih =>
      intro X w0 w2 w3 w4 v H locs ls hm hX hS hl hexit
      rw [L_ZoneNodesModel_sealed_17] at hm
      refine lv_iload hx hb d_ZoneNodesModel_sealed_17 (lv_at hl 3 rfl) ?_
      refine lv_aload_n hx hb d_ZoneNodesModel_sealed_19 rfl (lv_at hl 0 rfl) ?_
      replace hm := zb1_s hm
      obtain ⟨v10, h9, hm⟩ := hm
      refine zr_get (ci := 9) (C := R_ZoneNodesModel) (T := F_ZoneNodesModel) (N := 32) hx hb hts in_ZoneNodesModel hown hk hX rfl 14 (by decide) (hts _ tW538) rfl (zgi_v h9) d_ZoneNodesModel_sealed_20 ?_
      refine lv_icmp_ge (tgt := 43) hx hb d_ZoneNodesModel_sealed_23 rfl (fun h11 => ?_) (fun h11 => ?_)
      · replace hm := zi_t h11 hm
        cases hm
        exact hexit _ _ _ hX hS (lv_sub hl [0, 1, 2] rfl)
      · replace hm := zi_f h11 hm
        refine lv_iload_n hx hb d_ZoneNodesModel_sealed_26 rfl (lv_at hl 2 rfl) ?_
        refine lv_aload_n hx hb d_ZoneNodesModel_sealed_27 rfl (lv_at hl 0 rfl) ?_
        refine lv_iload hx hb d_ZoneNodesModel_sealed_28 (lv_at hl 3 rfl) ?_
        replace hm := zb1_s hm
        obtain ⟨_, h13, hm⟩ := hm
        replace hm := zb1_s hm
        obtain ⟨v14, h12, hm⟩ := hm
        refine zr_calli (zr_runV (As := [.int w4]) (rest := [.int w3]) (n := 1) hx hb hml hown hts hk hX (c_ZoneNodesModel_line l G N X w0 w4 v14 h12) (hts _ tW555) tW556 (hts _ tW469) (hts _ tW557) (hts _ tW558) rfl h13 (by decide +kernel) ⟨Nat.le_of_ble_eq_true rfl, Nat.le_of_ble_eq_true rfl⟩ rfl rfl hl.1 rfl (lv_room (Nat.le_of_ble_eq_true rfl)) d_ZoneNodesModel_sealed_30 ⟨(Nat.le_of_ble_eq_true rfl), (Nat.le_of_ble_eq_true rfl)⟩) hS (fun H locs hX hS => ?_)
        replace hm := zb1_s hm
        obtain ⟨v16, h15, hm⟩ := hm
        refine zr_calli (zr_runS (As := [.int w3, .int v14]) (rest := []) (n := 2) hx hb hml hown hts hk hX (c_ZoneNodesModel_mixed l G N X w3 v14 v16 h15) (hts _ tW552) tW553 (hts _ tW469) (hts _ tW554) (by decide +kernel) ⟨Nat.le_of_ble_eq_true rfl, Nat.le_of_ble_eq_true rfl⟩ rfl rfl hl.1 rfl (lv_room (Nat.le_of_ble_eq_true rfl)) d_ZoneNodesModel_sealed_33 ⟨(Nat.le_of_ble_eq_true rfl), (Nat.le_of_ble_eq_true rfl)⟩) hS (fun H locs hX hS => ?_)
        refine lv_istore_n (lv' := [(3, .int v16), (0, .ref w0), (2, .int w2), (4, .int w4)]) hx hb d_ZoneNodesModel_sealed_36 rfl hl (by decide) rfl (fun ls hl => ?_)
        refine lv_iinc (v := w4 + 1) (lv' := [(4, .int (w4 + 1)), (3, .int v16), (0, .ref w0), (2, .int w2)]) hx hb d_ZoneNodesModel_sealed_37 hl (k := 3) rfl (by rw [show Int32.ofInt 1 = 1 by decide]) (by decide) rfl (fun ls hl => ?_)
        refine lv_goto (tgt := 17) hx hb d_ZoneNodesModel_sealed_40 rfl ?_
        exact ih X w0 w2 v16 (w4 + 1) v _ _ _ hm hX hS (lv_sub hl [2, 3, 1, 0] rfl) hexit
  have hL55 : ∀ (n : Nat) (X : zh_T) (w0 : Nat) (w2 : Int32) (w3 : Int32) (w4 : Int32) (v : Int32) (H : Heap) (locs : List Loc) (ls : Array Slot), L_ZoneNodesModel_sealed_55 N X w0 w2 n w3 w4 = some v → zh_w G X H → va_S (zh_A G) s.heap H locs → lv_has ls 5 [(0, .ref w0), (2, .int w2), (3, .int w3), (4, .int w4)] → (∀ (H : Heap) (locs : List Loc) (ls : Array Slot), zh_w G X H → va_S (zh_A G) s.heap H locs → lv_has ls 5 [(2, .int w2), (3, .int v)] → W p l e { frames := 1, cells := 0, slots := 0, locals := 22 } s m args below meth c H locs 0 0 (MQ below (zh_Q G (some (.int r)) X) args s 0 0 (zh_A G)) (F0 m 83 ls [])) → W p l e { frames := 1, cells := 0, slots := 0, locals := 22 } s m args below meth c H locs 0 0 (MQ below (zh_Q G (some (.int r)) X) args s 0 0 (zh_A G)) (F0 m 55 ls []) := by
    intro n
    induction n with
    | zero =>
      intro X w0 w2 w3 w4 v H locs ls hm hX hS hl hexit
      rw [L_ZoneNodesModel_sealed_55] at hm
      cases hm
    | succ n ih =>
      intro X w0 w2 w3 w4 v H locs ls hm hX hS hl hexit
      rw [L_ZoneNodesModel_sealed_55] at hm
      refine lv_iload hx hb d_ZoneNodesModel_sealed_55 (lv_at hl 3 rfl) ?_
      refine lv_aload_n hx hb d_ZoneNodesModel_sealed_57 rfl (lv_at hl 0 rfl) ?_
      replace hm := zb1_s hm
      obtain ⟨v24, h23, hm⟩ := hm
      refine zr_get (ci := 9) (C := R_ZoneNodesModel) (T := F_ZoneNodesModel) (N := 32) hx hb hts in_ZoneNodesModel hown hk hX rfl 15 (by decide) (hts _ tW484) rfl (zgi_v h23) d_ZoneNodesModel_sealed_58 ?_
      refine lv_icmp_ge (tgt := 83) hx hb d_ZoneNodesModel_sealed_61 rfl (fun h25 => ?_) (fun h25 => ?_)
      · replace hm := zi_t h25 hm
        cases hm
        exact hexit _ _ _ hX hS (lv_sub hl [1, 2] rfl)
      · replace hm := zi_f h25 hm
        refine lv_iload_n hx hb d_ZoneNodesModel_sealed_64 rfl (lv_at hl 2 rfl) ?_
        refine lv_aload_n hx hb d_ZoneNodesModel_sealed_65 rfl (lv_at hl 0 rfl) ?_
        refine lv_iconst (v := 4) hx hb d_ZoneNodesModel_sealed_66 (by decide) ?_
        refine lv_iload hx hb d_ZoneNodesModel_sealed_67 (lv_at hl 3 rfl) ?_
        refine lv_iadd hx hb d_ZoneNodesModel_sealed_69 ?_
        replace hm := zb1_s hm
        obtain ⟨_, h27, hm⟩ := hm
        replace hm := zb1_s hm
        obtain ⟨v28, h26, hm⟩ := hm
        refine zr_calli (zr_runV (As := [.int (4 + w4)]) (rest := [.int w3]) (n := 1) hx hb hml hown hts hk hX (c_ZoneNodesModel_line l G N X w0 (4 + w4) v28 h26) (hts _ tW555) tW556 (hts _ tW469) (hts _ tW557) (hts _ tW558) rfl h27 (by decide +kernel) ⟨Nat.le_of_ble_eq_true rfl, Nat.le_of_ble_eq_true rfl⟩ rfl rfl hl.1 rfl (lv_room (Nat.le_of_ble_eq_true rfl)) d_ZoneNodesModel_sealed_70 ⟨(Nat.le_of_ble_eq_true rfl), (Nat.le_of_ble_eq_true rfl)⟩) hS (fun H locs hX hS => ?_)
        replace hm := zb1_s hm
        obtain ⟨v30, h29, hm⟩ := hm
        refine zr_calli (zr_runS (As := [.int w3, .int v28]) (rest := []) (n := 2) hx hb hml hown hts hk hX (c_ZoneNodesModel_mixed l G N X w3 v28 v30 h29) (hts _ tW552) tW553 (hts _ tW469) (hts _ tW554) (by decide +kernel) ⟨Nat.le_of_ble_eq_true rfl, Nat.le_of_ble_eq_true rfl⟩ rfl rfl hl.1 rfl (lv_room (Nat.le_of_ble_eq_true rfl)) d_ZoneNodesModel_sealed_73 ⟨(Nat.le_of_ble_eq_true rfl), (Nat.le_of_ble_eq_true rfl)⟩) hS (fun H locs hX hS => ?_)
        refine lv_istore_n (lv' := [(3, .int v30), (0, .ref w0), (2, .int w2), (4, .int w4)]) hx hb d_ZoneNodesModel_sealed_76 rfl hl (by decide) rfl (fun ls hl => ?_)
        refine lv_iinc (v := w4 + 1) (lv' := [(4, .int (w4 + 1)), (3, .int v30), (0, .ref w0), (2, .int w2)]) hx hb d_ZoneNodesModel_sealed_77 hl (k := 3) rfl (by rw [show Int32.ofInt 1 = 1 by decide]) (by decide) rfl (fun ls hl => ?_)
        refine lv_goto (tgt := 55) hx hb d_ZoneNodesModel_sealed_80 rfl ?_
        exact ih X w0 w2 v30 (w4 + 1) v _ _ _ hm hX hS (lv_sub hl [2, 3, 1, 0] rfl) hexit
  refine lv_aload_n hx hb d_ZoneNodesModel_sealed_0 rfl (lv_at hl 0 rfl) ?_
  replace hm := zb1_s hm
  obtain ⟨a2, h1, hm⟩ := hm
  refine zr_get (ci := 9) (C := R_ZoneNodesModel) (T := F_ZoneNodesModel) (N := 32) hx hb hts in_ZoneNodesModel hown hk hX rfl 13 (by decide) (hts _ tW450) rfl (zgr_v h1) d_ZoneNodesModel_sealed_1 ?_
  refine lv_iload_n hx hb d_ZoneNodesModel_sealed_4 rfl (lv_at hl 1 rfl) ?_
  replace hm := zb1_s hm
  obtain ⟨v3, h4, hm⟩ := hm
  refine zr_iaload hx hb hk hX h4 d_ZoneNodesModel_sealed_5 ?_
  refine lv_aload_n hx hb d_ZoneNodesModel_sealed_6 rfl (lv_at hl 0 rfl) ?_
  replace hm := zb1_s hm
  obtain ⟨v6, h5, hm⟩ := hm
  refine zr_get (ci := 9) (C := R_ZoneNodesModel) (T := F_ZoneNodesModel) (N := 32) hx hb hts in_ZoneNodesModel hown hk hX rfl 14 (by decide) (hts _ tW538) rfl (zgi_v h5) d_ZoneNodesModel_sealed_7 ?_
  replace hm := zb1_s hm
  obtain ⟨v8, h7, hm⟩ := hm
  refine zr_calli (zr_runS (As := [.int v3, .int v6]) (rest := []) (n := 2) hx hb hml hown hts hk hX (c_ZoneNodesModel_mixed l G N X v3 v6 v8 h7) (hts _ tW552) tW553 (hts _ tW469) (hts _ tW554) (by decide +kernel) ⟨Nat.le_of_ble_eq_true rfl, Nat.le_of_ble_eq_true rfl⟩ rfl rfl hl.1 rfl (lv_room (Nat.le_of_ble_eq_true rfl)) d_ZoneNodesModel_sealed_10 ⟨(Nat.le_of_ble_eq_true rfl), (Nat.le_of_ble_eq_true rfl)⟩) hS (fun H locs hX hS => ?_)
  refine lv_istore_n (lv' := [(3, .int v8), (0, .ref x0), (1, .int x1), (2, .int x2)]) hx hb d_ZoneNodesModel_sealed_13 rfl hl (by decide) rfl (fun ls hl => ?_)
  refine lv_iconst (v := 0) hx hb d_ZoneNodesModel_sealed_14 (by decide) ?_
  refine lv_istore (lv' := [(4, .int 0), (3, .int v8), (0, .ref x0), (1, .int x1), (2, .int x2)]) hx hb d_ZoneNodesModel_sealed_15 hl (by decide) rfl (fun ls hl => ?_)
  replace hm := zb1_s hm
  obtain ⟨v17, h18, hm⟩ := hm
  refine hL17 N X x0 x2 v8 0 v17 _ _ _ h18 hX hS (lv_sub hl [2, 4, 1, 0] rfl) (fun H locs ls hX hS hl => ?_)
  refine lv_iload_n hx hb d_ZoneNodesModel_sealed_43 rfl (lv_at hl 2 rfl) ?_
  refine lv_aload_n hx hb d_ZoneNodesModel_sealed_44 rfl (lv_at hl 0 rfl) ?_
  replace hm := zb1_s hm
  obtain ⟨v20, h19, hm⟩ := hm
  refine zr_get (ci := 9) (C := R_ZoneNodesModel) (T := F_ZoneNodesModel) (N := 32) hx hb hts in_ZoneNodesModel hown hk hX rfl 15 (by decide) (hts _ tW484) rfl (zgi_v h19) d_ZoneNodesModel_sealed_45 ?_
  replace hm := zb1_s hm
  obtain ⟨v22, h21, hm⟩ := hm
  refine zr_calli (zr_runS (As := [.int v17, .int v20]) (rest := []) (n := 2) hx hb hml hown hts hk hX (c_ZoneNodesModel_mixed l G N X v17 v20 v22 h21) (hts _ tW552) tW553 (hts _ tW469) (hts _ tW554) (by decide +kernel) ⟨Nat.le_of_ble_eq_true rfl, Nat.le_of_ble_eq_true rfl⟩ rfl rfl hl.1 rfl (lv_room (Nat.le_of_ble_eq_true rfl)) d_ZoneNodesModel_sealed_48 ⟨(Nat.le_of_ble_eq_true rfl), (Nat.le_of_ble_eq_true rfl)⟩) hS (fun H locs hX hS => ?_)
  refine lv_istore_n (lv' := [(3, .int v22), (0, .ref x0), (2, .int x2)]) hx hb d_ZoneNodesModel_sealed_51 rfl hl (by decide) rfl (fun ls hl => ?_)
  refine lv_iconst (v := 0) hx hb d_ZoneNodesModel_sealed_52 (by decide) ?_
  refine lv_istore (lv' := [(4, .int 0), (3, .int v22), (0, .ref x0), (2, .int x2)]) hx hb d_ZoneNodesModel_sealed_53 hl (by decide) rfl (fun ls hl => ?_)
  replace hm := zb1_s hm
  obtain ⟨v31, h32, hm⟩ := hm
  refine hL55 N X x0 x2 v22 0 v31 _ _ _ h32 hX hS (lv_sub hl [2, 3, 1, 0] rfl) (fun H locs ls hX hS hl => ?_)
  refine lv_iload_n hx hb d_ZoneNodesModel_sealed_83 rfl (lv_at hl 1 rfl) ?_
  refine lv_iload_n hx hb d_ZoneNodesModel_sealed_84 rfl (lv_at hl 0 rfl) ?_
  replace hm := zb1_s hm
  obtain ⟨v34, h33, hm⟩ := hm
  refine zr_calli (zr_runS (As := [.int v31, .int x2]) (rest := []) (n := 2) hx hb hml hown hts hk hX (c_ZoneNodesModel_mixed l G N X v31 x2 v34 h33) (hts _ tW552) tW553 (hts _ tW469) (hts _ tW554) (by decide +kernel) ⟨Nat.le_of_ble_eq_true rfl, Nat.le_of_ble_eq_true rfl⟩ rfl rfl hl.1 rfl (lv_room (Nat.le_of_ble_eq_true rfl)) d_ZoneNodesModel_sealed_85 ⟨(Nat.le_of_ble_eq_true rfl), (Nat.le_of_ble_eq_true rfl)⟩) hS (fun H locs hX hS => ?_)
  cases hm
  exact W.iret hx hb hr (fun t ht hW => zh_end hk hX hS ht hW) hS.2.2 d_ZoneNodesModel_sealed_88
set_option maxHeartbeats 4000000 in
set_option maxRecDepth 100000 in
theorem c_ZoneNodesModel_seal (l : Launch) (G : zh_G) (N : Nat) (X : zh_T) (x0 : Nat) (x1 : Int32) (x2 : Int32) (r : Int32) (hm : f_ZoneNodesModel_seal N X x0 x1 x2 = some r) : zM l G y_ZoneNodesModel_seal w_ZoneNodesModel_seal 2 46 X [.ref x0, .int x1, .int x2] (some (.int r)) X 0 0 := by
  refine zr_ofW (by decide) (by exact Nat.le_of_ble_eq_true rfl) ?_
  intro p e s m args below meth c ls hx hb hml hr hts hown hin hlocks hk hX hl
  have hS : va_S (zh_A G) s.heap s.heap [] := va_S.rf
  have hl : lv_has ls 3 [(0, .ref x0), (1, .int x1), (2, .int x2)] := hl
  have hown : s.vm.findClass R_ZoneNodesModel = some m.cls := hown
  unfold f_ZoneNodesModel_seal at hm
  refine lv_iload_n hx hb d_ZoneNodesModel_seal_0 rfl (lv_at hl 1 rfl) ?_
  refine lv_if_lt (tgt := 18) hx hb d_ZoneNodesModel_seal_1 rfl (fun h1 => ?_) (fun h1 => ?_)
  · replace hm := zi_t h1 hm
    refine lv_iconst (v := 0) hx hb d_ZoneNodesModel_seal_18 (by decide) ?_
    refine lv_goto (tgt := 28) hx hb d_ZoneNodesModel_seal_19 rfl ?_
    cases hm
    exact W.iret hx hb hr (fun t ht hW => zh_end hk hX hS ht hW) hS.2.2 d_ZoneNodesModel_seal_28
  · replace hm := zi_f h1 hm
    refine lv_iload_n hx hb d_ZoneNodesModel_seal_4 rfl (lv_at hl 1 rfl) ?_
    refine lv_iconst (v := 2) hx hb d_ZoneNodesModel_seal_5 (by decide) ?_
    refine lv_icmp_gt (tgt := 18) hx hb d_ZoneNodesModel_seal_6 rfl (fun h2 => ?_) (fun h2 => ?_)
    · replace hm := zi_t h2 hm
      refine lv_iconst (v := 0) hx hb d_ZoneNodesModel_seal_18 (by decide) ?_
      refine lv_goto (tgt := 28) hx hb d_ZoneNodesModel_seal_19 rfl ?_
      cases hm
      exact W.iret hx hb hr (fun t ht hW => zh_end hk hX hS ht hW) hS.2.2 d_ZoneNodesModel_seal_28
    · replace hm := zi_f h2 hm
      refine lv_aload_n hx hb d_ZoneNodesModel_seal_9 rfl (lv_at hl 0 rfl) ?_
      replace hm := zb1_s hm
      obtain ⟨a4, h3, hm⟩ := hm
      refine zr_get (ci := 9) (C := R_ZoneNodesModel) (T := F_ZoneNodesModel) (N := 32) hx hb hts in_ZoneNodesModel hown hk hX rfl 12 (by decide) (hts _ tW449) rfl (zgr_v h3) d_ZoneNodesModel_seal_10 ?_
      refine lv_iload_n hx hb d_ZoneNodesModel_seal_13 rfl (lv_at hl 1 rfl) ?_
      replace hm := zb1_s hm
      obtain ⟨v5, h6, hm⟩ := hm
      refine zr_baload hx hb hk hX h6 d_ZoneNodesModel_seal_14 ?_
      refine lv_if_ne (tgt := 22) hx hb d_ZoneNodesModel_seal_15 rfl (fun h7 => ?_) (fun h7 => ?_)
      · replace hm := zi_f h7 hm
        refine lv_aload_n hx hb d_ZoneNodesModel_seal_22 rfl (lv_at hl 0 rfl) ?_
        refine lv_iload_n hx hb d_ZoneNodesModel_seal_23 rfl (lv_at hl 1 rfl) ?_
        refine lv_iload_n hx hb d_ZoneNodesModel_seal_24 rfl (lv_at hl 2 rfl) ?_
        replace hm := zb1_s hm
        obtain ⟨_, h9, hm⟩ := hm
        replace hm := zb1_s hm
        obtain ⟨v10, h8, hm⟩ := hm
        refine zr_calli (zr_runV (As := [.int x1, .int x2]) (rest := []) (n := 2) hx hb hml hown hts hk hX (c_ZoneNodesModel_sealed l G N X x0 x1 x2 v10 h8) (hts _ tW559) tW560 (hts _ tW469) (hts _ tW561) (hts _ tW562) rfl h9 (by decide +kernel) ⟨Nat.le_of_ble_eq_true rfl, Nat.le_of_ble_eq_true rfl⟩ rfl rfl hl.1 rfl (lv_room (Nat.le_of_ble_eq_true rfl)) d_ZoneNodesModel_seal_25 ⟨(Nat.le_of_ble_eq_true rfl), (Nat.le_of_ble_eq_true rfl)⟩) hS (fun H locs hX hS => ?_)
        cases hm
        exact W.iret hx hb hr (fun t ht hW => zh_end hk hX hS ht hW) hS.2.2 d_ZoneNodesModel_seal_28
      · replace hm := zi_t h7 hm
        refine lv_iconst (v := 0) hx hb d_ZoneNodesModel_seal_18 (by decide) ?_
        refine lv_goto (tgt := 28) hx hb d_ZoneNodesModel_seal_19 rfl ?_
        cases hm
        exact W.iret hx hb hr (fun t ht hW => zh_end hk hX hS ht hW) hS.2.2 d_ZoneNodesModel_seal_28
set_option maxHeartbeats 4000000 in
set_option maxRecDepth 100000 in
theorem c_ZoneNodesModel_serial (l : Launch) (G : zh_G) (N : Nat) (X : zh_T) (x0 : Nat) (x1 : Int32) (r : Int32) (hm : f_ZoneNodesModel_serial N X x0 x1 = some r) : zM l G y_ZoneNodesModel_serial w_ZoneNodesModel_serial 1 20 X [.ref x0, .int x1] (some (.int r)) X 0 0 := by
  refine zr_ofW (by decide) (by exact Nat.le_of_ble_eq_true rfl) ?_
  intro p e s m args below meth c ls hx hb hml hr hts hown hin hlocks hk hX hl
  have hS : va_S (zh_A G) s.heap s.heap [] := va_S.rf
  have hl : lv_has ls 2 [(0, .ref x0), (1, .int x1)] := hl
  have hown : s.vm.findClass R_ZoneNodesModel = some m.cls := hown
  unfold f_ZoneNodesModel_serial at hm
  refine lv_iload_n hx hb d_ZoneNodesModel_serial_0 rfl (lv_at hl 1 rfl) ?_
  replace hm := zb1_s hm
  obtain ⟨v2, h1, hm⟩ := hm
  refine zr_calli (zr_runS (As := [.int x1]) (rest := []) (n := 1) hx hb hml hown hts hk hX (c_ZoneNodesModel_isNode l G N X x1 v2 h1) (hts _ tW493) tW494 (hts _ tW469) (hts _ tW495) (by decide +kernel) ⟨Nat.le_of_ble_eq_true rfl, Nat.le_of_ble_eq_true rfl⟩ rfl rfl hl.1 rfl (lv_room (Nat.le_of_ble_eq_true rfl)) d_ZoneNodesModel_serial_1 ⟨(Nat.le_of_ble_eq_true rfl), (Nat.le_of_ble_eq_true rfl)⟩) hS (fun H locs hX hS => ?_)
  refine lv_if_eq (tgt := 25) hx hb d_ZoneNodesModel_serial_4 rfl (fun h3 => ?_) (fun h3 => ?_)
  · replace hm := zi_t h3 hm
    refine lv_iconst (v := 0) hx hb d_ZoneNodesModel_serial_25 (by decide) ?_
    cases hm
    exact W.iret hx hb hr (fun t ht hW => zh_end hk hX hS ht hW) hS.2.2 d_ZoneNodesModel_serial_26
  · replace hm := zi_f h3 hm
    refine lv_aload_n hx hb d_ZoneNodesModel_serial_7 rfl (lv_at hl 0 rfl) ?_
    replace hm := zb1_s hm
    obtain ⟨a5, h4, hm⟩ := hm
    refine zr_get (ci := 9) (C := R_ZoneNodesModel) (T := F_ZoneNodesModel) (N := 32) hx hb hts in_ZoneNodesModel hown hk hX rfl 5 (by decide) (hts _ tW444) rfl (zgr_v h4) d_ZoneNodesModel_serial_8 ?_
    refine lv_iload_n hx hb d_ZoneNodesModel_serial_11 rfl (lv_at hl 1 rfl) ?_
    replace hm := zb1_s hm
    obtain ⟨v6, h7, hm⟩ := hm
    refine zr_baload hx hb hk hX h7 d_ZoneNodesModel_serial_12 ?_
    refine lv_if_eq (tgt := 25) hx hb d_ZoneNodesModel_serial_13 rfl (fun h8 => ?_) (fun h8 => ?_)
    · replace hm := zi_t h8 hm
      refine lv_iconst (v := 0) hx hb d_ZoneNodesModel_serial_25 (by decide) ?_
      cases hm
      exact W.iret hx hb hr (fun t ht hW => zh_end hk hX hS ht hW) hS.2.2 d_ZoneNodesModel_serial_26
    · replace hm := zi_f h8 hm
      refine lv_aload_n hx hb d_ZoneNodesModel_serial_16 rfl (lv_at hl 0 rfl) ?_
      replace hm := zb1_s hm
      obtain ⟨a10, h9, hm⟩ := hm
      refine zr_get (ci := 9) (C := R_ZoneNodesModel) (T := F_ZoneNodesModel) (N := 32) hx hb hts in_ZoneNodesModel hown hk hX rfl 6 (by decide) (hts _ tW445) rfl (zgr_v h9) d_ZoneNodesModel_serial_17 ?_
      refine lv_iload_n hx hb d_ZoneNodesModel_serial_20 rfl (lv_at hl 1 rfl) ?_
      replace hm := zb1_s hm
      obtain ⟨v11, h12, hm⟩ := hm
      refine zr_iaload hx hb hk hX h12 d_ZoneNodesModel_serial_21 ?_
      refine lv_goto (tgt := 26) hx hb d_ZoneNodesModel_serial_22 rfl ?_
      cases hm
      exact W.iret hx hb hr (fun t ht hW => zh_end hk hX hS ht hW) hS.2.2 d_ZoneNodesModel_serial_26
set_option maxHeartbeats 4000000 in
set_option maxRecDepth 100000 in
theorem c_ZoneNodesModel_size (l : Launch) (G : zh_G) (N : Nat) (X : zh_T) (x0 : Nat) (x1 : Int32) (r : Int32) (hm : f_ZoneNodesModel_size N X x0 x1 = some r) : zM l G y_ZoneNodesModel_size w_ZoneNodesModel_size 1 20 X [.ref x0, .int x1] (some (.int r)) X 0 0 := by
  refine zr_ofW (by decide) (by exact Nat.le_of_ble_eq_true rfl) ?_
  intro p e s m args below meth c ls hx hb hml hr hts hown hin hlocks hk hX hl
  have hS : va_S (zh_A G) s.heap s.heap [] := va_S.rf
  have hl : lv_has ls 4 [(0, .ref x0), (1, .int x1)] := hl
  have hown : s.vm.findClass R_ZoneNodesModel = some m.cls := hown
  unfold f_ZoneNodesModel_size at hm
  have hL26 : ∀ (n : Nat) (X : zh_T) (w0 : Nat) (w1 : Int32) (w2 : Int32) (w3 : Int32) (v : Int32) (H : Heap) (locs : List Loc) (ls : Array Slot), L_ZoneNodesModel_size_26 N X w0 w1 n w2 w3 = some v → zh_w G X H → va_S (zh_A G) s.heap H locs → lv_has ls 4 [(0, .ref w0), (1, .int w1), (2, .int w2), (3, .int w3)] → (∀ (H : Heap) (locs : List Loc) (ls : Array Slot), zh_w G X H → va_S (zh_A G) s.heap H locs → lv_has ls 4 [(2, .int v)] → W p l e { frames := 1, cells := 0, slots := 0, locals := 20 } s m args below meth c H locs 0 0 (MQ below (zh_Q G (some (.int r)) X) args s 0 0 (zh_A G)) (F0 m 62 ls [])) → W p l e { frames := 1, cells := 0, slots := 0, locals := 20 } s m args below meth c H locs 0 0 (MQ below (zh_Q G (some (.int r)) X) args s 0 0 (zh_A G)) (F0 m 26 ls []) := by
    intro n
    induction n with
    | zero =>
      intro X w0 w1 w2 w3 v H locs ls hm hX hS hl hexit
      rw [L_ZoneNodesModel_size_26] at hm
      cases hm
    | succ n ih =>
      intro X w0 w1 w2 w3 v H locs ls hm hX hS hl hexit
      rw [L_ZoneNodesModel_size_26] at hm
      refine lv_iload_n hx hb d_ZoneNodesModel_size_26 rfl (lv_at hl 3 rfl) ?_
      refine lv_sipush (v := 256) hx hb d_ZoneNodesModel_size_27 (by decide) ?_
      refine lv_iload_n hx hb d_ZoneNodesModel_size_30 rfl (lv_at hl 1 rfl) ?_
      refine lv_imul hx hb d_ZoneNodesModel_size_31 ?_
      refine lv_sipush (v := 256) hx hb d_ZoneNodesModel_size_32 (by decide) ?_
      refine lv_iadd hx hb d_ZoneNodesModel_size_35 ?_
      refine lv_icmp_ge (tgt := 62) hx hb d_ZoneNodesModel_size_36 rfl (fun h9 => ?_) (fun h9 => ?_)
      · replace hm := zi_t h9 hm
        cases hm
        exact hexit _ _ _ hX hS (lv_sub hl [2] rfl)
      · replace hm := zi_f h9 hm
        refine lv_iload_n hx hb d_ZoneNodesModel_size_39 rfl (lv_at hl 2 rfl) ?_
        refine lv_aload_n hx hb d_ZoneNodesModel_size_40 rfl (lv_at hl 0 rfl) ?_
        replace hm := zb1_s hm
        obtain ⟨a11, h10, hm⟩ := hm
        refine zr_get (ci := 9) (C := R_ZoneNodesModel) (T := F_ZoneNodesModel) (N := 32) hx hb hts in_ZoneNodesModel hown hk hX rfl 7 (by decide) (hts _ tW446) rfl (zgr_v h10) d_ZoneNodesModel_size_41 ?_
        refine lv_iload_n hx hb d_ZoneNodesModel_size_44 rfl (lv_at hl 3 rfl) ?_
        replace hm := zb1_s hm
        obtain ⟨v12, h13, hm⟩ := hm
        refine zr_baload hx hb hk hX h13 d_ZoneNodesModel_size_45 ?_
        refine lv_if_eq (tgt := 53) hx hb d_ZoneNodesModel_size_46 rfl (fun h14 => ?_) (fun h14 => ?_)
        · replace hm := zi_t h14 hm
          refine lv_iconst (v := 0) hx hb d_ZoneNodesModel_size_53 (by decide) ?_
          refine lv_iadd hx hb d_ZoneNodesModel_size_54 ?_
          refine lv_istore_n (lv' := [(2, .int (w2 + 0)), (0, .ref w0), (1, .int w1), (3, .int w3)]) hx hb d_ZoneNodesModel_size_55 rfl hl (by decide) rfl (fun ls hl => ?_)
          refine lv_iinc (v := w3 + 1) (lv' := [(3, .int (w3 + 1)), (2, .int (w2 + 0)), (0, .ref w0), (1, .int w1)]) hx hb d_ZoneNodesModel_size_56 hl (k := 3) rfl (by rw [show Int32.ofInt 1 = 1 by decide]) (by decide) rfl (fun ls hl => ?_)
          refine lv_goto (tgt := 26) hx hb d_ZoneNodesModel_size_59 rfl ?_
          exact ih X w0 w1 (w2 + 0) (w3 + 1) v _ _ _ hm hX hS (lv_sub hl [2, 3, 1, 0] rfl) hexit
        · replace hm := zi_f h14 hm
          refine lv_iconst (v := 1) hx hb d_ZoneNodesModel_size_49 (by decide) ?_
          refine lv_goto (tgt := 54) hx hb d_ZoneNodesModel_size_50 rfl ?_
          refine lv_iadd hx hb d_ZoneNodesModel_size_54 ?_
          refine lv_istore_n (lv' := [(2, .int (w2 + 1)), (0, .ref w0), (1, .int w1), (3, .int w3)]) hx hb d_ZoneNodesModel_size_55 rfl hl (by decide) rfl (fun ls hl => ?_)
          refine lv_iinc (v := w3 + 1) (lv' := [(3, .int (w3 + 1)), (2, .int (w2 + 1)), (0, .ref w0), (1, .int w1)]) hx hb d_ZoneNodesModel_size_56 hl (k := 3) rfl (by rw [show Int32.ofInt 1 = 1 by decide]) (by decide) rfl (fun ls hl => ?_)
          refine lv_goto (tgt := 26) hx hb d_ZoneNodesModel_size_59 rfl ?_
          exact ih X w0 w1 (w2 + 1) (w3 + 1) v _ _ _ hm hX hS (lv_sub hl [2, 3, 1, 0] rfl) hexit
  refine lv_iload_n hx hb d_ZoneNodesModel_size_0 rfl (lv_at hl 1 rfl) ?_
  replace hm := zb1_s hm
  obtain ⟨v2, h1, hm⟩ := hm
  refine zr_calli (zr_runS (As := [.int x1]) (rest := []) (n := 1) hx hb hml hown hts hk hX (c_ZoneNodesModel_isNode l G N X x1 v2 h1) (hts _ tW493) tW494 (hts _ tW469) (hts _ tW495) (by decide +kernel) ⟨Nat.le_of_ble_eq_true rfl, Nat.le_of_ble_eq_true rfl⟩ rfl rfl hl.1 rfl (lv_room (Nat.le_of_ble_eq_true rfl)) d_ZoneNodesModel_size_1 ⟨(Nat.le_of_ble_eq_true rfl), (Nat.le_of_ble_eq_true rfl)⟩) hS (fun H locs hX hS => ?_)
  refine lv_if_eq (tgt := 16) hx hb d_ZoneNodesModel_size_4 rfl (fun h3 => ?_) (fun h3 => ?_)
  · replace hm := zi_t h3 hm
    refine lv_iconst (v := (-1)) hx hb d_ZoneNodesModel_size_16 (by decide) ?_
    cases hm
    exact W.iret hx hb hr (fun t ht hW => zh_end hk hX hS ht hW) hS.2.2 d_ZoneNodesModel_size_17
  · replace hm := zi_f h3 hm
    refine lv_aload_n hx hb d_ZoneNodesModel_size_7 rfl (lv_at hl 0 rfl) ?_
    replace hm := zb1_s hm
    obtain ⟨a5, h4, hm⟩ := hm
    refine zr_get (ci := 9) (C := R_ZoneNodesModel) (T := F_ZoneNodesModel) (N := 32) hx hb hts in_ZoneNodesModel hown hk hX rfl 5 (by decide) (hts _ tW444) rfl (zgr_v h4) d_ZoneNodesModel_size_8 ?_
    refine lv_iload_n hx hb d_ZoneNodesModel_size_11 rfl (lv_at hl 1 rfl) ?_
    replace hm := zb1_s hm
    obtain ⟨v6, h7, hm⟩ := hm
    refine zr_baload hx hb hk hX h7 d_ZoneNodesModel_size_12 ?_
    refine lv_if_ne (tgt := 18) hx hb d_ZoneNodesModel_size_13 rfl (fun h8 => ?_) (fun h8 => ?_)
    · replace hm := zi_f h8 hm
      refine lv_iconst (v := 0) hx hb d_ZoneNodesModel_size_18 (by decide) ?_
      refine lv_istore_n (lv' := [(2, .int 0), (0, .ref x0), (1, .int x1)]) hx hb d_ZoneNodesModel_size_19 rfl hl (by decide) rfl (fun ls hl => ?_)
      refine lv_sipush (v := 256) hx hb d_ZoneNodesModel_size_20 (by decide) ?_
      refine lv_iload_n hx hb d_ZoneNodesModel_size_23 rfl (lv_at hl 2 rfl) ?_
      refine lv_imul hx hb d_ZoneNodesModel_size_24 ?_
      refine lv_istore_n (lv' := [(3, .int (256 * x1)), (2, .int 0), (0, .ref x0), (1, .int x1)]) hx hb d_ZoneNodesModel_size_25 rfl hl (by decide) rfl (fun ls hl => ?_)
      replace hm := zb1_s hm
      obtain ⟨v15, h16, hm⟩ := hm
      refine hL26 N X x0 x1 0 (256 * x1) v15 _ _ _ h16 hX hS (lv_sub hl [2, 3, 1, 0] rfl) (fun H locs ls hX hS hl => ?_)
      refine lv_iload_n hx hb d_ZoneNodesModel_size_62 rfl (lv_at hl 0 rfl) ?_
      cases hm
      exact W.iret hx hb hr (fun t ht hW => zh_end hk hX hS ht hW) hS.2.2 d_ZoneNodesModel_size_63
    · replace hm := zi_t h8 hm
      refine lv_iconst (v := (-1)) hx hb d_ZoneNodesModel_size_16 (by decide) ?_
      cases hm
      exact W.iret hx hb hr (fun t ht hW => zh_end hk hX hS ht hW) hS.2.2 d_ZoneNodesModel_size_17
set_option maxHeartbeats 4000000 in
set_option maxRecDepth 100000 in
theorem c_ZoneNodesModel_state (l : Launch) (G : zh_G) (N : Nat) (X : zh_T) (x0 : Nat) (x1 : Int32) (r : Int32) (hm : f_ZoneNodesModel_state N X x0 x1 = some r) : zM l G y_ZoneNodesModel_state w_ZoneNodesModel_state 1 20 X [.ref x0, .int x1] (some (.int r)) X 0 0 := by
  refine zr_ofW (by decide) (by exact Nat.le_of_ble_eq_true rfl) ?_
  intro p e s m args below meth c ls hx hb hml hr hts hown hin hlocks hk hX hl
  have hS : va_S (zh_A G) s.heap s.heap [] := va_S.rf
  have hl : lv_has ls 2 [(0, .ref x0), (1, .int x1)] := hl
  have hown : s.vm.findClass R_ZoneNodesModel = some m.cls := hown
  unfold f_ZoneNodesModel_state at hm
  refine lv_iload_n hx hb d_ZoneNodesModel_state_0 rfl (lv_at hl 1 rfl) ?_
  replace hm := zb1_s hm
  obtain ⟨v2, h1, hm⟩ := hm
  refine zr_calli (zr_runS (As := [.int x1]) (rest := []) (n := 1) hx hb hml hown hts hk hX (c_ZoneNodesModel_isNode l G N X x1 v2 h1) (hts _ tW493) tW494 (hts _ tW469) (hts _ tW495) (by decide +kernel) ⟨Nat.le_of_ble_eq_true rfl, Nat.le_of_ble_eq_true rfl⟩ rfl rfl hl.1 rfl (lv_room (Nat.le_of_ble_eq_true rfl)) d_ZoneNodesModel_state_1 ⟨(Nat.le_of_ble_eq_true rfl), (Nat.le_of_ble_eq_true rfl)⟩) hS (fun H locs hX hS => ?_)
  refine lv_if_ne (tgt := 11) hx hb d_ZoneNodesModel_state_4 rfl (fun h3 => ?_) (fun h3 => ?_)
  · replace hm := zi_f h3 hm
    refine lv_aload_n hx hb d_ZoneNodesModel_state_11 rfl (lv_at hl 0 rfl) ?_
    replace hm := zb1_s hm
    obtain ⟨a5, h4, hm⟩ := hm
    refine zr_get (ci := 9) (C := R_ZoneNodesModel) (T := F_ZoneNodesModel) (N := 32) hx hb hts in_ZoneNodesModel hown hk hX rfl 4 (by decide) (hts _ tW443) rfl (zgr_v h4) d_ZoneNodesModel_state_12 ?_
    refine lv_iload_n hx hb d_ZoneNodesModel_state_15 rfl (lv_at hl 1 rfl) ?_
    replace hm := zb1_s hm
    obtain ⟨v6, h7, hm⟩ := hm
    refine zr_baload hx hb hk hX h7 d_ZoneNodesModel_state_16 ?_
    refine lv_if_ne (tgt := 24) hx hb d_ZoneNodesModel_state_17 rfl (fun h8 => ?_) (fun h8 => ?_)
    · replace hm := zi_f h8 hm
      refine lv_iload_n hx hb d_ZoneNodesModel_state_24 rfl (lv_at hl 1 rfl) ?_
      refine lv_if_ne (tgt := 32) hx hb d_ZoneNodesModel_state_25 rfl (fun h9 => ?_) (fun h9 => ?_)
      · replace hm := zi_f h9 hm
        refine lv_aload_n hx hb d_ZoneNodesModel_state_32 rfl (lv_at hl 0 rfl) ?_
        replace hm := zb1_s hm
        obtain ⟨a11, h10, hm⟩ := hm
        refine zr_get (ci := 9) (C := R_ZoneNodesModel) (T := F_ZoneNodesModel) (N := 32) hx hb hts in_ZoneNodesModel hown hk hX rfl 9 (by decide) (hts _ tW439) rfl (zgr_v h10) d_ZoneNodesModel_state_33 ?_
        refine lv_iload_n hx hb d_ZoneNodesModel_state_36 rfl (lv_at hl 1 rfl) ?_
        replace hm := zb1_s hm
        obtain ⟨v12, h13, hm⟩ := hm
        refine zr_iaload hx hb hk hX h13 d_ZoneNodesModel_state_37 ?_
        cases hm
        exact W.iret hx hb hr (fun t ht hW => zh_end hk hX hS ht hW) hS.2.2 d_ZoneNodesModel_state_38
      · replace hm := zi_t h9 hm
        refine lv_iconst (v := 0) hx hb d_ZoneNodesModel_state_28 (by decide) ?_
        refine lv_goto (tgt := 38) hx hb d_ZoneNodesModel_state_29 rfl ?_
        cases hm
        exact W.iret hx hb hr (fun t ht hW => zh_end hk hX hS ht hW) hS.2.2 d_ZoneNodesModel_state_38
    · replace hm := zi_t h8 hm
      refine lv_iconst (v := 3) hx hb d_ZoneNodesModel_state_20 (by decide) ?_
      refine lv_goto (tgt := 38) hx hb d_ZoneNodesModel_state_21 rfl ?_
      cases hm
      exact W.iret hx hb hr (fun t ht hW => zh_end hk hX hS ht hW) hS.2.2 d_ZoneNodesModel_state_38
  · replace hm := zi_t h3 hm
    refine lv_iconst (v := (-1)) hx hb d_ZoneNodesModel_state_7 (by decide) ?_
    refine lv_goto (tgt := 38) hx hb d_ZoneNodesModel_state_8 rfl ?_
    cases hm
    exact W.iret hx hb hr (fun t ht hW => zh_end hk hX hS ht hW) hS.2.2 d_ZoneNodesModel_state_38
set_option maxHeartbeats 4000000 in
set_option maxRecDepth 100000 in
theorem c_ZoneNodesModel_tick (l : Launch) (G : zh_G) (N : Nat) (X : zh_T) (x0 : Nat) (x1 : Int32) (r : Int32) (X' : zh_T) (hm : f_ZoneNodesModel_tick N X x0 x1 = some (r, X')) : zM l G y_ZoneNodesModel_tick w_ZoneNodesModel_tick 3 73 X [.ref x0, .int x1] (some (.int r)) X' 0 0 := by
  refine zr_ofW (by decide) (by exact Nat.le_of_ble_eq_true rfl) ?_
  intro p e s m args below meth c ls hx hb hml hr hts hown hin hlocks hk hX hl
  have hS : va_S (zh_A G) s.heap s.heap [] := va_S.rf
  have hl : lv_has ls 6 [(0, .ref x0), (1, .int x1)] := hl
  have hown : s.vm.findClass R_ZoneNodesModel = some m.cls := hown
  unfold f_ZoneNodesModel_tick at hm
  have hL32 : ∀ (n : Nat) (X : zh_T) (w0 : Nat) (w1 : Int32) (w2 : Int32) (w3 : Int32) (v : Unit) (X1 : zh_T) (H : Heap) (locs : List Loc) (ls : Array Slot), L_ZoneNodesModel_tick_32 N w0 w1 w2 n X w3 = some (v, X1) → zh_w G X H → va_S (zh_A G) s.heap H locs → lv_has ls 6 [(0, .ref w0), (1, .int w1), (2, .int w2), (3, .int w3)] → (∀ (H : Heap) (locs : List Loc) (ls : Array Slot), zh_w G X1 H → va_S (zh_A G) s.heap H locs → lv_has ls 6 [(0, .ref w0), (1, .int w1), (2, .int w2)] → W p l e { frames := 3, cells := 0, slots := 0, locals := 73 } s m args below meth c H locs 0 0 (MQ below (zh_Q G (some (.int r)) X') args s 0 0 (zh_A G)) (F0 m 131 ls [])) → W p l e { frames := 3, cells := 0, slots := 0, locals := 73 } s m args below meth c H locs 0 0 (MQ below (zh_Q G (some (.int r)) X') args s 0 0 (zh_A G)) (F0 m 32 ls []) := by
    intro n
    induction n with
    | zero =>
      intro X w0 w1 w2 w3 v X1 H locs ls hm hX hS hl hexit
      rw [L_ZoneNodesModel_tick_32] at hm
      cases hm
    | succ n ih =>
      intro X w0 w1 w2 w3 v X1 H locs ls hm hX hS hl hexit
      rw [L_ZoneNodesModel_tick_32] at hm
      refine lv_iload_n hx hb d_ZoneNodesModel_tick_32 rfl (lv_at hl 3 rfl) ?_
      refine lv_iconst (v := 2) hx hb d_ZoneNodesModel_tick_33 (by decide) ?_
      refine lv_icmp_gt (tgt := 131) hx hb d_ZoneNodesModel_tick_34 rfl (fun h8 => ?_) (fun h8 => ?_)
      · replace hm := zi_t h8 hm
        cases hm
        exact hexit _ _ _ hX hS (lv_sub hl [0, 1, 2] rfl)
      · replace hm := zi_f h8 hm
        refine lv_aload_n hx hb d_ZoneNodesModel_tick_37 rfl (lv_at hl 0 rfl) ?_
        replace hm := zb1_s hm
        obtain ⟨a10, h9, hm⟩ := hm
        refine zr_get (ci := 9) (C := R_ZoneNodesModel) (T := F_ZoneNodesModel) (N := 32) hx hb hts in_ZoneNodesModel hown hk hX rfl 9 (by decide) (hts _ tW439) rfl (zgr_v h9) d_ZoneNodesModel_tick_38 ?_
        refine lv_iload_n hx hb d_ZoneNodesModel_tick_41 rfl (lv_at hl 3 rfl) ?_
        replace hm := zb1_s hm
        obtain ⟨v11, h12, hm⟩ := hm
        refine zr_iaload hx hb hk hX h12 d_ZoneNodesModel_tick_42 ?_
        refine lv_iconst (v := 1) hx hb d_ZoneNodesModel_tick_43 (by decide) ?_
        refine lv_icmp_ne (tgt := 69) hx hb d_ZoneNodesModel_tick_44 rfl (fun h13 => ?_) (fun h13 => ?_)
        · replace hm := zi_f h13 hm
          refine lv_iconst (v := 0) hx hb d_ZoneNodesModel_tick_69 (by decide) ?_
          refine lv_istore (lv' := [(4, .int 0), (0, .ref w0), (1, .int w1), (2, .int w2), (3, .int w3)]) hx hb d_ZoneNodesModel_tick_70 hl (by decide) rfl (fun ls hl => ?_)
          refine lv_aload_n hx hb d_ZoneNodesModel_tick_72 rfl (lv_at hl 1 rfl) ?_
          replace hm := zb1_s hm
          obtain ⟨a15, h14, hm⟩ := hm
          refine zr_get (ci := 9) (C := R_ZoneNodesModel) (T := F_ZoneNodesModel) (N := 32) hx hb hts in_ZoneNodesModel hown hk hX rfl 9 (by decide) (hts _ tW439) rfl (zgr_v h14) d_ZoneNodesModel_tick_73 ?_
          refine lv_iload_n hx hb d_ZoneNodesModel_tick_76 rfl (lv_at hl 4 rfl) ?_
          replace hm := zb1_s hm
          obtain ⟨v16, h17, hm⟩ := hm
          refine zr_iaload hx hb hk hX h17 d_ZoneNodesModel_tick_77 ?_
          refine lv_if_ne (tgt := 98) hx hb d_ZoneNodesModel_tick_78 rfl (fun h18 => ?_) (fun h18 => ?_)
          · replace hm := zi_f h18 hm
            refine lv_iconst (v := 0) hx hb d_ZoneNodesModel_tick_98 (by decide) ?_
            refine lv_istore (lv' := [(5, .int 0), (4, .int 0), (0, .ref w0), (1, .int w1), (2, .int w2), (3, .int w3)]) hx hb d_ZoneNodesModel_tick_99 hl (by decide) rfl (fun ls hl => ?_)
            refine lv_aload_n hx hb d_ZoneNodesModel_tick_101 rfl (lv_at hl 2 rfl) ?_
            replace hm := zb1_s hm
            obtain ⟨a20, h19, hm⟩ := hm
            refine zr_get (ci := 9) (C := R_ZoneNodesModel) (T := F_ZoneNodesModel) (N := 32) hx hb hts in_ZoneNodesModel hown hk hX rfl 4 (by decide) (hts _ tW443) rfl (zgr_v h19) d_ZoneNodesModel_tick_102 ?_
            refine lv_iload_n hx hb d_ZoneNodesModel_tick_105 rfl (lv_at hl 5 rfl) ?_
            replace hm := zb1_s hm
            obtain ⟨v21, h22, hm⟩ := hm
            refine zr_baload hx hb hk hX h22 d_ZoneNodesModel_tick_106 ?_
            refine lv_if_eq (tgt := 125) hx hb d_ZoneNodesModel_tick_107 rfl (fun h23 => ?_) (fun h23 => ?_)
            · replace hm := zi_t h23 hm
              refine lv_iinc (v := w3 + 1) (lv' := [(3, .int (w3 + 1)), (5, .int 0), (4, .int 0), (0, .ref w0), (1, .int w1), (2, .int w2)]) hx hb d_ZoneNodesModel_tick_125 hl (k := 5) rfl (by rw [show Int32.ofInt 1 = 1 by decide]) (by decide) rfl (fun ls hl => ?_)
              refine lv_goto (tgt := 32) hx hb d_ZoneNodesModel_tick_128 rfl ?_
              exact ih X w0 w1 w2 (w3 + 1) v X1 _ _ _ hm hX hS (lv_sub hl [3, 4, 5, 0] rfl) hexit
            · replace hm := zi_f h23 hm
              refine lv_iload hx hb d_ZoneNodesModel_tick_110 (lv_at hl 1 rfl) ?_
              refine lv_if_ne (tgt := 120) hx hb d_ZoneNodesModel_tick_112 rfl (fun h => absurd h (by decide)) (fun _ => ?_)
              refine lv_iload hx hb d_ZoneNodesModel_tick_115 (lv_at hl 0 rfl) ?_
              refine lv_if_eq (tgt := 125) hx hb d_ZoneNodesModel_tick_117 rfl (fun _ => ?_) (fun h => absurd h (by decide))
              refine lv_iinc (v := w3 + 1) (lv' := [(3, .int (w3 + 1)), (5, .int 0), (4, .int 0), (0, .ref w0), (1, .int w1), (2, .int w2)]) hx hb d_ZoneNodesModel_tick_125 hl (k := 5) rfl (by rw [show Int32.ofInt 1 = 1 by decide]) (by decide) rfl (fun ls hl => ?_)
              refine lv_goto (tgt := 32) hx hb d_ZoneNodesModel_tick_128 rfl ?_
              exact ih X w0 w1 w2 (w3 + 1) v X1 _ _ _ hm hX hS (lv_sub hl [3, 4, 5, 0] rfl) hexit
          · replace hm := zi_t h18 hm
            refine lv_aload_n hx hb d_ZoneNodesModel_tick_81 rfl (lv_at hl 1 rfl) ?_
            replace hm := zb1_s hm
            obtain ⟨a25, h24, hm⟩ := hm
            refine zr_get (ci := 9) (C := R_ZoneNodesModel) (T := F_ZoneNodesModel) (N := 32) hx hb hts in_ZoneNodesModel hown hk hX rfl 10 (by decide) (hts _ tW440) rfl (zgr_v h24) d_ZoneNodesModel_tick_82 ?_
            refine lv_iload_n hx hb d_ZoneNodesModel_tick_85 rfl (lv_at hl 4 rfl) ?_
            replace hm := zb1_s hm
            obtain ⟨v26, h27, hm⟩ := hm
            refine zr_iaload hx hb hk hX h27 d_ZoneNodesModel_tick_86 ?_
            refine lv_aload_n hx hb d_ZoneNodesModel_tick_87 rfl (lv_at hl 1 rfl) ?_
            replace hm := zb1_s hm
            obtain ⟨v29, h28, hm⟩ := hm
            refine zr_get (ci := 9) (C := R_ZoneNodesModel) (T := F_ZoneNodesModel) (N := 32) hx hb hts in_ZoneNodesModel hown hk hX rfl 3 (by decide) (hts _ tW441) rfl (zgi_v h28) d_ZoneNodesModel_tick_88 ?_
            refine lv_icmp_gt (tgt := 98) hx hb d_ZoneNodesModel_tick_91 rfl (fun h30 => ?_) (fun h30 => ?_)
            · replace hm := zi_t h30 hm
              refine lv_iconst (v := 0) hx hb d_ZoneNodesModel_tick_98 (by decide) ?_
              refine lv_istore (lv' := [(5, .int 0), (4, .int 0), (0, .ref w0), (1, .int w1), (2, .int w2), (3, .int w3)]) hx hb d_ZoneNodesModel_tick_99 hl (by decide) rfl (fun ls hl => ?_)
              refine lv_aload_n hx hb d_ZoneNodesModel_tick_101 rfl (lv_at hl 2 rfl) ?_
              replace hm := zb1_s hm
              obtain ⟨a32, h31, hm⟩ := hm
              refine zr_get (ci := 9) (C := R_ZoneNodesModel) (T := F_ZoneNodesModel) (N := 32) hx hb hts in_ZoneNodesModel hown hk hX rfl 4 (by decide) (hts _ tW443) rfl (zgr_v h31) d_ZoneNodesModel_tick_102 ?_
              refine lv_iload_n hx hb d_ZoneNodesModel_tick_105 rfl (lv_at hl 5 rfl) ?_
              replace hm := zb1_s hm
              obtain ⟨v33, h34, hm⟩ := hm
              refine zr_baload hx hb hk hX h34 d_ZoneNodesModel_tick_106 ?_
              refine lv_if_eq (tgt := 125) hx hb d_ZoneNodesModel_tick_107 rfl (fun h35 => ?_) (fun h35 => ?_)
              · replace hm := zi_t h35 hm
                refine lv_iinc (v := w3 + 1) (lv' := [(3, .int (w3 + 1)), (5, .int 0), (4, .int 0), (0, .ref w0), (1, .int w1), (2, .int w2)]) hx hb d_ZoneNodesModel_tick_125 hl (k := 5) rfl (by rw [show Int32.ofInt 1 = 1 by decide]) (by decide) rfl (fun ls hl => ?_)
                refine lv_goto (tgt := 32) hx hb d_ZoneNodesModel_tick_128 rfl ?_
                exact ih X w0 w1 w2 (w3 + 1) v X1 _ _ _ hm hX hS (lv_sub hl [3, 4, 5, 0] rfl) hexit
              · replace hm := zi_f h35 hm
                refine lv_iload hx hb d_ZoneNodesModel_tick_110 (lv_at hl 1 rfl) ?_
                refine lv_if_ne (tgt := 120) hx hb d_ZoneNodesModel_tick_112 rfl (fun h => absurd h (by decide)) (fun _ => ?_)
                refine lv_iload hx hb d_ZoneNodesModel_tick_115 (lv_at hl 0 rfl) ?_
                refine lv_if_eq (tgt := 125) hx hb d_ZoneNodesModel_tick_117 rfl (fun _ => ?_) (fun h => absurd h (by decide))
                refine lv_iinc (v := w3 + 1) (lv' := [(3, .int (w3 + 1)), (5, .int 0), (4, .int 0), (0, .ref w0), (1, .int w1), (2, .int w2)]) hx hb d_ZoneNodesModel_tick_125 hl (k := 5) rfl (by rw [show Int32.ofInt 1 = 1 by decide]) (by decide) rfl (fun ls hl => ?_)
                refine lv_goto (tgt := 32) hx hb d_ZoneNodesModel_tick_128 rfl ?_
                exact ih X w0 w1 w2 (w3 + 1) v X1 _ _ _ hm hX hS (lv_sub hl [3, 4, 5, 0] rfl) hexit
            · replace hm := zi_f h30 hm
              refine lv_iconst (v := 1) hx hb d_ZoneNodesModel_tick_94 (by decide) ?_
              refine lv_goto (tgt := 99) hx hb d_ZoneNodesModel_tick_95 rfl ?_
              refine lv_istore (lv' := [(5, .int 1), (4, .int 0), (0, .ref w0), (1, .int w1), (2, .int w2), (3, .int w3)]) hx hb d_ZoneNodesModel_tick_99 hl (by decide) rfl (fun ls hl => ?_)
              refine lv_aload_n hx hb d_ZoneNodesModel_tick_101 rfl (lv_at hl 2 rfl) ?_
              replace hm := zb1_s hm
              obtain ⟨a37, h36, hm⟩ := hm
              refine zr_get (ci := 9) (C := R_ZoneNodesModel) (T := F_ZoneNodesModel) (N := 32) hx hb hts in_ZoneNodesModel hown hk hX rfl 4 (by decide) (hts _ tW443) rfl (zgr_v h36) d_ZoneNodesModel_tick_102 ?_
              refine lv_iload_n hx hb d_ZoneNodesModel_tick_105 rfl (lv_at hl 5 rfl) ?_
              replace hm := zb1_s hm
              obtain ⟨v38, h39, hm⟩ := hm
              refine zr_baload hx hb hk hX h39 d_ZoneNodesModel_tick_106 ?_
              refine lv_if_eq (tgt := 125) hx hb d_ZoneNodesModel_tick_107 rfl (fun h40 => ?_) (fun h40 => ?_)
              · replace hm := zi_t h40 hm
                refine lv_iinc (v := w3 + 1) (lv' := [(3, .int (w3 + 1)), (5, .int 1), (4, .int 0), (0, .ref w0), (1, .int w1), (2, .int w2)]) hx hb d_ZoneNodesModel_tick_125 hl (k := 5) rfl (by rw [show Int32.ofInt 1 = 1 by decide]) (by decide) rfl (fun ls hl => ?_)
                refine lv_goto (tgt := 32) hx hb d_ZoneNodesModel_tick_128 rfl ?_
                exact ih X w0 w1 w2 (w3 + 1) v X1 _ _ _ hm hX hS (lv_sub hl [3, 4, 5, 0] rfl) hexit
              · replace hm := zi_f h40 hm
                refine lv_iload hx hb d_ZoneNodesModel_tick_110 (lv_at hl 1 rfl) ?_
                refine lv_if_ne (tgt := 120) hx hb d_ZoneNodesModel_tick_112 rfl (fun h => absurd h (by decide)) (fun _ => ?_)
                refine lv_iload hx hb d_ZoneNodesModel_tick_115 (lv_at hl 0 rfl) ?_
                refine lv_if_eq (tgt := 125) hx hb d_ZoneNodesModel_tick_117 rfl (fun h => absurd h (by decide)) (fun _ => ?_)
                refine lv_aload_n hx hb d_ZoneNodesModel_tick_120 rfl (lv_at hl 2 rfl) ?_
                refine lv_iload_n hx hb d_ZoneNodesModel_tick_121 rfl (lv_at hl 5 rfl) ?_
                replace hm := zb1_s hm
                obtain ⟨_, h42, hm⟩ := hm
                replace hm := zb2_s hm
                obtain ⟨v43, X44, h41, hm⟩ := hm
                refine zr_callv (zr_runV (As := [.int w3]) (rest := []) (n := 1) hx hb hml hown hts hk hX (c_ZoneNodesModel_ask l G N X w0 w3 v43 X44 h41) (hts _ tW533) tW534 (hts _ tW469) (hts _ tW535) (hts _ tW536) rfl h42 (by decide +kernel) ⟨Nat.le_of_ble_eq_true rfl, Nat.le_of_ble_eq_true rfl⟩ rfl rfl hl.1 rfl (lv_room (Nat.le_of_ble_eq_true rfl)) d_ZoneNodesModel_tick_122 ⟨(Nat.le_of_ble_eq_true rfl), (Nat.le_of_ble_eq_true rfl)⟩) hS (fun H locs hX hS => ?_)
                refine lv_iinc (v := w3 + 1) (lv' := [(3, .int (w3 + 1)), (5, .int 1), (4, .int 0), (0, .ref w0), (1, .int w1), (2, .int w2)]) hx hb d_ZoneNodesModel_tick_125 hl (k := 5) rfl (by rw [show Int32.ofInt 1 = 1 by decide]) (by decide) rfl (fun ls hl => ?_)
                refine lv_goto (tgt := 32) hx hb d_ZoneNodesModel_tick_128 rfl ?_
                exact ih X44 w0 w1 w2 (w3 + 1) v X1 _ _ _ hm hX hS (lv_sub hl [3, 4, 5, 0] rfl) hexit
        · replace hm := zi_t h13 hm
          refine lv_aload_n hx hb d_ZoneNodesModel_tick_47 rfl (lv_at hl 0 rfl) ?_
          replace hm := zb1_s hm
          obtain ⟨a46, h45, hm⟩ := hm
          refine zr_get (ci := 9) (C := R_ZoneNodesModel) (T := F_ZoneNodesModel) (N := 32) hx hb hts in_ZoneNodesModel hown hk hX rfl 10 (by decide) (hts _ tW440) rfl (zgr_v h45) d_ZoneNodesModel_tick_48 ?_
          refine lv_iload_n hx hb d_ZoneNodesModel_tick_51 rfl (lv_at hl 3 rfl) ?_
          replace hm := zb1_s hm
          obtain ⟨v47, h48, hm⟩ := hm
          refine zr_iaload hx hb hk hX h48 d_ZoneNodesModel_tick_52 ?_
          refine lv_aload_n hx hb d_ZoneNodesModel_tick_53 rfl (lv_at hl 0 rfl) ?_
          replace hm := zb1_s hm
          obtain ⟨v50, h49, hm⟩ := hm
          refine zr_get (ci := 9) (C := R_ZoneNodesModel) (T := F_ZoneNodesModel) (N := 32) hx hb hts in_ZoneNodesModel hown hk hX rfl 3 (by decide) (hts _ tW441) rfl (zgi_v h49) d_ZoneNodesModel_tick_54 ?_
          refine lv_aload_n hx hb d_ZoneNodesModel_tick_57 rfl (lv_at hl 0 rfl) ?_
          replace hm := zb1_s hm
          obtain ⟨v52, h51, hm⟩ := hm
          refine zr_get (ci := 9) (C := R_ZoneNodesModel) (T := F_ZoneNodesModel) (N := 32) hx hb hts in_ZoneNodesModel hown hk hX rfl 1 (by decide) (hts _ tW465) rfl (zgi_v h51) d_ZoneNodesModel_tick_58 ?_
          refine lv_isub hx hb d_ZoneNodesModel_tick_61 ?_
          refine lv_icmp_gt (tgt := 69) hx hb d_ZoneNodesModel_tick_62 rfl (fun h53 => ?_) (fun h53 => ?_)
          · replace hm := zi_t h53 hm
            refine lv_iconst (v := 0) hx hb d_ZoneNodesModel_tick_69 (by decide) ?_
            refine lv_istore (lv' := [(4, .int 0), (0, .ref w0), (1, .int w1), (2, .int w2), (3, .int w3)]) hx hb d_ZoneNodesModel_tick_70 hl (by decide) rfl (fun ls hl => ?_)
            refine lv_aload_n hx hb d_ZoneNodesModel_tick_72 rfl (lv_at hl 1 rfl) ?_
            replace hm := zb1_s hm
            obtain ⟨a55, h54, hm⟩ := hm
            refine zr_get (ci := 9) (C := R_ZoneNodesModel) (T := F_ZoneNodesModel) (N := 32) hx hb hts in_ZoneNodesModel hown hk hX rfl 9 (by decide) (hts _ tW439) rfl (zgr_v h54) d_ZoneNodesModel_tick_73 ?_
            refine lv_iload_n hx hb d_ZoneNodesModel_tick_76 rfl (lv_at hl 4 rfl) ?_
            replace hm := zb1_s hm
            obtain ⟨v56, h57, hm⟩ := hm
            refine zr_iaload hx hb hk hX h57 d_ZoneNodesModel_tick_77 ?_
            refine lv_if_ne (tgt := 98) hx hb d_ZoneNodesModel_tick_78 rfl (fun h58 => ?_) (fun h58 => ?_)
            · replace hm := zi_f h58 hm
              refine lv_iconst (v := 0) hx hb d_ZoneNodesModel_tick_98 (by decide) ?_
              refine lv_istore (lv' := [(5, .int 0), (4, .int 0), (0, .ref w0), (1, .int w1), (2, .int w2), (3, .int w3)]) hx hb d_ZoneNodesModel_tick_99 hl (by decide) rfl (fun ls hl => ?_)
              refine lv_aload_n hx hb d_ZoneNodesModel_tick_101 rfl (lv_at hl 2 rfl) ?_
              replace hm := zb1_s hm
              obtain ⟨a60, h59, hm⟩ := hm
              refine zr_get (ci := 9) (C := R_ZoneNodesModel) (T := F_ZoneNodesModel) (N := 32) hx hb hts in_ZoneNodesModel hown hk hX rfl 4 (by decide) (hts _ tW443) rfl (zgr_v h59) d_ZoneNodesModel_tick_102 ?_
              refine lv_iload_n hx hb d_ZoneNodesModel_tick_105 rfl (lv_at hl 5 rfl) ?_
              replace hm := zb1_s hm
              obtain ⟨v61, h62, hm⟩ := hm
              refine zr_baload hx hb hk hX h62 d_ZoneNodesModel_tick_106 ?_
              refine lv_if_eq (tgt := 125) hx hb d_ZoneNodesModel_tick_107 rfl (fun h63 => ?_) (fun h63 => ?_)
              · replace hm := zi_t h63 hm
                refine lv_iinc (v := w3 + 1) (lv' := [(3, .int (w3 + 1)), (5, .int 0), (4, .int 0), (0, .ref w0), (1, .int w1), (2, .int w2)]) hx hb d_ZoneNodesModel_tick_125 hl (k := 5) rfl (by rw [show Int32.ofInt 1 = 1 by decide]) (by decide) rfl (fun ls hl => ?_)
                refine lv_goto (tgt := 32) hx hb d_ZoneNodesModel_tick_128 rfl ?_
                exact ih X w0 w1 w2 (w3 + 1) v X1 _ _ _ hm hX hS (lv_sub hl [3, 4, 5, 0] rfl) hexit
              · replace hm := zi_f h63 hm
                refine lv_iload hx hb d_ZoneNodesModel_tick_110 (lv_at hl 1 rfl) ?_
                refine lv_if_ne (tgt := 120) hx hb d_ZoneNodesModel_tick_112 rfl (fun h => absurd h (by decide)) (fun _ => ?_)
                refine lv_iload hx hb d_ZoneNodesModel_tick_115 (lv_at hl 0 rfl) ?_
                refine lv_if_eq (tgt := 125) hx hb d_ZoneNodesModel_tick_117 rfl (fun _ => ?_) (fun h => absurd h (by decide))
                refine lv_iinc (v := w3 + 1) (lv' := [(3, .int (w3 + 1)), (5, .int 0), (4, .int 0), (0, .ref w0), (1, .int w1), (2, .int w2)]) hx hb d_ZoneNodesModel_tick_125 hl (k := 5) rfl (by rw [show Int32.ofInt 1 = 1 by decide]) (by decide) rfl (fun ls hl => ?_)
                refine lv_goto (tgt := 32) hx hb d_ZoneNodesModel_tick_128 rfl ?_
                exact ih X w0 w1 w2 (w3 + 1) v X1 _ _ _ hm hX hS (lv_sub hl [3, 4, 5, 0] rfl) hexit
            · replace hm := zi_t h58 hm
              refine lv_aload_n hx hb d_ZoneNodesModel_tick_81 rfl (lv_at hl 1 rfl) ?_
              replace hm := zb1_s hm
              obtain ⟨a65, h64, hm⟩ := hm
              refine zr_get (ci := 9) (C := R_ZoneNodesModel) (T := F_ZoneNodesModel) (N := 32) hx hb hts in_ZoneNodesModel hown hk hX rfl 10 (by decide) (hts _ tW440) rfl (zgr_v h64) d_ZoneNodesModel_tick_82 ?_
              refine lv_iload_n hx hb d_ZoneNodesModel_tick_85 rfl (lv_at hl 4 rfl) ?_
              replace hm := zb1_s hm
              obtain ⟨v66, h67, hm⟩ := hm
              refine zr_iaload hx hb hk hX h67 d_ZoneNodesModel_tick_86 ?_
              refine lv_aload_n hx hb d_ZoneNodesModel_tick_87 rfl (lv_at hl 1 rfl) ?_
              replace hm := zb1_s hm
              obtain ⟨v69, h68, hm⟩ := hm
              refine zr_get (ci := 9) (C := R_ZoneNodesModel) (T := F_ZoneNodesModel) (N := 32) hx hb hts in_ZoneNodesModel hown hk hX rfl 3 (by decide) (hts _ tW441) rfl (zgi_v h68) d_ZoneNodesModel_tick_88 ?_
              refine lv_icmp_gt (tgt := 98) hx hb d_ZoneNodesModel_tick_91 rfl (fun h70 => ?_) (fun h70 => ?_)
              · replace hm := zi_t h70 hm
                refine lv_iconst (v := 0) hx hb d_ZoneNodesModel_tick_98 (by decide) ?_
                refine lv_istore (lv' := [(5, .int 0), (4, .int 0), (0, .ref w0), (1, .int w1), (2, .int w2), (3, .int w3)]) hx hb d_ZoneNodesModel_tick_99 hl (by decide) rfl (fun ls hl => ?_)
                refine lv_aload_n hx hb d_ZoneNodesModel_tick_101 rfl (lv_at hl 2 rfl) ?_
                replace hm := zb1_s hm
                obtain ⟨a72, h71, hm⟩ := hm
                refine zr_get (ci := 9) (C := R_ZoneNodesModel) (T := F_ZoneNodesModel) (N := 32) hx hb hts in_ZoneNodesModel hown hk hX rfl 4 (by decide) (hts _ tW443) rfl (zgr_v h71) d_ZoneNodesModel_tick_102 ?_
                refine lv_iload_n hx hb d_ZoneNodesModel_tick_105 rfl (lv_at hl 5 rfl) ?_
                replace hm := zb1_s hm
                obtain ⟨v73, h74, hm⟩ := hm
                refine zr_baload hx hb hk hX h74 d_ZoneNodesModel_tick_106 ?_
                refine lv_if_eq (tgt := 125) hx hb d_ZoneNodesModel_tick_107 rfl (fun h75 => ?_) (fun h75 => ?_)
                · replace hm := zi_t h75 hm
                  refine lv_iinc (v := w3 + 1) (lv' := [(3, .int (w3 + 1)), (5, .int 0), (4, .int 0), (0, .ref w0), (1, .int w1), (2, .int w2)]) hx hb d_ZoneNodesModel_tick_125 hl (k := 5) rfl (by rw [show Int32.ofInt 1 = 1 by decide]) (by decide) rfl (fun ls hl => ?_)
                  refine lv_goto (tgt := 32) hx hb d_ZoneNodesModel_tick_128 rfl ?_
                  exact ih X w0 w1 w2 (w3 + 1) v X1 _ _ _ hm hX hS (lv_sub hl [3, 4, 5, 0] rfl) hexit
                · replace hm := zi_f h75 hm
                  refine lv_iload hx hb d_ZoneNodesModel_tick_110 (lv_at hl 1 rfl) ?_
                  refine lv_if_ne (tgt := 120) hx hb d_ZoneNodesModel_tick_112 rfl (fun h => absurd h (by decide)) (fun _ => ?_)
                  refine lv_iload hx hb d_ZoneNodesModel_tick_115 (lv_at hl 0 rfl) ?_
                  refine lv_if_eq (tgt := 125) hx hb d_ZoneNodesModel_tick_117 rfl (fun _ => ?_) (fun h => absurd h (by decide))
                  refine lv_iinc (v := w3 + 1) (lv' := [(3, .int (w3 + 1)), (5, .int 0), (4, .int 0), (0, .ref w0), (1, .int w1), (2, .int w2)]) hx hb d_ZoneNodesModel_tick_125 hl (k := 5) rfl (by rw [show Int32.ofInt 1 = 1 by decide]) (by decide) rfl (fun ls hl => ?_)
                  refine lv_goto (tgt := 32) hx hb d_ZoneNodesModel_tick_128 rfl ?_
                  exact ih X w0 w1 w2 (w3 + 1) v X1 _ _ _ hm hX hS (lv_sub hl [3, 4, 5, 0] rfl) hexit
              · replace hm := zi_f h70 hm
                refine lv_iconst (v := 1) hx hb d_ZoneNodesModel_tick_94 (by decide) ?_
                refine lv_goto (tgt := 99) hx hb d_ZoneNodesModel_tick_95 rfl ?_
                refine lv_istore (lv' := [(5, .int 1), (4, .int 0), (0, .ref w0), (1, .int w1), (2, .int w2), (3, .int w3)]) hx hb d_ZoneNodesModel_tick_99 hl (by decide) rfl (fun ls hl => ?_)
                refine lv_aload_n hx hb d_ZoneNodesModel_tick_101 rfl (lv_at hl 2 rfl) ?_
                replace hm := zb1_s hm
                obtain ⟨a77, h76, hm⟩ := hm
                refine zr_get (ci := 9) (C := R_ZoneNodesModel) (T := F_ZoneNodesModel) (N := 32) hx hb hts in_ZoneNodesModel hown hk hX rfl 4 (by decide) (hts _ tW443) rfl (zgr_v h76) d_ZoneNodesModel_tick_102 ?_
                refine lv_iload_n hx hb d_ZoneNodesModel_tick_105 rfl (lv_at hl 5 rfl) ?_
                replace hm := zb1_s hm
                obtain ⟨v78, h79, hm⟩ := hm
                refine zr_baload hx hb hk hX h79 d_ZoneNodesModel_tick_106 ?_
                refine lv_if_eq (tgt := 125) hx hb d_ZoneNodesModel_tick_107 rfl (fun h80 => ?_) (fun h80 => ?_)
                · replace hm := zi_t h80 hm
                  refine lv_iinc (v := w3 + 1) (lv' := [(3, .int (w3 + 1)), (5, .int 1), (4, .int 0), (0, .ref w0), (1, .int w1), (2, .int w2)]) hx hb d_ZoneNodesModel_tick_125 hl (k := 5) rfl (by rw [show Int32.ofInt 1 = 1 by decide]) (by decide) rfl (fun ls hl => ?_)
                  refine lv_goto (tgt := 32) hx hb d_ZoneNodesModel_tick_128 rfl ?_
                  exact ih X w0 w1 w2 (w3 + 1) v X1 _ _ _ hm hX hS (lv_sub hl [3, 4, 5, 0] rfl) hexit
                · replace hm := zi_f h80 hm
                  refine lv_iload hx hb d_ZoneNodesModel_tick_110 (lv_at hl 1 rfl) ?_
                  refine lv_if_ne (tgt := 120) hx hb d_ZoneNodesModel_tick_112 rfl (fun h => absurd h (by decide)) (fun _ => ?_)
                  refine lv_iload hx hb d_ZoneNodesModel_tick_115 (lv_at hl 0 rfl) ?_
                  refine lv_if_eq (tgt := 125) hx hb d_ZoneNodesModel_tick_117 rfl (fun h => absurd h (by decide)) (fun _ => ?_)
                  refine lv_aload_n hx hb d_ZoneNodesModel_tick_120 rfl (lv_at hl 2 rfl) ?_
                  refine lv_iload_n hx hb d_ZoneNodesModel_tick_121 rfl (lv_at hl 5 rfl) ?_
                  replace hm := zb1_s hm
                  obtain ⟨_, h82, hm⟩ := hm
                  replace hm := zb2_s hm
                  obtain ⟨v83, X84, h81, hm⟩ := hm
                  refine zr_callv (zr_runV (As := [.int w3]) (rest := []) (n := 1) hx hb hml hown hts hk hX (c_ZoneNodesModel_ask l G N X w0 w3 v83 X84 h81) (hts _ tW533) tW534 (hts _ tW469) (hts _ tW535) (hts _ tW536) rfl h82 (by decide +kernel) ⟨Nat.le_of_ble_eq_true rfl, Nat.le_of_ble_eq_true rfl⟩ rfl rfl hl.1 rfl (lv_room (Nat.le_of_ble_eq_true rfl)) d_ZoneNodesModel_tick_122 ⟨(Nat.le_of_ble_eq_true rfl), (Nat.le_of_ble_eq_true rfl)⟩) hS (fun H locs hX hS => ?_)
                  refine lv_iinc (v := w3 + 1) (lv' := [(3, .int (w3 + 1)), (5, .int 1), (4, .int 0), (0, .ref w0), (1, .int w1), (2, .int w2)]) hx hb d_ZoneNodesModel_tick_125 hl (k := 5) rfl (by rw [show Int32.ofInt 1 = 1 by decide]) (by decide) rfl (fun ls hl => ?_)
                  refine lv_goto (tgt := 32) hx hb d_ZoneNodesModel_tick_128 rfl ?_
                  exact ih X84 w0 w1 w2 (w3 + 1) v X1 _ _ _ hm hX hS (lv_sub hl [3, 4, 5, 0] rfl) hexit
          · replace hm := zi_f h53 hm
            refine lv_iconst (v := 1) hx hb d_ZoneNodesModel_tick_65 (by decide) ?_
            refine lv_goto (tgt := 70) hx hb d_ZoneNodesModel_tick_66 rfl ?_
            refine lv_istore (lv' := [(4, .int 1), (0, .ref w0), (1, .int w1), (2, .int w2), (3, .int w3)]) hx hb d_ZoneNodesModel_tick_70 hl (by decide) rfl (fun ls hl => ?_)
            refine lv_aload_n hx hb d_ZoneNodesModel_tick_72 rfl (lv_at hl 1 rfl) ?_
            replace hm := zb1_s hm
            obtain ⟨a86, h85, hm⟩ := hm
            refine zr_get (ci := 9) (C := R_ZoneNodesModel) (T := F_ZoneNodesModel) (N := 32) hx hb hts in_ZoneNodesModel hown hk hX rfl 9 (by decide) (hts _ tW439) rfl (zgr_v h85) d_ZoneNodesModel_tick_73 ?_
            refine lv_iload_n hx hb d_ZoneNodesModel_tick_76 rfl (lv_at hl 4 rfl) ?_
            replace hm := zb1_s hm
            obtain ⟨v87, h88, hm⟩ := hm
            refine zr_iaload hx hb hk hX h88 d_ZoneNodesModel_tick_77 ?_
            refine lv_if_ne (tgt := 98) hx hb d_ZoneNodesModel_tick_78 rfl (fun h89 => ?_) (fun h89 => ?_)
            · replace hm := zi_f h89 hm
              refine lv_iconst (v := 0) hx hb d_ZoneNodesModel_tick_98 (by decide) ?_
              refine lv_istore (lv' := [(5, .int 0), (4, .int 1), (0, .ref w0), (1, .int w1), (2, .int w2), (3, .int w3)]) hx hb d_ZoneNodesModel_tick_99 hl (by decide) rfl (fun ls hl => ?_)
              refine lv_aload_n hx hb d_ZoneNodesModel_tick_101 rfl (lv_at hl 2 rfl) ?_
              replace hm := zb1_s hm
              obtain ⟨a91, h90, hm⟩ := hm
              refine zr_get (ci := 9) (C := R_ZoneNodesModel) (T := F_ZoneNodesModel) (N := 32) hx hb hts in_ZoneNodesModel hown hk hX rfl 4 (by decide) (hts _ tW443) rfl (zgr_v h90) d_ZoneNodesModel_tick_102 ?_
              refine lv_iload_n hx hb d_ZoneNodesModel_tick_105 rfl (lv_at hl 5 rfl) ?_
              replace hm := zb1_s hm
              obtain ⟨v92, h93, hm⟩ := hm
              refine zr_baload hx hb hk hX h93 d_ZoneNodesModel_tick_106 ?_
              refine lv_if_eq (tgt := 125) hx hb d_ZoneNodesModel_tick_107 rfl (fun h94 => ?_) (fun h94 => ?_)
              · replace hm := zi_t h94 hm
                refine lv_iinc (v := w3 + 1) (lv' := [(3, .int (w3 + 1)), (5, .int 0), (4, .int 1), (0, .ref w0), (1, .int w1), (2, .int w2)]) hx hb d_ZoneNodesModel_tick_125 hl (k := 5) rfl (by rw [show Int32.ofInt 1 = 1 by decide]) (by decide) rfl (fun ls hl => ?_)
                refine lv_goto (tgt := 32) hx hb d_ZoneNodesModel_tick_128 rfl ?_
                exact ih X w0 w1 w2 (w3 + 1) v X1 _ _ _ hm hX hS (lv_sub hl [3, 4, 5, 0] rfl) hexit
              · replace hm := zi_f h94 hm
                refine lv_iload hx hb d_ZoneNodesModel_tick_110 (lv_at hl 1 rfl) ?_
                refine lv_if_ne (tgt := 120) hx hb d_ZoneNodesModel_tick_112 rfl (fun _ => ?_) (fun h => absurd h (by decide))
                refine lv_aload_n hx hb d_ZoneNodesModel_tick_120 rfl (lv_at hl 2 rfl) ?_
                refine lv_iload_n hx hb d_ZoneNodesModel_tick_121 rfl (lv_at hl 5 rfl) ?_
                replace hm := zb1_s hm
                obtain ⟨_, h96, hm⟩ := hm
                replace hm := zb2_s hm
                obtain ⟨v97, X98, h95, hm⟩ := hm
                refine zr_callv (zr_runV (As := [.int w3]) (rest := []) (n := 1) hx hb hml hown hts hk hX (c_ZoneNodesModel_ask l G N X w0 w3 v97 X98 h95) (hts _ tW533) tW534 (hts _ tW469) (hts _ tW535) (hts _ tW536) rfl h96 (by decide +kernel) ⟨Nat.le_of_ble_eq_true rfl, Nat.le_of_ble_eq_true rfl⟩ rfl rfl hl.1 rfl (lv_room (Nat.le_of_ble_eq_true rfl)) d_ZoneNodesModel_tick_122 ⟨(Nat.le_of_ble_eq_true rfl), (Nat.le_of_ble_eq_true rfl)⟩) hS (fun H locs hX hS => ?_)
                refine lv_iinc (v := w3 + 1) (lv' := [(3, .int (w3 + 1)), (5, .int 0), (4, .int 1), (0, .ref w0), (1, .int w1), (2, .int w2)]) hx hb d_ZoneNodesModel_tick_125 hl (k := 5) rfl (by rw [show Int32.ofInt 1 = 1 by decide]) (by decide) rfl (fun ls hl => ?_)
                refine lv_goto (tgt := 32) hx hb d_ZoneNodesModel_tick_128 rfl ?_
                exact ih X98 w0 w1 w2 (w3 + 1) v X1 _ _ _ hm hX hS (lv_sub hl [3, 4, 5, 0] rfl) hexit
            · replace hm := zi_t h89 hm
              refine lv_aload_n hx hb d_ZoneNodesModel_tick_81 rfl (lv_at hl 1 rfl) ?_
              replace hm := zb1_s hm
              obtain ⟨a100, h99, hm⟩ := hm
              refine zr_get (ci := 9) (C := R_ZoneNodesModel) (T := F_ZoneNodesModel) (N := 32) hx hb hts in_ZoneNodesModel hown hk hX rfl 10 (by decide) (hts _ tW440) rfl (zgr_v h99) d_ZoneNodesModel_tick_82 ?_
              refine lv_iload_n hx hb d_ZoneNodesModel_tick_85 rfl (lv_at hl 4 rfl) ?_
              replace hm := zb1_s hm
              obtain ⟨v101, h102, hm⟩ := hm
              refine zr_iaload hx hb hk hX h102 d_ZoneNodesModel_tick_86 ?_
              refine lv_aload_n hx hb d_ZoneNodesModel_tick_87 rfl (lv_at hl 1 rfl) ?_
              replace hm := zb1_s hm
              obtain ⟨v104, h103, hm⟩ := hm
              refine zr_get (ci := 9) (C := R_ZoneNodesModel) (T := F_ZoneNodesModel) (N := 32) hx hb hts in_ZoneNodesModel hown hk hX rfl 3 (by decide) (hts _ tW441) rfl (zgi_v h103) d_ZoneNodesModel_tick_88 ?_
              refine lv_icmp_gt (tgt := 98) hx hb d_ZoneNodesModel_tick_91 rfl (fun h105 => ?_) (fun h105 => ?_)
              · replace hm := zi_t h105 hm
                refine lv_iconst (v := 0) hx hb d_ZoneNodesModel_tick_98 (by decide) ?_
                refine lv_istore (lv' := [(5, .int 0), (4, .int 1), (0, .ref w0), (1, .int w1), (2, .int w2), (3, .int w3)]) hx hb d_ZoneNodesModel_tick_99 hl (by decide) rfl (fun ls hl => ?_)
                refine lv_aload_n hx hb d_ZoneNodesModel_tick_101 rfl (lv_at hl 2 rfl) ?_
                replace hm := zb1_s hm
                obtain ⟨a107, h106, hm⟩ := hm
                refine zr_get (ci := 9) (C := R_ZoneNodesModel) (T := F_ZoneNodesModel) (N := 32) hx hb hts in_ZoneNodesModel hown hk hX rfl 4 (by decide) (hts _ tW443) rfl (zgr_v h106) d_ZoneNodesModel_tick_102 ?_
                refine lv_iload_n hx hb d_ZoneNodesModel_tick_105 rfl (lv_at hl 5 rfl) ?_
                replace hm := zb1_s hm
                obtain ⟨v108, h109, hm⟩ := hm
                refine zr_baload hx hb hk hX h109 d_ZoneNodesModel_tick_106 ?_
                refine lv_if_eq (tgt := 125) hx hb d_ZoneNodesModel_tick_107 rfl (fun h110 => ?_) (fun h110 => ?_)
                · replace hm := zi_t h110 hm
                  refine lv_iinc (v := w3 + 1) (lv' := [(3, .int (w3 + 1)), (5, .int 0), (4, .int 1), (0, .ref w0), (1, .int w1), (2, .int w2)]) hx hb d_ZoneNodesModel_tick_125 hl (k := 5) rfl (by rw [show Int32.ofInt 1 = 1 by decide]) (by decide) rfl (fun ls hl => ?_)
                  refine lv_goto (tgt := 32) hx hb d_ZoneNodesModel_tick_128 rfl ?_
                  exact ih X w0 w1 w2 (w3 + 1) v X1 _ _ _ hm hX hS (lv_sub hl [3, 4, 5, 0] rfl) hexit
                · replace hm := zi_f h110 hm
                  refine lv_iload hx hb d_ZoneNodesModel_tick_110 (lv_at hl 1 rfl) ?_
                  refine lv_if_ne (tgt := 120) hx hb d_ZoneNodesModel_tick_112 rfl (fun _ => ?_) (fun h => absurd h (by decide))
                  refine lv_aload_n hx hb d_ZoneNodesModel_tick_120 rfl (lv_at hl 2 rfl) ?_
                  refine lv_iload_n hx hb d_ZoneNodesModel_tick_121 rfl (lv_at hl 5 rfl) ?_
                  replace hm := zb1_s hm
                  obtain ⟨_, h112, hm⟩ := hm
                  replace hm := zb2_s hm
                  obtain ⟨v113, X114, h111, hm⟩ := hm
                  refine zr_callv (zr_runV (As := [.int w3]) (rest := []) (n := 1) hx hb hml hown hts hk hX (c_ZoneNodesModel_ask l G N X w0 w3 v113 X114 h111) (hts _ tW533) tW534 (hts _ tW469) (hts _ tW535) (hts _ tW536) rfl h112 (by decide +kernel) ⟨Nat.le_of_ble_eq_true rfl, Nat.le_of_ble_eq_true rfl⟩ rfl rfl hl.1 rfl (lv_room (Nat.le_of_ble_eq_true rfl)) d_ZoneNodesModel_tick_122 ⟨(Nat.le_of_ble_eq_true rfl), (Nat.le_of_ble_eq_true rfl)⟩) hS (fun H locs hX hS => ?_)
                  refine lv_iinc (v := w3 + 1) (lv' := [(3, .int (w3 + 1)), (5, .int 0), (4, .int 1), (0, .ref w0), (1, .int w1), (2, .int w2)]) hx hb d_ZoneNodesModel_tick_125 hl (k := 5) rfl (by rw [show Int32.ofInt 1 = 1 by decide]) (by decide) rfl (fun ls hl => ?_)
                  refine lv_goto (tgt := 32) hx hb d_ZoneNodesModel_tick_128 rfl ?_
                  exact ih X114 w0 w1 w2 (w3 + 1) v X1 _ _ _ hm hX hS (lv_sub hl [3, 4, 5, 0] rfl) hexit
              · replace hm := zi_f h105 hm
                refine lv_iconst (v := 1) hx hb d_ZoneNodesModel_tick_94 (by decide) ?_
                refine lv_goto (tgt := 99) hx hb d_ZoneNodesModel_tick_95 rfl ?_
                refine lv_istore (lv' := [(5, .int 1), (4, .int 1), (0, .ref w0), (1, .int w1), (2, .int w2), (3, .int w3)]) hx hb d_ZoneNodesModel_tick_99 hl (by decide) rfl (fun ls hl => ?_)
                refine lv_aload_n hx hb d_ZoneNodesModel_tick_101 rfl (lv_at hl 2 rfl) ?_
                replace hm := zb1_s hm
                obtain ⟨a116, h115, hm⟩ := hm
                refine zr_get (ci := 9) (C := R_ZoneNodesModel) (T := F_ZoneNodesModel) (N := 32) hx hb hts in_ZoneNodesModel hown hk hX rfl 4 (by decide) (hts _ tW443) rfl (zgr_v h115) d_ZoneNodesModel_tick_102 ?_
                refine lv_iload_n hx hb d_ZoneNodesModel_tick_105 rfl (lv_at hl 5 rfl) ?_
                replace hm := zb1_s hm
                obtain ⟨v117, h118, hm⟩ := hm
                refine zr_baload hx hb hk hX h118 d_ZoneNodesModel_tick_106 ?_
                refine lv_if_eq (tgt := 125) hx hb d_ZoneNodesModel_tick_107 rfl (fun h119 => ?_) (fun h119 => ?_)
                · replace hm := zi_t h119 hm
                  refine lv_iinc (v := w3 + 1) (lv' := [(3, .int (w3 + 1)), (5, .int 1), (4, .int 1), (0, .ref w0), (1, .int w1), (2, .int w2)]) hx hb d_ZoneNodesModel_tick_125 hl (k := 5) rfl (by rw [show Int32.ofInt 1 = 1 by decide]) (by decide) rfl (fun ls hl => ?_)
                  refine lv_goto (tgt := 32) hx hb d_ZoneNodesModel_tick_128 rfl ?_
                  exact ih X w0 w1 w2 (w3 + 1) v X1 _ _ _ hm hX hS (lv_sub hl [3, 4, 5, 0] rfl) hexit
                · replace hm := zi_f h119 hm
                  refine lv_iload hx hb d_ZoneNodesModel_tick_110 (lv_at hl 1 rfl) ?_
                  refine lv_if_ne (tgt := 120) hx hb d_ZoneNodesModel_tick_112 rfl (fun _ => ?_) (fun h => absurd h (by decide))
                  refine lv_aload_n hx hb d_ZoneNodesModel_tick_120 rfl (lv_at hl 2 rfl) ?_
                  refine lv_iload_n hx hb d_ZoneNodesModel_tick_121 rfl (lv_at hl 5 rfl) ?_
                  replace hm := zb1_s hm
                  obtain ⟨_, h121, hm⟩ := hm
                  replace hm := zb2_s hm
                  obtain ⟨v122, X123, h120, hm⟩ := hm
                  refine zr_callv (zr_runV (As := [.int w3]) (rest := []) (n := 1) hx hb hml hown hts hk hX (c_ZoneNodesModel_ask l G N X w0 w3 v122 X123 h120) (hts _ tW533) tW534 (hts _ tW469) (hts _ tW535) (hts _ tW536) rfl h121 (by decide +kernel) ⟨Nat.le_of_ble_eq_true rfl, Nat.le_of_ble_eq_true rfl⟩ rfl rfl hl.1 rfl (lv_room (Nat.le_of_ble_eq_true rfl)) d_ZoneNodesModel_tick_122 ⟨(Nat.le_of_ble_eq_true rfl), (Nat.le_of_ble_eq_true rfl)⟩) hS (fun H locs hX hS => ?_)
                  refine lv_iinc (v := w3 + 1) (lv' := [(3, .int (w3 + 1)), (5, .int 1), (4, .int 1), (0, .ref w0), (1, .int w1), (2, .int w2)]) hx hb d_ZoneNodesModel_tick_125 hl (k := 5) rfl (by rw [show Int32.ofInt 1 = 1 by decide]) (by decide) rfl (fun ls hl => ?_)
                  refine lv_goto (tgt := 32) hx hb d_ZoneNodesModel_tick_128 rfl ?_
                  exact ih X123 w0 w1 w2 (w3 + 1) v X1 _ _ _ hm hX hS (lv_sub hl [3, 4, 5, 0] rfl) hexit
  have hL15 : ∀ (n : Nat) (X : zh_T) (w0 : Nat) (w1 : Int32) (w2 : Int32) (v : Unit) (X1 : zh_T) (H : Heap) (locs : List Loc) (ls : Array Slot), L_ZoneNodesModel_tick_15 N w0 w1 n X w2 = some (v, X1) → zh_w G X H → va_S (zh_A G) s.heap H locs → lv_has ls 6 [(0, .ref w0), (1, .int w1), (2, .int w2)] → (∀ (H : Heap) (locs : List Loc) (ls : Array Slot), zh_w G X1 H → va_S (zh_A G) s.heap H locs → lv_has ls 6 [] → W p l e { frames := 3, cells := 0, slots := 0, locals := 73 } s m args below meth c H locs 0 0 (MQ below (zh_Q G (some (.int r)) X') args s 0 0 (zh_A G)) (F0 m 137 ls [])) → W p l e { frames := 3, cells := 0, slots := 0, locals := 73 } s m args below meth c H locs 0 0 (MQ below (zh_Q G (some (.int r)) X') args s 0 0 (zh_A G)) (F0 m 15 ls []) := by
    intro n
    induction n with
    | zero =>
      intro X w0 w1 w2 v X1 H locs ls hm hX hS hl hexit
      rw [L_ZoneNodesModel_tick_15] at hm
      cases hm
    | succ n ih =>
      intro X w0 w1 w2 v X1 H locs ls hm hX hS hl hexit
      rw [L_ZoneNodesModel_tick_15] at hm
      refine lv_iload_n hx hb d_ZoneNodesModel_tick_15 rfl (lv_at hl 2 rfl) ?_
      refine lv_iload_n hx hb d_ZoneNodesModel_tick_16 rfl (lv_at hl 1 rfl) ?_
      refine lv_icmp_ge (tgt := 137) hx hb d_ZoneNodesModel_tick_17 rfl (fun h3 => ?_) (fun h3 => ?_)
      · replace hm := zi_t h3 hm
        cases hm
        exact hexit _ _ _ hX hS (lv_sub hl [] rfl)
      · replace hm := zi_f h3 hm
        refine lv_aload_n hx hb d_ZoneNodesModel_tick_20 rfl (lv_at hl 0 rfl) ?_
        refine lv_dup hx hb d_ZoneNodesModel_tick_21 rfl ?_
        replace hm := zb1_s hm
        obtain ⟨v5, h4, hm⟩ := hm
        refine zr_get (ci := 9) (C := R_ZoneNodesModel) (T := F_ZoneNodesModel) (N := 32) hx hb hts in_ZoneNodesModel hown hk hX rfl 3 (by decide) (hts _ tW441) rfl (zgi_v h4) d_ZoneNodesModel_tick_22 ?_
        refine lv_iconst (v := 1) hx hb d_ZoneNodesModel_tick_25 (by decide) ?_
        refine lv_iadd hx hb d_ZoneNodesModel_tick_26 ?_
        replace hm := zb1_s hm
        obtain ⟨X6, h7, hm⟩ := hm
        refine zr_put (ci := 9) (C := R_ZoneNodesModel) (T := F_ZoneNodesModel) (N := 32) (ty := .int) (v := .int (v5 + 1)) hx hb hts in_ZoneNodesModel t_ZoneNodesModel t_ZoneNodesModel_ok n_ZoneNodesModel hown hk hX hS rfl 3 (by decide) (hts _ tW441) rfl rfl (by decide +kernel) rfl rfl h7 d_ZoneNodesModel_tick_27 (fun H locs hX hS => ?_)
        refine lv_iconst (v := 1) hx hb d_ZoneNodesModel_tick_30 (by decide) ?_
        refine lv_istore_n (lv' := [(3, .int 1), (0, .ref w0), (1, .int w1), (2, .int w2)]) hx hb d_ZoneNodesModel_tick_31 rfl hl (by decide) rfl (fun ls hl => ?_)
        replace hm := zb2_s hm
        obtain ⟨v124, X126, h125, hm⟩ := hm
        refine hL32 N X6 w0 w1 w2 1 v124 X126 _ _ _ h125 hX hS (lv_sub hl [1, 2, 3, 0] rfl) (fun H locs ls hX hS hl => ?_)
        refine lv_iinc (v := w2 + 1) (lv' := [(2, .int (w2 + 1)), (0, .ref w0), (1, .int w1)]) hx hb d_ZoneNodesModel_tick_131 hl (k := 2) rfl (by rw [show Int32.ofInt 1 = 1 by decide]) (by decide) rfl (fun ls hl => ?_)
        refine lv_goto (tgt := 15) hx hb d_ZoneNodesModel_tick_134 rfl ?_
        exact ih X126 w0 w1 (w2 + 1) v X1 _ _ _ hm hX hS (lv_sub hl [1, 2, 0] rfl) hexit
  refine lv_iload_n hx hb d_ZoneNodesModel_tick_0 rfl (lv_at hl 1 rfl) ?_
  refine lv_iconst (v := 1) hx hb d_ZoneNodesModel_tick_1 (by decide) ?_
  refine lv_icmp_lt (tgt := 11) hx hb d_ZoneNodesModel_tick_2 rfl (fun h1 => ?_) (fun h1 => ?_)
  · replace hm := zi_t h1 hm
    refine lv_iconst (v := 0) hx hb d_ZoneNodesModel_tick_11 (by decide) ?_
    cases hm
    exact W.zret hx hb hr (by decide) (fun t ht hW => zh_end hk hX hS ht hW) hS.2.2 d_ZoneNodesModel_tick_12
  · replace hm := zi_f h1 hm
    refine lv_iload_n hx hb d_ZoneNodesModel_tick_5 rfl (lv_at hl 1 rfl) ?_
    refine lv_bipush (v := 20) hx hb d_ZoneNodesModel_tick_6 (by decide) ?_
    refine lv_icmp_le (tgt := 13) hx hb d_ZoneNodesModel_tick_8 rfl (fun h2 => ?_) (fun h2 => ?_)
    · replace hm := zi_t h2 hm
      refine lv_iconst (v := 0) hx hb d_ZoneNodesModel_tick_13 (by decide) ?_
      refine lv_istore_n (lv' := [(2, .int 0), (0, .ref x0), (1, .int x1)]) hx hb d_ZoneNodesModel_tick_14 rfl hl (by decide) rfl (fun ls hl => ?_)
      replace hm := zb2_s hm
      obtain ⟨v127, X129, h128, hm⟩ := hm
      refine hL15 N X x0 x1 0 v127 X129 _ _ _ h128 hX hS (lv_sub hl [1, 2, 0] rfl) (fun H locs ls hX hS hl => ?_)
      refine lv_iconst (v := 1) hx hb d_ZoneNodesModel_tick_137 (by decide) ?_
      cases hm
      exact W.zret hx hb hr (by decide) (fun t ht hW => zh_end hk hX hS ht hW) hS.2.2 d_ZoneNodesModel_tick_138
    · replace hm := zi_f h2 hm
      refine lv_iconst (v := 0) hx hb d_ZoneNodesModel_tick_11 (by decide) ?_
      cases hm
      exact W.zret hx hb hr (by decide) (fun t ht hW => zh_end hk hX hS ht hW) hS.2.2 d_ZoneNodesModel_tick_12
