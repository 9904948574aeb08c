set_option maxHeartbeats 4000000 in
set_option maxRecDepth 100000 in
theorem c_ZoneNodesModel_update (l : Launch) (G : zh_G) (N : Nat) (X : zh_T) (x0 : Nat) (x1 : Int32) (x2 : Int32) (x3 : Int32) (r : Int32) (X' : zh_T) (hm : f_ZoneNodesModel_update N X x0 x1 x2 x3 = some (r, X')) : zM l G y_ZoneNodesModel_update w_ZoneNodesModel_update 5 115 X [.ref x0, .int x1, .int x2, .int x3] (some (.int r)) X' 0 0 := by
  refine zr_ofW (by decide) (by exact Nat.le_of_ble_eq_true rfl) ?_
  intro p e s m args below meth c ls hx hb hml hr hts hown hin hlocks hk hX hl
  have hS : va_S (zh_A G) s.heap s.heap [] := va_S.rf
  have hl : lv_has ls 8 [(0, .ref x0), (1, .int x1), (2, .int x2), (3, .int x3)] := hl
  have hown : s.vm.findClass R_ZoneNodesModel = some m.cls := hown
  unfold f_ZoneNodesModel_update at hm
  have hL32 : ∀ (n : Nat) (X : zh_T) (w0 : Nat) (w4 : Int32) (w5 : Int32) (w6 : Int32) (w7 : Int32) (v : Unit) (X1 : zh_T) (H : Heap) (locs : List Loc) (ls : Array Slot), L_ZoneNodesModel_update_32 N w0 w4 w5 w6 n X w7 = some (v, X1) → zh_w G X H → va_S (zh_A G) s.heap H locs → lv_has ls 8 [(0, .ref w0), (4, .int w4), (5, .int w5), (6, .int w6), (7, .int w7)] → (∀ (H : Heap) (locs : List Loc) (ls : Array Slot), zh_w G X1 H → va_S (zh_A G) s.heap H locs → lv_has ls 8 [(0, .ref w0), (4, .int w4), (5, .int w5), (6, .int w6)] → W p l e { frames := 5, cells := 0, slots := 0, locals := 115 } s m args below meth c H locs 0 0 (MQ below (zh_Q G (some (.int r)) X') args s 0 0 (zh_A G)) (F0 m 60 ls [])) → W p l e { frames := 5, cells := 0, slots := 0, locals := 115 } s m args below meth c H locs 0 0 (MQ below (zh_Q G (some (.int r)) X') args s 0 0 (zh_A G)) (F0 m 32 ls []) := by
    intro n
    induction n with
    | zero =>
      intro X w0 w4 w5 w6 w7 v X1 H locs ls hm hX hS hl hexit
      rw [L_ZoneNodesModel_update_32] at hm
      cases hm
    | succ n ih =>
      intro X w0 w4 w5 w6 w7 v X1 H locs ls hm hX hS hl hexit
      rw [L_ZoneNodesModel_update_32] at hm
      refine lv_iload hx hb d_ZoneNodesModel_update_32 (lv_at hl 4 rfl) ?_
      refine lv_sipush (v := 256) hx hb d_ZoneNodesModel_update_34 (by decide) ?_
      refine lv_icmp_ge (tgt := 60) hx hb d_ZoneNodesModel_update_37 rfl (fun h11 => ?_) (fun h11 => ?_)
      · replace hm := zi_t h11 hm
        cases hm
        exact hexit _ _ _ hX hS (lv_sub hl [0, 1, 2, 3] rfl)
      · replace hm := zi_f h11 hm
        refine lv_aload_n hx hb d_ZoneNodesModel_update_40 rfl (lv_at hl 0 rfl) ?_
        replace hm := zb1_s hm
        obtain ⟨a13, h12, hm⟩ := hm
        refine zr_get (ci := 9) (C := R_ZoneNodesModel) (T := F_ZoneNodesModel) (N := 32) hx hb hts in_ZoneNodesModel hown hk hX rfl 23 (by decide) (hts _ tW456) rfl (zgr_v h12) d_ZoneNodesModel_update_41 ?_
        refine lv_iload hx hb d_ZoneNodesModel_update_44 (lv_at hl 4 rfl) ?_
        refine lv_aload_n hx hb d_ZoneNodesModel_update_46 rfl (lv_at hl 0 rfl) ?_
        replace hm := zb1_s hm
        obtain ⟨a15, h14, hm⟩ := hm
        refine zr_get (ci := 9) (C := R_ZoneNodesModel) (T := F_ZoneNodesModel) (N := 32) hx hb hts in_ZoneNodesModel hown hk hX rfl 7 (by decide) (hts _ tW446) rfl (zgr_v h14) d_ZoneNodesModel_update_47 ?_
        refine lv_iload hx hb d_ZoneNodesModel_update_50 (lv_at hl 4 rfl) ?_
        replace hm := zb1_s hm
        obtain ⟨v16, h17, hm⟩ := hm
        refine zr_baload hx hb hk hX h17 d_ZoneNodesModel_update_52 ?_
        replace hm := zb1_s hm
        obtain ⟨X18, h19, hm⟩ := hm
        refine zr_bastore hx hb hk hX hS h19 d_ZoneNodesModel_update_53 (fun H locs hX hS => ?_)
        refine lv_iinc (v := w7 + 1) (lv' := [(7, .int (w7 + 1)), (0, .ref w0), (4, .int w4), (5, .int w5), (6, .int w6)]) hx hb d_ZoneNodesModel_update_54 hl (k := 4) rfl (by rw [show Int32.ofInt 1 = 1 by decide]) (by decide) rfl (fun ls hl => ?_)
        refine lv_goto (tgt := 32) hx hb d_ZoneNodesModel_update_57 rfl ?_
        exact ih X18 w0 w4 w5 w6 (w7 + 1) v X1 _ _ _ hm hX hS (lv_sub hl [1, 2, 3, 4, 0] rfl) hexit
  have hL63 : ∀ (n : Nat) (X : zh_T) (w0 : Nat) (w4 : Int32) (w5 : Int32) (w6 : Int32) (w7 : Int32) (v : Unit) (X1 : zh_T) (H : Heap) (locs : List Loc) (ls : Array Slot), L_ZoneNodesModel_update_63 N w0 w4 w5 w6 n X w7 = some (v, X1) → zh_w G X H → va_S (zh_A G) s.heap H locs → lv_has ls 8 [(0, .ref w0), (4, .int w4), (5, .int w5), (6, .int w6), (7, .int w7)] → (∀ (H : Heap) (locs : List Loc) (ls : Array Slot), zh_w G X1 H → va_S (zh_A G) s.heap H locs → lv_has ls 8 [(0, .ref w0), (4, .int w4), (6, .int w6)] → W p l e { frames := 5, cells := 0, slots := 0, locals := 115 } s m args below meth c H locs 0 0 (MQ below (zh_Q G (some (.int r)) X') args s 0 0 (zh_A G)) (F0 m 89 ls [])) → W p l e { frames := 5, cells := 0, slots := 0, locals := 115 } s m args below meth c H locs 0 0 (MQ below (zh_Q G (some (.int r)) X') args s 0 0 (zh_A G)) (F0 m 63 ls []) := by
    intro n
    induction n with
    | zero =>
      intro X w0 w4 w5 w6 w7 v X1 H locs ls hm hX hS hl hexit
      rw [L_ZoneNodesModel_update_63] at hm
      cases hm
    | succ n ih =>
      intro X w0 w4 w5 w6 w7 v X1 H locs ls hm hX hS hl hexit
      rw [L_ZoneNodesModel_update_63] at hm
      refine lv_iload hx hb d_ZoneNodesModel_update_63 (lv_at hl 4 rfl) ?_
      refine lv_iload hx hb d_ZoneNodesModel_update_65 (lv_at hl 2 rfl) ?_
      refine lv_icmp_ge (tgt := 89) hx hb d_ZoneNodesModel_update_67 rfl (fun h23 => ?_) (fun h23 => ?_)
      · replace hm := zi_t h23 hm
        cases hm
        exact hexit _ _ _ hX hS (lv_sub hl [0, 1, 3] rfl)
      · replace hm := zi_f h23 hm
        refine lv_iload hx hb d_ZoneNodesModel_update_70 (lv_at hl 1 rfl) ?_
        refine lv_if_ne (tgt := 89) hx hb d_ZoneNodesModel_update_72 rfl (fun h24 => ?_) (fun h24 => ?_)
        · replace hm := zi_f h24 hm
          cases hm
          exact hexit _ _ _ hX hS (lv_sub hl [0, 1, 3] rfl)
        · replace hm := zi_t h24 hm
          refine lv_aload_n hx hb d_ZoneNodesModel_update_75 rfl (lv_at hl 0 rfl) ?_
          refine lv_iconst (v := 4) hx hb d_ZoneNodesModel_update_76 (by decide) ?_
          refine lv_iload hx hb d_ZoneNodesModel_update_77 (lv_at hl 4 rfl) ?_
          refine lv_iadd hx hb d_ZoneNodesModel_update_79 ?_
          replace hm := zb1_s hm
          obtain ⟨_, h26, hm⟩ := hm
          replace hm := zb2_s hm
          obtain ⟨v27, X28, h25, hm⟩ := hm
          refine zr_callv (zr_runV (As := [.int (4 + w7)]) (rest := []) (n := 1) hx hb hml hown hts hk hX (c_ZoneNodesModel_perform l G N X w0 (4 + w7) v27 X28 h25) (hts _ tW593) tW594 (hts _ tW469) (hts _ tW595) (hts _ tW596) rfl h26 (by decide +kernel) ⟨Nat.le_of_ble_eq_true rfl, Nat.le_of_ble_eq_true rfl⟩ rfl rfl hl.1 rfl (lv_room (Nat.le_of_ble_eq_true rfl)) d_ZoneNodesModel_update_80 ⟨(Nat.le_of_ble_eq_true rfl), (Nat.le_of_ble_eq_true rfl)⟩) hS (fun H locs hX hS => ?_)
          refine lv_iinc (v := w7 + 1) (lv' := [(7, .int (w7 + 1)), (0, .ref w0), (4, .int w4), (5, .int w5), (6, .int w6)]) hx hb d_ZoneNodesModel_update_83 hl (k := 4) rfl (by rw [show Int32.ofInt 1 = 1 by decide]) (by decide) rfl (fun ls hl => ?_)
          refine lv_goto (tgt := 63) hx hb d_ZoneNodesModel_update_86 rfl ?_
          exact ih X28 w0 w4 w5 w6 (w7 + 1) v X1 _ _ _ hm hX hS (lv_sub hl [1, 2, 3, 4, 0] rfl) hexit
  have hL102 : ∀ (n : Nat) (X : zh_T) (w0 : Nat) (w4 : Int32) (w6 : Int32) (w7 : Int32) (v : Int32) (H : Heap) (locs : List Loc) (ls : Array Slot), L_ZoneNodesModel_update_102 N X w0 w4 n w6 w7 = some v → zh_w G X H → va_S (zh_A G) s.heap H locs → lv_has ls 8 [(0, .ref w0), (4, .int w4), (6, .int w6), (7, .int w7)] → (∀ (H : Heap) (locs : List Loc) (ls : Array Slot), zh_w G X H → va_S (zh_A G) s.heap H locs → lv_has ls 8 [(0, .ref w0), (4, .int w4), (6, .int v)] → W p l e { frames := 5, cells := 0, slots := 0, locals := 115 } s m args below meth c H locs 0 0 (MQ below (zh_Q G (some (.int r)) X') args s 0 0 (zh_A G)) (F0 m 145 ls [])) → W p l e { frames := 5, cells := 0, slots := 0, locals := 115 } s m args below meth c H locs 0 0 (MQ below (zh_Q G (some (.int r)) X') args s 0 0 (zh_A G)) (F0 m 102 ls []) := by
    intro n
    induction n with
    | zero =>
      intro X w0 w4 w6 w7 v H locs ls hm hX hS hl hexit
      rw [L_ZoneNodesModel_update_102] at hm
      cases hm
    | succ n ih =>
      intro X w0 w4 w6 w7 v H locs ls hm hX hS hl hexit
      rw [L_ZoneNodesModel_update_102] at hm
      refine lv_iload hx hb d_ZoneNodesModel_update_102 (lv_at hl 3 rfl) ?_
      refine lv_sipush (v := 256) hx hb d_ZoneNodesModel_update_104 (by decide) ?_
      refine lv_icmp_ge (tgt := 145) hx hb d_ZoneNodesModel_update_107 rfl (fun h36 => ?_) (fun h36 => ?_)
      · replace hm := zi_t h36 hm
        cases hm
        exact hexit _ _ _ hX hS (lv_sub hl [0, 1, 2] rfl)
      · replace hm := zi_f h36 hm
        refine lv_iload hx hb d_ZoneNodesModel_update_110 (lv_at hl 2 rfl) ?_
        refine lv_if_eq (tgt := 136) hx hb d_ZoneNodesModel_update_112 rfl (fun h37 => ?_) (fun h37 => ?_)
        · replace hm := zi_t h37 hm
          refine lv_iconst (v := 0) hx hb d_ZoneNodesModel_update_136 (by decide) ?_
          refine lv_istore (lv' := [(6, .int 0), (0, .ref w0), (4, .int w4), (7, .int w7)]) hx hb d_ZoneNodesModel_update_137 hl (by decide) rfl (fun ls hl => ?_)
          refine lv_iinc (v := w7 + 1) (lv' := [(7, .int (w7 + 1)), (6, .int 0), (0, .ref w0), (4, .int w4)]) hx hb d_ZoneNodesModel_update_139 hl (k := 3) rfl (by rw [show Int32.ofInt 1 = 1 by decide]) (by decide) rfl (fun ls hl => ?_)
          refine lv_goto (tgt := 102) hx hb d_ZoneNodesModel_update_142 rfl ?_
          exact ih X w0 w4 0 (w7 + 1) v _ _ _ hm hX hS (lv_sub hl [2, 3, 1, 0] rfl) hexit
        · replace hm := zi_f h37 hm
          refine lv_aload_n hx hb d_ZoneNodesModel_update_115 rfl (lv_at hl 0 rfl) ?_
          replace hm := zb1_s hm
          obtain ⟨a39, h38, hm⟩ := hm
          refine zr_get (ci := 9) (C := R_ZoneNodesModel) (T := F_ZoneNodesModel) (N := 32) hx hb hts in_ZoneNodesModel hown hk hX rfl 23 (by decide) (hts _ tW456) rfl (zgr_v h38) d_ZoneNodesModel_update_116 ?_
          refine lv_iload hx hb d_ZoneNodesModel_update_119 (lv_at hl 3 rfl) ?_
          replace hm := zb1_s hm
          obtain ⟨v40, h41, hm⟩ := hm
          refine zr_baload hx hb hk hX h41 d_ZoneNodesModel_update_121 ?_
          refine lv_aload_n hx hb d_ZoneNodesModel_update_122 rfl (lv_at hl 0 rfl) ?_
          replace hm := zb1_s hm
          obtain ⟨a43, h42, hm⟩ := hm
          refine zr_get (ci := 9) (C := R_ZoneNodesModel) (T := F_ZoneNodesModel) (N := 32) hx hb hts in_ZoneNodesModel hown hk hX rfl 7 (by decide) (hts _ tW446) rfl (zgr_v h42) d_ZoneNodesModel_update_123 ?_
          refine lv_iload hx hb d_ZoneNodesModel_update_126 (lv_at hl 3 rfl) ?_
          replace hm := zb1_s hm
          obtain ⟨v44, h45, hm⟩ := hm
          refine zr_baload hx hb hk hX h45 d_ZoneNodesModel_update_128 ?_
          refine lv_icmp_ne (tgt := 136) hx hb d_ZoneNodesModel_update_129 rfl (fun h46 => ?_) (fun h46 => ?_)
          · replace hm := zi_f h46 hm
            refine lv_iconst (v := 0) hx hb d_ZoneNodesModel_update_136 (by decide) ?_
            refine lv_istore (lv' := [(6, .int 0), (0, .ref w0), (4, .int w4), (7, .int w7)]) hx hb d_ZoneNodesModel_update_137 hl (by decide) rfl (fun ls hl => ?_)
            refine lv_iinc (v := w7 + 1) (lv' := [(7, .int (w7 + 1)), (6, .int 0), (0, .ref w0), (4, .int w4)]) hx hb d_ZoneNodesModel_update_139 hl (k := 3) rfl (by rw [show Int32.ofInt 1 = 1 by decide]) (by decide) rfl (fun ls hl => ?_)
            refine lv_goto (tgt := 102) hx hb d_ZoneNodesModel_update_142 rfl ?_
            exact ih X w0 w4 0 (w7 + 1) v _ _ _ hm hX hS (lv_sub hl [2, 3, 1, 0] rfl) hexit
          · replace hm := zi_t h46 hm
            refine lv_iconst (v := 1) hx hb d_ZoneNodesModel_update_132 (by decide) ?_
            refine lv_goto (tgt := 137) hx hb d_ZoneNodesModel_update_133 rfl ?_
            refine lv_istore (lv' := [(6, .int 1), (0, .ref w0), (4, .int w4), (7, .int w7)]) hx hb d_ZoneNodesModel_update_137 hl (by decide) rfl (fun ls hl => ?_)
            refine lv_iinc (v := w7 + 1) (lv' := [(7, .int (w7 + 1)), (6, .int 1), (0, .ref w0), (4, .int w4)]) hx hb d_ZoneNodesModel_update_139 hl (k := 3) rfl (by rw [show Int32.ofInt 1 = 1 by decide]) (by decide) rfl (fun ls hl => ?_)
            refine lv_goto (tgt := 102) hx hb d_ZoneNodesModel_update_142 rfl ?_
            exact ih X w0 w4 1 (w7 + 1) v _ _ _ hm hX hS (lv_sub hl [2, 3, 1, 0] rfl) hexit
  refine lv_aload_n hx hb d_ZoneNodesModel_update_0 rfl (lv_at hl 0 rfl) ?_
  replace hm := zb1_s hm
  obtain ⟨a2, h1, hm⟩ := hm
  refine zr_get (ci := 9) (C := R_ZoneNodesModel) (T := F_ZoneNodesModel) (N := 32) hx hb hts in_ZoneNodesModel hown hk hX rfl 4 (by decide) (hts _ tW443) rfl (zgr_v h1) d_ZoneNodesModel_update_1 ?_
  refine lv_iconst (v := 0) hx hb d_ZoneNodesModel_update_4 (by decide) ?_
  replace hm := zb1_s hm
  obtain ⟨v3, h4, hm⟩ := hm
  refine zr_baload hx hb hk hX h4 d_ZoneNodesModel_update_5 ?_
  refine lv_if_ne (tgt := 11) hx hb d_ZoneNodesModel_update_6 rfl (fun h5 => ?_) (fun h5 => ?_)
  · replace hm := zi_f h5 hm
    refine lv_aload_n hx hb d_ZoneNodesModel_update_11 rfl (lv_at hl 0 rfl) ?_
    refine lv_iload_n hx hb d_ZoneNodesModel_update_12 rfl (lv_at hl 1 rfl) ?_
    refine lv_iload_n hx hb d_ZoneNodesModel_update_13 rfl (lv_at hl 2 rfl) ?_
    refine lv_iload_n hx hb d_ZoneNodesModel_update_14 rfl (lv_at hl 3 rfl) ?_
    replace hm := zb1_s hm
    obtain ⟨_, h7, hm⟩ := hm
    replace hm := zb1_s hm
    obtain ⟨v8, h6, hm⟩ := hm
    refine zr_calli (zr_runV (As := [.int x1, .int x2, .int x3]) (rest := []) (n := 3) hx hb hml hown hts hk hX (c_ZoneNodesModel_refusal l G N X x0 x1 x2 x3 v8 h6) (hts _ tW589) tW590 (hts _ tW469) (hts _ tW591) (hts _ tW592) rfl h7 (by decide +kernel) ⟨Nat.le_of_ble_eq_true rfl, Nat.le_of_ble_eq_true rfl⟩ rfl rfl hl.1 rfl (lv_room (Nat.le_of_ble_eq_true rfl)) d_ZoneNodesModel_update_15 ⟨(Nat.le_of_ble_eq_true rfl), (Nat.le_of_ble_eq_true rfl)⟩) hS (fun H locs hX hS => ?_)
    refine lv_istore (lv' := [(4, .int v8), (0, .ref x0), (1, .int x1), (2, .int x2), (3, .int x3)]) hx hb d_ZoneNodesModel_update_18 hl (by decide) rfl (fun ls hl => ?_)
    refine lv_aload_n hx hb d_ZoneNodesModel_update_20 rfl (lv_at hl 1 rfl) ?_
    replace hm := zb1_s hm
    obtain ⟨v10, h9, hm⟩ := hm
    refine zr_get (ci := 9) (C := R_ZoneNodesModel) (T := F_ZoneNodesModel) (N := 32) hx hb hts in_ZoneNodesModel hown hk hX rfl 15 (by decide) (hts _ tW484) rfl (zgi_v h9) d_ZoneNodesModel_update_21 ?_
    refine lv_istore (lv' := [(5, .int v10), (4, .int v8), (0, .ref x0), (1, .int x1), (2, .int x2), (3, .int x3)]) hx hb d_ZoneNodesModel_update_24 hl (by decide) rfl (fun ls hl => ?_)
    refine lv_iconst (v := 1) hx hb d_ZoneNodesModel_update_26 (by decide) ?_
    refine lv_istore (lv' := [(6, .int 1), (5, .int v10), (4, .int v8), (0, .ref x0), (1, .int x1), (2, .int x2), (3, .int x3)]) hx hb d_ZoneNodesModel_update_27 hl (by decide) rfl (fun ls hl => ?_)
    refine lv_iconst (v := 0) hx hb d_ZoneNodesModel_update_29 (by decide) ?_
    refine lv_istore (lv' := [(7, .int 0), (6, .int 1), (5, .int v10), (4, .int v8), (0, .ref x0), (1, .int x1), (2, .int x2), (3, .int x3)]) hx hb d_ZoneNodesModel_update_30 hl (by decide) rfl (fun ls hl => ?_)
    replace hm := zb2_s hm
    obtain ⟨v20, X22, h21, hm⟩ := hm
    refine hL32 N X x0 v8 v10 1 0 v20 X22 _ _ _ h21 hX hS (lv_sub hl [4, 3, 2, 1, 0] rfl) (fun H locs ls hX hS hl => ?_)
    refine lv_iconst (v := 0) hx hb d_ZoneNodesModel_update_60 (by decide) ?_
    refine lv_istore (lv' := [(7, .int 0), (0, .ref x0), (4, .int v8), (5, .int v10), (6, .int 1)]) hx hb d_ZoneNodesModel_update_61 hl (by decide) rfl (fun ls hl => ?_)
    replace hm := zb2_s hm
    obtain ⟨v29, X31, h30, hm⟩ := hm
    refine hL63 N X22 x0 v8 v10 1 0 v29 X31 _ _ _ h30 hX hS (lv_sub hl [1, 2, 3, 4, 0] rfl) (fun H locs ls hX hS hl => ?_)
    refine lv_aload_n hx hb d_ZoneNodesModel_update_89 rfl (lv_at hl 0 rfl) ?_
    refine lv_iconst (v := 0) hx hb d_ZoneNodesModel_update_90 (by decide) ?_
    replace hm := zb1_s hm
    obtain ⟨X32, h33, hm⟩ := hm
    refine zr_put (ci := 9) (C := R_ZoneNodesModel) (T := F_ZoneNodesModel) (N := 32) (ty := .int) (v := .int 0) hx hb hts in_ZoneNodesModel t_ZoneNodesModel t_ZoneNodesModel_ok n_ZoneNodesModel hown hk hX hS rfl 14 (by decide) (hts _ tW538) rfl rfl (by decide +kernel) rfl rfl h33 d_ZoneNodesModel_update_91 (fun H locs hX hS => ?_)
    refine lv_aload_n hx hb d_ZoneNodesModel_update_94 rfl (lv_at hl 0 rfl) ?_
    refine lv_iconst (v := 0) hx hb d_ZoneNodesModel_update_95 (by decide) ?_
    replace hm := zb1_s hm
    obtain ⟨X34, h35, hm⟩ := hm
    refine zr_put (ci := 9) (C := R_ZoneNodesModel) (T := F_ZoneNodesModel) (N := 32) (ty := .int) (v := .int 0) hx hb hts in_ZoneNodesModel t_ZoneNodesModel t_ZoneNodesModel_ok n_ZoneNodesModel hown hk hX hS rfl 15 (by decide) (hts _ tW484) rfl rfl (by decide +kernel) rfl rfl h35 d_ZoneNodesModel_update_96 (fun H locs hX hS => ?_)
    refine lv_iconst (v := 0) hx hb d_ZoneNodesModel_update_99 (by decide) ?_
    refine lv_istore (lv' := [(7, .int 0), (0, .ref x0), (4, .int v8), (6, .int 1)]) hx hb d_ZoneNodesModel_update_100 hl (by decide) rfl (fun ls hl => ?_)
    replace hm := zb1_s hm
    obtain ⟨v47, h48, hm⟩ := hm
    refine hL102 N X34 x0 v8 1 0 v47 _ _ _ h48 hX hS (lv_sub hl [1, 2, 3, 0] rfl) (fun H locs ls hX hS hl => ?_)
    refine lv_iload hx hb d_ZoneNodesModel_update_145 (lv_at hl 1 rfl) ?_
    refine lv_if_le (tgt := 153) hx hb d_ZoneNodesModel_update_147 rfl (fun h49 => ?_) (fun h49 => ?_)
    · replace hm := zi_t h49 hm
      refine lv_aload_n hx hb d_ZoneNodesModel_update_153 rfl (lv_at hl 0 rfl) ?_
      refine lv_iconst (v := 0) hx hb d_ZoneNodesModel_update_154 (by decide) ?_
      refine lv_sipush (v := 256) hx hb d_ZoneNodesModel_update_155 (by decide) ?_
      replace hm := zb1_s hm
      obtain ⟨_, h51, hm⟩ := hm
      replace hm := zb1_s hm
      obtain ⟨v52, h50, hm⟩ := hm
      refine zr_calli (zr_runV (As := [.int 0, .int 256]) (rest := []) (n := 2) hx hb hml hown hts hk hX (c_ZoneNodesModel_works l G N X34 x0 0 256 v52 h50) (hts _ tW563) tW564 (hts _ tW469) (hts _ tW565) (hts _ tW566) rfl h51 (by decide +kernel) ⟨Nat.le_of_ble_eq_true rfl, Nat.le_of_ble_eq_true rfl⟩ rfl rfl hl.1 rfl (lv_room (Nat.le_of_ble_eq_true rfl)) d_ZoneNodesModel_update_158 ⟨(Nat.le_of_ble_eq_true rfl), (Nat.le_of_ble_eq_true rfl)⟩) hS (fun H locs hX hS => ?_)
      refine lv_bipush (v := 24) hx hb d_ZoneNodesModel_update_161 (by decide) ?_
      refine lv_icmp_le (tgt := 170) hx hb d_ZoneNodesModel_update_163 rfl (fun h53 => ?_) (fun h53 => ?_)
      · replace hm := zi_t h53 hm
        refine lv_iload hx hb d_ZoneNodesModel_update_170 (lv_at hl 2 rfl) ?_
        refine lv_if_eq (tgt := 179) hx hb d_ZoneNodesModel_update_172 rfl (fun h54 => ?_) (fun h54 => ?_)
        · replace hm := zi_t h54 hm
          refine lv_aload_n hx hb d_ZoneNodesModel_update_179 rfl (lv_at hl 0 rfl) ?_
          replace hm := zb1_s hm
          obtain ⟨_, h56, hm⟩ := hm
          replace hm := zb2_s hm
          obtain ⟨v57, X58, h55, hm⟩ := hm
          refine zr_calli (zr_runV (As := []) (rest := []) (n := 0) hx hb hml hown hts hk hX (c_ZoneNodesModel_write l G N X34 x0 v57 X58 h55) (hts _ tW597) tW598 (hts _ tW469) (hts _ tW599) (hts _ tW600) rfl h56 (by decide +kernel) ⟨Nat.le_of_ble_eq_true rfl, Nat.le_of_ble_eq_true rfl⟩ rfl rfl hl.1 rfl (lv_room (Nat.le_of_ble_eq_true rfl)) d_ZoneNodesModel_update_180 ⟨(Nat.le_of_ble_eq_true rfl), (Nat.le_of_ble_eq_true rfl)⟩) hS (fun H locs hX hS => ?_)
          cases hm
          exact W.iret hx hb hr (fun t ht hW => zh_end hk hX hS ht hW) hS.2.2 d_ZoneNodesModel_update_183
        · replace hm := zi_f h54 hm
          refine lv_iconst (v := 0) hx hb d_ZoneNodesModel_update_175 (by decide) ?_
          refine lv_goto (tgt := 183) hx hb d_ZoneNodesModel_update_176 rfl ?_
          cases hm
          exact W.iret hx hb hr (fun t ht hW => zh_end hk hX hS ht hW) hS.2.2 d_ZoneNodesModel_update_183
      · replace hm := zi_f h53 hm
        refine lv_iconst (v := 2) hx hb d_ZoneNodesModel_update_166 (by decide) ?_
        refine lv_goto (tgt := 183) hx hb d_ZoneNodesModel_update_167 rfl ?_
        cases hm
        exact W.iret hx hb hr (fun t ht hW => zh_end hk hX hS ht hW) hS.2.2 d_ZoneNodesModel_update_183
    · replace hm := zi_f h49 hm
      refine lv_iload hx hb d_ZoneNodesModel_update_150 (lv_at hl 1 rfl) ?_
      cases hm
      exact W.iret hx hb hr (fun t ht hW => zh_end hk hX hS ht hW) hS.2.2 d_ZoneNodesModel_update_152
  · replace hm := zi_t h5 hm
    refine lv_iconst (v := (-1)) hx hb d_ZoneNodesModel_update_9 (by decide) ?_
    cases hm
    exact W.iret hx hb hr (fun t ht hW => zh_end hk hX hS ht hW) hS.2.2 d_ZoneNodesModel_update_10
