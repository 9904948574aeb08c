set_option maxHeartbeats 4000000 in
set_option maxRecDepth 100000 in
theorem c_ZoneNodesModel_send (l : Launch) (G : zh_G) (N : Nat) (X : zh_T) (x0 : Nat) (x1 : Int32) (x2 : Int32) (x3 : Int32) (r : Unit) (X' : zh_T) (hm : f_ZoneNodesModel_send N X x0 x1 x2 x3 = some (r, X')) : zM l G y_ZoneNodesModel_send w_ZoneNodesModel_send 1 27 X [.ref x0, .int x1, .int x2, .int x3] none X' 0 0 := by
  refine zr_ofW (by decide) (by exact Nat.le_of_ble_eq_true rfl) ?_
  intro p e s m args below meth c ls hx hb hml hr hts hown hin hlocks hk hX hl
  have hS : va_S (zh_A G) s.heap s.heap [] := va_S.rf
  have hl : lv_has ls 6 [(0, .ref x0), (1, .int x1), (2, .int x2), (3, .int x3)] := hl
  have hown : s.vm.findClass R_ZoneNodesModel = some m.cls := hown
  unfold f_ZoneNodesModel_send at hm
  have hL6 : ∀ (n : Nat) (X : zh_T) (w0 : Nat) (w1 : Int32) (w2 : Int32) (w3 : Int32) (w4 : Int32) (w5 : Int32) (v : Int32) (H : Heap) (locs : List Loc) (ls : Array Slot), L_ZoneNodesModel_send_6 N X w0 w1 w2 w3 n w4 w5 = some v → zh_w G X H → va_S (zh_A G) s.heap H locs → lv_has ls 6 [(0, .ref w0), (1, .int w1), (2, .int w2), (3, .int w3), (4, .int w4), (5, .int w5)] → (∀ (H : Heap) (locs : List Loc) (ls : Array Slot), zh_w G X H → va_S (zh_A G) s.heap H locs → lv_has ls 6 [(0, .ref w0), (1, .int w1), (2, .int w2), (3, .int w3), (4, .int v)] → W p l e { frames := 1, cells := 0, slots := 0, locals := 27 } s m args below meth c H locs 0 0 (MQ below (zh_Q G none X') args s 0 0 (zh_A G)) (F0 m 42 ls [])) → W p l e { frames := 1, cells := 0, slots := 0, locals := 27 } s m args below meth c H locs 0 0 (MQ below (zh_Q G none X') args s 0 0 (zh_A G)) (F0 m 6 ls []) := by
    intro n
    induction n with
    | zero =>
      intro X w0 w1 w2 w3 w4 w5 v H locs ls hm hX hS hl hexit
      rw [L_ZoneNodesModel_send_6] at hm
      cases hm
    | succ n ih =>
      intro X w0 w1 w2 w3 w4 w5 v H locs ls hm hX hS hl hexit
      rw [L_ZoneNodesModel_send_6] at hm
      refine lv_iload hx hb d_ZoneNodesModel_send_6 (lv_at hl 5 rfl) ?_
      refine lv_aload_n hx hb d_ZoneNodesModel_send_8 rfl (lv_at hl 0 rfl) ?_
      replace hm := zb1_s hm
      obtain ⟨v2, h1, hm⟩ := hm
      refine zr_get (ci := 9) (C := R_ZoneNodesModel) (T := F_ZoneNodesModel) (N := 32) hx hb hts in_ZoneNodesModel hown hk hX rfl 24 (by decide) (hts _ tW475) rfl (zgi_v h1) d_ZoneNodesModel_send_9 ?_
      refine lv_icmp_ge (tgt := 42) hx hb d_ZoneNodesModel_send_12 rfl (fun h3 => ?_) (fun h3 => ?_)
      · replace hm := zi_t h3 hm
        cases hm
        exact hexit _ _ _ hX hS (lv_sub hl [0, 1, 2, 3, 4] rfl)
      · replace hm := zi_f h3 hm
        refine lv_iload hx hb d_ZoneNodesModel_send_15 (lv_at hl 4 rfl) ?_
        refine lv_aload_n hx hb d_ZoneNodesModel_send_17 rfl (lv_at hl 0 rfl) ?_
        replace hm := zb1_s hm
        obtain ⟨a5, h4, hm⟩ := hm
        refine zr_get (ci := 9) (C := R_ZoneNodesModel) (T := F_ZoneNodesModel) (N := 32) hx hb hts in_ZoneNodesModel hown hk hX rfl 25 (by decide) (hts _ tW457) rfl (zgr_v h4) d_ZoneNodesModel_send_18 ?_
        refine lv_iload hx hb d_ZoneNodesModel_send_21 (lv_at hl 5 rfl) ?_
        replace hm := zb1_s hm
        obtain ⟨v6, h7, hm⟩ := hm
        refine zr_iaload hx hb hk hX h7 d_ZoneNodesModel_send_23 ?_
        refine lv_iconst (v := 4) hx hb d_ZoneNodesModel_send_24 (by decide) ?_
        refine lv_icmp_ge (tgt := 32) hx hb d_ZoneNodesModel_send_25 rfl (fun h8 => ?_) (fun h8 => ?_)
        · replace hm := zi_t h8 hm
          refine lv_iconst (v := 0) hx hb d_ZoneNodesModel_send_32 (by decide) ?_
          refine lv_iadd hx hb d_ZoneNodesModel_send_33 ?_
          refine lv_istore (lv' := [(4, .int (w4 + 0)), (0, .ref w0), (1, .int w1), (2, .int w2), (3, .int w3), (5, .int w5)]) hx hb d_ZoneNodesModel_send_34 hl (by decide) rfl (fun ls hl => ?_)
          refine lv_iinc (v := w5 + 1) (lv' := [(5, .int (w5 + 1)), (4, .int (w4 + 0)), (0, .ref w0), (1, .int w1), (2, .int w2), (3, .int w3)]) hx hb d_ZoneNodesModel_send_36 hl (k := 5) rfl (by rw [show Int32.ofInt 1 = 1 by decide]) (by decide) rfl (fun ls hl => ?_)
          refine lv_goto (tgt := 6) hx hb d_ZoneNodesModel_send_39 rfl ?_
          exact ih X w0 w1 w2 w3 (w4 + 0) (w5 + 1) v _ _ _ hm hX hS (lv_sub hl [2, 3, 4, 5, 1, 0] rfl) hexit
        · replace hm := zi_f h8 hm
          refine lv_iconst (v := 1) hx hb d_ZoneNodesModel_send_28 (by decide) ?_
          refine lv_goto (tgt := 33) hx hb d_ZoneNodesModel_send_29 rfl ?_
          refine lv_iadd hx hb d_ZoneNodesModel_send_33 ?_
          refine lv_istore (lv' := [(4, .int (w4 + 1)), (0, .ref w0), (1, .int w1), (2, .int w2), (3, .int w3), (5, .int w5)]) hx hb d_ZoneNodesModel_send_34 hl (by decide) rfl (fun ls hl => ?_)
          refine lv_iinc (v := w5 + 1) (lv' := [(5, .int (w5 + 1)), (4, .int (w4 + 1)), (0, .ref w0), (1, .int w1), (2, .int w2), (3, .int w3)]) hx hb d_ZoneNodesModel_send_36 hl (k := 5) rfl (by rw [show Int32.ofInt 1 = 1 by decide]) (by decide) rfl (fun ls hl => ?_)
          refine lv_goto (tgt := 6) hx hb d_ZoneNodesModel_send_39 rfl ?_
          exact ih X w0 w1 w2 w3 (w4 + 1) (w5 + 1) v _ _ _ hm hX hS (lv_sub hl [2, 3, 4, 5, 1, 0] rfl) hexit
  refine lv_iconst (v := 0) hx hb d_ZoneNodesModel_send_0 (by decide) ?_
  refine lv_istore (lv' := [(4, .int 0), (0, .ref x0), (1, .int x1), (2, .int x2), (3, .int x3)]) hx hb d_ZoneNodesModel_send_1 hl (by decide) rfl (fun ls hl => ?_)
  refine lv_iconst (v := 0) hx hb d_ZoneNodesModel_send_3 (by decide) ?_
  refine lv_istore (lv' := [(5, .int 0), (4, .int 0), (0, .ref x0), (1, .int x1), (2, .int x2), (3, .int x3)]) hx hb d_ZoneNodesModel_send_4 hl (by decide) rfl (fun ls hl => ?_)
  replace hm := zb1_s hm
  obtain ⟨v9, h10, hm⟩ := hm
  refine hL6 N X x0 x1 x2 x3 0 0 v9 _ _ _ h10 hX hS (lv_sub hl [2, 3, 4, 5, 1, 0] rfl) (fun H locs ls hX hS hl => ?_)
  refine lv_iload hx hb d_ZoneNodesModel_send_42 (lv_at hl 4 rfl) ?_
  refine lv_bipush (v := 24) hx hb d_ZoneNodesModel_send_44 (by decide) ?_
  refine lv_icmp_ge (tgt := 60) hx hb d_ZoneNodesModel_send_46 rfl (fun h11 => ?_) (fun h11 => ?_)
  · replace hm := zi_t h11 hm
    cases hm
    exact W.vret hx hb hr (fun t ht hW => zh_end hk hX hS ht hW) hS.2.2 d_ZoneNodesModel_send_60
  · replace hm := zi_f h11 hm
    refine lv_aload_n hx hb d_ZoneNodesModel_send_49 rfl (lv_at hl 0 rfl) ?_
    refine lv_iload_n hx hb d_ZoneNodesModel_send_50 rfl (lv_at hl 1 rfl) ?_
    refine lv_iload_n hx hb d_ZoneNodesModel_send_51 rfl (lv_at hl 2 rfl) ?_
    refine lv_iload_n hx hb d_ZoneNodesModel_send_52 rfl (lv_at hl 3 rfl) ?_
    refine lv_iconst (v := 0) hx hb d_ZoneNodesModel_send_53 (by decide) ?_
    refine lv_iconst (v := 0) hx hb d_ZoneNodesModel_send_54 (by decide) ?_
    refine lv_iconst (v := 0) hx hb d_ZoneNodesModel_send_55 (by decide) ?_
    refine lv_iconst (v := 0) hx hb d_ZoneNodesModel_send_56 (by decide) ?_
    replace hm := zb1_s hm
    obtain ⟨_, h13, hm⟩ := hm
    replace hm := zb2_s hm
    obtain ⟨v14, X15, h12, hm⟩ := hm
    refine zr_callv (zr_runV (As := [.int x1, .int x2, .int x3, .int 0, .int 0, .int 0, .int 0]) (rest := []) (n := 7) hx hb hml hown hts hk hX (c_ZoneNodesModel_append l G N X x0 x1 x2 x3 0 0 0 0 v14 X15 h12) (hts _ tW500) tW501 (hts _ tW469) (hts _ tW502) (hts _ tW503) rfl h13 (by decide +kernel) ⟨Nat.le_of_ble_eq_true rfl, Nat.le_of_ble_eq_true rfl⟩ rfl rfl hl.1 rfl (lv_room (Nat.le_of_ble_eq_true rfl)) d_ZoneNodesModel_send_57 ⟨(Nat.le_of_ble_eq_true rfl), (Nat.le_of_ble_eq_true rfl)⟩) hS (fun H locs hX hS => ?_)
    cases hm
    exact W.vret hx hb hr (fun t ht hW => zh_end hk hX hS ht hW) hS.2.2 d_ZoneNodesModel_send_60
set_option maxHeartbeats 4000000 in
set_option maxRecDepth 100000 in
theorem c_ZoneNodesModel_ask (l : Launch) (G : zh_G) (N : Nat) (X : zh_T) (x0 : Nat) (x1 : Int32) (r : Unit) (X' : zh_T) (hm : f_ZoneNodesModel_ask N X x0 x1 = some (r, X')) : zM l G y_ZoneNodesModel_ask w_ZoneNodesModel_ask 2 52 X [.ref x0, .int x1] none X' 0 0 := by
  refine zr_ofW (by decide) (by exact Nat.le_of_ble_eq_true rfl) ?_
  intro p e s m args below meth c ls hx hb hml hr hts hown hin hlocks hk hX hl
  have hS : va_S (zh_A G) s.heap s.heap [] := va_S.rf
  have hl : lv_has ls 2 [(0, .ref x0), (1, .int x1)] := hl
  have hown : s.vm.findClass R_ZoneNodesModel = some m.cls := hown
  unfold f_ZoneNodesModel_ask at hm
  refine lv_aload_n hx hb d_ZoneNodesModel_ask_0 rfl (lv_at hl 0 rfl) ?_
  refine lv_iconst (v := 2) hx hb d_ZoneNodesModel_ask_1 (by decide) ?_
  refine lv_iload_n hx hb d_ZoneNodesModel_ask_2 rfl (lv_at hl 1 rfl) ?_
  refine lv_iconst (v := 0) hx hb d_ZoneNodesModel_ask_3 (by decide) ?_
  replace hm := zb1_s hm
  obtain ⟨_, h2, hm⟩ := hm
  replace hm := zb2_s hm
  obtain ⟨v3, X4, h1, hm⟩ := hm
  refine zr_callv (zr_runV (As := [.int 2, .int x1, .int 0]) (rest := []) (n := 3) hx hb hml hown hts hk hX (c_ZoneNodesModel_send l G N X x0 2 x1 0 v3 X4 h1) (hts _ tW504) tW505 (hts _ tW469) (hts _ tW506) (hts _ tW507) rfl h2 (by decide +kernel) ⟨Nat.le_of_ble_eq_true rfl, Nat.le_of_ble_eq_true rfl⟩ rfl rfl hl.1 rfl (lv_room (Nat.le_of_ble_eq_true rfl)) d_ZoneNodesModel_ask_4 ⟨(Nat.le_of_ble_eq_true rfl), (Nat.le_of_ble_eq_true rfl)⟩) hS (fun H locs hX hS => ?_)
  refine lv_aload_n hx hb d_ZoneNodesModel_ask_7 rfl (lv_at hl 0 rfl) ?_
  replace hm := zb1_s hm
  obtain ⟨a6, h5, hm⟩ := hm
  refine zr_get (ci := 9) (C := R_ZoneNodesModel) (T := F_ZoneNodesModel) (N := 32) hx hb hts in_ZoneNodesModel hown hk hX rfl 9 (by decide) (hts _ tW439) rfl (zgr_v h5) d_ZoneNodesModel_ask_8 ?_
  refine lv_iload_n hx hb d_ZoneNodesModel_ask_11 rfl (lv_at hl 1 rfl) ?_
  refine lv_iconst (v := 1) hx hb d_ZoneNodesModel_ask_12 (by decide) ?_
  replace hm := zb1_s hm
  obtain ⟨X7, h8, hm⟩ := hm
  refine zr_iastore hx hb hk hX hS h8 d_ZoneNodesModel_ask_13 (fun H locs hX hS => ?_)
  refine lv_aload_n hx hb d_ZoneNodesModel_ask_14 rfl (lv_at hl 0 rfl) ?_
  replace hm := zb1_s hm
  obtain ⟨a10, h9, hm⟩ := hm
  refine zr_get (ci := 9) (C := R_ZoneNodesModel) (T := F_ZoneNodesModel) (N := 32) hx hb hts in_ZoneNodesModel hown hk hX rfl 10 (by decide) (hts _ tW440) rfl (zgr_v h9) d_ZoneNodesModel_ask_15 ?_
  refine lv_iload_n hx hb d_ZoneNodesModel_ask_18 rfl (lv_at hl 1 rfl) ?_
  refine lv_aload_n hx hb d_ZoneNodesModel_ask_19 rfl (lv_at hl 0 rfl) ?_
  replace hm := zb1_s hm
  obtain ⟨v12, h11, hm⟩ := hm
  refine zr_get (ci := 9) (C := R_ZoneNodesModel) (T := F_ZoneNodesModel) (N := 32) hx hb hts in_ZoneNodesModel hown hk hX rfl 3 (by decide) (hts _ tW441) rfl (zgi_v h11) d_ZoneNodesModel_ask_20 ?_
  replace hm := zb1_s hm
  obtain ⟨X13, h14, hm⟩ := hm
  refine zr_iastore hx hb hk hX hS h14 d_ZoneNodesModel_ask_23 (fun H locs hX hS => ?_)
  cases hm
  exact W.vret hx hb hr (fun t ht hW => zh_end hk hX hS ht hW) hS.2.2 d_ZoneNodesModel_ask_24
set_option maxHeartbeats 4000000 in
set_option maxRecDepth 100000 in
theorem c_ZoneNodesModel_isNews (l : Launch) (G : zh_G) (N : Nat) (X : zh_T) (x0 : Nat) (x1 : Int32) (x2 : Int32) (r : Int32) (hm : f_ZoneNodesModel_isNews N X x0 x1 x2 = some r) : zM l G y_ZoneNodesModel_isNews w_ZoneNodesModel_isNews 0 0 X [.ref x0, .int x1, .int x2] (some (.int r)) X 0 0 := by
  refine zr_ofW (by decide) (by exact Nat.le_of_ble_eq_true rfl) ?_
  intro p e s m args below meth c ls hx hb hml hr hts hown hin hlocks hk hX hl
  have hS : va_S (zh_A G) s.heap s.heap [] := va_S.rf
  have hl : lv_has ls 3 [(0, .ref x0), (1, .int x1), (2, .int x2)] := hl
  have hown : s.vm.findClass R_ZoneNodesModel = some m.cls := hown
  unfold f_ZoneNodesModel_isNews at hm
  refine lv_aload_n hx hb d_ZoneNodesModel_isNews_0 rfl (lv_at hl 0 rfl) ?_
  replace hm := zb1_s hm
  obtain ⟨a2, h1, hm⟩ := hm
  refine zr_get (ci := 9) (C := R_ZoneNodesModel) (T := F_ZoneNodesModel) (N := 32) hx hb hts in_ZoneNodesModel hown hk hX rfl 5 (by decide) (hts _ tW444) rfl (zgr_v h1) d_ZoneNodesModel_isNews_1 ?_
  refine lv_iload_n hx hb d_ZoneNodesModel_isNews_4 rfl (lv_at hl 1 rfl) ?_
  replace hm := zb1_s hm
  obtain ⟨v3, h4, hm⟩ := hm
  refine zr_baload hx hb hk hX h4 d_ZoneNodesModel_isNews_5 ?_
  refine lv_if_eq (tgt := 20) hx hb d_ZoneNodesModel_isNews_6 rfl (fun h5 => ?_) (fun h5 => ?_)
  · replace hm := zi_t h5 hm
    refine lv_iconst (v := 1) hx hb d_ZoneNodesModel_isNews_20 (by decide) ?_
    refine lv_goto (tgt := 25) hx hb d_ZoneNodesModel_isNews_21 rfl ?_
    cases hm
    exact W.zret hx hb hr (by decide) (fun t ht hW => zh_end hk hX hS ht hW) hS.2.2 d_ZoneNodesModel_isNews_25
  · replace hm := zi_f h5 hm
    refine lv_iload_n hx hb d_ZoneNodesModel_isNews_9 rfl (lv_at hl 2 rfl) ?_
    refine lv_aload_n hx hb d_ZoneNodesModel_isNews_10 rfl (lv_at hl 0 rfl) ?_
    replace hm := zb1_s hm
    obtain ⟨a7, h6, hm⟩ := hm
    refine zr_get (ci := 9) (C := R_ZoneNodesModel) (T := F_ZoneNodesModel) (N := 32) hx hb hts in_ZoneNodesModel hown hk hX rfl 6 (by decide) (hts _ tW445) rfl (zgr_v h6) d_ZoneNodesModel_isNews_11 ?_
    refine lv_iload_n hx hb d_ZoneNodesModel_isNews_14 rfl (lv_at hl 1 rfl) ?_
    replace hm := zb1_s hm
    obtain ⟨v8, h9, hm⟩ := hm
    refine zr_iaload hx hb hk hX h9 d_ZoneNodesModel_isNews_15 ?_
    refine lv_isub hx hb d_ZoneNodesModel_isNews_16 ?_
    refine lv_if_le (tgt := 24) hx hb d_ZoneNodesModel_isNews_17 rfl (fun h10 => ?_) (fun h10 => ?_)
    · replace hm := zi_t h10 hm
      refine lv_iconst (v := 0) hx hb d_ZoneNodesModel_isNews_24 (by decide) ?_
      cases hm
      exact W.zret hx hb hr (by decide) (fun t ht hW => zh_end hk hX hS ht hW) hS.2.2 d_ZoneNodesModel_isNews_25
    · replace hm := zi_f h10 hm
      refine lv_iconst (v := 1) hx hb d_ZoneNodesModel_isNews_20 (by decide) ?_
      refine lv_goto (tgt := 25) hx hb d_ZoneNodesModel_isNews_21 rfl ?_
      cases hm
      exact W.zret hx hb hr (by decide) (fun t ht hW => zh_end hk hX hS ht hW) hS.2.2 d_ZoneNodesModel_isNews_25
set_option maxHeartbeats 4000000 in
set_option maxRecDepth 100000 in
theorem c_ZoneNodesModel_itemsFor (l : Launch) (G : zh_G) (N : Nat) (X : zh_T) (x0 : Nat) (x1 : Int32) (x2 : Int32) (r : Int32) (hm : f_ZoneNodesModel_itemsFor N X x0 x1 x2 = some r) : zM l G y_ZoneNodesModel_itemsFor w_ZoneNodesModel_itemsFor 0 0 X [.ref x0, .int x1, .int x2] (some (.int r)) X 0 0 := by
  refine zr_ofW (by decide) (by exact Nat.le_of_ble_eq_true rfl) ?_
  intro p e s m args below meth c ls hx hb hml hr hts hown hin hlocks hk hX hl
  have hS : va_S (zh_A G) s.heap s.heap [] := va_S.rf
  have hl : lv_has ls 6 [(0, .ref x0), (1, .int x1), (2, .int x2)] := hl
  have hown : s.vm.findClass R_ZoneNodesModel = some m.cls := hown
  unfold f_ZoneNodesModel_itemsFor at hm
  have hL5 : ∀ (n : Nat) (X : zh_T) (w0 : Nat) (w1 : Int32) (w2 : Int32) (w3 : Int32) (w4 : Int32) (v : Int32) (H : Heap) (locs : List Loc) (ls : Array Slot), L_ZoneNodesModel_itemsFor_5 N X w0 w1 w2 n w3 w4 = some v → zh_w G X H → va_S (zh_A G) s.heap H locs → lv_has ls 6 [(0, .ref w0), (1, .int w1), (2, .int w2), (3, .int w3), (4, .int w4)] → (∀ (H : Heap) (locs : List Loc) (ls : Array Slot), zh_w G X H → va_S (zh_A G) s.heap H locs → lv_has ls 6 [(0, .ref w0), (3, .int v)] → W p l e { frames := 0, cells := 0, slots := 0, locals := 0 } s m args below meth c H locs 0 0 (MQ below (zh_Q G (some (.int r)) X) args s 0 0 (zh_A G)) (F0 m 42 ls [])) → W p l e { frames := 0, cells := 0, slots := 0, locals := 0 } s m args below meth c H locs 0 0 (MQ below (zh_Q G (some (.int r)) X) args s 0 0 (zh_A G)) (F0 m 5 ls []) := by
    intro n
    induction n with
    | zero =>
      intro X w0 w1 w2 w3 w4 v H locs ls hm hX hS hl hexit
      rw [L_ZoneNodesModel_itemsFor_5] at hm
      cases hm
    | succ n ih =>
      intro X w0 w1 w2 w3 w4 v H locs ls hm hX hS hl hexit
      rw [L_ZoneNodesModel_itemsFor_5] at hm
      refine lv_iload hx hb d_ZoneNodesModel_itemsFor_5 (lv_at hl 4 rfl) ?_
      refine lv_aload_n hx hb d_ZoneNodesModel_itemsFor_7 rfl (lv_at hl 0 rfl) ?_
      replace hm := zb1_s hm
      obtain ⟨v2, h1, hm⟩ := hm
      refine zr_get (ci := 9) (C := R_ZoneNodesModel) (T := F_ZoneNodesModel) (N := 32) hx hb hts in_ZoneNodesModel hown hk hX rfl 18 (by decide) (hts _ tW508) rfl (zgi_v h1) d_ZoneNodesModel_itemsFor_8 ?_
      refine lv_icmp_ge (tgt := 42) hx hb d_ZoneNodesModel_itemsFor_11 rfl (fun h3 => ?_) (fun h3 => ?_)
      · replace hm := zi_t h3 hm
        cases hm
        exact hexit _ _ _ hX hS (lv_sub hl [0, 3] rfl)
      · replace hm := zi_f h3 hm
        refine lv_iload_n hx hb d_ZoneNodesModel_itemsFor_14 rfl (lv_at hl 1 rfl) ?_
        refine lv_if_eq (tgt := 34) hx hb d_ZoneNodesModel_itemsFor_15 rfl (fun h4 => ?_) (fun h4 => ?_)
        · replace hm := zi_t h4 hm
          refine lv_iload_n hx hb d_ZoneNodesModel_itemsFor_34 rfl (lv_at hl 3 rfl) ?_
          refine lv_istore_n (lv' := [(3, .int w3), (0, .ref w0), (1, .int w1), (2, .int w2), (4, .int w4)]) hx hb d_ZoneNodesModel_itemsFor_35 rfl hl (by decide) rfl (fun ls hl => ?_)
          refine lv_iinc (v := w4 + 1) (lv' := [(4, .int (w4 + 1)), (3, .int w3), (0, .ref w0), (1, .int w1), (2, .int w2)]) hx hb d_ZoneNodesModel_itemsFor_36 hl (k := 4) rfl (by rw [show Int32.ofInt 1 = 1 by decide]) (by decide) rfl (fun ls hl => ?_)
          refine lv_goto (tgt := 5) hx hb d_ZoneNodesModel_itemsFor_39 rfl ?_
          exact ih X w0 w1 w2 w3 (w4 + 1) v _ _ _ hm hX hS (lv_sub hl [2, 3, 4, 1, 0] rfl) hexit
        · replace hm := zi_f h4 hm
          refine lv_aload_n hx hb d_ZoneNodesModel_itemsFor_18 rfl (lv_at hl 0 rfl) ?_
          replace hm := zb1_s hm
          obtain ⟨a6, h5, hm⟩ := hm
          refine zr_get (ci := 9) (C := R_ZoneNodesModel) (T := F_ZoneNodesModel) (N := 32) hx hb hts in_ZoneNodesModel hown hk hX rfl 19 (by decide) (hts _ tW452) rfl (zgr_v h5) d_ZoneNodesModel_itemsFor_19 ?_
          refine lv_iload hx hb d_ZoneNodesModel_itemsFor_22 (lv_at hl 4 rfl) ?_
          replace hm := zb1_s hm
          obtain ⟨v7, h8, hm⟩ := hm
          refine zr_iaload hx hb hk hX h8 d_ZoneNodesModel_itemsFor_24 ?_
          refine lv_iload_n hx hb d_ZoneNodesModel_itemsFor_25 rfl (lv_at hl 2 rfl) ?_
          refine lv_icmp_ne (tgt := 34) hx hb d_ZoneNodesModel_itemsFor_26 rfl (fun h9 => ?_) (fun h9 => ?_)
          · replace hm := zi_f h9 hm
            refine lv_iload_n hx hb d_ZoneNodesModel_itemsFor_34 rfl (lv_at hl 3 rfl) ?_
            refine lv_istore_n (lv' := [(3, .int w3), (0, .ref w0), (1, .int w1), (2, .int w2), (4, .int w4)]) hx hb d_ZoneNodesModel_itemsFor_35 rfl hl (by decide) rfl (fun ls hl => ?_)
            refine lv_iinc (v := w4 + 1) (lv' := [(4, .int (w4 + 1)), (3, .int w3), (0, .ref w0), (1, .int w1), (2, .int w2)]) hx hb d_ZoneNodesModel_itemsFor_36 hl (k := 4) rfl (by rw [show Int32.ofInt 1 = 1 by decide]) (by decide) rfl (fun ls hl => ?_)
            refine lv_goto (tgt := 5) hx hb d_ZoneNodesModel_itemsFor_39 rfl ?_
            exact ih X w0 w1 w2 w3 (w4 + 1) v _ _ _ hm hX hS (lv_sub hl [2, 3, 4, 1, 0] rfl) hexit
          · replace hm := zi_t h9 hm
            refine lv_iload hx hb d_ZoneNodesModel_itemsFor_29 (lv_at hl 4 rfl) ?_
            refine lv_goto (tgt := 35) hx hb d_ZoneNodesModel_itemsFor_31 rfl ?_
            refine lv_istore_n (lv' := [(3, .int w4), (0, .ref w0), (1, .int w1), (2, .int w2), (4, .int w4)]) hx hb d_ZoneNodesModel_itemsFor_35 rfl hl (by decide) rfl (fun ls hl => ?_)
            refine lv_iinc (v := w4 + 1) (lv' := [(4, .int (w4 + 1)), (3, .int w4), (0, .ref w0), (1, .int w1), (2, .int w2)]) hx hb d_ZoneNodesModel_itemsFor_36 hl (k := 4) rfl (by rw [show Int32.ofInt 1 = 1 by decide]) (by decide) rfl (fun ls hl => ?_)
            refine lv_goto (tgt := 5) hx hb d_ZoneNodesModel_itemsFor_39 rfl ?_
            exact ih X w0 w1 w2 w4 (w4 + 1) v _ _ _ hm hX hS (lv_sub hl [2, 3, 4, 1, 0] rfl) hexit
  have hL48 : ∀ (n : Nat) (X : zh_T) (w0 : Nat) (w3 : Int32) (w4 : Int32) (w5 : Int32) (v : Int32) (H : Heap) (locs : List Loc) (ls : Array Slot), L_ZoneNodesModel_itemsFor_48 N X w0 w3 n w4 w5 = some v → zh_w G X H → va_S (zh_A G) s.heap H locs → lv_has ls 6 [(0, .ref w0), (3, .int w3), (4, .int w4), (5, .int w5)] → (∀ (H : Heap) (locs : List Loc) (ls : Array Slot), zh_w G X H → va_S (zh_A G) s.heap H locs → lv_has ls 6 [(0, .ref w0), (3, .int w3), (4, .int v)] → W p l e { frames := 0, cells := 0, slots := 0, locals := 0 } s m args below meth c H locs 0 0 (MQ below (zh_Q G (some (.int r)) X) args s 0 0 (zh_A G)) (F0 m 89 ls [])) → W p l e { frames := 0, cells := 0, slots := 0, locals := 0 } s m args below meth c H locs 0 0 (MQ below (zh_Q G (some (.int r)) X) args s 0 0 (zh_A G)) (F0 m 48 ls []) := by
    intro n
    induction n with
    | zero =>
      intro X w0 w3 w4 w5 v H locs ls hm hX hS hl hexit
      rw [L_ZoneNodesModel_itemsFor_48] at hm
      cases hm
    | succ n ih =>
      intro X w0 w3 w4 w5 v H locs ls hm hX hS hl hexit
      rw [L_ZoneNodesModel_itemsFor_48] at hm
      refine lv_iload hx hb d_ZoneNodesModel_itemsFor_48 (lv_at hl 3 rfl) ?_
      refine lv_aload_n hx hb d_ZoneNodesModel_itemsFor_50 rfl (lv_at hl 0 rfl) ?_
      replace hm := zb1_s hm
      obtain ⟨v13, h12, hm⟩ := hm
      refine zr_get (ci := 9) (C := R_ZoneNodesModel) (T := F_ZoneNodesModel) (N := 32) hx hb hts in_ZoneNodesModel hown hk hX rfl 18 (by decide) (hts _ tW508) rfl (zgi_v h12) d_ZoneNodesModel_itemsFor_51 ?_
      refine lv_icmp_ge (tgt := 89) hx hb d_ZoneNodesModel_itemsFor_54 rfl (fun h14 => ?_) (fun h14 => ?_)
      · replace hm := zi_t h14 hm
        cases hm
        exact hexit _ _ _ hX hS (lv_sub hl [0, 1, 2] rfl)
      · replace hm := zi_f h14 hm
        refine lv_iload hx hb d_ZoneNodesModel_itemsFor_57 (lv_at hl 2 rfl) ?_
        refine lv_iload_n hx hb d_ZoneNodesModel_itemsFor_59 rfl (lv_at hl 1 rfl) ?_
        refine lv_if_lt (tgt := 79) hx hb d_ZoneNodesModel_itemsFor_60 rfl (fun h15 => ?_) (fun h15 => ?_)
        · replace hm := zi_t h15 hm
          refine lv_iconst (v := 0) hx hb d_ZoneNodesModel_itemsFor_79 (by decide) ?_
          refine lv_iadd hx hb d_ZoneNodesModel_itemsFor_80 ?_
          refine lv_istore (lv' := [(4, .int (w4 + 0)), (0, .ref w0), (3, .int w3), (5, .int w5)]) hx hb d_ZoneNodesModel_itemsFor_81 hl (by decide) rfl (fun ls hl => ?_)
          refine lv_iinc (v := w5 + 1) (lv' := [(5, .int (w5 + 1)), (4, .int (w4 + 0)), (0, .ref w0), (3, .int w3)]) hx hb d_ZoneNodesModel_itemsFor_83 hl (k := 3) rfl (by rw [show Int32.ofInt 1 = 1 by decide]) (by decide) rfl (fun ls hl => ?_)
          refine lv_goto (tgt := 48) hx hb d_ZoneNodesModel_itemsFor_86 rfl ?_
          exact ih X w0 w3 (w4 + 0) (w5 + 1) v _ _ _ hm hX hS (lv_sub hl [2, 3, 1, 0] rfl) hexit
        · replace hm := zi_f h15 hm
          refine lv_iload hx hb d_ZoneNodesModel_itemsFor_63 (lv_at hl 3 rfl) ?_
          refine lv_iload_n hx hb d_ZoneNodesModel_itemsFor_65 rfl (lv_at hl 1 rfl) ?_
          refine lv_icmp_lt (tgt := 79) hx hb d_ZoneNodesModel_itemsFor_66 rfl (fun h16 => ?_) (fun h16 => ?_)
          · replace hm := zi_t h16 hm
            refine lv_iconst (v := 0) hx hb d_ZoneNodesModel_itemsFor_79 (by decide) ?_
            refine lv_iadd hx hb d_ZoneNodesModel_itemsFor_80 ?_
            refine lv_istore (lv' := [(4, .int (w4 + 0)), (0, .ref w0), (3, .int w3), (5, .int w5)]) hx hb d_ZoneNodesModel_itemsFor_81 hl (by decide) rfl (fun ls hl => ?_)
            refine lv_iinc (v := w5 + 1) (lv' := [(5, .int (w5 + 1)), (4, .int (w4 + 0)), (0, .ref w0), (3, .int w3)]) hx hb d_ZoneNodesModel_itemsFor_83 hl (k := 3) rfl (by rw [show Int32.ofInt 1 = 1 by decide]) (by decide) rfl (fun ls hl => ?_)
            refine lv_goto (tgt := 48) hx hb d_ZoneNodesModel_itemsFor_86 rfl ?_
            exact ih X w0 w3 (w4 + 0) (w5 + 1) v _ _ _ hm hX hS (lv_sub hl [2, 3, 1, 0] rfl) hexit
          · replace hm := zi_f h16 hm
            refine lv_aload_n hx hb d_ZoneNodesModel_itemsFor_69 rfl (lv_at hl 0 rfl) ?_
            replace hm := zb1_s hm
            obtain ⟨a18, h17, hm⟩ := hm
            refine zr_get (ci := 9) (C := R_ZoneNodesModel) (T := F_ZoneNodesModel) (N := 32) hx hb hts in_ZoneNodesModel hown hk hX rfl 22 (by decide) (hts _ tW455) rfl (zgr_v h17) d_ZoneNodesModel_itemsFor_70 ?_
            refine lv_iload hx hb d_ZoneNodesModel_itemsFor_73 (lv_at hl 3 rfl) ?_
            replace hm := zb1_s hm
            obtain ⟨v19, h20, hm⟩ := hm
            refine zr_iaload hx hb hk hX h20 d_ZoneNodesModel_itemsFor_75 ?_
            refine lv_goto (tgt := 80) hx hb d_ZoneNodesModel_itemsFor_76 rfl ?_
            refine lv_iadd hx hb d_ZoneNodesModel_itemsFor_80 ?_
            refine lv_istore (lv' := [(4, .int (w4 + v19)), (0, .ref w0), (3, .int w3), (5, .int w5)]) hx hb d_ZoneNodesModel_itemsFor_81 hl (by decide) rfl (fun ls hl => ?_)
            refine lv_iinc (v := w5 + 1) (lv' := [(5, .int (w5 + 1)), (4, .int (w4 + v19)), (0, .ref w0), (3, .int w3)]) hx hb d_ZoneNodesModel_itemsFor_83 hl (k := 3) rfl (by rw [show Int32.ofInt 1 = 1 by decide]) (by decide) rfl (fun ls hl => ?_)
            refine lv_goto (tgt := 48) hx hb d_ZoneNodesModel_itemsFor_86 rfl ?_
            exact ih X w0 w3 (w4 + v19) (w5 + 1) v _ _ _ hm hX hS (lv_sub hl [2, 3, 1, 0] rfl) hexit
  have hL92 : ∀ (n : Nat) (X : zh_T) (w0 : Nat) (w3 : Int32) (w4 : Int32) (w5 : Int32) (v : Int32) (H : Heap) (locs : List Loc) (ls : Array Slot), L_ZoneNodesModel_itemsFor_92 N X w0 w3 n w4 w5 = some v → zh_w G X H → va_S (zh_A G) s.heap H locs → lv_has ls 6 [(0, .ref w0), (3, .int w3), (4, .int w4), (5, .int w5)] → (∀ (H : Heap) (locs : List Loc) (ls : Array Slot), zh_w G X H → va_S (zh_A G) s.heap H locs → lv_has ls 6 [(4, .int v)] → W p l e { frames := 0, cells := 0, slots := 0, locals := 0 } s m args below meth c H locs 0 0 (MQ below (zh_Q G (some (.int r)) X) args s 0 0 (zh_A G)) (F0 m 130 ls [])) → W p l e { frames := 0, cells := 0, slots := 0, locals := 0 } s m args below meth c H locs 0 0 (MQ below (zh_Q G (some (.int r)) X) args s 0 0 (zh_A G)) (F0 m 92 ls []) := by
    intro n
    induction n with
    | zero =>
      intro X w0 w3 w4 w5 v H locs ls hm hX hS hl hexit
      rw [L_ZoneNodesModel_itemsFor_92] at hm
      cases hm
    | succ n ih =>
      intro X w0 w3 w4 w5 v H locs ls hm hX hS hl hexit
      rw [L_ZoneNodesModel_itemsFor_92] at hm
      refine lv_iload hx hb d_ZoneNodesModel_itemsFor_92 (lv_at hl 3 rfl) ?_
      refine lv_sipush (v := 256) hx hb d_ZoneNodesModel_itemsFor_94 (by decide) ?_
      refine lv_icmp_ge (tgt := 130) hx hb d_ZoneNodesModel_itemsFor_97 rfl (fun h23 => ?_) (fun h23 => ?_)
      · replace hm := zi_t h23 hm
        cases hm
        exact hexit _ _ _ hX hS (lv_sub hl [2] rfl)
      · replace hm := zi_f h23 hm
        refine lv_iload hx hb d_ZoneNodesModel_itemsFor_100 (lv_at hl 2 rfl) ?_
        refine lv_iload_n hx hb d_ZoneNodesModel_itemsFor_102 rfl (lv_at hl 1 rfl) ?_
        refine lv_if_ge (tgt := 120) hx hb d_ZoneNodesModel_itemsFor_103 rfl (fun h24 => ?_) (fun h24 => ?_)
        · replace hm := zi_t h24 hm
          refine lv_iconst (v := 0) hx hb d_ZoneNodesModel_itemsFor_120 (by decide) ?_
          refine lv_iadd hx hb d_ZoneNodesModel_itemsFor_121 ?_
          refine lv_istore (lv' := [(4, .int (w4 + 0)), (0, .ref w0), (3, .int w3), (5, .int w5)]) hx hb d_ZoneNodesModel_itemsFor_122 hl (by decide) rfl (fun ls hl => ?_)
          refine lv_iinc (v := w5 + 1) (lv' := [(5, .int (w5 + 1)), (4, .int (w4 + 0)), (0, .ref w0), (3, .int w3)]) hx hb d_ZoneNodesModel_itemsFor_124 hl (k := 3) rfl (by rw [show Int32.ofInt 1 = 1 by decide]) (by decide) rfl (fun ls hl => ?_)
          refine lv_goto (tgt := 92) hx hb d_ZoneNodesModel_itemsFor_127 rfl ?_
          exact ih X w0 w3 (w4 + 0) (w5 + 1) v _ _ _ hm hX hS (lv_sub hl [2, 3, 1, 0] rfl) hexit
        · replace hm := zi_f h24 hm
          refine lv_aload_n hx hb d_ZoneNodesModel_itemsFor_106 rfl (lv_at hl 0 rfl) ?_
          replace hm := zb1_s hm
          obtain ⟨a26, h25, hm⟩ := hm
          refine zr_get (ci := 9) (C := R_ZoneNodesModel) (T := F_ZoneNodesModel) (N := 32) hx hb hts in_ZoneNodesModel hown hk hX rfl 7 (by decide) (hts _ tW446) rfl (zgr_v h25) d_ZoneNodesModel_itemsFor_107 ?_
          refine lv_iload hx hb d_ZoneNodesModel_itemsFor_110 (lv_at hl 3 rfl) ?_
          replace hm := zb1_s hm
          obtain ⟨v27, h28, hm⟩ := hm
          refine zr_baload hx hb hk hX h28 d_ZoneNodesModel_itemsFor_112 ?_
          refine lv_if_eq (tgt := 120) hx hb d_ZoneNodesModel_itemsFor_113 rfl (fun h29 => ?_) (fun h29 => ?_)
          · replace hm := zi_t h29 hm
            refine lv_iconst (v := 0) hx hb d_ZoneNodesModel_itemsFor_120 (by decide) ?_
            refine lv_iadd hx hb d_ZoneNodesModel_itemsFor_121 ?_
            refine lv_istore (lv' := [(4, .int (w4 + 0)), (0, .ref w0), (3, .int w3), (5, .int w5)]) hx hb d_ZoneNodesModel_itemsFor_122 hl (by decide) rfl (fun ls hl => ?_)
            refine lv_iinc (v := w5 + 1) (lv' := [(5, .int (w5 + 1)), (4, .int (w4 + 0)), (0, .ref w0), (3, .int w3)]) hx hb d_ZoneNodesModel_itemsFor_124 hl (k := 3) rfl (by rw [show Int32.ofInt 1 = 1 by decide]) (by decide) rfl (fun ls hl => ?_)
            refine lv_goto (tgt := 92) hx hb d_ZoneNodesModel_itemsFor_127 rfl ?_
            exact ih X w0 w3 (w4 + 0) (w5 + 1) v _ _ _ hm hX hS (lv_sub hl [2, 3, 1, 0] rfl) hexit
          · replace hm := zi_f h29 hm
            refine lv_iconst (v := 1) hx hb d_ZoneNodesModel_itemsFor_116 (by decide) ?_
            refine lv_goto (tgt := 121) hx hb d_ZoneNodesModel_itemsFor_117 rfl ?_
            refine lv_iadd hx hb d_ZoneNodesModel_itemsFor_121 ?_
            refine lv_istore (lv' := [(4, .int (w4 + 1)), (0, .ref w0), (3, .int w3), (5, .int w5)]) hx hb d_ZoneNodesModel_itemsFor_122 hl (by decide) rfl (fun ls hl => ?_)
            refine lv_iinc (v := w5 + 1) (lv' := [(5, .int (w5 + 1)), (4, .int (w4 + 1)), (0, .ref w0), (3, .int w3)]) hx hb d_ZoneNodesModel_itemsFor_124 hl (k := 3) rfl (by rw [show Int32.ofInt 1 = 1 by decide]) (by decide) rfl (fun ls hl => ?_)
            refine lv_goto (tgt := 92) hx hb d_ZoneNodesModel_itemsFor_127 rfl ?_
            exact ih X w0 w3 (w4 + 1) (w5 + 1) v _ _ _ hm hX hS (lv_sub hl [2, 3, 1, 0] rfl) hexit
  refine lv_iconst (v := (-1)) hx hb d_ZoneNodesModel_itemsFor_0 (by decide) ?_
  refine lv_istore_n (lv' := [(3, .int (-1)), (0, .ref x0), (1, .int x1), (2, .int x2)]) hx hb d_ZoneNodesModel_itemsFor_1 rfl hl (by decide) rfl (fun ls hl => ?_)
  refine lv_iconst (v := 0) hx hb d_ZoneNodesModel_itemsFor_2 (by decide) ?_
  refine lv_istore (lv' := [(4, .int 0), (3, .int (-1)), (0, .ref x0), (1, .int x1), (2, .int x2)]) hx hb d_ZoneNodesModel_itemsFor_3 hl (by decide) rfl (fun ls hl => ?_)
  replace hm := zb1_s hm
  obtain ⟨v10, h11, hm⟩ := hm
  refine hL5 N X x0 x1 x2 (-1) 0 v10 _ _ _ h11 hX hS (lv_sub hl [2, 3, 4, 1, 0] rfl) (fun H locs ls hX hS hl => ?_)
  refine lv_iconst (v := 0) hx hb d_ZoneNodesModel_itemsFor_42 (by decide) ?_
  refine lv_istore (lv' := [(4, .int 0), (0, .ref x0), (3, .int v10)]) hx hb d_ZoneNodesModel_itemsFor_43 hl (by decide) rfl (fun ls hl => ?_)
  refine lv_iconst (v := 0) hx hb d_ZoneNodesModel_itemsFor_45 (by decide) ?_
  refine lv_istore (lv' := [(5, .int 0), (4, .int 0), (0, .ref x0), (3, .int v10)]) hx hb d_ZoneNodesModel_itemsFor_46 hl (by decide) rfl (fun ls hl => ?_)
  replace hm := zb1_s hm
  obtain ⟨v21, h22, hm⟩ := hm
  refine hL48 N X x0 v10 0 0 v21 _ _ _ h22 hX hS (lv_sub hl [2, 3, 1, 0] rfl) (fun H locs ls hX hS hl => ?_)
  refine lv_iconst (v := 0) hx hb d_ZoneNodesModel_itemsFor_89 (by decide) ?_
  refine lv_istore (lv' := [(5, .int 0), (0, .ref x0), (3, .int v10), (4, .int v21)]) hx hb d_ZoneNodesModel_itemsFor_90 hl (by decide) rfl (fun ls hl => ?_)
  replace hm := zb1_s hm
  obtain ⟨v30, h31, hm⟩ := hm
  refine hL92 N X x0 v10 v21 0 v30 _ _ _ h31 hX hS (lv_sub hl [1, 2, 3, 0] rfl) (fun H locs ls hX hS hl => ?_)
  refine lv_iload hx hb d_ZoneNodesModel_itemsFor_130 (lv_at hl 0 rfl) ?_
  cases hm
  exact W.iret hx hb hr (fun t ht hW => zh_end hk hX hS ht hW) hS.2.2 d_ZoneNodesModel_itemsFor_132
set_option maxHeartbeats 4000000 in
set_option maxRecDepth 100000 in
theorem c_ZoneNodesModel_takeFetch (l : Launch) (G : zh_G) (N : Nat) (X : zh_T) (x0 : Nat) (x1 : Int32) (x2 : Int32) (x3 : Int32) (r : Unit) (X' : zh_T) (hm : f_ZoneNodesModel_takeFetch N X x0 x1 x2 x3 = some (r, X')) : zM l G y_ZoneNodesModel_takeFetch w_ZoneNodesModel_takeFetch 1 27 X [.ref x0, .int x1, .int x2, .int x3] none X' 0 0 := by
  refine zr_ofW (by decide) (by exact Nat.le_of_ble_eq_true rfl) ?_
  intro p e s m args below meth c ls hx hb hml hr hts hown hin hlocks hk hX hl
  have hS : va_S (zh_A G) s.heap s.heap [] := va_S.rf
  have hl : lv_has ls 7 [(0, .ref x0), (1, .int x1), (2, .int x2), (3, .int x3)] := hl
  have hown : s.vm.findClass R_ZoneNodesModel = some m.cls := hown
  unfold f_ZoneNodesModel_takeFetch at hm
  have hL11 : ∀ (n : Nat) (X : zh_T) (w0 : Nat) (w1 : Int32) (w4 : Int32) (w5 : Int32) (v : Unit) (X1 : zh_T) (H : Heap) (locs : List Loc) (ls : Array Slot), L_ZoneNodesModel_takeFetch_11 N w0 w1 w4 n X w5 = some (v, X1) → zh_w G X H → va_S (zh_A G) s.heap H locs → lv_has ls 7 [(0, .ref w0), (1, .int w1), (4, .int w4), (5, .int w5)] → (∀ (H : Heap) (locs : List Loc) (ls : Array Slot), zh_w G X1 H → va_S (zh_A G) s.heap H locs → lv_has ls 7 [(0, .ref w0), (1, .int w1), (4, .int w4)] → W p l e { frames := 1, cells := 0, slots := 0, locals := 27 } s m args below meth c H locs 0 0 (MQ below (zh_Q G none X') args s 0 0 (zh_A G)) (F0 m 45 ls [])) → W p l e { frames := 1, cells := 0, slots := 0, locals := 27 } s m args below meth c H locs 0 0 (MQ below (zh_Q G none X') args s 0 0 (zh_A G)) (F0 m 11 ls []) := by
    intro n
    induction n with
    | zero =>
      intro X w0 w1 w4 w5 v X1 H locs ls hm hX hS hl hexit
      rw [L_ZoneNodesModel_takeFetch_11] at hm
      cases hm
    | succ n ih =>
      intro X w0 w1 w4 w5 v X1 H locs ls hm hX hS hl hexit
      rw [L_ZoneNodesModel_takeFetch_11] at hm
      refine lv_iload hx hb d_ZoneNodesModel_takeFetch_11 (lv_at hl 3 rfl) ?_
      refine lv_sipush (v := 256) hx hb d_ZoneNodesModel_takeFetch_13 (by decide) ?_
      refine lv_icmp_ge (tgt := 45) hx hb d_ZoneNodesModel_takeFetch_16 rfl (fun h4 => ?_) (fun h4 => ?_)
      · replace hm := zi_t h4 hm
        cases hm
        exact hexit _ _ _ hX hS (lv_sub hl [0, 1, 2] rfl)
      · replace hm := zi_f h4 hm
        refine lv_aload_n hx hb d_ZoneNodesModel_takeFetch_19 rfl (lv_at hl 0 rfl) ?_
        replace hm := zb1_s hm
        obtain ⟨a6, h5, hm⟩ := hm
        refine zr_get (ci := 9) (C := R_ZoneNodesModel) (T := F_ZoneNodesModel) (N := 32) hx hb hts in_ZoneNodesModel hown hk hX rfl 8 (by decide) (hts _ tW447) rfl (zgr_v h5) d_ZoneNodesModel_takeFetch_20 ?_
        refine lv_sipush (v := 256) hx hb d_ZoneNodesModel_takeFetch_23 (by decide) ?_
        refine lv_iload_n hx hb d_ZoneNodesModel_takeFetch_26 rfl (lv_at hl 1 rfl) ?_
        refine lv_imul hx hb d_ZoneNodesModel_takeFetch_27 ?_
        refine lv_iload hx hb d_ZoneNodesModel_takeFetch_28 (lv_at hl 3 rfl) ?_
        refine lv_iadd hx hb d_ZoneNodesModel_takeFetch_30 ?_
        refine lv_aload_n hx hb d_ZoneNodesModel_takeFetch_31 rfl (lv_at hl 0 rfl) ?_
        replace hm := zb1_s hm
        obtain ⟨a8, h7, hm⟩ := hm
        refine zr_get (ci := 9) (C := R_ZoneNodesModel) (T := F_ZoneNodesModel) (N := 32) hx hb hts in_ZoneNodesModel hown hk hX rfl 7 (by decide) (hts _ tW446) rfl (zgr_v h7) d_ZoneNodesModel_takeFetch_32 ?_
        refine lv_iload hx hb d_ZoneNodesModel_takeFetch_35 (lv_at hl 3 rfl) ?_
        replace hm := zb1_s hm
        obtain ⟨v9, h10, hm⟩ := hm
        refine zr_baload hx hb hk hX h10 d_ZoneNodesModel_takeFetch_37 ?_
        replace hm := zb1_s hm
        obtain ⟨X11, h12, hm⟩ := hm
        refine zr_bastore hx hb hk hX hS h12 d_ZoneNodesModel_takeFetch_38 (fun H locs hX hS => ?_)
        refine lv_iinc (v := w5 + 1) (lv' := [(5, .int (w5 + 1)), (0, .ref w0), (1, .int w1), (4, .int w4)]) hx hb d_ZoneNodesModel_takeFetch_39 hl (k := 3) rfl (by rw [show Int32.ofInt 1 = 1 by decide]) (by decide) rfl (fun ls hl => ?_)
        refine lv_goto (tgt := 11) hx hb d_ZoneNodesModel_takeFetch_42 rfl ?_
        exact ih X11 w0 w1 w4 (w5 + 1) v X1 _ _ _ hm hX hS (lv_sub hl [1, 2, 3, 0] rfl) hexit
  have hL48 : ∀ (n : Nat) (X : zh_T) (w0 : Nat) (w1 : Int32) (w4 : Int32) (w5 : Int32) (v : Unit) (X1 : zh_T) (H : Heap) (locs : List Loc) (ls : Array Slot), L_ZoneNodesModel_takeFetch_48 N w0 w1 w4 n X w5 = some (v, X1) → zh_w G X H → va_S (zh_A G) s.heap H locs → lv_has ls 7 [(0, .ref w0), (1, .int w1), (4, .int w4), (5, .int w5)] → (∀ (H : Heap) (locs : List Loc) (ls : Array Slot), zh_w G X1 H → va_S (zh_A G) s.heap H locs → lv_has ls 7 [] → W p l e { frames := 1, cells := 0, slots := 0, locals := 27 } s m args below meth c H locs 0 0 (MQ below (zh_Q G none X') args s 0 0 (zh_A G)) (F0 m 110 ls [])) → W p l e { frames := 1, cells := 0, slots := 0, locals := 27 } s m args below meth c H locs 0 0 (MQ below (zh_Q G none X') args s 0 0 (zh_A G)) (F0 m 48 ls []) := by
    intro n
    induction n with
    | zero =>
      intro X w0 w1 w4 w5 v X1 H locs ls hm hX hS hl hexit
      rw [L_ZoneNodesModel_takeFetch_48] at hm
      cases hm
    | succ n ih =>
      intro X w0 w1 w4 w5 v X1 H locs ls hm hX hS hl hexit
      rw [L_ZoneNodesModel_takeFetch_48] at hm
      refine lv_iconst (v := 4) hx hb d_ZoneNodesModel_takeFetch_48 (by decide) ?_
      refine lv_iload hx hb d_ZoneNodesModel_takeFetch_49 (lv_at hl 3 rfl) ?_
      refine lv_imul hx hb d_ZoneNodesModel_takeFetch_51 ?_
      refine lv_iload hx hb d_ZoneNodesModel_takeFetch_52 (lv_at hl 2 rfl) ?_
      refine lv_icmp_ge (tgt := 110) hx hb d_ZoneNodesModel_takeFetch_54 rfl (fun h16 => ?_) (fun h16 => ?_)
      · replace hm := zi_t h16 hm
        cases hm
        exact hexit _ _ _ hX hS (lv_sub hl [] rfl)
      · replace hm := zi_f h16 hm
        refine lv_iload hx hb d_ZoneNodesModel_takeFetch_57 (lv_at hl 2 rfl) ?_
        refine lv_iconst (v := 4) hx hb d_ZoneNodesModel_takeFetch_59 (by decide) ?_
        refine lv_iload hx hb d_ZoneNodesModel_takeFetch_60 (lv_at hl 3 rfl) ?_
        refine lv_imul hx hb d_ZoneNodesModel_takeFetch_62 ?_
        refine lv_isub hx hb d_ZoneNodesModel_takeFetch_63 ?_
        refine lv_istore (lv' := [(6, .int (w4 - (4 * w5))), (0, .ref w0), (1, .int w1), (4, .int w4), (5, .int w5)]) hx hb d_ZoneNodesModel_takeFetch_64 hl (by decide) rfl (fun ls hl => ?_)
        refine lv_aload_n hx hb d_ZoneNodesModel_takeFetch_66 rfl (lv_at hl 1 rfl) ?_
        refine lv_iconst (v := 5) hx hb d_ZoneNodesModel_takeFetch_67 (by decide) ?_
        refine lv_iload_n hx hb d_ZoneNodesModel_takeFetch_68 rfl (lv_at hl 2 rfl) ?_
        refine lv_aload_n hx hb d_ZoneNodesModel_takeFetch_69 rfl (lv_at hl 1 rfl) ?_
        replace hm := zb1_s hm
        obtain ⟨a18, h17, hm⟩ := hm
        refine zr_get (ci := 9) (C := R_ZoneNodesModel) (T := F_ZoneNodesModel) (N := 32) hx hb hts in_ZoneNodesModel hown hk hX rfl 6 (by decide) (hts _ tW445) rfl (zgr_v h17) d_ZoneNodesModel_takeFetch_70 ?_
        refine lv_iconst (v := 0) hx hb d_ZoneNodesModel_takeFetch_73 (by decide) ?_
        replace hm := zb1_s hm
        obtain ⟨v19, h20, hm⟩ := hm
        refine zr_iaload hx hb hk hX h20 d_ZoneNodesModel_takeFetch_74 ?_
        refine lv_iload hx hb d_ZoneNodesModel_takeFetch_75 (lv_at hl 4 rfl) ?_
        refine lv_iload hx hb d_ZoneNodesModel_takeFetch_77 (lv_at hl 0 rfl) ?_
        refine lv_iconst (v := 4) hx hb d_ZoneNodesModel_takeFetch_79 (by decide) ?_
        refine lv_icmp_ge (tgt := 88) hx hb d_ZoneNodesModel_takeFetch_80 rfl (fun h21 => ?_) (fun h21 => ?_)
        · replace hm := zi_t h21 hm
          refine lv_iconst (v := 4) hx hb d_ZoneNodesModel_takeFetch_88 (by decide) ?_
          refine lv_iconst (v := 0) hx hb d_ZoneNodesModel_takeFetch_89 (by decide) ?_
          refine lv_iload hx hb d_ZoneNodesModel_takeFetch_90 (lv_at hl 0 rfl) ?_
          refine lv_iconst (v := 4) hx hb d_ZoneNodesModel_takeFetch_92 (by decide) ?_
          refine lv_icmp_gt (tgt := 100) hx hb d_ZoneNodesModel_takeFetch_93 rfl (fun h22 => ?_) (fun h22 => ?_)
          · replace hm := zi_t h22 hm
            refine lv_iconst (v := 0) hx hb d_ZoneNodesModel_takeFetch_100 (by decide) ?_
            replace hm := zb1_s hm
            obtain ⟨_, h24, hm⟩ := hm
            replace hm := zb2_s hm
            obtain ⟨v25, X26, h23, hm⟩ := hm
            refine zr_callv (zr_runV (As := [.int 5, .int w1, .int v19, .int w5, .int 4, .int 0, .int 0]) (rest := []) (n := 7) hx hb hml hown hts hk hX (c_ZoneNodesModel_append l G N X w0 5 w1 v19 w5 4 0 0 v25 X26 h23) (hts _ tW500) tW501 (hts _ tW469) (hts _ tW502) (hts _ tW503) rfl h24 (by decide +kernel) ⟨Nat.le_of_ble_eq_true rfl, Nat.le_of_ble_eq_true rfl⟩ rfl rfl hl.1 rfl (lv_room (Nat.le_of_ble_eq_true rfl)) d_ZoneNodesModel_takeFetch_101 ⟨(Nat.le_of_ble_eq_true rfl), (Nat.le_of_ble_eq_true rfl)⟩) hS (fun H locs hX hS => ?_)
            refine lv_iinc (v := w5 + 1) (lv' := [(5, .int (w5 + 1)), (6, .int (w4 - (4 * w5))), (0, .ref w0), (1, .int w1), (4, .int w4)]) hx hb d_ZoneNodesModel_takeFetch_104 hl (k := 4) rfl (by rw [show Int32.ofInt 1 = 1 by decide]) (by decide) rfl (fun ls hl => ?_)
            refine lv_goto (tgt := 48) hx hb d_ZoneNodesModel_takeFetch_107 rfl ?_
            exact ih X26 w0 w1 w4 (w5 + 1) v X1 _ _ _ hm hX hS (lv_sub hl [2, 3, 4, 0] rfl) hexit
          · replace hm := zi_f h22 hm
            refine lv_iconst (v := 1) hx hb d_ZoneNodesModel_takeFetch_96 (by decide) ?_
            refine lv_goto (tgt := 101) hx hb d_ZoneNodesModel_takeFetch_97 rfl ?_
            replace hm := zb1_s hm
            obtain ⟨_, h28, hm⟩ := hm
            replace hm := zb2_s hm
            obtain ⟨v29, X30, h27, hm⟩ := hm
            refine zr_callv (zr_runV (As := [.int 5, .int w1, .int v19, .int w5, .int 4, .int 0, .int 1]) (rest := []) (n := 7) hx hb hml hown hts hk hX (c_ZoneNodesModel_append l G N X w0 5 w1 v19 w5 4 0 1 v29 X30 h27) (hts _ tW500) tW501 (hts _ tW469) (hts _ tW502) (hts _ tW503) rfl h28 (by decide +kernel) ⟨Nat.le_of_ble_eq_true rfl, Nat.le_of_ble_eq_true rfl⟩ rfl rfl hl.1 rfl (lv_room (Nat.le_of_ble_eq_true rfl)) d_ZoneNodesModel_takeFetch_101 ⟨(Nat.le_of_ble_eq_true rfl), (Nat.le_of_ble_eq_true rfl)⟩) hS (fun H locs hX hS => ?_)
            refine lv_iinc (v := w5 + 1) (lv' := [(5, .int (w5 + 1)), (6, .int (w4 - (4 * w5))), (0, .ref w0), (1, .int w1), (4, .int w4)]) hx hb d_ZoneNodesModel_takeFetch_104 hl (k := 4) rfl (by rw [show Int32.ofInt 1 = 1 by decide]) (by decide) rfl (fun ls hl => ?_)
            refine lv_goto (tgt := 48) hx hb d_ZoneNodesModel_takeFetch_107 rfl ?_
            exact ih X30 w0 w1 w4 (w5 + 1) v X1 _ _ _ hm hX hS (lv_sub hl [2, 3, 4, 0] rfl) hexit
        · replace hm := zi_f h21 hm
          refine lv_iload hx hb d_ZoneNodesModel_takeFetch_83 (lv_at hl 0 rfl) ?_
          refine lv_goto (tgt := 89) hx hb d_ZoneNodesModel_takeFetch_85 rfl ?_
          refine lv_iconst (v := 0) hx hb d_ZoneNodesModel_takeFetch_89 (by decide) ?_
          refine lv_iload hx hb d_ZoneNodesModel_takeFetch_90 (lv_at hl 0 rfl) ?_
          refine lv_iconst (v := 4) hx hb d_ZoneNodesModel_takeFetch_92 (by decide) ?_
          refine lv_icmp_gt (tgt := 100) hx hb d_ZoneNodesModel_takeFetch_93 rfl (fun h31 => ?_) (fun h31 => ?_)
          · replace hm := zi_t h31 hm
            refine lv_iconst (v := 0) hx hb d_ZoneNodesModel_takeFetch_100 (by decide) ?_
            replace hm := zb1_s hm
            obtain ⟨_, h33, hm⟩ := hm
            replace hm := zb2_s hm
            obtain ⟨v34, X35, h32, hm⟩ := hm
            refine zr_callv (zr_runV (As := [.int 5, .int w1, .int v19, .int w5, .int (w4 - (4 * w5)), .int 0, .int 0]) (rest := []) (n := 7) hx hb hml hown hts hk hX (c_ZoneNodesModel_append l G N X w0 5 w1 v19 w5 (w4 - (4 * w5)) 0 0 v34 X35 h32) (hts _ tW500) tW501 (hts _ tW469) (hts _ tW502) (hts _ tW503) rfl h33 (by decide +kernel) ⟨Nat.le_of_ble_eq_true rfl, Nat.le_of_ble_eq_true rfl⟩ rfl rfl hl.1 rfl (lv_room (Nat.le_of_ble_eq_true rfl)) d_ZoneNodesModel_takeFetch_101 ⟨(Nat.le_of_ble_eq_true rfl), (Nat.le_of_ble_eq_true rfl)⟩) hS (fun H locs hX hS => ?_)
            refine lv_iinc (v := w5 + 1) (lv' := [(5, .int (w5 + 1)), (6, .int (w4 - (4 * w5))), (0, .ref w0), (1, .int w1), (4, .int w4)]) hx hb d_ZoneNodesModel_takeFetch_104 hl (k := 4) rfl (by rw [show Int32.ofInt 1 = 1 by decide]) (by decide) rfl (fun ls hl => ?_)
            refine lv_goto (tgt := 48) hx hb d_ZoneNodesModel_takeFetch_107 rfl ?_
            exact ih X35 w0 w1 w4 (w5 + 1) v X1 _ _ _ hm hX hS (lv_sub hl [2, 3, 4, 0] rfl) hexit
          · replace hm := zi_f h31 hm
            refine lv_iconst (v := 1) hx hb d_ZoneNodesModel_takeFetch_96 (by decide) ?_
            refine lv_goto (tgt := 101) hx hb d_ZoneNodesModel_takeFetch_97 rfl ?_
            replace hm := zb1_s hm
            obtain ⟨_, h37, hm⟩ := hm
            replace hm := zb2_s hm
            obtain ⟨v38, X39, h36, hm⟩ := hm
            refine zr_callv (zr_runV (As := [.int 5, .int w1, .int v19, .int w5, .int (w4 - (4 * w5)), .int 0, .int 1]) (rest := []) (n := 7) hx hb hml hown hts hk hX (c_ZoneNodesModel_append l G N X w0 5 w1 v19 w5 (w4 - (4 * w5)) 0 1 v38 X39 h36) (hts _ tW500) tW501 (hts _ tW469) (hts _ tW502) (hts _ tW503) rfl h37 (by decide +kernel) ⟨Nat.le_of_ble_eq_true rfl, Nat.le_of_ble_eq_true rfl⟩ rfl rfl hl.1 rfl (lv_room (Nat.le_of_ble_eq_true rfl)) d_ZoneNodesModel_takeFetch_101 ⟨(Nat.le_of_ble_eq_true rfl), (Nat.le_of_ble_eq_true rfl)⟩) hS (fun H locs hX hS => ?_)
            refine lv_iinc (v := w5 + 1) (lv' := [(5, .int (w5 + 1)), (6, .int (w4 - (4 * w5))), (0, .ref w0), (1, .int w1), (4, .int w4)]) hx hb d_ZoneNodesModel_takeFetch_104 hl (k := 4) rfl (by rw [show Int32.ofInt 1 = 1 by decide]) (by decide) rfl (fun ls hl => ?_)
            refine lv_goto (tgt := 48) hx hb d_ZoneNodesModel_takeFetch_107 rfl ?_
            exact ih X39 w0 w1 w4 (w5 + 1) v X1 _ _ _ hm hX hS (lv_sub hl [2, 3, 4, 0] rfl) hexit
  refine lv_aload_n hx hb d_ZoneNodesModel_takeFetch_0 rfl (lv_at hl 0 rfl) ?_
  refine lv_iload_n hx hb d_ZoneNodesModel_takeFetch_1 rfl (lv_at hl 2 rfl) ?_
  refine lv_iload_n hx hb d_ZoneNodesModel_takeFetch_2 rfl (lv_at hl 3 rfl) ?_
  replace hm := zb1_s hm
  obtain ⟨_, h2, hm⟩ := hm
  replace hm := zb1_s hm
  obtain ⟨v3, h1, hm⟩ := hm
  refine zr_calli (zr_runV (As := [.int x2, .int x3]) (rest := []) (n := 2) hx hb hml hown hts hk hX (c_ZoneNodesModel_itemsFor l G N X x0 x2 x3 v3 h1) (hts _ tW509) tW510 (hts _ tW469) (hts _ tW511) (hts _ tW512) rfl h2 (by decide +kernel) ⟨Nat.le_of_ble_eq_true rfl, Nat.le_of_ble_eq_true rfl⟩ rfl rfl hl.1 rfl (lv_room (Nat.le_of_ble_eq_true rfl)) d_ZoneNodesModel_takeFetch_3 ⟨(Nat.le_of_ble_eq_true rfl), (Nat.le_of_ble_eq_true rfl)⟩) hS (fun H locs hX hS => ?_)
  refine lv_istore (lv' := [(4, .int v3), (0, .ref x0), (1, .int x1), (2, .int x2), (3, .int x3)]) hx hb d_ZoneNodesModel_takeFetch_6 hl (by decide) rfl (fun ls hl => ?_)
  refine lv_iconst (v := 0) hx hb d_ZoneNodesModel_takeFetch_8 (by decide) ?_
  refine lv_istore (lv' := [(5, .int 0), (4, .int v3), (0, .ref x0), (1, .int x1), (2, .int x2), (3, .int x3)]) hx hb d_ZoneNodesModel_takeFetch_9 hl (by decide) rfl (fun ls hl => ?_)
  replace hm := zb2_s hm
  obtain ⟨v13, X15, h14, hm⟩ := hm
  refine hL11 N X x0 x1 v3 0 v13 X15 _ _ _ h14 hX hS (lv_sub hl [2, 3, 1, 0] rfl) (fun H locs ls hX hS hl => ?_)
  refine lv_iconst (v := 0) hx hb d_ZoneNodesModel_takeFetch_45 (by decide) ?_
  refine lv_istore (lv' := [(5, .int 0), (0, .ref x0), (1, .int x1), (4, .int v3)]) hx hb d_ZoneNodesModel_takeFetch_46 hl (by decide) rfl (fun ls hl => ?_)
  replace hm := zb2_s hm
  obtain ⟨v40, X42, h41, hm⟩ := hm
  refine hL48 N X15 x0 x1 v3 0 v40 X42 _ _ _ h41 hX hS (lv_sub hl [1, 2, 3, 0] rfl) (fun H locs ls hX hS hl => ?_)
  cases hm
  exact W.vret hx hb hr (fun t ht hW => zh_end hk hX hS ht hW) hS.2.2 d_ZoneNodesModel_takeFetch_110
set_option maxHeartbeats 4000000 in
set_option maxRecDepth 100000 in
theorem c_ZoneNodesModel_refreshed (l : Launch) (G : zh_G) (N : Nat) (X : zh_T) (x0 : Nat) (x1 : Int32) (r : Unit) (X' : zh_T) (hm : f_ZoneNodesModel_refreshed N X x0 x1 = some (r, X')) : zM l G y_ZoneNodesModel_refreshed w_ZoneNodesModel_refreshed 1 22 X [.ref x0, .int x1] none X' 0 0 := by
  refine zr_ofW (by decide) (by exact Nat.le_of_ble_eq_true rfl) ?_
  intro p e s m args below meth c ls hx hb hml hr hts hown hin hlocks hk hX hl
  have hS : va_S (zh_A G) s.heap s.heap [] := va_S.rf
  have hl : lv_has ls 2 [(0, .ref x0), (1, .int x1)] := hl
  have hown : s.vm.findClass R_ZoneNodesModel = some m.cls := hown
  unfold f_ZoneNodesModel_refreshed at hm
  refine lv_aload_n hx hb d_ZoneNodesModel_refreshed_0 rfl (lv_at hl 0 rfl) ?_
  refine lv_iload_n hx hb d_ZoneNodesModel_refreshed_1 rfl (lv_at hl 1 rfl) ?_
  refine lv_aload_n hx hb d_ZoneNodesModel_refreshed_2 rfl (lv_at hl 0 rfl) ?_
  replace hm := zb1_s hm
  obtain ⟨v2, h1, hm⟩ := hm
  refine zr_get (ci := 9) (C := R_ZoneNodesModel) (T := F_ZoneNodesModel) (N := 32) hx hb hts in_ZoneNodesModel hown hk hX rfl 0 (by decide) (hts _ tW464) rfl (zgi_v h1) d_ZoneNodesModel_refreshed_3 ?_
  replace hm := zb1_s hm
  obtain ⟨_, h4, hm⟩ := hm
  replace hm := zb2_s hm
  obtain ⟨v5, X6, h3, hm⟩ := hm
  refine zr_callv (zr_runV (As := [.int x1, .int v2]) (rest := []) (n := 2) hx hb hml hown hts hk hX (c_ZoneNodesModel_rest l G N X x0 x1 v2 v5 X6 h3) (hts _ tW471) tW472 (hts _ tW469) (hts _ tW473) (hts _ tW474) rfl h4 (by decide +kernel) ⟨Nat.le_of_ble_eq_true rfl, Nat.le_of_ble_eq_true rfl⟩ rfl rfl hl.1 rfl (lv_room (Nat.le_of_ble_eq_true rfl)) d_ZoneNodesModel_refreshed_6 ⟨(Nat.le_of_ble_eq_true rfl), (Nat.le_of_ble_eq_true rfl)⟩) hS (fun H locs hX hS => ?_)
  refine lv_aload_n hx hb d_ZoneNodesModel_refreshed_9 rfl (lv_at hl 0 rfl) ?_
  replace hm := zb1_s hm
  obtain ⟨a8, h7, hm⟩ := hm
  refine zr_get (ci := 9) (C := R_ZoneNodesModel) (T := F_ZoneNodesModel) (N := 32) hx hb hts in_ZoneNodesModel hown hk hX rfl 11 (by decide) (hts _ tW448) rfl (zgr_v h7) d_ZoneNodesModel_refreshed_10 ?_
  refine lv_iload_n hx hb d_ZoneNodesModel_refreshed_13 rfl (lv_at hl 1 rfl) ?_
  refine lv_aload_n hx hb d_ZoneNodesModel_refreshed_14 rfl (lv_at hl 0 rfl) ?_
  replace hm := zb1_s hm
  obtain ⟨v10, h9, hm⟩ := hm
  refine zr_get (ci := 9) (C := R_ZoneNodesModel) (T := F_ZoneNodesModel) (N := 32) hx hb hts in_ZoneNodesModel hown hk hX rfl 3 (by decide) (hts _ tW441) rfl (zgi_v h9) d_ZoneNodesModel_refreshed_15 ?_
  refine lv_aload_n hx hb d_ZoneNodesModel_refreshed_18 rfl (lv_at hl 0 rfl) ?_
  replace hm := zb1_s hm
  obtain ⟨v12, h11, hm⟩ := hm
  refine zr_get (ci := 9) (C := R_ZoneNodesModel) (T := F_ZoneNodesModel) (N := 32) hx hb hts in_ZoneNodesModel hown hk hX rfl 2 (by decide) (hts _ tW466) rfl (zgi_v h11) d_ZoneNodesModel_refreshed_19 ?_
  refine lv_iadd hx hb d_ZoneNodesModel_refreshed_22 ?_
  replace hm := zb1_s hm
  obtain ⟨X13, h14, hm⟩ := hm
  refine zr_iastore hx hb hk hX hS h14 d_ZoneNodesModel_refreshed_23 (fun H locs hX hS => ?_)
  cases hm
  exact W.vret hx hb hr (fun t ht hW => zh_end hk hX hS ht hW) hS.2.2 d_ZoneNodesModel_refreshed_24
set_option maxHeartbeats 4000000 in
set_option maxRecDepth 100000 in
theorem c_ZoneNodesModel_takePart (l : Launch) (G : zh_G) (N : Nat) (X : zh_T) (x0 : Nat) (x1 : Int32) (x2 : Int32) (x3 : Int32) (x4 : Int32) (r : Unit) (X' : zh_T) (hm : f_ZoneNodesModel_takePart N X x0 x1 x2 x3 x4 = some (r, X')) : zM l G y_ZoneNodesModel_takePart w_ZoneNodesModel_takePart 2 44 X [.ref x0, .int x1, .int x2, .int x3, .int x4] none X' 0 0 := by
  refine zr_ofW (by decide) (by exact Nat.le_of_ble_eq_true rfl) ?_
  intro p e s m args below meth c ls hx hb hml hr hts hown hin hlocks hk hX hl
  have hS : va_S (zh_A G) s.heap s.heap [] := va_S.rf
  have hl : lv_has ls 6 [(0, .ref x0), (1, .int x1), (2, .int x2), (3, .int x3), (4, .int x4)] := hl
  have hown : s.vm.findClass R_ZoneNodesModel = some m.cls := hown
  unfold f_ZoneNodesModel_takePart at hm
  have hL43 : ∀ (n : Nat) (X : zh_T) (w0 : Nat) (w1 : Int32) (w5 : Int32) (v : Unit) (X1 : zh_T) (H : Heap) (locs : List Loc) (ls : Array Slot), L_ZoneNodesModel_takePart_43 N w0 w1 n X w5 = some (v, X1) → zh_w G X H → va_S (zh_A G) s.heap H locs → lv_has ls 6 [(0, .ref w0), (1, .int w1), (5, .int w5)] → (∀ (H : Heap) (locs : List Loc) (ls : Array Slot), zh_w G X1 H → va_S (zh_A G) s.heap H locs → lv_has ls 6 [(0, .ref w0), (1, .int w1)] → W p l e { frames := 2, cells := 0, slots := 0, locals := 44 } s m args below meth c H locs 0 0 (MQ below (zh_Q G none X') args s 0 0 (zh_A G)) (F0 m 83 ls [])) → W p l e { frames := 2, cells := 0, slots := 0, locals := 44 } s m args below meth c H locs 0 0 (MQ below (zh_Q G none X') args s 0 0 (zh_A G)) (F0 m 43 ls []) := by
    intro n
    induction n with
    | zero =>
      intro X w0 w1 w5 v X1 H locs ls hm hX hS hl hexit
      rw [L_ZoneNodesModel_takePart_43] at hm
      cases hm
    | succ n ih =>
      intro X w0 w1 w5 v X1 H locs ls hm hX hS hl hexit
      rw [L_ZoneNodesModel_takePart_43] at hm
      refine lv_iload hx hb d_ZoneNodesModel_takePart_43 (lv_at hl 2 rfl) ?_
      refine lv_sipush (v := 256) hx hb d_ZoneNodesModel_takePart_45 (by decide) ?_
      refine lv_icmp_ge (tgt := 83) hx hb d_ZoneNodesModel_takePart_48 rfl (fun h11 => ?_) (fun h11 => ?_)
      · replace hm := zi_t h11 hm
        cases hm
        exact hexit _ _ _ hX hS (lv_sub hl [0, 1] rfl)
      · replace hm := zi_f h11 hm
        refine lv_aload_n hx hb d_ZoneNodesModel_takePart_51 rfl (lv_at hl 0 rfl) ?_
        replace hm := zb1_s hm
        obtain ⟨a13, h12, hm⟩ := hm
        refine zr_get (ci := 9) (C := R_ZoneNodesModel) (T := F_ZoneNodesModel) (N := 32) hx hb hts in_ZoneNodesModel hown hk hX rfl 7 (by decide) (hts _ tW446) rfl (zgr_v h12) d_ZoneNodesModel_takePart_52 ?_
        refine lv_sipush (v := 256) hx hb d_ZoneNodesModel_takePart_55 (by decide) ?_
        refine lv_iload_n hx hb d_ZoneNodesModel_takePart_58 rfl (lv_at hl 1 rfl) ?_
        refine lv_imul hx hb d_ZoneNodesModel_takePart_59 ?_
        refine lv_iload hx hb d_ZoneNodesModel_takePart_60 (lv_at hl 2 rfl) ?_
        refine lv_iadd hx hb d_ZoneNodesModel_takePart_62 ?_
        refine lv_aload_n hx hb d_ZoneNodesModel_takePart_63 rfl (lv_at hl 0 rfl) ?_
        replace hm := zb1_s hm
        obtain ⟨a15, h14, hm⟩ := hm
        refine zr_get (ci := 9) (C := R_ZoneNodesModel) (T := F_ZoneNodesModel) (N := 32) hx hb hts in_ZoneNodesModel hown hk hX rfl 8 (by decide) (hts _ tW447) rfl (zgr_v h14) d_ZoneNodesModel_takePart_64 ?_
        refine lv_sipush (v := 256) hx hb d_ZoneNodesModel_takePart_67 (by decide) ?_
        refine lv_iload_n hx hb d_ZoneNodesModel_takePart_70 rfl (lv_at hl 1 rfl) ?_
        refine lv_imul hx hb d_ZoneNodesModel_takePart_71 ?_
        refine lv_iload hx hb d_ZoneNodesModel_takePart_72 (lv_at hl 2 rfl) ?_
        refine lv_iadd hx hb d_ZoneNodesModel_takePart_74 ?_
        replace hm := zb1_s hm
        obtain ⟨v16, h17, hm⟩ := hm
        refine zr_baload hx hb hk hX h17 d_ZoneNodesModel_takePart_75 ?_
        replace hm := zb1_s hm
        obtain ⟨X18, h19, hm⟩ := hm
        refine zr_bastore hx hb hk hX hS h19 d_ZoneNodesModel_takePart_76 (fun H locs hX hS => ?_)
        refine lv_iinc (v := w5 + 1) (lv' := [(5, .int (w5 + 1)), (0, .ref w0), (1, .int w1)]) hx hb d_ZoneNodesModel_takePart_77 hl (k := 2) rfl (by rw [show Int32.ofInt 1 = 1 by decide]) (by decide) rfl (fun ls hl => ?_)
        refine lv_goto (tgt := 43) hx hb d_ZoneNodesModel_takePart_80 rfl ?_
        exact ih X18 w0 w1 (w5 + 1) v X1 _ _ _ hm hX hS (lv_sub hl [1, 2, 0] rfl) hexit
  refine lv_iload_n hx hb d_ZoneNodesModel_takePart_0 rfl (lv_at hl 3 rfl) ?_
  refine lv_if_eq (tgt := 21) hx hb d_ZoneNodesModel_takePart_1 rfl (fun h1 => ?_) (fun h1 => ?_)
  · replace hm := zi_t h1 hm
    refine lv_iload hx hb d_ZoneNodesModel_takePart_21 (lv_at hl 4 rfl) ?_
    refine lv_if_eq (tgt := 88) hx hb d_ZoneNodesModel_takePart_23 rfl (fun h2 => ?_) (fun h2 => ?_)
    · replace hm := zi_t h2 hm
      cases hm
      exact W.vret hx hb hr (fun t ht hW => zh_end hk hX hS ht hW) hS.2.2 d_ZoneNodesModel_takePart_88
    · replace hm := zi_f h2 hm
      refine lv_aload_n hx hb d_ZoneNodesModel_takePart_26 rfl (lv_at hl 0 rfl) ?_
      replace hm := zb1_s hm
      obtain ⟨a4, h3, hm⟩ := hm
      refine zr_get (ci := 9) (C := R_ZoneNodesModel) (T := F_ZoneNodesModel) (N := 32) hx hb hts in_ZoneNodesModel hown hk hX rfl 5 (by decide) (hts _ tW444) rfl (zgr_v h3) d_ZoneNodesModel_takePart_27 ?_
      refine lv_iload_n hx hb d_ZoneNodesModel_takePart_30 rfl (lv_at hl 1 rfl) ?_
      refine lv_iconst (v := 1) hx hb d_ZoneNodesModel_takePart_31 (by decide) ?_
      replace hm := zb1_s hm
      obtain ⟨X5, h6, hm⟩ := hm
      refine zr_bastore hx hb hk hX hS h6 d_ZoneNodesModel_takePart_32 (fun H locs hX hS => ?_)
      refine lv_aload_n hx hb d_ZoneNodesModel_takePart_33 rfl (lv_at hl 0 rfl) ?_
      replace hm := zb1_s hm
      obtain ⟨a8, h7, hm⟩ := hm
      refine zr_get (ci := 9) (C := R_ZoneNodesModel) (T := F_ZoneNodesModel) (N := 32) hx hb hts in_ZoneNodesModel hown hk hX rfl 6 (by decide) (hts _ tW445) rfl (zgr_v h7) d_ZoneNodesModel_takePart_34 ?_
      refine lv_iload_n hx hb d_ZoneNodesModel_takePart_37 rfl (lv_at hl 1 rfl) ?_
      refine lv_iload_n hx hb d_ZoneNodesModel_takePart_38 rfl (lv_at hl 2 rfl) ?_
      replace hm := zb1_s hm
      obtain ⟨X9, h10, hm⟩ := hm
      refine zr_iastore hx hb hk hX hS h10 d_ZoneNodesModel_takePart_39 (fun H locs hX hS => ?_)
      refine lv_iconst (v := 0) hx hb d_ZoneNodesModel_takePart_40 (by decide) ?_
      refine lv_istore (lv' := [(5, .int 0), (0, .ref x0), (1, .int x1), (2, .int x2), (3, .int x3), (4, .int x4)]) hx hb d_ZoneNodesModel_takePart_41 hl (by decide) rfl (fun ls hl => ?_)
      replace hm := zb2_s hm
      obtain ⟨v20, X22, h21, hm⟩ := hm
      refine hL43 N X9 x0 x1 0 v20 X22 _ _ _ h21 hX hS (lv_sub hl [1, 2, 0] rfl) (fun H locs ls hX hS hl => ?_)
      refine lv_aload_n hx hb d_ZoneNodesModel_takePart_83 rfl (lv_at hl 0 rfl) ?_
      refine lv_iload_n hx hb d_ZoneNodesModel_takePart_84 rfl (lv_at hl 1 rfl) ?_
      replace hm := zb1_s hm
      obtain ⟨_, h24, hm⟩ := hm
      replace hm := zb2_s hm
      obtain ⟨v25, X26, h23, hm⟩ := hm
      refine zr_callv (zr_runV (As := [.int x1]) (rest := []) (n := 1) hx hb hml hown hts hk hX (c_ZoneNodesModel_refreshed l G N X22 x0 x1 v25 X26 h23) (hts _ tW513) tW514 (hts _ tW469) (hts _ tW515) (hts _ tW516) rfl h24 (by decide +kernel) ⟨Nat.le_of_ble_eq_true rfl, Nat.le_of_ble_eq_true rfl⟩ rfl rfl hl.1 rfl (lv_room (Nat.le_of_ble_eq_true rfl)) d_ZoneNodesModel_takePart_85 ⟨(Nat.le_of_ble_eq_true rfl), (Nat.le_of_ble_eq_true rfl)⟩) hS (fun H locs hX hS => ?_)
      cases hm
      exact W.vret hx hb hr (fun t ht hW => zh_end hk hX hS ht hW) hS.2.2 d_ZoneNodesModel_takePart_88
  · replace hm := zi_f h1 hm
    refine lv_aload_n hx hb d_ZoneNodesModel_takePart_4 rfl (lv_at hl 0 rfl) ?_
    refine lv_iload_n hx hb d_ZoneNodesModel_takePart_5 rfl (lv_at hl 1 rfl) ?_
    replace hm := zb1_s hm
    obtain ⟨_, h28, hm⟩ := hm
    replace hm := zb2_s hm
    obtain ⟨v29, X30, h27, hm⟩ := hm
    refine zr_callv (zr_runV (As := [.int x1]) (rest := []) (n := 1) hx hb hml hown hts hk hX (c_ZoneNodesModel_cutOff l G N X x0 x1 v29 X30 h27) (hts _ tW496) tW497 (hts _ tW469) (hts _ tW498) (hts _ tW499) rfl h28 (by decide +kernel) ⟨Nat.le_of_ble_eq_true rfl, Nat.le_of_ble_eq_true rfl⟩ rfl rfl hl.1 rfl (lv_room (Nat.le_of_ble_eq_true rfl)) d_ZoneNodesModel_takePart_6 ⟨(Nat.le_of_ble_eq_true rfl), (Nat.le_of_ble_eq_true rfl)⟩) hS (fun H locs hX hS => ?_)
    refine lv_aload_n hx hb d_ZoneNodesModel_takePart_9 rfl (lv_at hl 0 rfl) ?_
    refine lv_iload_n hx hb d_ZoneNodesModel_takePart_10 rfl (lv_at hl 1 rfl) ?_
    refine lv_aload_n hx hb d_ZoneNodesModel_takePart_11 rfl (lv_at hl 0 rfl) ?_
    replace hm := zb1_s hm
    obtain ⟨v32, h31, hm⟩ := hm
    refine zr_get (ci := 9) (C := R_ZoneNodesModel) (T := F_ZoneNodesModel) (N := 32) hx hb hts in_ZoneNodesModel hown hk hX rfl 1 (by decide) (hts _ tW465) rfl (zgi_v h31) d_ZoneNodesModel_takePart_12 ?_
    replace hm := zb1_s hm
    obtain ⟨_, h34, hm⟩ := hm
    replace hm := zb2_s hm
    obtain ⟨v35, X36, h33, hm⟩ := hm
    refine zr_callv (zr_runV (As := [.int x1, .int v32]) (rest := []) (n := 2) hx hb hml hown hts hk hX (c_ZoneNodesModel_rest l G N X30 x0 x1 v32 v35 X36 h33) (hts _ tW471) tW472 (hts _ tW469) (hts _ tW473) (hts _ tW474) rfl h34 (by decide +kernel) ⟨Nat.le_of_ble_eq_true rfl, Nat.le_of_ble_eq_true rfl⟩ rfl rfl hl.1 rfl (lv_room (Nat.le_of_ble_eq_true rfl)) d_ZoneNodesModel_takePart_15 ⟨(Nat.le_of_ble_eq_true rfl), (Nat.le_of_ble_eq_true rfl)⟩) hS (fun H locs hX hS => ?_)
    refine lv_goto (tgt := 88) hx hb d_ZoneNodesModel_takePart_18 rfl ?_
    cases hm
    exact W.vret hx hb hr (fun t ht hW => zh_end hk hX hS ht hW) hS.2.2 d_ZoneNodesModel_takePart_88
set_option maxHeartbeats 4000000 in
set_option maxRecDepth 100000 in
theorem c_ZoneNodesModel_takeTell (l : Launch) (G : zh_G) (N : Nat) (X : zh_T) (x0 : Nat) (x1 : Int32) (x2 : Int32) (r : Unit) (X' : zh_T) (hm : f_ZoneNodesModel_takeTell N X x0 x1 x2 = some (r, X')) : zM l G y_ZoneNodesModel_takeTell w_ZoneNodesModel_takeTell 2 43 X [.ref x0, .int x1, .int x2] none X' 0 0 := by
  refine zr_ofW (by decide) (by exact Nat.le_of_ble_eq_true rfl) ?_
  intro p e s m args below meth c ls hx hb hml hr hts hown hin hlocks hk hX hl
  have hS : va_S (zh_A G) s.heap s.heap [] := va_S.rf
  have hl : lv_has ls 3 [(0, .ref x0), (1, .int x1), (2, .int x2)] := hl
  have hown : s.vm.findClass R_ZoneNodesModel = some m.cls := hown
  unfold f_ZoneNodesModel_takeTell at hm
  refine lv_aload_n hx hb d_ZoneNodesModel_takeTell_0 rfl (lv_at hl 0 rfl) ?_
  replace hm := zb1_s hm
  obtain ⟨a2, h1, hm⟩ := hm
  refine zr_get (ci := 9) (C := R_ZoneNodesModel) (T := F_ZoneNodesModel) (N := 32) hx hb hts in_ZoneNodesModel hown hk hX rfl 9 (by decide) (hts _ tW439) rfl (zgr_v h1) d_ZoneNodesModel_takeTell_1 ?_
  refine lv_iload_n hx hb d_ZoneNodesModel_takeTell_4 rfl (lv_at hl 1 rfl) ?_
  replace hm := zb1_s hm
  obtain ⟨v3, h4, hm⟩ := hm
  refine zr_iaload hx hb hk hX h4 d_ZoneNodesModel_takeTell_5 ?_
  refine lv_iconst (v := 1) hx hb d_ZoneNodesModel_takeTell_6 (by decide) ?_
  refine lv_icmp_eq (tgt := 11) hx hb d_ZoneNodesModel_takeTell_7 rfl (fun h5 => ?_) (fun h5 => ?_)
  · replace hm := zi_t h5 hm
    refine lv_aload_n hx hb d_ZoneNodesModel_takeTell_11 rfl (lv_at hl 0 rfl) ?_
    refine lv_iload_n hx hb d_ZoneNodesModel_takeTell_12 rfl (lv_at hl 1 rfl) ?_
    refine lv_iload_n hx hb d_ZoneNodesModel_takeTell_13 rfl (lv_at hl 2 rfl) ?_
    replace hm := zb1_s hm
    obtain ⟨_, h7, hm⟩ := hm
    replace hm := zb1_s hm
    obtain ⟨v8, h6, hm⟩ := hm
    refine zr_calli (zr_runV (As := [.int x1, .int x2]) (rest := []) (n := 2) hx hb hml hown hts hk hX (c_ZoneNodesModel_isNews l G N X x0 x1 x2 v8 h6) (hts _ tW517) tW518 (hts _ tW469) (hts _ tW519) (hts _ tW520) rfl h7 (by decide +kernel) ⟨Nat.le_of_ble_eq_true rfl, Nat.le_of_ble_eq_true rfl⟩ rfl rfl hl.1 rfl (lv_room (Nat.le_of_ble_eq_true rfl)) d_ZoneNodesModel_takeTell_14 ⟨(Nat.le_of_ble_eq_true rfl), (Nat.le_of_ble_eq_true rfl)⟩) hS (fun H locs hX hS => ?_)
    refine lv_if_ne (tgt := 28) hx hb d_ZoneNodesModel_takeTell_17 rfl (fun h9 => ?_) (fun h9 => ?_)
    · replace hm := zi_f h9 hm
      refine lv_aload_n hx hb d_ZoneNodesModel_takeTell_28 rfl (lv_at hl 0 rfl) ?_
      replace hm := zb1_s hm
      obtain ⟨a11, h10, hm⟩ := hm
      refine zr_get (ci := 9) (C := R_ZoneNodesModel) (T := F_ZoneNodesModel) (N := 32) hx hb hts in_ZoneNodesModel hown hk hX rfl 4 (by decide) (hts _ tW443) rfl (zgr_v h10) d_ZoneNodesModel_takeTell_29 ?_
      refine lv_iconst (v := 0) hx hb d_ZoneNodesModel_takeTell_32 (by decide) ?_
      replace hm := zb1_s hm
      obtain ⟨v12, h13, hm⟩ := hm
      refine zr_baload hx hb hk hX h13 d_ZoneNodesModel_takeTell_33 ?_
      refine lv_if_ne (tgt := 49) hx hb d_ZoneNodesModel_takeTell_34 rfl (fun h14 => ?_) (fun h14 => ?_)
      · replace hm := zi_f h14 hm
        refine lv_aload_n hx hb d_ZoneNodesModel_takeTell_49 rfl (lv_at hl 0 rfl) ?_
        refine lv_iconst (v := 4) hx hb d_ZoneNodesModel_takeTell_50 (by decide) ?_
        refine lv_iload_n hx hb d_ZoneNodesModel_takeTell_51 rfl (lv_at hl 1 rfl) ?_
        refine lv_aload_n hx hb d_ZoneNodesModel_takeTell_52 rfl (lv_at hl 0 rfl) ?_
        replace hm := zb1_s hm
        obtain ⟨a16, h15, hm⟩ := hm
        refine zr_get (ci := 9) (C := R_ZoneNodesModel) (T := F_ZoneNodesModel) (N := 32) hx hb hts in_ZoneNodesModel hown hk hX rfl 6 (by decide) (hts _ tW445) rfl (zgr_v h15) d_ZoneNodesModel_takeTell_53 ?_
        refine lv_iload_n hx hb d_ZoneNodesModel_takeTell_56 rfl (lv_at hl 1 rfl) ?_
        replace hm := zb1_s hm
        obtain ⟨v17, h18, hm⟩ := hm
        refine zr_iaload hx hb hk hX h18 d_ZoneNodesModel_takeTell_57 ?_
        refine lv_iconst (v := 0) hx hb d_ZoneNodesModel_takeTell_58 (by decide) ?_
        refine lv_iconst (v := 0) hx hb d_ZoneNodesModel_takeTell_59 (by decide) ?_
        refine lv_aload_n hx hb d_ZoneNodesModel_takeTell_60 rfl (lv_at hl 0 rfl) ?_
        replace hm := zb1_s hm
        obtain ⟨a20, h19, hm⟩ := hm
        refine zr_get (ci := 9) (C := R_ZoneNodesModel) (T := F_ZoneNodesModel) (N := 32) hx hb hts in_ZoneNodesModel hown hk hX rfl 5 (by decide) (hts _ tW444) rfl (zgr_v h19) d_ZoneNodesModel_takeTell_61 ?_
        refine lv_iload_n hx hb d_ZoneNodesModel_takeTell_64 rfl (lv_at hl 1 rfl) ?_
        replace hm := zb1_s hm
        obtain ⟨v21, h22, hm⟩ := hm
        refine zr_baload hx hb hk hX h22 d_ZoneNodesModel_takeTell_65 ?_
        refine lv_iconst (v := 0) hx hb d_ZoneNodesModel_takeTell_66 (by decide) ?_
        replace hm := zb1_s hm
        obtain ⟨_, h24, hm⟩ := hm
        replace hm := zb2_s hm
        obtain ⟨v25, X26, h23, hm⟩ := hm
        refine zr_callv (zr_runV (As := [.int 4, .int x1, .int v17, .int 0, .int 0, .int v21, .int 0]) (rest := []) (n := 7) hx hb hml hown hts hk hX (c_ZoneNodesModel_append l G N X x0 4 x1 v17 0 0 v21 0 v25 X26 h23) (hts _ tW500) tW501 (hts _ tW469) (hts _ tW502) (hts _ tW503) rfl h24 (by decide +kernel) ⟨Nat.le_of_ble_eq_true rfl, Nat.le_of_ble_eq_true rfl⟩ rfl rfl hl.1 rfl (lv_room (Nat.le_of_ble_eq_true rfl)) d_ZoneNodesModel_takeTell_67 ⟨(Nat.le_of_ble_eq_true rfl), (Nat.le_of_ble_eq_true rfl)⟩) hS (fun H locs hX hS => ?_)
        refine lv_aload_n hx hb d_ZoneNodesModel_takeTell_70 rfl (lv_at hl 0 rfl) ?_
        replace hm := zb1_s hm
        obtain ⟨a28, h27, hm⟩ := hm
        refine zr_get (ci := 9) (C := R_ZoneNodesModel) (T := F_ZoneNodesModel) (N := 32) hx hb hts in_ZoneNodesModel hown hk hX rfl 9 (by decide) (hts _ tW439) rfl (zgr_v h27) d_ZoneNodesModel_takeTell_71 ?_
        refine lv_iload_n hx hb d_ZoneNodesModel_takeTell_74 rfl (lv_at hl 1 rfl) ?_
        refine lv_iconst (v := 2) hx hb d_ZoneNodesModel_takeTell_75 (by decide) ?_
        replace hm := zb1_s hm
        obtain ⟨X29, h30, hm⟩ := hm
        refine zr_iastore hx hb hk hX hS h30 d_ZoneNodesModel_takeTell_76 (fun H locs hX hS => ?_)
        cases hm
        exact W.vret hx hb hr (fun t ht hW => zh_end hk hX hS ht hW) hS.2.2 d_ZoneNodesModel_takeTell_77
      · replace hm := zi_t h14 hm
        refine lv_aload_n hx hb d_ZoneNodesModel_takeTell_37 rfl (lv_at hl 0 rfl) ?_
        refine lv_iload_n hx hb d_ZoneNodesModel_takeTell_38 rfl (lv_at hl 1 rfl) ?_
        refine lv_aload_n hx hb d_ZoneNodesModel_takeTell_39 rfl (lv_at hl 0 rfl) ?_
        replace hm := zb1_s hm
        obtain ⟨v32, h31, hm⟩ := hm
        refine zr_get (ci := 9) (C := R_ZoneNodesModel) (T := F_ZoneNodesModel) (N := 32) hx hb hts in_ZoneNodesModel hown hk hX rfl 1 (by decide) (hts _ tW465) rfl (zgi_v h31) d_ZoneNodesModel_takeTell_40 ?_
        replace hm := zb1_s hm
        obtain ⟨_, h34, hm⟩ := hm
        replace hm := zb2_s hm
        obtain ⟨v35, X36, h33, hm⟩ := hm
        refine zr_callv (zr_runV (As := [.int x1, .int v32]) (rest := []) (n := 2) hx hb hml hown hts hk hX (c_ZoneNodesModel_rest l G N X x0 x1 v32 v35 X36 h33) (hts _ tW471) tW472 (hts _ tW469) (hts _ tW473) (hts _ tW474) rfl h34 (by decide +kernel) ⟨Nat.le_of_ble_eq_true rfl, Nat.le_of_ble_eq_true rfl⟩ rfl rfl hl.1 rfl (lv_room (Nat.le_of_ble_eq_true rfl)) d_ZoneNodesModel_takeTell_43 ⟨(Nat.le_of_ble_eq_true rfl), (Nat.le_of_ble_eq_true rfl)⟩) hS (fun H locs hX hS => ?_)
        refine lv_goto (tgt := 77) hx hb d_ZoneNodesModel_takeTell_46 rfl ?_
        cases hm
        exact W.vret hx hb hr (fun t ht hW => zh_end hk hX hS ht hW) hS.2.2 d_ZoneNodesModel_takeTell_77
    · replace hm := zi_t h9 hm
      refine lv_aload_n hx hb d_ZoneNodesModel_takeTell_20 rfl (lv_at hl 0 rfl) ?_
      refine lv_iload_n hx hb d_ZoneNodesModel_takeTell_21 rfl (lv_at hl 1 rfl) ?_
      replace hm := zb1_s hm
      obtain ⟨_, h38, hm⟩ := hm
      replace hm := zb2_s hm
      obtain ⟨v39, X40, h37, hm⟩ := hm
      refine zr_callv (zr_runV (As := [.int x1]) (rest := []) (n := 1) hx hb hml hown hts hk hX (c_ZoneNodesModel_refreshed l G N X x0 x1 v39 X40 h37) (hts _ tW513) tW514 (hts _ tW469) (hts _ tW515) (hts _ tW516) rfl h38 (by decide +kernel) ⟨Nat.le_of_ble_eq_true rfl, Nat.le_of_ble_eq_true rfl⟩ rfl rfl hl.1 rfl (lv_room (Nat.le_of_ble_eq_true rfl)) d_ZoneNodesModel_takeTell_22 ⟨(Nat.le_of_ble_eq_true rfl), (Nat.le_of_ble_eq_true rfl)⟩) hS (fun H locs hX hS => ?_)
      refine lv_goto (tgt := 77) hx hb d_ZoneNodesModel_takeTell_25 rfl ?_
      cases hm
      exact W.vret hx hb hr (fun t ht hW => zh_end hk hX hS ht hW) hS.2.2 d_ZoneNodesModel_takeTell_77
  · replace hm := zi_f h5 hm
    cases hm
    exact W.vret hx hb hr (fun t ht hW => zh_end hk hX hS ht hW) hS.2.2 d_ZoneNodesModel_takeTell_10
set_option maxHeartbeats 4000000 in
set_option maxRecDepth 100000 in
theorem c_ZoneNodesModel_deliver (l : Launch) (G : zh_G) (N : Nat) (X : zh_T) (x0 : Nat) (x1 : Int32) (r : Int32) (X' : zh_T) (hm : f_ZoneNodesModel_deliver N X x0 x1 = some (r, X')) : zM l G y_ZoneNodesModel_deliver w_ZoneNodesModel_deliver 3 73 X [.ref x0, .int x1] (some (.int r)) X' 0 0 := by
  refine zr_ofW (by decide) (by exact Nat.le_of_ble_eq_true rfl) ?_
  intro p e s m args below meth c ls hx hb hml hr hts hown hin hlocks hk hX hl
  have hS : va_S (zh_A G) s.heap s.heap [] := va_S.rf
  have hl : lv_has ls 8 [(0, .ref x0), (1, .int x1)] := hl
  have hown : s.vm.findClass R_ZoneNodesModel = some m.cls := hown
  unfold f_ZoneNodesModel_deliver at hm
  have hL51 : ∀ (n : Nat) (X : zh_T) (w0 : Nat) (w1 : Int32) (w2 : Int32) (w3 : Int32) (w4 : Int32) (w5 : Int32) (w6 : Int32) (w7 : Int32) (o : (Int32 ⊕ Unit)) (H : Heap) (locs : List Loc) (ls : Array Slot), L_ZoneNodesModel_deliver_51 N X w0 w1 w2 w3 w4 w5 w6 n w7 = some o → zh_w G X H → va_S (zh_A G) s.heap H locs → lv_has ls 8 [(0, .ref w0), (1, .int w1), (2, .int w2), (3, .int w3), (4, .int w4), (5, .int w5), (6, .int w6), (7, .int w7)] → (∀ r0 : Int32, o = Sum.inl r0 → r0 = r ∧ X = X') → (∀ v : Unit, o = Sum.inr v → ∀ (H : Heap) (locs : List Loc) (ls : Array Slot), zh_w G X H → va_S (zh_A G) s.heap H locs → lv_has ls 8 [(0, .ref w0), (1, .int w1), (2, .int w2), (3, .int w3), (4, .int w4), (5, .int w5), (6, .int w6)] → W p l e { frames := 3, cells := 0, slots := 0, locals := 73 } s m args below meth c H locs 0 0 (MQ below (zh_Q G (some (.int r)) X') args s 0 0 (zh_A G)) (F0 m 92 ls [])) → W p l e { frames := 3, cells := 0, slots := 0, locals := 73 } s m args below meth c H locs 0 0 (MQ below (zh_Q G (some (.int r)) X') args s 0 0 (zh_A G)) (F0 m 51 ls []) := by
    intro n
    induction n with
    | zero =>
      intro X w0 w1 w2 w3 w4 w5 w6 w7 o H locs ls hm hX hS hl hret hexit
      rw [L_ZoneNodesModel_deliver_51] at hm
      cases hm
    | succ n ih =>
      intro X w0 w1 w2 w3 w4 w5 w6 w7 o H locs ls hm hX hS hl hret hexit
      rw [L_ZoneNodesModel_deliver_51] at hm
      refine lv_iload hx hb d_ZoneNodesModel_deliver_51 (lv_at hl 7 rfl) ?_
      refine lv_iload_n hx hb d_ZoneNodesModel_deliver_53 rfl (lv_at hl 1 rfl) ?_
      refine lv_icmp_ge (tgt := 92) hx hb d_ZoneNodesModel_deliver_54 rfl (fun h25 => ?_) (fun h25 => ?_)
      · replace hm := zi_t h25 hm
        exact hexit _ (Option.some.inj hm).symm _ _ _ hX hS (lv_sub hl [0, 1, 2, 3, 4, 5, 6] rfl)
      · replace hm := zi_f h25 hm
        refine lv_iload_n hx hb d_ZoneNodesModel_deliver_57 rfl (lv_at hl 2 rfl) ?_
        refine lv_iconst (v := 5) hx hb d_ZoneNodesModel_deliver_58 (by decide) ?_
        refine lv_icmp_ne (tgt := 86) hx hb d_ZoneNodesModel_deliver_59 rfl (fun h26 => ?_) (fun h26 => ?_)
        · replace hm := zi_f h26 hm
          refine lv_iinc (v := w7 + 1) (lv' := [(7, .int (w7 + 1)), (0, .ref w0), (1, .int w1), (2, .int w2), (3, .int w3), (4, .int w4), (5, .int w5), (6, .int w6)]) hx hb d_ZoneNodesModel_deliver_86 hl (k := 7) rfl (by rw [show Int32.ofInt 1 = 1 by decide]) (by decide) rfl (fun ls hl => ?_)
          refine lv_goto (tgt := 51) hx hb d_ZoneNodesModel_deliver_89 rfl ?_
          exact ih X w0 w1 w2 w3 w4 w5 w6 (w7 + 1) o _ _ _ hm hX hS (lv_sub hl [1, 2, 3, 4, 5, 6, 7, 0] rfl) hret hexit
        · replace hm := zi_t h26 hm
          refine lv_aload_n hx hb d_ZoneNodesModel_deliver_62 rfl (lv_at hl 0 rfl) ?_
          replace hm := zb1_s hm
          obtain ⟨a28, h27, hm⟩ := hm
          refine zr_get (ci := 9) (C := R_ZoneNodesModel) (T := F_ZoneNodesModel) (N := 32) hx hb hts in_ZoneNodesModel hown hk hX rfl 25 (by decide) (hts _ tW457) rfl (zgr_v h27) d_ZoneNodesModel_deliver_63 ?_
          refine lv_iload hx hb d_ZoneNodesModel_deliver_66 (lv_at hl 7 rfl) ?_
          replace hm := zb1_s hm
          obtain ⟨v29, h30, hm⟩ := hm
          refine zr_iaload hx hb hk hX h30 d_ZoneNodesModel_deliver_68 ?_
          refine lv_iconst (v := 5) hx hb d_ZoneNodesModel_deliver_69 (by decide) ?_
          refine lv_icmp_ne (tgt := 86) hx hb d_ZoneNodesModel_deliver_70 rfl (fun h31 => ?_) (fun h31 => ?_)
          · replace hm := zi_f h31 hm
            refine lv_iinc (v := w7 + 1) (lv' := [(7, .int (w7 + 1)), (0, .ref w0), (1, .int w1), (2, .int w2), (3, .int w3), (4, .int w4), (5, .int w5), (6, .int w6)]) hx hb d_ZoneNodesModel_deliver_86 hl (k := 7) rfl (by rw [show Int32.ofInt 1 = 1 by decide]) (by decide) rfl (fun ls hl => ?_)
            refine lv_goto (tgt := 51) hx hb d_ZoneNodesModel_deliver_89 rfl ?_
            exact ih X w0 w1 w2 w3 w4 w5 w6 (w7 + 1) o _ _ _ hm hX hS (lv_sub hl [1, 2, 3, 4, 5, 6, 7, 0] rfl) hret hexit
          · replace hm := zi_t h31 hm
            refine lv_aload_n hx hb d_ZoneNodesModel_deliver_73 rfl (lv_at hl 0 rfl) ?_
            replace hm := zb1_s hm
            obtain ⟨a33, h32, hm⟩ := hm
            refine zr_get (ci := 9) (C := R_ZoneNodesModel) (T := F_ZoneNodesModel) (N := 32) hx hb hts in_ZoneNodesModel hown hk hX rfl 26 (by decide) (hts _ tW458) rfl (zgr_v h32) d_ZoneNodesModel_deliver_74 ?_
            refine lv_iload hx hb d_ZoneNodesModel_deliver_77 (lv_at hl 7 rfl) ?_
            replace hm := zb1_s hm
            obtain ⟨v34, h35, hm⟩ := hm
            refine zr_iaload hx hb hk hX h35 d_ZoneNodesModel_deliver_79 ?_
            refine lv_iload_n hx hb d_ZoneNodesModel_deliver_80 rfl (lv_at hl 3 rfl) ?_
            refine lv_icmp_ne (tgt := 86) hx hb d_ZoneNodesModel_deliver_81 rfl (fun h36 => ?_) (fun h36 => ?_)
            · replace hm := zi_f h36 hm
              refine lv_iinc (v := w7 + 1) (lv' := [(7, .int (w7 + 1)), (0, .ref w0), (1, .int w1), (2, .int w2), (3, .int w3), (4, .int w4), (5, .int w5), (6, .int w6)]) hx hb d_ZoneNodesModel_deliver_86 hl (k := 7) rfl (by rw [show Int32.ofInt 1 = 1 by decide]) (by decide) rfl (fun ls hl => ?_)
              refine lv_goto (tgt := 51) hx hb d_ZoneNodesModel_deliver_89 rfl ?_
              exact ih X w0 w1 w2 w3 w4 w5 w6 (w7 + 1) o _ _ _ hm hX hS (lv_sub hl [1, 2, 3, 4, 5, 6, 7, 0] rfl) hret hexit
            · replace hm := zi_t h36 hm
              refine lv_iconst (v := 0) hx hb d_ZoneNodesModel_deliver_84 (by decide) ?_
              obtain ⟨rfl, rfl⟩ := hret _ (Option.some.inj hm).symm
              exact W.zret hx hb hr (by decide) (fun t ht hW => zh_end hk hX hS ht hW) hS.2.2 d_ZoneNodesModel_deliver_85
  have hJ184 : ∀ (X : zh_T) (w0 : Nat) (w2 : Int32) (w3 : Int32) (w4 : Int32) (w5 : Int32) (w6 : Int32) (H : Heap) (locs : List Loc) (ls : Array Slot), J_ZoneNodesModel_deliver_184 N X w0 w2 w3 w4 w5 w6 = some (r, X') → zh_w G X H → va_S (zh_A G) s.heap H locs → lv_has ls 8 [(0, .ref w0), (2, .int w2), (3, .int w3), (4, .int w4), (5, .int w5), (6, .int w6)] → W p l e { frames := 3, cells := 0, slots := 0, locals := 73 } s m args below meth c H locs 0 0 (MQ below (zh_Q G (some (.int r)) X') args s 0 0 (zh_A G)) (F0 m 184 ls []) := by
    intro X w0 w2 w3 w4 w5 w6 H locs ls hm hX hS hl
    unfold J_ZoneNodesModel_deliver_184 at hm
    refine lv_iload_n hx hb d_ZoneNodesModel_deliver_184 rfl (lv_at hl 1 rfl) ?_
    refine lv_iconst (v := 4) hx hb d_ZoneNodesModel_deliver_185 (by decide) ?_
    refine lv_icmp_ne (tgt := 198) hx hb d_ZoneNodesModel_deliver_186 rfl (fun h52 => ?_) (fun h52 => ?_)
    · replace hm := zi_f h52 hm
      refine lv_iload_n hx hb d_ZoneNodesModel_deliver_198 rfl (lv_at hl 1 rfl) ?_
      refine lv_iconst (v := 5) hx hb d_ZoneNodesModel_deliver_199 (by decide) ?_
      refine lv_icmp_ne (tgt := 214) hx hb d_ZoneNodesModel_deliver_200 rfl (fun h53 => ?_) (fun h53 => ?_)
      · replace hm := zi_f h53 hm
        refine lv_iconst (v := 1) hx hb d_ZoneNodesModel_deliver_214 (by decide) ?_
        cases hm
        exact W.zret hx hb hr (by decide) (fun t ht hW => zh_end hk hX hS ht hW) hS.2.2 d_ZoneNodesModel_deliver_215
      · replace hm := zi_t h53 hm
        refine lv_aload_n hx hb d_ZoneNodesModel_deliver_203 rfl (lv_at hl 0 rfl) ?_
        refine lv_iload_n hx hb d_ZoneNodesModel_deliver_204 rfl (lv_at hl 2 rfl) ?_
        refine lv_iload hx hb d_ZoneNodesModel_deliver_205 (lv_at hl 3 rfl) ?_
        refine lv_iload hx hb d_ZoneNodesModel_deliver_207 (lv_at hl 4 rfl) ?_
        refine lv_iload hx hb d_ZoneNodesModel_deliver_209 (lv_at hl 5 rfl) ?_
        replace hm := zb1_s hm
        obtain ⟨_, h55, hm⟩ := hm
        replace hm := zb2_s hm
        obtain ⟨v56, X57, h54, hm⟩ := hm
        refine zr_callv (zr_runV (As := [.int w3, .int w4, .int w5, .int w6]) (rest := []) (n := 4) hx hb hml hown hts hk hX (c_ZoneNodesModel_takePart l G N X w0 w3 w4 w5 w6 v56 X57 h54) (hts _ tW521) tW522 (hts _ tW469) (hts _ tW523) (hts _ tW524) rfl h55 (by decide +kernel) ⟨Nat.le_of_ble_eq_true rfl, Nat.le_of_ble_eq_true rfl⟩ rfl rfl hl.1 rfl (lv_room (Nat.le_of_ble_eq_true rfl)) d_ZoneNodesModel_deliver_211 ⟨(Nat.le_of_ble_eq_true rfl), (Nat.le_of_ble_eq_true rfl)⟩) hS (fun H locs hX hS => ?_)
        refine lv_iconst (v := 1) hx hb d_ZoneNodesModel_deliver_214 (by decide) ?_
        cases hm
        exact W.zret hx hb hr (by decide) (fun t ht hW => zh_end hk hX hS ht hW) hS.2.2 d_ZoneNodesModel_deliver_215
    · replace hm := zi_t h52 hm
      refine lv_aload_n hx hb d_ZoneNodesModel_deliver_189 rfl (lv_at hl 0 rfl) ?_
      refine lv_iload_n hx hb d_ZoneNodesModel_deliver_190 rfl (lv_at hl 2 rfl) ?_
      refine lv_iload hx hb d_ZoneNodesModel_deliver_191 (lv_at hl 4 rfl) ?_
      refine lv_iload hx hb d_ZoneNodesModel_deliver_193 (lv_at hl 3 rfl) ?_
      replace hm := zb1_s hm
      obtain ⟨_, h59, hm⟩ := hm
      replace hm := zb2_s hm
      obtain ⟨v60, X61, h58, hm⟩ := hm
      refine zr_callv (zr_runV (As := [.int w3, .int w5, .int w4]) (rest := []) (n := 3) hx hb hml hown hts hk hX (c_ZoneNodesModel_takeFetch l G N X w0 w3 w5 w4 v60 X61 h58) (hts _ tW525) tW526 (hts _ tW469) (hts _ tW527) (hts _ tW528) rfl h59 (by decide +kernel) ⟨Nat.le_of_ble_eq_true rfl, Nat.le_of_ble_eq_true rfl⟩ rfl rfl hl.1 rfl (lv_room (Nat.le_of_ble_eq_true rfl)) d_ZoneNodesModel_deliver_195 ⟨(Nat.le_of_ble_eq_true rfl), (Nat.le_of_ble_eq_true rfl)⟩) hS (fun H locs hX hS => ?_)
      refine lv_iload_n hx hb d_ZoneNodesModel_deliver_198 rfl (lv_at hl 1 rfl) ?_
      refine lv_iconst (v := 5) hx hb d_ZoneNodesModel_deliver_199 (by decide) ?_
      refine lv_icmp_ne (tgt := 214) hx hb d_ZoneNodesModel_deliver_200 rfl (fun h62 => ?_) (fun h62 => ?_)
      · replace hm := zi_f h62 hm
        refine lv_iconst (v := 1) hx hb d_ZoneNodesModel_deliver_214 (by decide) ?_
        cases hm
        exact W.zret hx hb hr (by decide) (fun t ht hW => zh_end hk hX hS ht hW) hS.2.2 d_ZoneNodesModel_deliver_215
      · replace hm := zi_t h62 hm
        refine lv_aload_n hx hb d_ZoneNodesModel_deliver_203 rfl (lv_at hl 0 rfl) ?_
        refine lv_iload_n hx hb d_ZoneNodesModel_deliver_204 rfl (lv_at hl 2 rfl) ?_
        refine lv_iload hx hb d_ZoneNodesModel_deliver_205 (lv_at hl 3 rfl) ?_
        refine lv_iload hx hb d_ZoneNodesModel_deliver_207 (lv_at hl 4 rfl) ?_
        refine lv_iload hx hb d_ZoneNodesModel_deliver_209 (lv_at hl 5 rfl) ?_
        replace hm := zb1_s hm
        obtain ⟨_, h64, hm⟩ := hm
        replace hm := zb2_s hm
        obtain ⟨v65, X66, h63, hm⟩ := hm
        refine zr_callv (zr_runV (As := [.int w3, .int w4, .int w5, .int w6]) (rest := []) (n := 4) hx hb hml hown hts hk hX (c_ZoneNodesModel_takePart l G N X61 w0 w3 w4 w5 w6 v65 X66 h63) (hts _ tW521) tW522 (hts _ tW469) (hts _ tW523) (hts _ tW524) rfl h64 (by decide +kernel) ⟨Nat.le_of_ble_eq_true rfl, Nat.le_of_ble_eq_true rfl⟩ rfl rfl hl.1 rfl (lv_room (Nat.le_of_ble_eq_true rfl)) d_ZoneNodesModel_deliver_211 ⟨(Nat.le_of_ble_eq_true rfl), (Nat.le_of_ble_eq_true rfl)⟩) hS (fun H locs hX hS => ?_)
        refine lv_iconst (v := 1) hx hb d_ZoneNodesModel_deliver_214 (by decide) ?_
        cases hm
        exact W.zret hx hb hr (by decide) (fun t ht hW => zh_end hk hX hS ht hW) hS.2.2 d_ZoneNodesModel_deliver_215
  have hJ155 : ∀ (X : zh_T) (w0 : Nat) (w2 : Int32) (w3 : Int32) (w4 : Int32) (w5 : Int32) (w6 : Int32) (H : Heap) (locs : List Loc) (ls : Array Slot), J_ZoneNodesModel_deliver_155 N X w0 w2 w3 w4 w5 w6 = some (r, X') → zh_w G X H → va_S (zh_A G) s.heap H locs → lv_has ls 8 [(0, .ref w0), (2, .int w2), (3, .int w3), (4, .int w4), (5, .int w5), (6, .int w6)] → W p l e { frames := 3, cells := 0, slots := 0, locals := 73 } s m args below meth c H locs 0 0 (MQ below (zh_Q G (some (.int r)) X') args s 0 0 (zh_A G)) (F0 m 155 ls []) := by
    intro X w0 w2 w3 w4 w5 w6 H locs ls hm hX hS hl
    unfold J_ZoneNodesModel_deliver_155 at hm
    refine lv_iload_n hx hb d_ZoneNodesModel_deliver_155 rfl (lv_at hl 1 rfl) ?_
    refine lv_iconst (v := 2) hx hb d_ZoneNodesModel_deliver_156 (by decide) ?_
    refine lv_icmp_ne (tgt := 172) hx hb d_ZoneNodesModel_deliver_157 rfl (fun h50 => ?_) (fun h50 => ?_)
    · replace hm := zi_f h50 hm
      refine lv_iload_n hx hb d_ZoneNodesModel_deliver_172 rfl (lv_at hl 1 rfl) ?_
      refine lv_iconst (v := 3) hx hb d_ZoneNodesModel_deliver_173 (by decide) ?_
      refine lv_icmp_ne (tgt := 184) hx hb d_ZoneNodesModel_deliver_174 rfl (fun h51 => ?_) (fun h51 => ?_)
      · replace hm := zi_f h51 hm
        exact hJ184 X w0 w2 w3 w4 w5 w6 _ _ _ hm hX hS (lv_sub hl [0, 1, 2, 3, 4, 5] rfl)
      · replace hm := zi_t h51 hm
        refine lv_aload_n hx hb d_ZoneNodesModel_deliver_177 rfl (lv_at hl 0 rfl) ?_
        refine lv_iload_n hx hb d_ZoneNodesModel_deliver_178 rfl (lv_at hl 2 rfl) ?_
        refine lv_iload hx hb d_ZoneNodesModel_deliver_179 (lv_at hl 3 rfl) ?_
        replace hm := zb1_s hm
        obtain ⟨_, h68, hm⟩ := hm
        replace hm := zb2_s hm
        obtain ⟨v69, X70, h67, hm⟩ := hm
        refine zr_callv (zr_runV (As := [.int w3, .int w4]) (rest := []) (n := 2) hx hb hml hown hts hk hX (c_ZoneNodesModel_takeTell l G N X w0 w3 w4 v69 X70 h67) (hts _ tW529) tW530 (hts _ tW469) (hts _ tW531) (hts _ tW532) rfl h68 (by decide +kernel) ⟨Nat.le_of_ble_eq_true rfl, Nat.le_of_ble_eq_true rfl⟩ rfl rfl hl.1 rfl (lv_room (Nat.le_of_ble_eq_true rfl)) d_ZoneNodesModel_deliver_181 ⟨(Nat.le_of_ble_eq_true rfl), (Nat.le_of_ble_eq_true rfl)⟩) hS (fun H locs hX hS => ?_)
        exact hJ184 X70 w0 w2 w3 w4 w5 w6 _ _ _ hm hX hS (lv_sub hl [0, 1, 2, 3, 4, 5] rfl)
    · replace hm := zi_t h50 hm
      refine lv_aload_n hx hb d_ZoneNodesModel_deliver_160 rfl (lv_at hl 0 rfl) ?_
      refine lv_iconst (v := 3) hx hb d_ZoneNodesModel_deliver_161 (by decide) ?_
      refine lv_iload_n hx hb d_ZoneNodesModel_deliver_162 rfl (lv_at hl 2 rfl) ?_
      refine lv_aload_n hx hb d_ZoneNodesModel_deliver_163 rfl (lv_at hl 0 rfl) ?_
      replace hm := zb1_s hm
      obtain ⟨a72, h71, hm⟩ := hm
      refine zr_get (ci := 9) (C := R_ZoneNodesModel) (T := F_ZoneNodesModel) (N := 32) hx hb hts in_ZoneNodesModel hown hk hX rfl 6 (by decide) (hts _ tW445) rfl (zgr_v h71) d_ZoneNodesModel_deliver_164 ?_
      refine lv_iconst (v := 0) hx hb d_ZoneNodesModel_deliver_167 (by decide) ?_
      replace hm := zb1_s hm
      obtain ⟨v73, h74, hm⟩ := hm
      refine zr_iaload hx hb hk hX h74 d_ZoneNodesModel_deliver_168 ?_
      replace hm := zb1_s hm
      obtain ⟨_, h76, hm⟩ := hm
      replace hm := zb2_s hm
      obtain ⟨v77, X78, h75, hm⟩ := hm
      refine zr_callv (zr_runV (As := [.int 3, .int w3, .int v73]) (rest := []) (n := 3) hx hb hml hown hts hk hX (c_ZoneNodesModel_send l G N X w0 3 w3 v73 v77 X78 h75) (hts _ tW504) tW505 (hts _ tW469) (hts _ tW506) (hts _ tW507) rfl h76 (by decide +kernel) ⟨Nat.le_of_ble_eq_true rfl, Nat.le_of_ble_eq_true rfl⟩ rfl rfl hl.1 rfl (lv_room (Nat.le_of_ble_eq_true rfl)) d_ZoneNodesModel_deliver_169 ⟨(Nat.le_of_ble_eq_true rfl), (Nat.le_of_ble_eq_true rfl)⟩) hS (fun H locs hX hS => ?_)
      refine lv_iload_n hx hb d_ZoneNodesModel_deliver_172 rfl (lv_at hl 1 rfl) ?_
      refine lv_iconst (v := 3) hx hb d_ZoneNodesModel_deliver_173 (by decide) ?_
      refine lv_icmp_ne (tgt := 184) hx hb d_ZoneNodesModel_deliver_174 rfl (fun h79 => ?_) (fun h79 => ?_)
      · replace hm := zi_f h79 hm
        exact hJ184 X78 w0 w2 w3 w4 w5 w6 _ _ _ hm hX hS (lv_sub hl [0, 1, 2, 3, 4, 5] rfl)
      · replace hm := zi_t h79 hm
        refine lv_aload_n hx hb d_ZoneNodesModel_deliver_177 rfl (lv_at hl 0 rfl) ?_
        refine lv_iload_n hx hb d_ZoneNodesModel_deliver_178 rfl (lv_at hl 2 rfl) ?_
        refine lv_iload hx hb d_ZoneNodesModel_deliver_179 (lv_at hl 3 rfl) ?_
        replace hm := zb1_s hm
        obtain ⟨_, h81, hm⟩ := hm
        replace hm := zb2_s hm
        obtain ⟨v82, X83, h80, hm⟩ := hm
        refine zr_callv (zr_runV (As := [.int w3, .int w4]) (rest := []) (n := 2) hx hb hml hown hts hk hX (c_ZoneNodesModel_takeTell l G N X78 w0 w3 w4 v82 X83 h80) (hts _ tW529) tW530 (hts _ tW469) (hts _ tW531) (hts _ tW532) rfl h81 (by decide +kernel) ⟨Nat.le_of_ble_eq_true rfl, Nat.le_of_ble_eq_true rfl⟩ rfl rfl hl.1 rfl (lv_room (Nat.le_of_ble_eq_true rfl)) d_ZoneNodesModel_deliver_181 ⟨(Nat.le_of_ble_eq_true rfl), (Nat.le_of_ble_eq_true rfl)⟩) hS (fun H locs hX hS => ?_)
        exact hJ184 X83 w0 w2 w3 w4 w5 w6 _ _ _ hm hX hS (lv_sub hl [0, 1, 2, 3, 4, 5] rfl)
  refine lv_aload_n hx hb d_ZoneNodesModel_deliver_0 rfl (lv_at hl 0 rfl) ?_
  refine lv_iload_n hx hb d_ZoneNodesModel_deliver_1 rfl (lv_at hl 1 rfl) ?_
  replace hm := zb1_s hm
  obtain ⟨_, h2, hm⟩ := hm
  replace hm := zb1_s hm
  obtain ⟨v3, h1, hm⟩ := hm
  refine zr_calli (zr_runV (As := [.int x1]) (rest := []) (n := 1) hx hb hml hown hts hk hX (c_ZoneNodesModel_isMessage l G N X x0 x1 v3 h1) (hts _ tW476) tW477 (hts _ tW469) (hts _ tW478) (hts _ tW479) rfl h2 (by decide +kernel) ⟨Nat.le_of_ble_eq_true rfl, Nat.le_of_ble_eq_true rfl⟩ rfl rfl hl.1 rfl (lv_room (Nat.le_of_ble_eq_true rfl)) d_ZoneNodesModel_deliver_2 ⟨(Nat.le_of_ble_eq_true rfl), (Nat.le_of_ble_eq_true rfl)⟩) hS (fun H locs hX hS => ?_)
  refine lv_if_ne (tgt := 10) hx hb d_ZoneNodesModel_deliver_5 rfl (fun h4 => ?_) (fun h4 => ?_)
  · replace hm := zi_f h4 hm
    refine lv_aload_n hx hb d_ZoneNodesModel_deliver_10 rfl (lv_at hl 0 rfl) ?_
    replace hm := zb1_s hm
    obtain ⟨a6, h5, hm⟩ := hm
    refine zr_get (ci := 9) (C := R_ZoneNodesModel) (T := F_ZoneNodesModel) (N := 32) hx hb hts in_ZoneNodesModel hown hk hX rfl 25 (by decide) (hts _ tW457) rfl (zgr_v h5) d_ZoneNodesModel_deliver_11 ?_
    refine lv_iload_n hx hb d_ZoneNodesModel_deliver_14 rfl (lv_at hl 1 rfl) ?_
    replace hm := zb1_s hm
    obtain ⟨v7, h8, hm⟩ := hm
    refine zr_iaload hx hb hk hX h8 d_ZoneNodesModel_deliver_15 ?_
    refine lv_istore_n (lv' := [(2, .int v7), (0, .ref x0), (1, .int x1)]) hx hb d_ZoneNodesModel_deliver_16 rfl hl (by decide) rfl (fun ls hl => ?_)
    refine lv_aload_n hx hb d_ZoneNodesModel_deliver_17 rfl (lv_at hl 1 rfl) ?_
    replace hm := zb1_s hm
    obtain ⟨a10, h9, hm⟩ := hm
    refine zr_get (ci := 9) (C := R_ZoneNodesModel) (T := F_ZoneNodesModel) (N := 32) hx hb hts in_ZoneNodesModel hown hk hX rfl 26 (by decide) (hts _ tW458) rfl (zgr_v h9) d_ZoneNodesModel_deliver_18 ?_
    refine lv_iload_n hx hb d_ZoneNodesModel_deliver_21 rfl (lv_at hl 2 rfl) ?_
    replace hm := zb1_s hm
    obtain ⟨v11, h12, hm⟩ := hm
    refine zr_iaload hx hb hk hX h12 d_ZoneNodesModel_deliver_22 ?_
    refine lv_istore_n (lv' := [(3, .int v11), (2, .int v7), (0, .ref x0), (1, .int x1)]) hx hb d_ZoneNodesModel_deliver_23 rfl hl (by decide) rfl (fun ls hl => ?_)
    refine lv_aload_n hx hb d_ZoneNodesModel_deliver_24 rfl (lv_at hl 2 rfl) ?_
    replace hm := zb1_s hm
    obtain ⟨a14, h13, hm⟩ := hm
    refine zr_get (ci := 9) (C := R_ZoneNodesModel) (T := F_ZoneNodesModel) (N := 32) hx hb hts in_ZoneNodesModel hown hk hX rfl 27 (by decide) (hts _ tW459) rfl (zgr_v h13) d_ZoneNodesModel_deliver_25 ?_
    refine lv_iload_n hx hb d_ZoneNodesModel_deliver_28 rfl (lv_at hl 3 rfl) ?_
    replace hm := zb1_s hm
    obtain ⟨v15, h16, hm⟩ := hm
    refine zr_iaload hx hb hk hX h16 d_ZoneNodesModel_deliver_29 ?_
    refine lv_istore (lv' := [(4, .int v15), (3, .int v11), (2, .int v7), (0, .ref x0), (1, .int x1)]) hx hb d_ZoneNodesModel_deliver_30 hl (by decide) rfl (fun ls hl => ?_)
    refine lv_aload_n hx hb d_ZoneNodesModel_deliver_32 rfl (lv_at hl 3 rfl) ?_
    replace hm := zb1_s hm
    obtain ⟨a18, h17, hm⟩ := hm
    refine zr_get (ci := 9) (C := R_ZoneNodesModel) (T := F_ZoneNodesModel) (N := 32) hx hb hts in_ZoneNodesModel hown hk hX rfl 30 (by decide) (hts _ tW462) rfl (zgr_v h17) d_ZoneNodesModel_deliver_33 ?_
    refine lv_iload_n hx hb d_ZoneNodesModel_deliver_36 rfl (lv_at hl 4 rfl) ?_
    replace hm := zb1_s hm
    obtain ⟨v19, h20, hm⟩ := hm
    refine zr_baload hx hb hk hX h20 d_ZoneNodesModel_deliver_37 ?_
    refine lv_istore (lv' := [(5, .int v19), (4, .int v15), (3, .int v11), (2, .int v7), (0, .ref x0), (1, .int x1)]) hx hb d_ZoneNodesModel_deliver_38 hl (by decide) rfl (fun ls hl => ?_)
    refine lv_aload_n hx hb d_ZoneNodesModel_deliver_40 rfl (lv_at hl 4 rfl) ?_
    replace hm := zb1_s hm
    obtain ⟨a22, h21, hm⟩ := hm
    refine zr_get (ci := 9) (C := R_ZoneNodesModel) (T := F_ZoneNodesModel) (N := 32) hx hb hts in_ZoneNodesModel hown hk hX rfl 31 (by decide) (hts _ tW463) rfl (zgr_v h21) d_ZoneNodesModel_deliver_41 ?_
    refine lv_iload_n hx hb d_ZoneNodesModel_deliver_44 rfl (lv_at hl 5 rfl) ?_
    replace hm := zb1_s hm
    obtain ⟨v23, h24, hm⟩ := hm
    refine zr_baload hx hb hk hX h24 d_ZoneNodesModel_deliver_45 ?_
    refine lv_istore (lv' := [(6, .int v23), (5, .int v19), (4, .int v15), (3, .int v11), (2, .int v7), (0, .ref x0), (1, .int x1)]) hx hb d_ZoneNodesModel_deliver_46 hl (by decide) rfl (fun ls hl => ?_)
    refine lv_iconst (v := 0) hx hb d_ZoneNodesModel_deliver_48 (by decide) ?_
    refine lv_istore (lv' := [(7, .int 0), (6, .int v23), (5, .int v19), (4, .int v15), (3, .int v11), (2, .int v7), (0, .ref x0), (1, .int x1)]) hx hb d_ZoneNodesModel_deliver_49 hl (by decide) rfl (fun ls hl => ?_)
    replace hm := zbs_s hm
    obtain ⟨o136, h38, hm⟩ := hm
    refine hL51 N X x0 x1 v7 v11 v15 v19 v23 0 o136 _ _ _ h38 hX hS (lv_sub hl [6, 7, 5, 4, 3, 2, 1, 0] rfl) (fun r0 e0 => ?_) (fun v37 e0 H locs ls hX hS hl => ?_)
    · subst e0
      replace hm := zs_l hm
      exact zs_p hm
    · subst e0
      replace hm := zs_r hm
      refine lv_aload_n hx hb d_ZoneNodesModel_deliver_92 rfl (lv_at hl 0 rfl) ?_
      refine lv_iload_n hx hb d_ZoneNodesModel_deliver_93 rfl (lv_at hl 1 rfl) ?_
      replace hm := zb1_s hm
      obtain ⟨_, h40, hm⟩ := hm
      replace hm := zb2_s hm
      obtain ⟨v41, X42, h39, hm⟩ := hm
      refine zr_callv (zr_runV (As := [.int x1]) (rest := []) (n := 1) hx hb hml hown hts hk hX (c_ZoneNodesModel_remove l G N X x0 x1 v41 X42 h39) (hts _ tW489) tW490 (hts _ tW469) (hts _ tW491) (hts _ tW492) rfl h40 (by decide +kernel) ⟨Nat.le_of_ble_eq_true rfl, Nat.le_of_ble_eq_true rfl⟩ rfl rfl hl.1 rfl (lv_room (Nat.le_of_ble_eq_true rfl)) d_ZoneNodesModel_deliver_94 ⟨(Nat.le_of_ble_eq_true rfl), (Nat.le_of_ble_eq_true rfl)⟩) hS (fun H locs hX hS => ?_)
      refine lv_iload_n hx hb d_ZoneNodesModel_deliver_97 rfl (lv_at hl 2 rfl) ?_
      refine lv_iconst (v := 2) hx hb d_ZoneNodesModel_deliver_98 (by decide) ?_
      refine lv_icmp_eq (tgt := 107) hx hb d_ZoneNodesModel_deliver_99 rfl (fun h43 => ?_) (fun h43 => ?_)
      · replace hm := zi_t h43 hm
        refine lv_iconst (v := 0) hx hb d_ZoneNodesModel_deliver_107 (by decide) ?_
        refine lv_goto (tgt := 112) hx hb d_ZoneNodesModel_deliver_108 rfl ?_
        refine lv_istore (lv' := [(7, .int 0), (0, .ref x0), (1, .int x1), (2, .int v7), (3, .int v11), (4, .int v15), (5, .int v19), (6, .int v23)]) hx hb d_ZoneNodesModel_deliver_112 hl (by decide) rfl (fun ls hl => ?_)
        refine lv_aload_n hx hb d_ZoneNodesModel_deliver_114 rfl (lv_at hl 1 rfl) ?_
        replace hm := zb1_s hm
        obtain ⟨a45, h44, hm⟩ := hm
        refine zr_get (ci := 9) (C := R_ZoneNodesModel) (T := F_ZoneNodesModel) (N := 32) hx hb hts in_ZoneNodesModel hown hk hX rfl 4 (by decide) (hts _ tW443) rfl (zgr_v h44) d_ZoneNodesModel_deliver_115 ?_
        refine lv_iload hx hb d_ZoneNodesModel_deliver_118 (lv_at hl 0 rfl) ?_
        replace hm := zb1_s hm
        obtain ⟨v46, h47, hm⟩ := hm
        refine zr_baload hx hb hk hX h47 d_ZoneNodesModel_deliver_120 ?_
        refine lv_if_ne (tgt := 126) hx hb d_ZoneNodesModel_deliver_121 rfl (fun h48 => ?_) (fun h48 => ?_)
        · replace hm := zi_f h48 hm
          refine lv_iload_n hx hb d_ZoneNodesModel_deliver_126 rfl (lv_at hl 3 rfl) ?_
          refine lv_iconst (v := 1) hx hb d_ZoneNodesModel_deliver_127 (by decide) ?_
          refine lv_icmp_ne (tgt := 155) hx hb d_ZoneNodesModel_deliver_128 rfl (fun h49 => ?_) (fun h49 => ?_)
          · replace hm := zi_f h49 hm
            exact hJ155 X42 x0 v7 v11 v15 v19 v23 _ _ _ hm hX hS (lv_sub hl [1, 3, 4, 5, 6, 7] rfl)
          · replace hm := zi_t h49 hm
            refine lv_aload_n hx hb d_ZoneNodesModel_deliver_131 rfl (lv_at hl 1 rfl) ?_
            replace hm := zb1_s hm
            obtain ⟨a85, h84, hm⟩ := hm
            refine zr_get (ci := 9) (C := R_ZoneNodesModel) (T := F_ZoneNodesModel) (N := 32) hx hb hts in_ZoneNodesModel hown hk hX rfl 9 (by decide) (hts _ tW439) rfl (zgr_v h84) d_ZoneNodesModel_deliver_132 ?_
            refine lv_iload_n hx hb d_ZoneNodesModel_deliver_135 rfl (lv_at hl 4 rfl) ?_
            replace hm := zb1_s hm
            obtain ⟨v86, h87, hm⟩ := hm
            refine zr_iaload hx hb hk hX h87 d_ZoneNodesModel_deliver_136 ?_
            refine lv_if_ne (tgt := 155) hx hb d_ZoneNodesModel_deliver_137 rfl (fun h88 => ?_) (fun h88 => ?_)
            · replace hm := zi_f h88 hm
              exact hJ155 X42 x0 v7 v11 v15 v19 v23 _ _ _ hm hX hS (lv_sub hl [1, 3, 4, 5, 6, 7] rfl)
            · replace hm := zi_t h88 hm
              refine lv_aload_n hx hb d_ZoneNodesModel_deliver_140 rfl (lv_at hl 1 rfl) ?_
              refine lv_iload_n hx hb d_ZoneNodesModel_deliver_141 rfl (lv_at hl 4 rfl) ?_
              refine lv_iload hx hb d_ZoneNodesModel_deliver_142 (lv_at hl 5 rfl) ?_
              replace hm := zb1_s hm
              obtain ⟨_, h90, hm⟩ := hm
              replace hm := zb1_s hm
              obtain ⟨v91, h89, hm⟩ := hm
              refine zr_calli (zr_runV (As := [.int v11, .int v15]) (rest := []) (n := 2) hx hb hml hown hts hk hX (c_ZoneNodesModel_isNews l G N X42 x0 v11 v15 v91 h89) (hts _ tW517) tW518 (hts _ tW469) (hts _ tW519) (hts _ tW520) rfl h90 (by decide +kernel) ⟨Nat.le_of_ble_eq_true rfl, Nat.le_of_ble_eq_true rfl⟩ rfl rfl hl.1 rfl (lv_room (Nat.le_of_ble_eq_true rfl)) d_ZoneNodesModel_deliver_144 ⟨(Nat.le_of_ble_eq_true rfl), (Nat.le_of_ble_eq_true rfl)⟩) hS (fun H locs hX hS => ?_)
              refine lv_if_eq (tgt := 155) hx hb d_ZoneNodesModel_deliver_147 rfl (fun h92 => ?_) (fun h92 => ?_)
              · replace hm := zi_t h92 hm
                exact hJ155 X42 x0 v7 v11 v15 v19 v23 _ _ _ hm hX hS (lv_sub hl [1, 3, 4, 5, 6, 7] rfl)
              · replace hm := zi_f h92 hm
                refine lv_aload_n hx hb d_ZoneNodesModel_deliver_150 rfl (lv_at hl 1 rfl) ?_
                refine lv_iload_n hx hb d_ZoneNodesModel_deliver_151 rfl (lv_at hl 4 rfl) ?_
                replace hm := zb1_s hm
                obtain ⟨_, h94, hm⟩ := hm
                replace hm := zb2_s hm
                obtain ⟨v95, X96, h93, hm⟩ := hm
                refine zr_callv (zr_runV (As := [.int v11]) (rest := []) (n := 1) hx hb hml hown hts hk hX (c_ZoneNodesModel_ask l G N X42 x0 v11 v95 X96 h93) (hts _ tW533) tW534 (hts _ tW469) (hts _ tW535) (hts _ tW536) rfl h94 (by decide +kernel) ⟨Nat.le_of_ble_eq_true rfl, Nat.le_of_ble_eq_true rfl⟩ rfl rfl hl.1 rfl (lv_room (Nat.le_of_ble_eq_true rfl)) d_ZoneNodesModel_deliver_152 ⟨(Nat.le_of_ble_eq_true rfl), (Nat.le_of_ble_eq_true rfl)⟩) hS (fun H locs hX hS => ?_)
                exact hJ155 X96 x0 v7 v11 v15 v19 v23 _ _ _ hm hX hS (lv_sub hl [1, 3, 4, 5, 6, 7] rfl)
        · replace hm := zi_t h48 hm
          refine lv_iconst (v := 1) hx hb d_ZoneNodesModel_deliver_124 (by decide) ?_
          cases hm
          exact W.zret hx hb hr (by decide) (fun t ht hW => zh_end hk hX hS ht hW) hS.2.2 d_ZoneNodesModel_deliver_125
      · replace hm := zi_f h43 hm
        refine lv_iload_n hx hb d_ZoneNodesModel_deliver_102 rfl (lv_at hl 2 rfl) ?_
        refine lv_iconst (v := 4) hx hb d_ZoneNodesModel_deliver_103 (by decide) ?_
        refine lv_icmp_ne (tgt := 111) hx hb d_ZoneNodesModel_deliver_104 rfl (fun h97 => ?_) (fun h97 => ?_)
        · replace hm := zi_f h97 hm
          refine lv_iload_n hx hb d_ZoneNodesModel_deliver_111 rfl (lv_at hl 3 rfl) ?_
          refine lv_istore (lv' := [(7, .int v11), (0, .ref x0), (1, .int x1), (2, .int v7), (3, .int v11), (4, .int v15), (5, .int v19), (6, .int v23)]) hx hb d_ZoneNodesModel_deliver_112 hl (by decide) rfl (fun ls hl => ?_)
          refine lv_aload_n hx hb d_ZoneNodesModel_deliver_114 rfl (lv_at hl 1 rfl) ?_
          replace hm := zb1_s hm
          obtain ⟨a99, h98, hm⟩ := hm
          refine zr_get (ci := 9) (C := R_ZoneNodesModel) (T := F_ZoneNodesModel) (N := 32) hx hb hts in_ZoneNodesModel hown hk hX rfl 4 (by decide) (hts _ tW443) rfl (zgr_v h98) d_ZoneNodesModel_deliver_115 ?_
          refine lv_iload hx hb d_ZoneNodesModel_deliver_118 (lv_at hl 0 rfl) ?_
          replace hm := zb1_s hm
          obtain ⟨v100, h101, hm⟩ := hm
          refine zr_baload hx hb hk hX h101 d_ZoneNodesModel_deliver_120 ?_
          refine lv_if_ne (tgt := 126) hx hb d_ZoneNodesModel_deliver_121 rfl (fun h102 => ?_) (fun h102 => ?_)
          · replace hm := zi_f h102 hm
            refine lv_iload_n hx hb d_ZoneNodesModel_deliver_126 rfl (lv_at hl 3 rfl) ?_
            refine lv_iconst (v := 1) hx hb d_ZoneNodesModel_deliver_127 (by decide) ?_
            refine lv_icmp_ne (tgt := 155) hx hb d_ZoneNodesModel_deliver_128 rfl (fun h103 => ?_) (fun h103 => ?_)
            · replace hm := zi_f h103 hm
              exact hJ155 X42 x0 v7 v11 v15 v19 v23 _ _ _ hm hX hS (lv_sub hl [1, 3, 4, 5, 6, 7] rfl)
            · replace hm := zi_t h103 hm
              refine lv_aload_n hx hb d_ZoneNodesModel_deliver_131 rfl (lv_at hl 1 rfl) ?_
              replace hm := zb1_s hm
              obtain ⟨a105, h104, hm⟩ := hm
              refine zr_get (ci := 9) (C := R_ZoneNodesModel) (T := F_ZoneNodesModel) (N := 32) hx hb hts in_ZoneNodesModel hown hk hX rfl 9 (by decide) (hts _ tW439) rfl (zgr_v h104) d_ZoneNodesModel_deliver_132 ?_
              refine lv_iload_n hx hb d_ZoneNodesModel_deliver_135 rfl (lv_at hl 4 rfl) ?_
              replace hm := zb1_s hm
              obtain ⟨v106, h107, hm⟩ := hm
              refine zr_iaload hx hb hk hX h107 d_ZoneNodesModel_deliver_136 ?_
              refine lv_if_ne (tgt := 155) hx hb d_ZoneNodesModel_deliver_137 rfl (fun h108 => ?_) (fun h108 => ?_)
              · replace hm := zi_f h108 hm
                exact hJ155 X42 x0 v7 v11 v15 v19 v23 _ _ _ hm hX hS (lv_sub hl [1, 3, 4, 5, 6, 7] rfl)
              · replace hm := zi_t h108 hm
                refine lv_aload_n hx hb d_ZoneNodesModel_deliver_140 rfl (lv_at hl 1 rfl) ?_
                refine lv_iload_n hx hb d_ZoneNodesModel_deliver_141 rfl (lv_at hl 4 rfl) ?_
                refine lv_iload hx hb d_ZoneNodesModel_deliver_142 (lv_at hl 5 rfl) ?_
                replace hm := zb1_s hm
                obtain ⟨_, h110, hm⟩ := hm
                replace hm := zb1_s hm
                obtain ⟨v111, h109, hm⟩ := hm
                refine zr_calli (zr_runV (As := [.int v11, .int v15]) (rest := []) (n := 2) hx hb hml hown hts hk hX (c_ZoneNodesModel_isNews l G N X42 x0 v11 v15 v111 h109) (hts _ tW517) tW518 (hts _ tW469) (hts _ tW519) (hts _ tW520) rfl h110 (by decide +kernel) ⟨Nat.le_of_ble_eq_true rfl, Nat.le_of_ble_eq_true rfl⟩ rfl rfl hl.1 rfl (lv_room (Nat.le_of_ble_eq_true rfl)) d_ZoneNodesModel_deliver_144 ⟨(Nat.le_of_ble_eq_true rfl), (Nat.le_of_ble_eq_true rfl)⟩) hS (fun H locs hX hS => ?_)
                refine lv_if_eq (tgt := 155) hx hb d_ZoneNodesModel_deliver_147 rfl (fun h112 => ?_) (fun h112 => ?_)
                · replace hm := zi_t h112 hm
                  exact hJ155 X42 x0 v7 v11 v15 v19 v23 _ _ _ hm hX hS (lv_sub hl [1, 3, 4, 5, 6, 7] rfl)
                · replace hm := zi_f h112 hm
                  refine lv_aload_n hx hb d_ZoneNodesModel_deliver_150 rfl (lv_at hl 1 rfl) ?_
                  refine lv_iload_n hx hb d_ZoneNodesModel_deliver_151 rfl (lv_at hl 4 rfl) ?_
                  replace hm := zb1_s hm
                  obtain ⟨_, h114, hm⟩ := hm
                  replace hm := zb2_s hm
                  obtain ⟨v115, X116, h113, hm⟩ := hm
                  refine zr_callv (zr_runV (As := [.int v11]) (rest := []) (n := 1) hx hb hml hown hts hk hX (c_ZoneNodesModel_ask l G N X42 x0 v11 v115 X116 h113) (hts _ tW533) tW534 (hts _ tW469) (hts _ tW535) (hts _ tW536) rfl h114 (by decide +kernel) ⟨Nat.le_of_ble_eq_true rfl, Nat.le_of_ble_eq_true rfl⟩ rfl rfl hl.1 rfl (lv_room (Nat.le_of_ble_eq_true rfl)) d_ZoneNodesModel_deliver_152 ⟨(Nat.le_of_ble_eq_true rfl), (Nat.le_of_ble_eq_true rfl)⟩) hS (fun H locs hX hS => ?_)
                  exact hJ155 X116 x0 v7 v11 v15 v19 v23 _ _ _ hm hX hS (lv_sub hl [1, 3, 4, 5, 6, 7] rfl)
          · replace hm := zi_t h102 hm
            refine lv_iconst (v := 1) hx hb d_ZoneNodesModel_deliver_124 (by decide) ?_
            cases hm
            exact W.zret hx hb hr (by decide) (fun t ht hW => zh_end hk hX hS ht hW) hS.2.2 d_ZoneNodesModel_deliver_125
        · replace hm := zi_t h97 hm
          refine lv_iconst (v := 0) hx hb d_ZoneNodesModel_deliver_107 (by decide) ?_
          refine lv_goto (tgt := 112) hx hb d_ZoneNodesModel_deliver_108 rfl ?_
          refine lv_istore (lv' := [(7, .int 0), (0, .ref x0), (1, .int x1), (2, .int v7), (3, .int v11), (4, .int v15), (5, .int v19), (6, .int v23)]) hx hb d_ZoneNodesModel_deliver_112 hl (by decide) rfl (fun ls hl => ?_)
          refine lv_aload_n hx hb d_ZoneNodesModel_deliver_114 rfl (lv_at hl 1 rfl) ?_
          replace hm := zb1_s hm
          obtain ⟨a118, h117, hm⟩ := hm
          refine zr_get (ci := 9) (C := R_ZoneNodesModel) (T := F_ZoneNodesModel) (N := 32) hx hb hts in_ZoneNodesModel hown hk hX rfl 4 (by decide) (hts _ tW443) rfl (zgr_v h117) d_ZoneNodesModel_deliver_115 ?_
          refine lv_iload hx hb d_ZoneNodesModel_deliver_118 (lv_at hl 0 rfl) ?_
          replace hm := zb1_s hm
          obtain ⟨v119, h120, hm⟩ := hm
          refine zr_baload hx hb hk hX h120 d_ZoneNodesModel_deliver_120 ?_
          refine lv_if_ne (tgt := 126) hx hb d_ZoneNodesModel_deliver_121 rfl (fun h121 => ?_) (fun h121 => ?_)
          · replace hm := zi_f h121 hm
            refine lv_iload_n hx hb d_ZoneNodesModel_deliver_126 rfl (lv_at hl 3 rfl) ?_
            refine lv_iconst (v := 1) hx hb d_ZoneNodesModel_deliver_127 (by decide) ?_
            refine lv_icmp_ne (tgt := 155) hx hb d_ZoneNodesModel_deliver_128 rfl (fun h122 => ?_) (fun h122 => ?_)
            · replace hm := zi_f h122 hm
              exact hJ155 X42 x0 v7 v11 v15 v19 v23 _ _ _ hm hX hS (lv_sub hl [1, 3, 4, 5, 6, 7] rfl)
            · replace hm := zi_t h122 hm
              refine lv_aload_n hx hb d_ZoneNodesModel_deliver_131 rfl (lv_at hl 1 rfl) ?_
              replace hm := zb1_s hm
              obtain ⟨a124, h123, hm⟩ := hm
              refine zr_get (ci := 9) (C := R_ZoneNodesModel) (T := F_ZoneNodesModel) (N := 32) hx hb hts in_ZoneNodesModel hown hk hX rfl 9 (by decide) (hts _ tW439) rfl (zgr_v h123) d_ZoneNodesModel_deliver_132 ?_
              refine lv_iload_n hx hb d_ZoneNodesModel_deliver_135 rfl (lv_at hl 4 rfl) ?_
              replace hm := zb1_s hm
              obtain ⟨v125, h126, hm⟩ := hm
              refine zr_iaload hx hb hk hX h126 d_ZoneNodesModel_deliver_136 ?_
              refine lv_if_ne (tgt := 155) hx hb d_ZoneNodesModel_deliver_137 rfl (fun h127 => ?_) (fun h127 => ?_)
              · replace hm := zi_f h127 hm
                exact hJ155 X42 x0 v7 v11 v15 v19 v23 _ _ _ hm hX hS (lv_sub hl [1, 3, 4, 5, 6, 7] rfl)
              · replace hm := zi_t h127 hm
                refine lv_aload_n hx hb d_ZoneNodesModel_deliver_140 rfl (lv_at hl 1 rfl) ?_
                refine lv_iload_n hx hb d_ZoneNodesModel_deliver_141 rfl (lv_at hl 4 rfl) ?_
                refine lv_iload hx hb d_ZoneNodesModel_deliver_142 (lv_at hl 5 rfl) ?_
                replace hm := zb1_s hm
                obtain ⟨_, h129, hm⟩ := hm
                replace hm := zb1_s hm
                obtain ⟨v130, h128, hm⟩ := hm
                refine zr_calli (zr_runV (As := [.int v11, .int v15]) (rest := []) (n := 2) hx hb hml hown hts hk hX (c_ZoneNodesModel_isNews l G N X42 x0 v11 v15 v130 h128) (hts _ tW517) tW518 (hts _ tW469) (hts _ tW519) (hts _ tW520) rfl h129 (by decide +kernel) ⟨Nat.le_of_ble_eq_true rfl, Nat.le_of_ble_eq_true rfl⟩ rfl rfl hl.1 rfl (lv_room (Nat.le_of_ble_eq_true rfl)) d_ZoneNodesModel_deliver_144 ⟨(Nat.le_of_ble_eq_true rfl), (Nat.le_of_ble_eq_true rfl)⟩) hS (fun H locs hX hS => ?_)
                refine lv_if_eq (tgt := 155) hx hb d_ZoneNodesModel_deliver_147 rfl (fun h131 => ?_) (fun h131 => ?_)
                · replace hm := zi_t h131 hm
                  exact hJ155 X42 x0 v7 v11 v15 v19 v23 _ _ _ hm hX hS (lv_sub hl [1, 3, 4, 5, 6, 7] rfl)
                · replace hm := zi_f h131 hm
                  refine lv_aload_n hx hb d_ZoneNodesModel_deliver_150 rfl (lv_at hl 1 rfl) ?_
                  refine lv_iload_n hx hb d_ZoneNodesModel_deliver_151 rfl (lv_at hl 4 rfl) ?_
                  replace hm := zb1_s hm
                  obtain ⟨_, h133, hm⟩ := hm
                  replace hm := zb2_s hm
                  obtain ⟨v134, X135, h132, hm⟩ := hm
                  refine zr_callv (zr_runV (As := [.int v11]) (rest := []) (n := 1) hx hb hml hown hts hk hX (c_ZoneNodesModel_ask l G N X42 x0 v11 v134 X135 h132) (hts _ tW533) tW534 (hts _ tW469) (hts _ tW535) (hts _ tW536) rfl h133 (by decide +kernel) ⟨Nat.le_of_ble_eq_true rfl, Nat.le_of_ble_eq_true rfl⟩ rfl rfl hl.1 rfl (lv_room (Nat.le_of_ble_eq_true rfl)) d_ZoneNodesModel_deliver_152 ⟨(Nat.le_of_ble_eq_true rfl), (Nat.le_of_ble_eq_true rfl)⟩) hS (fun H locs hX hS => ?_)
                  exact hJ155 X135 x0 v7 v11 v15 v19 v23 _ _ _ hm hX hS (lv_sub hl [1, 3, 4, 5, 6, 7] rfl)
          · replace hm := zi_t h121 hm
            refine lv_iconst (v := 1) hx hb d_ZoneNodesModel_deliver_124 (by decide) ?_
            cases hm
            exact W.zret hx hb hr (by decide) (fun t ht hW => zh_end hk hX hS ht hW) hS.2.2 d_ZoneNodesModel_deliver_125
  · replace hm := zi_t h4 hm
    refine lv_iconst (v := 0) hx hb d_ZoneNodesModel_deliver_8 (by decide) ?_
    cases hm
    exact W.zret hx hb hr (by decide) (fun t ht hW => zh_end hk hX hS ht hW) hS.2.2 d_ZoneNodesModel_deliver_9
