set_option maxHeartbeats 4000000 in
set_option maxRecDepth 100000 in
theorem c_ZoneNodesModel_works (l : Launch) (G : zh_G) (N : Nat) (X : zh_T) (x0 : Nat) (x1 : Int32) (x2 : Int32) (r : Int32) (hm : f_ZoneNodesModel_works N X x0 x1 x2 = some r) : zM l G y_ZoneNodesModel_works w_ZoneNodesModel_works 0 0 X [.ref x0, .int x1, .int x2] (some (.int r)) X 0 0 := by
  refine zr_ofW (by decide) (by exact Nat.le_of_ble_eq_true rfl) ?_
  intro p e s m args below meth c ls hx hb hml hr hts hown hin hlocks hk hX hl
  have hS : va_S (zh_A G) s.heap s.heap [] := va_S.rf
  have hl : lv_has ls 5 [(0, .ref x0), (1, .int x1), (2, .int x2)] := hl
  have hown : s.vm.findClass R_ZoneNodesModel = some m.cls := hown
  unfold f_ZoneNodesModel_works at hm
  have hL5 : ∀ (n : Nat) (X : zh_T) (w0 : Nat) (w2 : Int32) (w3 : Int32) (w4 : Int32) (v : Int32) (H : Heap) (locs : List Loc) (ls : Array Slot), L_ZoneNodesModel_works_5 N X w0 w2 n w3 w4 = some v → zh_w G X H → va_S (zh_A G) s.heap H locs → lv_has ls 5 [(0, .ref w0), (2, .int w2), (3, .int w3), (4, .int w4)] → (∀ (H : Heap) (locs : List Loc) (ls : Array Slot), zh_w G X H → va_S (zh_A G) s.heap H locs → lv_has ls 5 [(3, .int v)] → W p l e { frames := 0, cells := 0, slots := 0, locals := 0 } s m args below meth c H locs 0 0 (MQ below (zh_Q G (some (.int r)) X) args s 0 0 (zh_A G)) (F0 m 35 ls [])) → W p l e { frames := 0, cells := 0, slots := 0, locals := 0 } s m args below meth c H locs 0 0 (MQ below (zh_Q G (some (.int r)) X) args s 0 0 (zh_A G)) (F0 m 5 ls []) := by
    intro n
    induction n with
    | zero =>
      intro X w0 w2 w3 w4 v H locs ls hm hX hS hl hexit
      rw [L_ZoneNodesModel_works_5] at hm
      cases hm
    | succ n ih =>
      intro X w0 w2 w3 w4 v H locs ls hm hX hS hl hexit
      rw [L_ZoneNodesModel_works_5] at hm
      refine lv_iload hx hb d_ZoneNodesModel_works_5 (lv_at hl 3 rfl) ?_
      refine lv_iload_n hx hb d_ZoneNodesModel_works_7 rfl (lv_at hl 1 rfl) ?_
      refine lv_icmp_ge (tgt := 35) hx hb d_ZoneNodesModel_works_8 rfl (fun h1 => ?_) (fun h1 => ?_)
      · replace hm := zi_t h1 hm
        cases hm
        exact hexit _ _ _ hX hS (lv_sub hl [2] rfl)
      · replace hm := zi_f h1 hm
        refine lv_iload_n hx hb d_ZoneNodesModel_works_11 rfl (lv_at hl 2 rfl) ?_
        refine lv_aload_n hx hb d_ZoneNodesModel_works_12 rfl (lv_at hl 0 rfl) ?_
        replace hm := zb1_s hm
        obtain ⟨a3, h2, hm⟩ := hm
        refine zr_get (ci := 9) (C := R_ZoneNodesModel) (T := F_ZoneNodesModel) (N := 32) hx hb hts in_ZoneNodesModel hown hk hX rfl 23 (by decide) (hts _ tW456) rfl (zgr_v h2) d_ZoneNodesModel_works_13 ?_
        refine lv_iload hx hb d_ZoneNodesModel_works_16 (lv_at hl 3 rfl) ?_
        replace hm := zb1_s hm
        obtain ⟨v4, h5, hm⟩ := hm
        refine zr_baload hx hb hk hX h5 d_ZoneNodesModel_works_18 ?_
        refine lv_if_eq (tgt := 26) hx hb d_ZoneNodesModel_works_19 rfl (fun h6 => ?_) (fun h6 => ?_)
        · replace hm := zi_t h6 hm
          refine lv_iconst (v := 0) hx hb d_ZoneNodesModel_works_26 (by decide) ?_
          refine lv_iadd hx hb d_ZoneNodesModel_works_27 ?_
          refine lv_istore_n (lv' := [(3, .int (w3 + 0)), (0, .ref w0), (2, .int w2), (4, .int w4)]) hx hb d_ZoneNodesModel_works_28 rfl hl (by decide) rfl (fun ls hl => ?_)
          refine lv_iinc (v := w4 + 1) (lv' := [(4, .int (w4 + 1)), (3, .int (w3 + 0)), (0, .ref w0), (2, .int w2)]) hx hb d_ZoneNodesModel_works_29 hl (k := 3) rfl (by rw [show Int32.ofInt 1 = 1 by decide]) (by decide) rfl (fun ls hl => ?_)
          refine lv_goto (tgt := 5) hx hb d_ZoneNodesModel_works_32 rfl ?_
          exact ih X w0 w2 (w3 + 0) (w4 + 1) v _ _ _ hm hX hS (lv_sub hl [2, 3, 1, 0] rfl) hexit
        · replace hm := zi_f h6 hm
          refine lv_iconst (v := 1) hx hb d_ZoneNodesModel_works_22 (by decide) ?_
          refine lv_goto (tgt := 27) hx hb d_ZoneNodesModel_works_23 rfl ?_
          refine lv_iadd hx hb d_ZoneNodesModel_works_27 ?_
          refine lv_istore_n (lv' := [(3, .int (w3 + 1)), (0, .ref w0), (2, .int w2), (4, .int w4)]) hx hb d_ZoneNodesModel_works_28 rfl hl (by decide) rfl (fun ls hl => ?_)
          refine lv_iinc (v := w4 + 1) (lv' := [(4, .int (w4 + 1)), (3, .int (w3 + 1)), (0, .ref w0), (2, .int w2)]) hx hb d_ZoneNodesModel_works_29 hl (k := 3) rfl (by rw [show Int32.ofInt 1 = 1 by decide]) (by decide) rfl (fun ls hl => ?_)
          refine lv_goto (tgt := 5) hx hb d_ZoneNodesModel_works_32 rfl ?_
          exact ih X w0 w2 (w3 + 1) (w4 + 1) v _ _ _ hm hX hS (lv_sub hl [2, 3, 1, 0] rfl) hexit
  refine lv_iconst (v := 0) hx hb d_ZoneNodesModel_works_0 (by decide) ?_
  refine lv_istore_n (lv' := [(3, .int 0), (0, .ref x0), (1, .int x1), (2, .int x2)]) hx hb d_ZoneNodesModel_works_1 rfl hl (by decide) rfl (fun ls hl => ?_)
  refine lv_iload_n hx hb d_ZoneNodesModel_works_2 rfl (lv_at hl 2 rfl) ?_
  refine lv_istore (lv' := [(4, .int x1), (3, .int 0), (0, .ref x0), (1, .int x1), (2, .int x2)]) hx hb d_ZoneNodesModel_works_3 hl (by decide) rfl (fun ls hl => ?_)
  replace hm := zb1_s hm
  obtain ⟨v7, h8, hm⟩ := hm
  refine hL5 N X x0 x2 0 x1 v7 _ _ _ h8 hX hS (lv_sub hl [2, 4, 1, 0] rfl) (fun H locs ls hX hS hl => ?_)
  refine lv_iload_n hx hb d_ZoneNodesModel_works_35 rfl (lv_at hl 0 rfl) ?_
  cases hm
  exact W.iret hx hb hr (fun t ht hW => zh_end hk hX hS ht hW) hS.2.2 d_ZoneNodesModel_works_36
set_option maxHeartbeats 4000000 in
set_option maxRecDepth 100000 in
theorem c_ZoneNodesModel_add (l : Launch) (G : zh_G) (N : Nat) (X : zh_T) (x0 : Nat) (x1 : Int32) (x2 : Int32) (x3 : Int32) (r : Unit) (X' : zh_T) (hm : f_ZoneNodesModel_add N X x0 x1 x2 x3 = some (r, X')) : zM l G y_ZoneNodesModel_add w_ZoneNodesModel_add 1 24 X [.ref x0, .int x1, .int x2, .int x3] none X' 0 0 := by
  refine zr_ofW (by decide) (by exact Nat.le_of_ble_eq_true rfl) ?_
  intro p e s m args below meth c ls hx hb hml hr hts hown hin hlocks hk hX hl
  have hS : va_S (zh_A G) s.heap s.heap [] := va_S.rf
  have hl : lv_has ls 8 [(0, .ref x0), (1, .int x1), (2, .int x2), (3, .int x3)] := hl
  have hown : s.vm.findClass R_ZoneNodesModel = some m.cls := hown
  unfold f_ZoneNodesModel_add at hm
  have hL77 : ∀ (n : Nat) (X : zh_T) (w0 : Nat) (w1 : Int32) (w2 : Int32) (w3 : Int32) (w6 : Int32) (w7 : Int32) (v : Unit) (X1 : zh_T) (H : Heap) (locs : List Loc) (ls : Array Slot), L_ZoneNodesModel_add_77 N w0 w1 w2 w3 w6 n X w7 = some (v, X1) → zh_w G X H → va_S (zh_A G) s.heap H locs → lv_has ls 8 [(0, .ref w0), (1, .int w1), (2, .int w2), (3, .int w3), (6, .int w6), (7, .int w7)] → (∀ (H : Heap) (locs : List Loc) (ls : Array Slot), zh_w G X1 H → va_S (zh_A G) s.heap H locs → lv_has ls 8 [(0, .ref w0), (1, .int w1), (2, .int w2), (3, .int w3), (6, .int w6)] → W p l e { frames := 1, cells := 0, slots := 0, locals := 24 } s m args below meth c H locs 0 0 (MQ below (zh_Q G none X') args s 0 0 (zh_A G)) (F0 m 113 ls [])) → W p l e { frames := 1, cells := 0, slots := 0, locals := 24 } s m args below meth c H locs 0 0 (MQ below (zh_Q G none X') args s 0 0 (zh_A G)) (F0 m 77 ls []) := by
    intro n
    induction n with
    | zero =>
      intro X w0 w1 w2 w3 w6 w7 v X1 H locs ls hm hX hS hl hexit
      rw [L_ZoneNodesModel_add_77] at hm
      cases hm
    | succ n ih =>
      intro X w0 w1 w2 w3 w6 w7 v X1 H locs ls hm hX hS hl hexit
      rw [L_ZoneNodesModel_add_77] at hm
      refine lv_iload hx hb d_ZoneNodesModel_add_77 (lv_at hl 5 rfl) ?_
      refine lv_bipush (v := 8) hx hb d_ZoneNodesModel_add_79 (by decide) ?_
      refine lv_icmp_ge (tgt := 113) hx hb d_ZoneNodesModel_add_81 rfl (fun h13 => ?_) (fun h13 => ?_)
      · replace hm := zi_t h13 hm
        cases hm
        exact hexit _ _ _ hX hS (lv_sub hl [0, 1, 2, 3, 4] rfl)
      · replace hm := zi_f h13 hm
        refine lv_iload hx hb d_ZoneNodesModel_add_84 (lv_at hl 4 rfl) ?_
        refine lv_if_eq (tgt := 113) hx hb d_ZoneNodesModel_add_86 rfl (fun h14 => ?_) (fun h14 => ?_)
        · replace hm := zi_t h14 hm
          cases hm
          exact hexit _ _ _ hX hS (lv_sub hl [0, 1, 2, 3, 4] rfl)
        · replace hm := zi_f h14 hm
          refine lv_iload_n hx hb d_ZoneNodesModel_add_89 rfl (lv_at hl 2 rfl) ?_
          refine lv_iconst (v := 2) hx hb d_ZoneNodesModel_add_90 (by decide) ?_
          refine lv_icmp_ne (tgt := 113) hx hb d_ZoneNodesModel_add_91 rfl (fun h15 => ?_) (fun h15 => ?_)
          · replace hm := zi_f h15 hm
            cases hm
            exact hexit _ _ _ hX hS (lv_sub hl [0, 1, 2, 3, 4] rfl)
          · replace hm := zi_t h15 hm
            refine lv_aload_n hx hb d_ZoneNodesModel_add_94 rfl (lv_at hl 0 rfl) ?_
            replace hm := zb1_s hm
            obtain ⟨a17, h16, hm⟩ := hm
            refine zr_get (ci := 9) (C := R_ZoneNodesModel) (T := F_ZoneNodesModel) (N := 32) hx hb hts in_ZoneNodesModel hown hk hX rfl 23 (by decide) (hts _ tW456) rfl (zgr_v h16) d_ZoneNodesModel_add_95 ?_
            refine lv_iload_n hx hb d_ZoneNodesModel_add_98 rfl (lv_at hl 1 rfl) ?_
            refine lv_iconst (v := 2) hx hb d_ZoneNodesModel_add_99 (by decide) ?_
            refine lv_iload hx hb d_ZoneNodesModel_add_100 (lv_at hl 5 rfl) ?_
            replace hm := zb1_s hm
            obtain ⟨v19, h18, hm⟩ := hm
            refine zr_calli (zr_runS (As := [.int w1, .int 2, .int w7]) (rest := [.ref a17]) (n := 3) hx hb hml hown hts hk hX (c_ZoneNodesModel_place l G N X w1 2 w7 v19 h18) (hts _ tW467) tW468 (hts _ tW469) (hts _ tW470) (by decide +kernel) ⟨Nat.le_of_ble_eq_true rfl, Nat.le_of_ble_eq_true rfl⟩ rfl rfl hl.1 rfl (lv_room (Nat.le_of_ble_eq_true rfl)) d_ZoneNodesModel_add_102 ⟨(Nat.le_of_ble_eq_true rfl), (Nat.le_of_ble_eq_true rfl)⟩) hS (fun H locs hX hS => ?_)
            refine lv_iconst (v := 0) hx hb d_ZoneNodesModel_add_105 (by decide) ?_
            replace hm := zb1_s hm
            obtain ⟨X20, h21, hm⟩ := hm
            refine zr_bastore hx hb hk hX hS h21 d_ZoneNodesModel_add_106 (fun H locs hX hS => ?_)
            refine lv_iinc (v := w7 + 1) (lv' := [(7, .int (w7 + 1)), (0, .ref w0), (1, .int w1), (2, .int w2), (3, .int w3), (6, .int w6)]) hx hb d_ZoneNodesModel_add_107 hl (k := 5) rfl (by rw [show Int32.ofInt 1 = 1 by decide]) (by decide) rfl (fun ls hl => ?_)
            refine lv_goto (tgt := 77) hx hb d_ZoneNodesModel_add_110 rfl ?_
            exact ih X20 w0 w1 w2 w3 w6 (w7 + 1) v X1 _ _ _ hm hX hS (lv_sub hl [1, 2, 3, 4, 5, 0] rfl) hexit
  refine lv_aload_n hx hb d_ZoneNodesModel_add_0 rfl (lv_at hl 0 rfl) ?_
  refine lv_bipush (v := 32) hx hb d_ZoneNodesModel_add_1 (by decide) ?_
  refine lv_iload_n hx hb d_ZoneNodesModel_add_3 rfl (lv_at hl 1 rfl) ?_
  refine lv_imul hx hb d_ZoneNodesModel_add_4 ?_
  refine lv_bipush (v := 32) hx hb d_ZoneNodesModel_add_5 (by decide) ?_
  refine lv_iload_n hx hb d_ZoneNodesModel_add_7 rfl (lv_at hl 1 rfl) ?_
  refine lv_imul hx hb d_ZoneNodesModel_add_8 ?_
  refine lv_bipush (v := 32) hx hb d_ZoneNodesModel_add_9 (by decide) ?_
  refine lv_iadd hx hb d_ZoneNodesModel_add_11 ?_
  replace hm := zb1_s hm
  obtain ⟨_, h2, hm⟩ := hm
  replace hm := zb1_s hm
  obtain ⟨v3, h1, hm⟩ := hm
  refine zr_calli (zr_runV (As := [.int (32 * x1), .int ((32 * x1) + 32)]) (rest := []) (n := 2) hx hb hml hown hts hk hX (c_ZoneNodesModel_works l G N X x0 (32 * x1) ((32 * x1) + 32) v3 h1) (hts _ tW563) tW564 (hts _ tW469) (hts _ tW565) (hts _ tW566) rfl h2 (by decide +kernel) ⟨Nat.le_of_ble_eq_true rfl, Nat.le_of_ble_eq_true rfl⟩ rfl rfl hl.1 rfl (lv_room (Nat.le_of_ble_eq_true rfl)) d_ZoneNodesModel_add_12 ⟨(Nat.le_of_ble_eq_true rfl), (Nat.le_of_ble_eq_true rfl)⟩) hS (fun H locs hX hS => ?_)
  refine lv_istore (lv' := [(4, .int v3), (0, .ref x0), (1, .int x1), (2, .int x2), (3, .int x3)]) hx hb d_ZoneNodesModel_add_15 hl (by decide) rfl (fun ls hl => ?_)
  refine lv_aload_n hx hb d_ZoneNodesModel_add_17 rfl (lv_at hl 1 rfl) ?_
  refine lv_iload_n hx hb d_ZoneNodesModel_add_18 rfl (lv_at hl 2 rfl) ?_
  refine lv_iconst (v := 2) hx hb d_ZoneNodesModel_add_19 (by decide) ?_
  refine lv_iconst (v := 0) hx hb d_ZoneNodesModel_add_20 (by decide) ?_
  replace hm := zb1_s hm
  obtain ⟨v5, h4, hm⟩ := hm
  refine zr_calli (zr_runS (As := [.int x1, .int 2, .int 0]) (rest := [.ref x0]) (n := 3) hx hb hml hown hts hk hX (c_ZoneNodesModel_place l G N X x1 2 0 v5 h4) (hts _ tW467) tW468 (hts _ tW469) (hts _ tW470) (by decide +kernel) ⟨Nat.le_of_ble_eq_true rfl, Nat.le_of_ble_eq_true rfl⟩ rfl rfl hl.1 rfl (lv_room (Nat.le_of_ble_eq_true rfl)) d_ZoneNodesModel_add_21 ⟨(Nat.le_of_ble_eq_true rfl), (Nat.le_of_ble_eq_true rfl)⟩) hS (fun H locs hX hS => ?_)
  refine lv_iload_n hx hb d_ZoneNodesModel_add_24 rfl (lv_at hl 2 rfl) ?_
  refine lv_iconst (v := 2) hx hb d_ZoneNodesModel_add_25 (by decide) ?_
  refine lv_iconst (v := 0) hx hb d_ZoneNodesModel_add_26 (by decide) ?_
  replace hm := zb1_s hm
  obtain ⟨v7, h6, hm⟩ := hm
  refine zr_calli (zr_runS (As := [.int x1, .int 2, .int 0]) (rest := [.int v5, .ref x0]) (n := 3) hx hb hml hown hts hk hX (c_ZoneNodesModel_place l G N X x1 2 0 v7 h6) (hts _ tW467) tW468 (hts _ tW469) (hts _ tW470) (by decide +kernel) ⟨Nat.le_of_ble_eq_true rfl, Nat.le_of_ble_eq_true rfl⟩ rfl rfl hl.1 rfl (lv_room (Nat.le_of_ble_eq_true rfl)) d_ZoneNodesModel_add_27 ⟨(Nat.le_of_ble_eq_true rfl), (Nat.le_of_ble_eq_true rfl)⟩) hS (fun H locs hX hS => ?_)
  refine lv_bipush (v := 8) hx hb d_ZoneNodesModel_add_30 (by decide) ?_
  refine lv_iadd hx hb d_ZoneNodesModel_add_32 ?_
  replace hm := zb1_s hm
  obtain ⟨_, h9, hm⟩ := hm
  replace hm := zb1_s hm
  obtain ⟨v10, h8, hm⟩ := hm
  refine zr_calli (zr_runV (As := [.int v5, .int (v7 + 8)]) (rest := []) (n := 2) hx hb hml hown hts hk hX (c_ZoneNodesModel_works l G N X x0 v5 (v7 + 8) v10 h8) (hts _ tW563) tW564 (hts _ tW469) (hts _ tW565) (hts _ tW566) rfl h9 (by decide +kernel) ⟨Nat.le_of_ble_eq_true rfl, Nat.le_of_ble_eq_true rfl⟩ rfl rfl hl.1 rfl (lv_room (Nat.le_of_ble_eq_true rfl)) d_ZoneNodesModel_add_33 ⟨(Nat.le_of_ble_eq_true rfl), (Nat.le_of_ble_eq_true rfl)⟩) hS (fun H locs hX hS => ?_)
  refine lv_istore (lv' := [(5, .int v10), (4, .int v3), (0, .ref x0), (1, .int x1), (2, .int x2), (3, .int x3)]) hx hb d_ZoneNodesModel_add_36 hl (by decide) rfl (fun ls hl => ?_)
  refine lv_iload_n hx hb d_ZoneNodesModel_add_38 rfl (lv_at hl 4 rfl) ?_
  refine lv_iconst (v := 2) hx hb d_ZoneNodesModel_add_39 (by decide) ?_
  refine lv_icmp_eq (tgt := 56) hx hb d_ZoneNodesModel_add_40 rfl (fun h11 => ?_) (fun h11 => ?_)
  · replace hm := zi_t h11 hm
    refine lv_iload_n hx hb d_ZoneNodesModel_add_56 rfl (lv_at hl 3 rfl) ?_
    refine lv_if_eq (tgt := 71) hx hb d_ZoneNodesModel_add_57 rfl (fun h12 => ?_) (fun h12 => ?_)
    · replace hm := zi_t h12 hm
      refine lv_iconst (v := 0) hx hb d_ZoneNodesModel_add_71 (by decide) ?_
      refine lv_istore (lv' := [(6, .int 0), (5, .int v10), (4, .int v3), (0, .ref x0), (1, .int x1), (2, .int x2), (3, .int x3)]) hx hb d_ZoneNodesModel_add_72 hl (by decide) rfl (fun ls hl => ?_)
      refine lv_iconst (v := 0) hx hb d_ZoneNodesModel_add_74 (by decide) ?_
      refine lv_istore (lv' := [(7, .int 0), (6, .int 0), (5, .int v10), (4, .int v3), (0, .ref x0), (1, .int x1), (2, .int x2), (3, .int x3)]) hx hb d_ZoneNodesModel_add_75 hl (by decide) rfl (fun ls hl => ?_)
      replace hm := zb2_s hm
      obtain ⟨v22, X24, h23, hm⟩ := hm
      refine hL77 N X x0 x1 x2 x3 0 0 v22 X24 _ _ _ h23 hX hS (lv_sub hl [4, 5, 6, 7, 1, 0] rfl) (fun H locs ls hX hS hl => ?_)
      refine lv_iload hx hb d_ZoneNodesModel_add_113 (lv_at hl 4 rfl) ?_
      refine lv_if_eq (tgt := 130) hx hb d_ZoneNodesModel_add_115 rfl (fun _ => ?_) (fun h => absurd h (by decide))
      cases hm
      exact W.vret hx hb hr (fun t ht hW => zh_end hk hX hS ht hW) hS.2.2 d_ZoneNodesModel_add_130
    · replace hm := zi_f h12 hm
      refine lv_iload hx hb d_ZoneNodesModel_add_60 (lv_at hl 1 rfl) ?_
      refine lv_iload hx hb d_ZoneNodesModel_add_62 (lv_at hl 0 rfl) ?_
      refine lv_icmp_ne (tgt := 71) hx hb d_ZoneNodesModel_add_64 rfl (fun h25 => ?_) (fun h25 => ?_)
      · replace hm := zi_f h25 hm
        refine lv_iconst (v := 0) hx hb d_ZoneNodesModel_add_71 (by decide) ?_
        refine lv_istore (lv' := [(6, .int 0), (5, .int v10), (4, .int v3), (0, .ref x0), (1, .int x1), (2, .int x2), (3, .int x3)]) hx hb d_ZoneNodesModel_add_72 hl (by decide) rfl (fun ls hl => ?_)
        refine lv_iconst (v := 0) hx hb d_ZoneNodesModel_add_74 (by decide) ?_
        refine lv_istore (lv' := [(7, .int 0), (6, .int 0), (5, .int v10), (4, .int v3), (0, .ref x0), (1, .int x1), (2, .int x2), (3, .int x3)]) hx hb d_ZoneNodesModel_add_75 hl (by decide) rfl (fun ls hl => ?_)
        replace hm := zb2_s hm
        obtain ⟨v26, X28, h27, hm⟩ := hm
        refine hL77 N X x0 x1 x2 x3 0 0 v26 X28 _ _ _ h27 hX hS (lv_sub hl [4, 5, 6, 7, 1, 0] rfl) (fun H locs ls hX hS hl => ?_)
        refine lv_iload hx hb d_ZoneNodesModel_add_113 (lv_at hl 4 rfl) ?_
        refine lv_if_eq (tgt := 130) hx hb d_ZoneNodesModel_add_115 rfl (fun _ => ?_) (fun h => absurd h (by decide))
        cases hm
        exact W.vret hx hb hr (fun t ht hW => zh_end hk hX hS ht hW) hS.2.2 d_ZoneNodesModel_add_130
      · replace hm := zi_t h25 hm
        refine lv_iconst (v := 1) hx hb d_ZoneNodesModel_add_67 (by decide) ?_
        refine lv_goto (tgt := 72) hx hb d_ZoneNodesModel_add_68 rfl ?_
        refine lv_istore (lv' := [(6, .int 1), (5, .int v10), (4, .int v3), (0, .ref x0), (1, .int x1), (2, .int x2), (3, .int x3)]) hx hb d_ZoneNodesModel_add_72 hl (by decide) rfl (fun ls hl => ?_)
        refine lv_iconst (v := 0) hx hb d_ZoneNodesModel_add_74 (by decide) ?_
        refine lv_istore (lv' := [(7, .int 0), (6, .int 1), (5, .int v10), (4, .int v3), (0, .ref x0), (1, .int x1), (2, .int x2), (3, .int x3)]) hx hb d_ZoneNodesModel_add_75 hl (by decide) rfl (fun ls hl => ?_)
        replace hm := zb2_s hm
        obtain ⟨v29, X31, h30, hm⟩ := hm
        refine hL77 N X x0 x1 x2 x3 1 0 v29 X31 _ _ _ h30 hX hS (lv_sub hl [4, 5, 6, 7, 1, 0] rfl) (fun H locs ls hX hS hl => ?_)
        refine lv_iload hx hb d_ZoneNodesModel_add_113 (lv_at hl 4 rfl) ?_
        refine lv_if_eq (tgt := 130) hx hb d_ZoneNodesModel_add_115 rfl (fun h => absurd h (by decide)) (fun _ => ?_)
        refine lv_aload_n hx hb d_ZoneNodesModel_add_118 rfl (lv_at hl 0 rfl) ?_
        replace hm := zb1_s hm
        obtain ⟨a33, h32, hm⟩ := hm
        refine zr_get (ci := 9) (C := R_ZoneNodesModel) (T := F_ZoneNodesModel) (N := 32) hx hb hts in_ZoneNodesModel hown hk hX rfl 23 (by decide) (hts _ tW456) rfl (zgr_v h32) d_ZoneNodesModel_add_119 ?_
        refine lv_iload_n hx hb d_ZoneNodesModel_add_122 rfl (lv_at hl 1 rfl) ?_
        refine lv_iload_n hx hb d_ZoneNodesModel_add_123 rfl (lv_at hl 2 rfl) ?_
        refine lv_iload_n hx hb d_ZoneNodesModel_add_124 rfl (lv_at hl 3 rfl) ?_
        replace hm := zb1_s hm
        obtain ⟨v35, h34, hm⟩ := hm
        refine zr_calli (zr_runS (As := [.int x1, .int x2, .int x3]) (rest := [.ref a33]) (n := 3) hx hb hml hown hts hk hX (c_ZoneNodesModel_place l G N X31 x1 x2 x3 v35 h34) (hts _ tW467) tW468 (hts _ tW469) (hts _ tW470) (by decide +kernel) ⟨Nat.le_of_ble_eq_true rfl, Nat.le_of_ble_eq_true rfl⟩ rfl rfl hl.1 rfl (lv_room (Nat.le_of_ble_eq_true rfl)) d_ZoneNodesModel_add_125 ⟨(Nat.le_of_ble_eq_true rfl), (Nat.le_of_ble_eq_true rfl)⟩) hS (fun H locs hX hS => ?_)
        refine lv_iconst (v := 1) hx hb d_ZoneNodesModel_add_128 (by decide) ?_
        replace hm := zb1_s hm
        obtain ⟨X36, h37, hm⟩ := hm
        refine zr_bastore hx hb hk hX hS h37 d_ZoneNodesModel_add_129 (fun H locs hX hS => ?_)
        cases hm
        exact W.vret hx hb hr (fun t ht hW => zh_end hk hX hS ht hW) hS.2.2 d_ZoneNodesModel_add_130
  · replace hm := zi_f h11 hm
    refine lv_iload hx hb d_ZoneNodesModel_add_43 (lv_at hl 0 rfl) ?_
    refine lv_if_ne (tgt := 52) hx hb d_ZoneNodesModel_add_45 rfl (fun h38 => ?_) (fun h38 => ?_)
    · replace hm := zi_f h38 hm
      refine lv_iconst (v := 0) hx hb d_ZoneNodesModel_add_52 (by decide) ?_
      refine lv_goto (tgt := 72) hx hb d_ZoneNodesModel_add_53 rfl ?_
      refine lv_istore (lv' := [(6, .int 0), (5, .int v10), (4, .int v3), (0, .ref x0), (1, .int x1), (2, .int x2), (3, .int x3)]) hx hb d_ZoneNodesModel_add_72 hl (by decide) rfl (fun ls hl => ?_)
      refine lv_iconst (v := 0) hx hb d_ZoneNodesModel_add_74 (by decide) ?_
      refine lv_istore (lv' := [(7, .int 0), (6, .int 0), (5, .int v10), (4, .int v3), (0, .ref x0), (1, .int x1), (2, .int x2), (3, .int x3)]) hx hb d_ZoneNodesModel_add_75 hl (by decide) rfl (fun ls hl => ?_)
      replace hm := zb2_s hm
      obtain ⟨v39, X41, h40, hm⟩ := hm
      refine hL77 N X x0 x1 x2 x3 0 0 v39 X41 _ _ _ h40 hX hS (lv_sub hl [4, 5, 6, 7, 1, 0] rfl) (fun H locs ls hX hS hl => ?_)
      refine lv_iload hx hb d_ZoneNodesModel_add_113 (lv_at hl 4 rfl) ?_
      refine lv_if_eq (tgt := 130) hx hb d_ZoneNodesModel_add_115 rfl (fun _ => ?_) (fun h => absurd h (by decide))
      cases hm
      exact W.vret hx hb hr (fun t ht hW => zh_end hk hX hS ht hW) hS.2.2 d_ZoneNodesModel_add_130
    · replace hm := zi_t h38 hm
      refine lv_iconst (v := 1) hx hb d_ZoneNodesModel_add_48 (by decide) ?_
      refine lv_goto (tgt := 72) hx hb d_ZoneNodesModel_add_49 rfl ?_
      refine lv_istore (lv' := [(6, .int 1), (5, .int v10), (4, .int v3), (0, .ref x0), (1, .int x1), (2, .int x2), (3, .int x3)]) hx hb d_ZoneNodesModel_add_72 hl (by decide) rfl (fun ls hl => ?_)
      refine lv_iconst (v := 0) hx hb d_ZoneNodesModel_add_74 (by decide) ?_
      refine lv_istore (lv' := [(7, .int 0), (6, .int 1), (5, .int v10), (4, .int v3), (0, .ref x0), (1, .int x1), (2, .int x2), (3, .int x3)]) hx hb d_ZoneNodesModel_add_75 hl (by decide) rfl (fun ls hl => ?_)
      replace hm := zb2_s hm
      obtain ⟨v42, X44, h43, hm⟩ := hm
      refine hL77 N X x0 x1 x2 x3 1 0 v42 X44 _ _ _ h43 hX hS (lv_sub hl [4, 5, 6, 7, 1, 0] rfl) (fun H locs ls hX hS hl => ?_)
      refine lv_iload hx hb d_ZoneNodesModel_add_113 (lv_at hl 4 rfl) ?_
      refine lv_if_eq (tgt := 130) hx hb d_ZoneNodesModel_add_115 rfl (fun h => absurd h (by decide)) (fun _ => ?_)
      refine lv_aload_n hx hb d_ZoneNodesModel_add_118 rfl (lv_at hl 0 rfl) ?_
      replace hm := zb1_s hm
      obtain ⟨a46, h45, hm⟩ := hm
      refine zr_get (ci := 9) (C := R_ZoneNodesModel) (T := F_ZoneNodesModel) (N := 32) hx hb hts in_ZoneNodesModel hown hk hX rfl 23 (by decide) (hts _ tW456) rfl (zgr_v h45) d_ZoneNodesModel_add_119 ?_
      refine lv_iload_n hx hb d_ZoneNodesModel_add_122 rfl (lv_at hl 1 rfl) ?_
      refine lv_iload_n hx hb d_ZoneNodesModel_add_123 rfl (lv_at hl 2 rfl) ?_
      refine lv_iload_n hx hb d_ZoneNodesModel_add_124 rfl (lv_at hl 3 rfl) ?_
      replace hm := zb1_s hm
      obtain ⟨v48, h47, hm⟩ := hm
      refine zr_calli (zr_runS (As := [.int x1, .int x2, .int x3]) (rest := [.ref a46]) (n := 3) hx hb hml hown hts hk hX (c_ZoneNodesModel_place l G N X44 x1 x2 x3 v48 h47) (hts _ tW467) tW468 (hts _ tW469) (hts _ tW470) (by decide +kernel) ⟨Nat.le_of_ble_eq_true rfl, Nat.le_of_ble_eq_true rfl⟩ rfl rfl hl.1 rfl (lv_room (Nat.le_of_ble_eq_true rfl)) d_ZoneNodesModel_add_125 ⟨(Nat.le_of_ble_eq_true rfl), (Nat.le_of_ble_eq_true rfl)⟩) hS (fun H locs hX hS => ?_)
      refine lv_iconst (v := 1) hx hb d_ZoneNodesModel_add_128 (by decide) ?_
      replace hm := zb1_s hm
      obtain ⟨X49, h50, hm⟩ := hm
      refine zr_bastore hx hb hk hX hS h50 d_ZoneNodesModel_add_129 (fun H locs hX hS => ?_)
      cases hm
      exact W.vret hx hb hr (fun t ht hW => zh_end hk hX hS ht hW) hS.2.2 d_ZoneNodesModel_add_130
set_option maxHeartbeats 4000000 in
set_option maxRecDepth 100000 in
theorem c_ZoneNodesModel_perform (l : Launch) (G : zh_G) (N : Nat) (X : zh_T) (x0 : Nat) (x1 : Int32) (r : Unit) (X' : zh_T) (hm : f_ZoneNodesModel_perform N X x0 x1 = some (r, X')) : zM l G y_ZoneNodesModel_perform w_ZoneNodesModel_perform 2 51 X [.ref x0, .int x1] none X' 0 0 := by
  refine zr_ofW (by decide) (by exact Nat.le_of_ble_eq_true rfl) ?_
  intro p e s m args below meth c ls hx hb hml hr hts hown hin hlocks hk hX hl
  have hS : va_S (zh_A G) s.heap s.heap [] := va_S.rf
  have hl : lv_has ls 10 [(0, .ref x0), (1, .int x1)] := hl
  have hown : s.vm.findClass R_ZoneNodesModel = some m.cls := hown
  unfold f_ZoneNodesModel_perform at hm
  have hL85 : ∀ (n : Nat) (X : zh_T) (w0 : Nat) (w2 : Int32) (w3 : Int32) (w4 : Int32) (w5 : Int32) (w6 : Int32) (w7 : Int32) (v : Unit) (X1 : zh_T) (H : Heap) (locs : List Loc) (ls : Array Slot), L_ZoneNodesModel_perform_85 N w0 w2 w3 w4 w5 w6 n X w7 = some (v, X1) → zh_w G X H → va_S (zh_A G) s.heap H locs → lv_has ls 10 [(0, .ref w0), (2, .int w2), (3, .int w3), (4, .int w4), (5, .int w5), (6, .int w6), (7, .int w7)] → (∀ (H : Heap) (locs : List Loc) (ls : Array Slot), zh_w G X1 H → va_S (zh_A G) s.heap H locs → lv_has ls 10 [(0, .ref w0), (2, .int w2), (5, .int w5), (6, .int w6)] → W p l e { frames := 2, cells := 0, slots := 0, locals := 51 } s m args below meth c H locs 0 0 (MQ below (zh_Q G none X') args s 0 0 (zh_A G)) (F0 m 198 ls [])) → W p l e { frames := 2, cells := 0, slots := 0, locals := 51 } s m args below meth c H locs 0 0 (MQ below (zh_Q G none X') args s 0 0 (zh_A G)) (F0 m 85 ls []) := by
    intro n
    induction n with
    | zero =>
      intro X w0 w2 w3 w4 w5 w6 w7 v X1 H locs ls hm hX hS hl hexit
      rw [L_ZoneNodesModel_perform_85] at hm
      cases hm
    | succ n ih =>
      intro X w0 w2 w3 w4 w5 w6 w7 v X1 H locs ls hm hX hS hl hexit
      rw [L_ZoneNodesModel_perform_85] at hm
      refine lv_iload hx hb d_ZoneNodesModel_perform_85 (lv_at hl 6 rfl) ?_
      refine lv_bipush (v := 32) hx hb d_ZoneNodesModel_perform_87 (by decide) ?_
      refine lv_iload_n hx hb d_ZoneNodesModel_perform_89 rfl (lv_at hl 2 rfl) ?_
      refine lv_imul hx hb d_ZoneNodesModel_perform_90 ?_
      refine lv_bipush (v := 32) hx hb d_ZoneNodesModel_perform_91 (by decide) ?_
      refine lv_iadd hx hb d_ZoneNodesModel_perform_93 ?_
      refine lv_icmp_ge (tgt := 198) hx hb d_ZoneNodesModel_perform_94 rfl (fun h22 => ?_) (fun h22 => ?_)
      · replace hm := zi_t h22 hm
        cases hm
        exact hexit _ _ _ hX hS (lv_sub hl [0, 1, 4, 5] rfl)
      · replace hm := zi_f h22 hm
        refine lv_iload_n hx hb d_ZoneNodesModel_perform_97 rfl (lv_at hl 1 rfl) ?_
        refine lv_iconst (v := 1) hx hb d_ZoneNodesModel_perform_98 (by decide) ?_
        refine lv_icmp_eq (tgt := 107) hx hb d_ZoneNodesModel_perform_99 rfl (fun h23 => ?_) (fun h23 => ?_)
        · replace hm := zi_t h23 hm
          refine lv_iload hx hb d_ZoneNodesModel_perform_107 (lv_at hl 6 rfl) ?_
          refine lv_iload hx hb d_ZoneNodesModel_perform_109 (lv_at hl 5 rfl) ?_
          refine lv_icmp_lt (tgt := 128) hx hb d_ZoneNodesModel_perform_111 rfl (fun h24 => ?_) (fun h24 => ?_)
          · replace hm := zi_t h24 hm
            refine lv_iconst (v := 0) hx hb d_ZoneNodesModel_perform_128 (by decide) ?_
            refine lv_istore (lv' := [(8, .int 0), (0, .ref w0), (2, .int w2), (3, .int w3), (4, .int w4), (5, .int w5), (6, .int w6), (7, .int w7)]) hx hb d_ZoneNodesModel_perform_129 hl (by decide) rfl (fun ls hl => ?_)
            refine lv_iload hx hb d_ZoneNodesModel_perform_131 (lv_at hl 0 rfl) ?_
            refine lv_if_ne (tgt := 162) hx hb d_ZoneNodesModel_perform_133 rfl (fun h => absurd h (by decide)) (fun _ => ?_)
            refine lv_iload_n hx hb d_ZoneNodesModel_perform_136 rfl (lv_at hl 2 rfl) ?_
            refine lv_iconst (v := 2) hx hb d_ZoneNodesModel_perform_137 (by decide) ?_
            refine lv_icmp_eq (tgt := 158) hx hb d_ZoneNodesModel_perform_138 rfl (fun h25 => ?_) (fun h25 => ?_)
            · replace hm := zi_t h25 hm
              refine lv_iconst (v := 1) hx hb d_ZoneNodesModel_perform_158 (by decide) ?_
              refine lv_goto (tgt := 163) hx hb d_ZoneNodesModel_perform_159 rfl ?_
              refine lv_istore (lv' := [(9, .int 1), (8, .int 0), (0, .ref w0), (2, .int w2), (3, .int w3), (4, .int w4), (5, .int w5), (6, .int w6), (7, .int w7)]) hx hb d_ZoneNodesModel_perform_163 hl (by decide) rfl (fun ls hl => ?_)
              refine lv_aload_n hx hb d_ZoneNodesModel_perform_165 rfl (lv_at hl 2 rfl) ?_
              replace hm := zb1_s hm
              obtain ⟨a27, h26, hm⟩ := hm
              refine zr_get (ci := 9) (C := R_ZoneNodesModel) (T := F_ZoneNodesModel) (N := 32) hx hb hts in_ZoneNodesModel hown hk hX rfl 23 (by decide) (hts _ tW456) rfl (zgr_v h26) d_ZoneNodesModel_perform_166 ?_
              refine lv_iload hx hb d_ZoneNodesModel_perform_169 (lv_at hl 8 rfl) ?_
              refine lv_aload_n hx hb d_ZoneNodesModel_perform_171 rfl (lv_at hl 2 rfl) ?_
              replace hm := zb1_s hm
              obtain ⟨a29, h28, hm⟩ := hm
              refine zr_get (ci := 9) (C := R_ZoneNodesModel) (T := F_ZoneNodesModel) (N := 32) hx hb hts in_ZoneNodesModel hown hk hX rfl 23 (by decide) (hts _ tW456) rfl (zgr_v h28) d_ZoneNodesModel_perform_172 ?_
              refine lv_iload hx hb d_ZoneNodesModel_perform_175 (lv_at hl 8 rfl) ?_
              replace hm := zb1_s hm
              obtain ⟨v30, h31, hm⟩ := hm
              refine zr_baload hx hb hk hX h31 d_ZoneNodesModel_perform_177 ?_
              refine lv_if_eq (tgt := 190) hx hb d_ZoneNodesModel_perform_178 rfl (fun h32 => ?_) (fun h32 => ?_)
              · replace hm := zi_t h32 hm
                refine lv_iconst (v := 0) hx hb d_ZoneNodesModel_perform_190 (by decide) ?_
                replace hm := zb1_s hm
                obtain ⟨X33, h34, hm⟩ := hm
                refine zr_bastore hx hb hk hX hS h34 d_ZoneNodesModel_perform_191 (fun H locs hX hS => ?_)
                refine lv_iinc (v := w7 + 1) (lv' := [(7, .int (w7 + 1)), (9, .int 1), (8, .int 0), (0, .ref w0), (2, .int w2), (3, .int w3), (4, .int w4), (5, .int w5), (6, .int w6)]) hx hb d_ZoneNodesModel_perform_192 hl (k := 8) rfl (by rw [show Int32.ofInt 1 = 1 by decide]) (by decide) rfl (fun ls hl => ?_)
                refine lv_goto (tgt := 85) hx hb d_ZoneNodesModel_perform_195 rfl ?_
                exact ih X33 w0 w2 w3 w4 w5 w6 (w7 + 1) v X1 _ _ _ hm hX hS (lv_sub hl [3, 4, 5, 6, 7, 8, 0] rfl) hexit
              · replace hm := zi_f h32 hm
                refine lv_iload hx hb d_ZoneNodesModel_perform_181 (lv_at hl 0 rfl) ?_
                refine lv_if_ne (tgt := 190) hx hb d_ZoneNodesModel_perform_183 rfl (fun _ => ?_) (fun h => absurd h (by decide))
                refine lv_iconst (v := 0) hx hb d_ZoneNodesModel_perform_190 (by decide) ?_
                replace hm := zb1_s hm
                obtain ⟨X35, h36, hm⟩ := hm
                refine zr_bastore hx hb hk hX hS h36 d_ZoneNodesModel_perform_191 (fun H locs hX hS => ?_)
                refine lv_iinc (v := w7 + 1) (lv' := [(7, .int (w7 + 1)), (9, .int 1), (8, .int 0), (0, .ref w0), (2, .int w2), (3, .int w3), (4, .int w4), (5, .int w5), (6, .int w6)]) hx hb d_ZoneNodesModel_perform_192 hl (k := 8) rfl (by rw [show Int32.ofInt 1 = 1 by decide]) (by decide) rfl (fun ls hl => ?_)
                refine lv_goto (tgt := 85) hx hb d_ZoneNodesModel_perform_195 rfl ?_
                exact ih X35 w0 w2 w3 w4 w5 w6 (w7 + 1) v X1 _ _ _ hm hX hS (lv_sub hl [3, 4, 5, 6, 7, 8, 0] rfl) hexit
            · replace hm := zi_f h25 hm
              refine lv_iload hx hb d_ZoneNodesModel_perform_141 (lv_at hl 7 rfl) ?_
              refine lv_bipush (v := 32) hx hb d_ZoneNodesModel_perform_143 (by decide) ?_
              refine lv_iload_n hx hb d_ZoneNodesModel_perform_145 rfl (lv_at hl 3 rfl) ?_
              refine lv_imul hx hb d_ZoneNodesModel_perform_146 ?_
              refine lv_isub hx hb d_ZoneNodesModel_perform_147 ?_
              refine lv_bipush (v := 8) hx hb d_ZoneNodesModel_perform_148 (by decide) ?_
              refine lv_idiv hx hb d_ZoneNodesModel_perform_150 (by decide) ?_
              refine lv_iload hx hb d_ZoneNodesModel_perform_151 (lv_at hl 4 rfl) ?_
              refine lv_iconst (v := 1) hx hb d_ZoneNodesModel_perform_153 (by decide) ?_
              refine lv_isub hx hb d_ZoneNodesModel_perform_154 ?_
              refine lv_icmp_ne (tgt := 162) hx hb d_ZoneNodesModel_perform_155 rfl (fun h37 => ?_) (fun h37 => ?_)
              · replace hm := zi_f h37 hm
                refine lv_iconst (v := 0) hx hb d_ZoneNodesModel_perform_162 (by decide) ?_
                refine lv_istore (lv' := [(9, .int 0), (8, .int 0), (0, .ref w0), (2, .int w2), (3, .int w3), (4, .int w4), (5, .int w5), (6, .int w6), (7, .int w7)]) hx hb d_ZoneNodesModel_perform_163 hl (by decide) rfl (fun ls hl => ?_)
                refine lv_aload_n hx hb d_ZoneNodesModel_perform_165 rfl (lv_at hl 2 rfl) ?_
                replace hm := zb1_s hm
                obtain ⟨a39, h38, hm⟩ := hm
                refine zr_get (ci := 9) (C := R_ZoneNodesModel) (T := F_ZoneNodesModel) (N := 32) hx hb hts in_ZoneNodesModel hown hk hX rfl 23 (by decide) (hts _ tW456) rfl (zgr_v h38) d_ZoneNodesModel_perform_166 ?_
                refine lv_iload hx hb d_ZoneNodesModel_perform_169 (lv_at hl 8 rfl) ?_
                refine lv_aload_n hx hb d_ZoneNodesModel_perform_171 rfl (lv_at hl 2 rfl) ?_
                replace hm := zb1_s hm
                obtain ⟨a41, h40, hm⟩ := hm
                refine zr_get (ci := 9) (C := R_ZoneNodesModel) (T := F_ZoneNodesModel) (N := 32) hx hb hts in_ZoneNodesModel hown hk hX rfl 23 (by decide) (hts _ tW456) rfl (zgr_v h40) d_ZoneNodesModel_perform_172 ?_
                refine lv_iload hx hb d_ZoneNodesModel_perform_175 (lv_at hl 8 rfl) ?_
                replace hm := zb1_s hm
                obtain ⟨v42, h43, hm⟩ := hm
                refine zr_baload hx hb hk hX h43 d_ZoneNodesModel_perform_177 ?_
                refine lv_if_eq (tgt := 190) hx hb d_ZoneNodesModel_perform_178 rfl (fun h44 => ?_) (fun h44 => ?_)
                · replace hm := zi_t h44 hm
                  refine lv_iconst (v := 0) hx hb d_ZoneNodesModel_perform_190 (by decide) ?_
                  replace hm := zb1_s hm
                  obtain ⟨X45, h46, hm⟩ := hm
                  refine zr_bastore hx hb hk hX hS h46 d_ZoneNodesModel_perform_191 (fun H locs hX hS => ?_)
                  refine lv_iinc (v := w7 + 1) (lv' := [(7, .int (w7 + 1)), (9, .int 0), (8, .int 0), (0, .ref w0), (2, .int w2), (3, .int w3), (4, .int w4), (5, .int w5), (6, .int w6)]) hx hb d_ZoneNodesModel_perform_192 hl (k := 8) rfl (by rw [show Int32.ofInt 1 = 1 by decide]) (by decide) rfl (fun ls hl => ?_)
                  refine lv_goto (tgt := 85) hx hb d_ZoneNodesModel_perform_195 rfl ?_
                  exact ih X45 w0 w2 w3 w4 w5 w6 (w7 + 1) v X1 _ _ _ hm hX hS (lv_sub hl [3, 4, 5, 6, 7, 8, 0] rfl) hexit
                · replace hm := zi_f h44 hm
                  refine lv_iload hx hb d_ZoneNodesModel_perform_181 (lv_at hl 0 rfl) ?_
                  refine lv_if_ne (tgt := 190) hx hb d_ZoneNodesModel_perform_183 rfl (fun h => absurd h (by decide)) (fun _ => ?_)
                  refine lv_iconst (v := 1) hx hb d_ZoneNodesModel_perform_186 (by decide) ?_
                  refine lv_goto (tgt := 191) hx hb d_ZoneNodesModel_perform_187 rfl ?_
                  replace hm := zb1_s hm
                  obtain ⟨X47, h48, hm⟩ := hm
                  refine zr_bastore hx hb hk hX hS h48 d_ZoneNodesModel_perform_191 (fun H locs hX hS => ?_)
                  refine lv_iinc (v := w7 + 1) (lv' := [(7, .int (w7 + 1)), (9, .int 0), (8, .int 0), (0, .ref w0), (2, .int w2), (3, .int w3), (4, .int w4), (5, .int w5), (6, .int w6)]) hx hb d_ZoneNodesModel_perform_192 hl (k := 8) rfl (by rw [show Int32.ofInt 1 = 1 by decide]) (by decide) rfl (fun ls hl => ?_)
                  refine lv_goto (tgt := 85) hx hb d_ZoneNodesModel_perform_195 rfl ?_
                  exact ih X47 w0 w2 w3 w4 w5 w6 (w7 + 1) v X1 _ _ _ hm hX hS (lv_sub hl [3, 4, 5, 6, 7, 8, 0] rfl) hexit
              · replace hm := zi_t h37 hm
                refine lv_iconst (v := 1) hx hb d_ZoneNodesModel_perform_158 (by decide) ?_
                refine lv_goto (tgt := 163) hx hb d_ZoneNodesModel_perform_159 rfl ?_
                refine lv_istore (lv' := [(9, .int 1), (8, .int 0), (0, .ref w0), (2, .int w2), (3, .int w3), (4, .int w4), (5, .int w5), (6, .int w6), (7, .int w7)]) hx hb d_ZoneNodesModel_perform_163 hl (by decide) rfl (fun ls hl => ?_)
                refine lv_aload_n hx hb d_ZoneNodesModel_perform_165 rfl (lv_at hl 2 rfl) ?_
                replace hm := zb1_s hm
                obtain ⟨a50, h49, hm⟩ := hm
                refine zr_get (ci := 9) (C := R_ZoneNodesModel) (T := F_ZoneNodesModel) (N := 32) hx hb hts in_ZoneNodesModel hown hk hX rfl 23 (by decide) (hts _ tW456) rfl (zgr_v h49) d_ZoneNodesModel_perform_166 ?_
                refine lv_iload hx hb d_ZoneNodesModel_perform_169 (lv_at hl 8 rfl) ?_
                refine lv_aload_n hx hb d_ZoneNodesModel_perform_171 rfl (lv_at hl 2 rfl) ?_
                replace hm := zb1_s hm
                obtain ⟨a52, h51, hm⟩ := hm
                refine zr_get (ci := 9) (C := R_ZoneNodesModel) (T := F_ZoneNodesModel) (N := 32) hx hb hts in_ZoneNodesModel hown hk hX rfl 23 (by decide) (hts _ tW456) rfl (zgr_v h51) d_ZoneNodesModel_perform_172 ?_
                refine lv_iload hx hb d_ZoneNodesModel_perform_175 (lv_at hl 8 rfl) ?_
                replace hm := zb1_s hm
                obtain ⟨v53, h54, hm⟩ := hm
                refine zr_baload hx hb hk hX h54 d_ZoneNodesModel_perform_177 ?_
                refine lv_if_eq (tgt := 190) hx hb d_ZoneNodesModel_perform_178 rfl (fun h55 => ?_) (fun h55 => ?_)
                · replace hm := zi_t h55 hm
                  refine lv_iconst (v := 0) hx hb d_ZoneNodesModel_perform_190 (by decide) ?_
                  replace hm := zb1_s hm
                  obtain ⟨X56, h57, hm⟩ := hm
                  refine zr_bastore hx hb hk hX hS h57 d_ZoneNodesModel_perform_191 (fun H locs hX hS => ?_)
                  refine lv_iinc (v := w7 + 1) (lv' := [(7, .int (w7 + 1)), (9, .int 1), (8, .int 0), (0, .ref w0), (2, .int w2), (3, .int w3), (4, .int w4), (5, .int w5), (6, .int w6)]) hx hb d_ZoneNodesModel_perform_192 hl (k := 8) rfl (by rw [show Int32.ofInt 1 = 1 by decide]) (by decide) rfl (fun ls hl => ?_)
                  refine lv_goto (tgt := 85) hx hb d_ZoneNodesModel_perform_195 rfl ?_
                  exact ih X56 w0 w2 w3 w4 w5 w6 (w7 + 1) v X1 _ _ _ hm hX hS (lv_sub hl [3, 4, 5, 6, 7, 8, 0] rfl) hexit
                · replace hm := zi_f h55 hm
                  refine lv_iload hx hb d_ZoneNodesModel_perform_181 (lv_at hl 0 rfl) ?_
                  refine lv_if_ne (tgt := 190) hx hb d_ZoneNodesModel_perform_183 rfl (fun _ => ?_) (fun h => absurd h (by decide))
                  refine lv_iconst (v := 0) hx hb d_ZoneNodesModel_perform_190 (by decide) ?_
                  replace hm := zb1_s hm
                  obtain ⟨X58, h59, hm⟩ := hm
                  refine zr_bastore hx hb hk hX hS h59 d_ZoneNodesModel_perform_191 (fun H locs hX hS => ?_)
                  refine lv_iinc (v := w7 + 1) (lv' := [(7, .int (w7 + 1)), (9, .int 1), (8, .int 0), (0, .ref w0), (2, .int w2), (3, .int w3), (4, .int w4), (5, .int w5), (6, .int w6)]) hx hb d_ZoneNodesModel_perform_192 hl (k := 8) rfl (by rw [show Int32.ofInt 1 = 1 by decide]) (by decide) rfl (fun ls hl => ?_)
                  refine lv_goto (tgt := 85) hx hb d_ZoneNodesModel_perform_195 rfl ?_
                  exact ih X58 w0 w2 w3 w4 w5 w6 (w7 + 1) v X1 _ _ _ hm hX hS (lv_sub hl [3, 4, 5, 6, 7, 8, 0] rfl) hexit
          · replace hm := zi_f h24 hm
            refine lv_iload hx hb d_ZoneNodesModel_perform_114 (lv_at hl 6 rfl) ?_
            refine lv_iload hx hb d_ZoneNodesModel_perform_116 (lv_at hl 5 rfl) ?_
            refine lv_bipush (v := 8) hx hb d_ZoneNodesModel_perform_118 (by decide) ?_
            refine lv_iadd hx hb d_ZoneNodesModel_perform_120 ?_
            refine lv_icmp_ge (tgt := 128) hx hb d_ZoneNodesModel_perform_121 rfl (fun h60 => ?_) (fun h60 => ?_)
            · replace hm := zi_t h60 hm
              refine lv_iconst (v := 0) hx hb d_ZoneNodesModel_perform_128 (by decide) ?_
              refine lv_istore (lv' := [(8, .int 0), (0, .ref w0), (2, .int w2), (3, .int w3), (4, .int w4), (5, .int w5), (6, .int w6), (7, .int w7)]) hx hb d_ZoneNodesModel_perform_129 hl (by decide) rfl (fun ls hl => ?_)
              refine lv_iload hx hb d_ZoneNodesModel_perform_131 (lv_at hl 0 rfl) ?_
              refine lv_if_ne (tgt := 162) hx hb d_ZoneNodesModel_perform_133 rfl (fun h => absurd h (by decide)) (fun _ => ?_)
              refine lv_iload_n hx hb d_ZoneNodesModel_perform_136 rfl (lv_at hl 2 rfl) ?_
              refine lv_iconst (v := 2) hx hb d_ZoneNodesModel_perform_137 (by decide) ?_
              refine lv_icmp_eq (tgt := 158) hx hb d_ZoneNodesModel_perform_138 rfl (fun h61 => ?_) (fun h61 => ?_)
              · replace hm := zi_t h61 hm
                refine lv_iconst (v := 1) hx hb d_ZoneNodesModel_perform_158 (by decide) ?_
                refine lv_goto (tgt := 163) hx hb d_ZoneNodesModel_perform_159 rfl ?_
                refine lv_istore (lv' := [(9, .int 1), (8, .int 0), (0, .ref w0), (2, .int w2), (3, .int w3), (4, .int w4), (5, .int w5), (6, .int w6), (7, .int w7)]) hx hb d_ZoneNodesModel_perform_163 hl (by decide) rfl (fun ls hl => ?_)
                refine lv_aload_n hx hb d_ZoneNodesModel_perform_165 rfl (lv_at hl 2 rfl) ?_
                replace hm := zb1_s hm
                obtain ⟨a63, h62, hm⟩ := hm
                refine zr_get (ci := 9) (C := R_ZoneNodesModel) (T := F_ZoneNodesModel) (N := 32) hx hb hts in_ZoneNodesModel hown hk hX rfl 23 (by decide) (hts _ tW456) rfl (zgr_v h62) d_ZoneNodesModel_perform_166 ?_
                refine lv_iload hx hb d_ZoneNodesModel_perform_169 (lv_at hl 8 rfl) ?_
                refine lv_aload_n hx hb d_ZoneNodesModel_perform_171 rfl (lv_at hl 2 rfl) ?_
                replace hm := zb1_s hm
                obtain ⟨a65, h64, hm⟩ := hm
                refine zr_get (ci := 9) (C := R_ZoneNodesModel) (T := F_ZoneNodesModel) (N := 32) hx hb hts in_ZoneNodesModel hown hk hX rfl 23 (by decide) (hts _ tW456) rfl (zgr_v h64) d_ZoneNodesModel_perform_172 ?_
                refine lv_iload hx hb d_ZoneNodesModel_perform_175 (lv_at hl 8 rfl) ?_
                replace hm := zb1_s hm
                obtain ⟨v66, h67, hm⟩ := hm
                refine zr_baload hx hb hk hX h67 d_ZoneNodesModel_perform_177 ?_
                refine lv_if_eq (tgt := 190) hx hb d_ZoneNodesModel_perform_178 rfl (fun h68 => ?_) (fun h68 => ?_)
                · replace hm := zi_t h68 hm
                  refine lv_iconst (v := 0) hx hb d_ZoneNodesModel_perform_190 (by decide) ?_
                  replace hm := zb1_s hm
                  obtain ⟨X69, h70, hm⟩ := hm
                  refine zr_bastore hx hb hk hX hS h70 d_ZoneNodesModel_perform_191 (fun H locs hX hS => ?_)
                  refine lv_iinc (v := w7 + 1) (lv' := [(7, .int (w7 + 1)), (9, .int 1), (8, .int 0), (0, .ref w0), (2, .int w2), (3, .int w3), (4, .int w4), (5, .int w5), (6, .int w6)]) hx hb d_ZoneNodesModel_perform_192 hl (k := 8) rfl (by rw [show Int32.ofInt 1 = 1 by decide]) (by decide) rfl (fun ls hl => ?_)
                  refine lv_goto (tgt := 85) hx hb d_ZoneNodesModel_perform_195 rfl ?_
                  exact ih X69 w0 w2 w3 w4 w5 w6 (w7 + 1) v X1 _ _ _ hm hX hS (lv_sub hl [3, 4, 5, 6, 7, 8, 0] rfl) hexit
                · replace hm := zi_f h68 hm
                  refine lv_iload hx hb d_ZoneNodesModel_perform_181 (lv_at hl 0 rfl) ?_
                  refine lv_if_ne (tgt := 190) hx hb d_ZoneNodesModel_perform_183 rfl (fun _ => ?_) (fun h => absurd h (by decide))
                  refine lv_iconst (v := 0) hx hb d_ZoneNodesModel_perform_190 (by decide) ?_
                  replace hm := zb1_s hm
                  obtain ⟨X71, h72, hm⟩ := hm
                  refine zr_bastore hx hb hk hX hS h72 d_ZoneNodesModel_perform_191 (fun H locs hX hS => ?_)
                  refine lv_iinc (v := w7 + 1) (lv' := [(7, .int (w7 + 1)), (9, .int 1), (8, .int 0), (0, .ref w0), (2, .int w2), (3, .int w3), (4, .int w4), (5, .int w5), (6, .int w6)]) hx hb d_ZoneNodesModel_perform_192 hl (k := 8) rfl (by rw [show Int32.ofInt 1 = 1 by decide]) (by decide) rfl (fun ls hl => ?_)
                  refine lv_goto (tgt := 85) hx hb d_ZoneNodesModel_perform_195 rfl ?_
                  exact ih X71 w0 w2 w3 w4 w5 w6 (w7 + 1) v X1 _ _ _ hm hX hS (lv_sub hl [3, 4, 5, 6, 7, 8, 0] rfl) hexit
              · replace hm := zi_f h61 hm
                refine lv_iload hx hb d_ZoneNodesModel_perform_141 (lv_at hl 7 rfl) ?_
                refine lv_bipush (v := 32) hx hb d_ZoneNodesModel_perform_143 (by decide) ?_
                refine lv_iload_n hx hb d_ZoneNodesModel_perform_145 rfl (lv_at hl 3 rfl) ?_
                refine lv_imul hx hb d_ZoneNodesModel_perform_146 ?_
                refine lv_isub hx hb d_ZoneNodesModel_perform_147 ?_
                refine lv_bipush (v := 8) hx hb d_ZoneNodesModel_perform_148 (by decide) ?_
                refine lv_idiv hx hb d_ZoneNodesModel_perform_150 (by decide) ?_
                refine lv_iload hx hb d_ZoneNodesModel_perform_151 (lv_at hl 4 rfl) ?_
                refine lv_iconst (v := 1) hx hb d_ZoneNodesModel_perform_153 (by decide) ?_
                refine lv_isub hx hb d_ZoneNodesModel_perform_154 ?_
                refine lv_icmp_ne (tgt := 162) hx hb d_ZoneNodesModel_perform_155 rfl (fun h73 => ?_) (fun h73 => ?_)
                · replace hm := zi_f h73 hm
                  refine lv_iconst (v := 0) hx hb d_ZoneNodesModel_perform_162 (by decide) ?_
                  refine lv_istore (lv' := [(9, .int 0), (8, .int 0), (0, .ref w0), (2, .int w2), (3, .int w3), (4, .int w4), (5, .int w5), (6, .int w6), (7, .int w7)]) hx hb d_ZoneNodesModel_perform_163 hl (by decide) rfl (fun ls hl => ?_)
                  refine lv_aload_n hx hb d_ZoneNodesModel_perform_165 rfl (lv_at hl 2 rfl) ?_
                  replace hm := zb1_s hm
                  obtain ⟨a75, h74, hm⟩ := hm
                  refine zr_get (ci := 9) (C := R_ZoneNodesModel) (T := F_ZoneNodesModel) (N := 32) hx hb hts in_ZoneNodesModel hown hk hX rfl 23 (by decide) (hts _ tW456) rfl (zgr_v h74) d_ZoneNodesModel_perform_166 ?_
                  refine lv_iload hx hb d_ZoneNodesModel_perform_169 (lv_at hl 8 rfl) ?_
                  refine lv_aload_n hx hb d_ZoneNodesModel_perform_171 rfl (lv_at hl 2 rfl) ?_
                  replace hm := zb1_s hm
                  obtain ⟨a77, h76, hm⟩ := hm
                  refine zr_get (ci := 9) (C := R_ZoneNodesModel) (T := F_ZoneNodesModel) (N := 32) hx hb hts in_ZoneNodesModel hown hk hX rfl 23 (by decide) (hts _ tW456) rfl (zgr_v h76) d_ZoneNodesModel_perform_172 ?_
                  refine lv_iload hx hb d_ZoneNodesModel_perform_175 (lv_at hl 8 rfl) ?_
                  replace hm := zb1_s hm
                  obtain ⟨v78, h79, hm⟩ := hm
                  refine zr_baload hx hb hk hX h79 d_ZoneNodesModel_perform_177 ?_
                  refine lv_if_eq (tgt := 190) hx hb d_ZoneNodesModel_perform_178 rfl (fun h80 => ?_) (fun h80 => ?_)
                  · replace hm := zi_t h80 hm
                    refine lv_iconst (v := 0) hx hb d_ZoneNodesModel_perform_190 (by decide) ?_
                    replace hm := zb1_s hm
                    obtain ⟨X81, h82, hm⟩ := hm
                    refine zr_bastore hx hb hk hX hS h82 d_ZoneNodesModel_perform_191 (fun H locs hX hS => ?_)
                    refine lv_iinc (v := w7 + 1) (lv' := [(7, .int (w7 + 1)), (9, .int 0), (8, .int 0), (0, .ref w0), (2, .int w2), (3, .int w3), (4, .int w4), (5, .int w5), (6, .int w6)]) hx hb d_ZoneNodesModel_perform_192 hl (k := 8) rfl (by rw [show Int32.ofInt 1 = 1 by decide]) (by decide) rfl (fun ls hl => ?_)
                    refine lv_goto (tgt := 85) hx hb d_ZoneNodesModel_perform_195 rfl ?_
                    exact ih X81 w0 w2 w3 w4 w5 w6 (w7 + 1) v X1 _ _ _ hm hX hS (lv_sub hl [3, 4, 5, 6, 7, 8, 0] rfl) hexit
                  · replace hm := zi_f h80 hm
                    refine lv_iload hx hb d_ZoneNodesModel_perform_181 (lv_at hl 0 rfl) ?_
                    refine lv_if_ne (tgt := 190) hx hb d_ZoneNodesModel_perform_183 rfl (fun h => absurd h (by decide)) (fun _ => ?_)
                    refine lv_iconst (v := 1) hx hb d_ZoneNodesModel_perform_186 (by decide) ?_
                    refine lv_goto (tgt := 191) hx hb d_ZoneNodesModel_perform_187 rfl ?_
                    replace hm := zb1_s hm
                    obtain ⟨X83, h84, hm⟩ := hm
                    refine zr_bastore hx hb hk hX hS h84 d_ZoneNodesModel_perform_191 (fun H locs hX hS => ?_)
                    refine lv_iinc (v := w7 + 1) (lv' := [(7, .int (w7 + 1)), (9, .int 0), (8, .int 0), (0, .ref w0), (2, .int w2), (3, .int w3), (4, .int w4), (5, .int w5), (6, .int w6)]) hx hb d_ZoneNodesModel_perform_192 hl (k := 8) rfl (by rw [show Int32.ofInt 1 = 1 by decide]) (by decide) rfl (fun ls hl => ?_)
                    refine lv_goto (tgt := 85) hx hb d_ZoneNodesModel_perform_195 rfl ?_
                    exact ih X83 w0 w2 w3 w4 w5 w6 (w7 + 1) v X1 _ _ _ hm hX hS (lv_sub hl [3, 4, 5, 6, 7, 8, 0] rfl) hexit
                · replace hm := zi_t h73 hm
                  refine lv_iconst (v := 1) hx hb d_ZoneNodesModel_perform_158 (by decide) ?_
                  refine lv_goto (tgt := 163) hx hb d_ZoneNodesModel_perform_159 rfl ?_
                  refine lv_istore (lv' := [(9, .int 1), (8, .int 0), (0, .ref w0), (2, .int w2), (3, .int w3), (4, .int w4), (5, .int w5), (6, .int w6), (7, .int w7)]) hx hb d_ZoneNodesModel_perform_163 hl (by decide) rfl (fun ls hl => ?_)
                  refine lv_aload_n hx hb d_ZoneNodesModel_perform_165 rfl (lv_at hl 2 rfl) ?_
                  replace hm := zb1_s hm
                  obtain ⟨a86, h85, hm⟩ := hm
                  refine zr_get (ci := 9) (C := R_ZoneNodesModel) (T := F_ZoneNodesModel) (N := 32) hx hb hts in_ZoneNodesModel hown hk hX rfl 23 (by decide) (hts _ tW456) rfl (zgr_v h85) d_ZoneNodesModel_perform_166 ?_
                  refine lv_iload hx hb d_ZoneNodesModel_perform_169 (lv_at hl 8 rfl) ?_
                  refine lv_aload_n hx hb d_ZoneNodesModel_perform_171 rfl (lv_at hl 2 rfl) ?_
                  replace hm := zb1_s hm
                  obtain ⟨a88, h87, hm⟩ := hm
                  refine zr_get (ci := 9) (C := R_ZoneNodesModel) (T := F_ZoneNodesModel) (N := 32) hx hb hts in_ZoneNodesModel hown hk hX rfl 23 (by decide) (hts _ tW456) rfl (zgr_v h87) d_ZoneNodesModel_perform_172 ?_
                  refine lv_iload hx hb d_ZoneNodesModel_perform_175 (lv_at hl 8 rfl) ?_
                  replace hm := zb1_s hm
                  obtain ⟨v89, h90, hm⟩ := hm
                  refine zr_baload hx hb hk hX h90 d_ZoneNodesModel_perform_177 ?_
                  refine lv_if_eq (tgt := 190) hx hb d_ZoneNodesModel_perform_178 rfl (fun h91 => ?_) (fun h91 => ?_)
                  · replace hm := zi_t h91 hm
                    refine lv_iconst (v := 0) hx hb d_ZoneNodesModel_perform_190 (by decide) ?_
                    replace hm := zb1_s hm
                    obtain ⟨X92, h93, hm⟩ := hm
                    refine zr_bastore hx hb hk hX hS h93 d_ZoneNodesModel_perform_191 (fun H locs hX hS => ?_)
                    refine lv_iinc (v := w7 + 1) (lv' := [(7, .int (w7 + 1)), (9, .int 1), (8, .int 0), (0, .ref w0), (2, .int w2), (3, .int w3), (4, .int w4), (5, .int w5), (6, .int w6)]) hx hb d_ZoneNodesModel_perform_192 hl (k := 8) rfl (by rw [show Int32.ofInt 1 = 1 by decide]) (by decide) rfl (fun ls hl => ?_)
                    refine lv_goto (tgt := 85) hx hb d_ZoneNodesModel_perform_195 rfl ?_
                    exact ih X92 w0 w2 w3 w4 w5 w6 (w7 + 1) v X1 _ _ _ hm hX hS (lv_sub hl [3, 4, 5, 6, 7, 8, 0] rfl) hexit
                  · replace hm := zi_f h91 hm
                    refine lv_iload hx hb d_ZoneNodesModel_perform_181 (lv_at hl 0 rfl) ?_
                    refine lv_if_ne (tgt := 190) hx hb d_ZoneNodesModel_perform_183 rfl (fun _ => ?_) (fun h => absurd h (by decide))
                    refine lv_iconst (v := 0) hx hb d_ZoneNodesModel_perform_190 (by decide) ?_
                    replace hm := zb1_s hm
                    obtain ⟨X94, h95, hm⟩ := hm
                    refine zr_bastore hx hb hk hX hS h95 d_ZoneNodesModel_perform_191 (fun H locs hX hS => ?_)
                    refine lv_iinc (v := w7 + 1) (lv' := [(7, .int (w7 + 1)), (9, .int 1), (8, .int 0), (0, .ref w0), (2, .int w2), (3, .int w3), (4, .int w4), (5, .int w5), (6, .int w6)]) hx hb d_ZoneNodesModel_perform_192 hl (k := 8) rfl (by rw [show Int32.ofInt 1 = 1 by decide]) (by decide) rfl (fun ls hl => ?_)
                    refine lv_goto (tgt := 85) hx hb d_ZoneNodesModel_perform_195 rfl ?_
                    exact ih X94 w0 w2 w3 w4 w5 w6 (w7 + 1) v X1 _ _ _ hm hX hS (lv_sub hl [3, 4, 5, 6, 7, 8, 0] rfl) hexit
            · replace hm := zi_f h60 hm
              refine lv_iconst (v := 1) hx hb d_ZoneNodesModel_perform_124 (by decide) ?_
              refine lv_goto (tgt := 129) hx hb d_ZoneNodesModel_perform_125 rfl ?_
              refine lv_istore (lv' := [(8, .int 1), (0, .ref w0), (2, .int w2), (3, .int w3), (4, .int w4), (5, .int w5), (6, .int w6), (7, .int w7)]) hx hb d_ZoneNodesModel_perform_129 hl (by decide) rfl (fun ls hl => ?_)
              refine lv_iload hx hb d_ZoneNodesModel_perform_131 (lv_at hl 0 rfl) ?_
              refine lv_if_ne (tgt := 162) hx hb d_ZoneNodesModel_perform_133 rfl (fun _ => ?_) (fun h => absurd h (by decide))
              refine lv_iconst (v := 0) hx hb d_ZoneNodesModel_perform_162 (by decide) ?_
              refine lv_istore (lv' := [(9, .int 0), (8, .int 1), (0, .ref w0), (2, .int w2), (3, .int w3), (4, .int w4), (5, .int w5), (6, .int w6), (7, .int w7)]) hx hb d_ZoneNodesModel_perform_163 hl (by decide) rfl (fun ls hl => ?_)
              refine lv_aload_n hx hb d_ZoneNodesModel_perform_165 rfl (lv_at hl 2 rfl) ?_
              replace hm := zb1_s hm
              obtain ⟨a97, h96, hm⟩ := hm
              refine zr_get (ci := 9) (C := R_ZoneNodesModel) (T := F_ZoneNodesModel) (N := 32) hx hb hts in_ZoneNodesModel hown hk hX rfl 23 (by decide) (hts _ tW456) rfl (zgr_v h96) d_ZoneNodesModel_perform_166 ?_
              refine lv_iload hx hb d_ZoneNodesModel_perform_169 (lv_at hl 8 rfl) ?_
              refine lv_aload_n hx hb d_ZoneNodesModel_perform_171 rfl (lv_at hl 2 rfl) ?_
              replace hm := zb1_s hm
              obtain ⟨a99, h98, hm⟩ := hm
              refine zr_get (ci := 9) (C := R_ZoneNodesModel) (T := F_ZoneNodesModel) (N := 32) hx hb hts in_ZoneNodesModel hown hk hX rfl 23 (by decide) (hts _ tW456) rfl (zgr_v h98) d_ZoneNodesModel_perform_172 ?_
              refine lv_iload hx hb d_ZoneNodesModel_perform_175 (lv_at hl 8 rfl) ?_
              replace hm := zb1_s hm
              obtain ⟨v100, h101, hm⟩ := hm
              refine zr_baload hx hb hk hX h101 d_ZoneNodesModel_perform_177 ?_
              refine lv_if_eq (tgt := 190) hx hb d_ZoneNodesModel_perform_178 rfl (fun h102 => ?_) (fun h102 => ?_)
              · replace hm := zi_t h102 hm
                refine lv_iconst (v := 0) hx hb d_ZoneNodesModel_perform_190 (by decide) ?_
                replace hm := zb1_s hm
                obtain ⟨X103, h104, hm⟩ := hm
                refine zr_bastore hx hb hk hX hS h104 d_ZoneNodesModel_perform_191 (fun H locs hX hS => ?_)
                refine lv_iinc (v := w7 + 1) (lv' := [(7, .int (w7 + 1)), (9, .int 0), (8, .int 1), (0, .ref w0), (2, .int w2), (3, .int w3), (4, .int w4), (5, .int w5), (6, .int w6)]) hx hb d_ZoneNodesModel_perform_192 hl (k := 8) rfl (by rw [show Int32.ofInt 1 = 1 by decide]) (by decide) rfl (fun ls hl => ?_)
                refine lv_goto (tgt := 85) hx hb d_ZoneNodesModel_perform_195 rfl ?_
                exact ih X103 w0 w2 w3 w4 w5 w6 (w7 + 1) v X1 _ _ _ hm hX hS (lv_sub hl [3, 4, 5, 6, 7, 8, 0] rfl) hexit
              · replace hm := zi_f h102 hm
                refine lv_iload hx hb d_ZoneNodesModel_perform_181 (lv_at hl 0 rfl) ?_
                refine lv_if_ne (tgt := 190) hx hb d_ZoneNodesModel_perform_183 rfl (fun h => absurd h (by decide)) (fun _ => ?_)
                refine lv_iconst (v := 1) hx hb d_ZoneNodesModel_perform_186 (by decide) ?_
                refine lv_goto (tgt := 191) hx hb d_ZoneNodesModel_perform_187 rfl ?_
                replace hm := zb1_s hm
                obtain ⟨X105, h106, hm⟩ := hm
                refine zr_bastore hx hb hk hX hS h106 d_ZoneNodesModel_perform_191 (fun H locs hX hS => ?_)
                refine lv_iinc (v := w7 + 1) (lv' := [(7, .int (w7 + 1)), (9, .int 0), (8, .int 1), (0, .ref w0), (2, .int w2), (3, .int w3), (4, .int w4), (5, .int w5), (6, .int w6)]) hx hb d_ZoneNodesModel_perform_192 hl (k := 8) rfl (by rw [show Int32.ofInt 1 = 1 by decide]) (by decide) rfl (fun ls hl => ?_)
                refine lv_goto (tgt := 85) hx hb d_ZoneNodesModel_perform_195 rfl ?_
                exact ih X105 w0 w2 w3 w4 w5 w6 (w7 + 1) v X1 _ _ _ hm hX hS (lv_sub hl [3, 4, 5, 6, 7, 8, 0] rfl) hexit
        · replace hm := zi_f h23 hm
          refine lv_iload_n hx hb d_ZoneNodesModel_perform_102 rfl (lv_at hl 1 rfl) ?_
          refine lv_iconst (v := 2) hx hb d_ZoneNodesModel_perform_103 (by decide) ?_
          refine lv_icmp_ne (tgt := 198) hx hb d_ZoneNodesModel_perform_104 rfl (fun h107 => ?_) (fun h107 => ?_)
          · replace hm := zi_f h107 hm
            cases hm
            exact hexit _ _ _ hX hS (lv_sub hl [0, 1, 4, 5] rfl)
          · replace hm := zi_t h107 hm
            refine lv_iload hx hb d_ZoneNodesModel_perform_107 (lv_at hl 6 rfl) ?_
            refine lv_iload hx hb d_ZoneNodesModel_perform_109 (lv_at hl 5 rfl) ?_
            refine lv_icmp_lt (tgt := 128) hx hb d_ZoneNodesModel_perform_111 rfl (fun h108 => ?_) (fun h108 => ?_)
            · replace hm := zi_t h108 hm
              refine lv_iconst (v := 0) hx hb d_ZoneNodesModel_perform_128 (by decide) ?_
              refine lv_istore (lv' := [(8, .int 0), (0, .ref w0), (2, .int w2), (3, .int w3), (4, .int w4), (5, .int w5), (6, .int w6), (7, .int w7)]) hx hb d_ZoneNodesModel_perform_129 hl (by decide) rfl (fun ls hl => ?_)
              refine lv_iload hx hb d_ZoneNodesModel_perform_131 (lv_at hl 0 rfl) ?_
              refine lv_if_ne (tgt := 162) hx hb d_ZoneNodesModel_perform_133 rfl (fun h => absurd h (by decide)) (fun _ => ?_)
              refine lv_iload_n hx hb d_ZoneNodesModel_perform_136 rfl (lv_at hl 2 rfl) ?_
              refine lv_iconst (v := 2) hx hb d_ZoneNodesModel_perform_137 (by decide) ?_
              refine lv_icmp_eq (tgt := 158) hx hb d_ZoneNodesModel_perform_138 rfl (fun h109 => ?_) (fun h109 => ?_)
              · replace hm := zi_t h109 hm
                refine lv_iconst (v := 1) hx hb d_ZoneNodesModel_perform_158 (by decide) ?_
                refine lv_goto (tgt := 163) hx hb d_ZoneNodesModel_perform_159 rfl ?_
                refine lv_istore (lv' := [(9, .int 1), (8, .int 0), (0, .ref w0), (2, .int w2), (3, .int w3), (4, .int w4), (5, .int w5), (6, .int w6), (7, .int w7)]) hx hb d_ZoneNodesModel_perform_163 hl (by decide) rfl (fun ls hl => ?_)
                refine lv_aload_n hx hb d_ZoneNodesModel_perform_165 rfl (lv_at hl 2 rfl) ?_
                replace hm := zb1_s hm
                obtain ⟨a111, h110, hm⟩ := hm
                refine zr_get (ci := 9) (C := R_ZoneNodesModel) (T := F_ZoneNodesModel) (N := 32) hx hb hts in_ZoneNodesModel hown hk hX rfl 23 (by decide) (hts _ tW456) rfl (zgr_v h110) d_ZoneNodesModel_perform_166 ?_
                refine lv_iload hx hb d_ZoneNodesModel_perform_169 (lv_at hl 8 rfl) ?_
                refine lv_aload_n hx hb d_ZoneNodesModel_perform_171 rfl (lv_at hl 2 rfl) ?_
                replace hm := zb1_s hm
                obtain ⟨a113, h112, hm⟩ := hm
                refine zr_get (ci := 9) (C := R_ZoneNodesModel) (T := F_ZoneNodesModel) (N := 32) hx hb hts in_ZoneNodesModel hown hk hX rfl 23 (by decide) (hts _ tW456) rfl (zgr_v h112) d_ZoneNodesModel_perform_172 ?_
                refine lv_iload hx hb d_ZoneNodesModel_perform_175 (lv_at hl 8 rfl) ?_
                replace hm := zb1_s hm
                obtain ⟨v114, h115, hm⟩ := hm
                refine zr_baload hx hb hk hX h115 d_ZoneNodesModel_perform_177 ?_
                refine lv_if_eq (tgt := 190) hx hb d_ZoneNodesModel_perform_178 rfl (fun h116 => ?_) (fun h116 => ?_)
                · replace hm := zi_t h116 hm
                  refine lv_iconst (v := 0) hx hb d_ZoneNodesModel_perform_190 (by decide) ?_
                  replace hm := zb1_s hm
                  obtain ⟨X117, h118, hm⟩ := hm
                  refine zr_bastore hx hb hk hX hS h118 d_ZoneNodesModel_perform_191 (fun H locs hX hS => ?_)
                  refine lv_iinc (v := w7 + 1) (lv' := [(7, .int (w7 + 1)), (9, .int 1), (8, .int 0), (0, .ref w0), (2, .int w2), (3, .int w3), (4, .int w4), (5, .int w5), (6, .int w6)]) hx hb d_ZoneNodesModel_perform_192 hl (k := 8) rfl (by rw [show Int32.ofInt 1 = 1 by decide]) (by decide) rfl (fun ls hl => ?_)
                  refine lv_goto (tgt := 85) hx hb d_ZoneNodesModel_perform_195 rfl ?_
                  exact ih X117 w0 w2 w3 w4 w5 w6 (w7 + 1) v X1 _ _ _ hm hX hS (lv_sub hl [3, 4, 5, 6, 7, 8, 0] rfl) hexit
                · replace hm := zi_f h116 hm
                  refine lv_iload hx hb d_ZoneNodesModel_perform_181 (lv_at hl 0 rfl) ?_
                  refine lv_if_ne (tgt := 190) hx hb d_ZoneNodesModel_perform_183 rfl (fun _ => ?_) (fun h => absurd h (by decide))
                  refine lv_iconst (v := 0) hx hb d_ZoneNodesModel_perform_190 (by decide) ?_
                  replace hm := zb1_s hm
                  obtain ⟨X119, h120, hm⟩ := hm
                  refine zr_bastore hx hb hk hX hS h120 d_ZoneNodesModel_perform_191 (fun H locs hX hS => ?_)
                  refine lv_iinc (v := w7 + 1) (lv' := [(7, .int (w7 + 1)), (9, .int 1), (8, .int 0), (0, .ref w0), (2, .int w2), (3, .int w3), (4, .int w4), (5, .int w5), (6, .int w6)]) hx hb d_ZoneNodesModel_perform_192 hl (k := 8) rfl (by rw [show Int32.ofInt 1 = 1 by decide]) (by decide) rfl (fun ls hl => ?_)
                  refine lv_goto (tgt := 85) hx hb d_ZoneNodesModel_perform_195 rfl ?_
                  exact ih X119 w0 w2 w3 w4 w5 w6 (w7 + 1) v X1 _ _ _ hm hX hS (lv_sub hl [3, 4, 5, 6, 7, 8, 0] rfl) hexit
              · replace hm := zi_f h109 hm
                refine lv_iload hx hb d_ZoneNodesModel_perform_141 (lv_at hl 7 rfl) ?_
                refine lv_bipush (v := 32) hx hb d_ZoneNodesModel_perform_143 (by decide) ?_
                refine lv_iload_n hx hb d_ZoneNodesModel_perform_145 rfl (lv_at hl 3 rfl) ?_
                refine lv_imul hx hb d_ZoneNodesModel_perform_146 ?_
                refine lv_isub hx hb d_ZoneNodesModel_perform_147 ?_
                refine lv_bipush (v := 8) hx hb d_ZoneNodesModel_perform_148 (by decide) ?_
                refine lv_idiv hx hb d_ZoneNodesModel_perform_150 (by decide) ?_
                refine lv_iload hx hb d_ZoneNodesModel_perform_151 (lv_at hl 4 rfl) ?_
                refine lv_iconst (v := 1) hx hb d_ZoneNodesModel_perform_153 (by decide) ?_
                refine lv_isub hx hb d_ZoneNodesModel_perform_154 ?_
                refine lv_icmp_ne (tgt := 162) hx hb d_ZoneNodesModel_perform_155 rfl (fun h121 => ?_) (fun h121 => ?_)
                · replace hm := zi_f h121 hm
                  refine lv_iconst (v := 0) hx hb d_ZoneNodesModel_perform_162 (by decide) ?_
                  refine lv_istore (lv' := [(9, .int 0), (8, .int 0), (0, .ref w0), (2, .int w2), (3, .int w3), (4, .int w4), (5, .int w5), (6, .int w6), (7, .int w7)]) hx hb d_ZoneNodesModel_perform_163 hl (by decide) rfl (fun ls hl => ?_)
                  refine lv_aload_n hx hb d_ZoneNodesModel_perform_165 rfl (lv_at hl 2 rfl) ?_
                  replace hm := zb1_s hm
                  obtain ⟨a123, h122, hm⟩ := hm
                  refine zr_get (ci := 9) (C := R_ZoneNodesModel) (T := F_ZoneNodesModel) (N := 32) hx hb hts in_ZoneNodesModel hown hk hX rfl 23 (by decide) (hts _ tW456) rfl (zgr_v h122) d_ZoneNodesModel_perform_166 ?_
                  refine lv_iload hx hb d_ZoneNodesModel_perform_169 (lv_at hl 8 rfl) ?_
                  refine lv_aload_n hx hb d_ZoneNodesModel_perform_171 rfl (lv_at hl 2 rfl) ?_
                  replace hm := zb1_s hm
                  obtain ⟨a125, h124, hm⟩ := hm
                  refine zr_get (ci := 9) (C := R_ZoneNodesModel) (T := F_ZoneNodesModel) (N := 32) hx hb hts in_ZoneNodesModel hown hk hX rfl 23 (by decide) (hts _ tW456) rfl (zgr_v h124) d_ZoneNodesModel_perform_172 ?_
                  refine lv_iload hx hb d_ZoneNodesModel_perform_175 (lv_at hl 8 rfl) ?_
                  replace hm := zb1_s hm
                  obtain ⟨v126, h127, hm⟩ := hm
                  refine zr_baload hx hb hk hX h127 d_ZoneNodesModel_perform_177 ?_
                  refine lv_if_eq (tgt := 190) hx hb d_ZoneNodesModel_perform_178 rfl (fun h128 => ?_) (fun h128 => ?_)
                  · replace hm := zi_t h128 hm
                    refine lv_iconst (v := 0) hx hb d_ZoneNodesModel_perform_190 (by decide) ?_
                    replace hm := zb1_s hm
                    obtain ⟨X129, h130, hm⟩ := hm
                    refine zr_bastore hx hb hk hX hS h130 d_ZoneNodesModel_perform_191 (fun H locs hX hS => ?_)
                    refine lv_iinc (v := w7 + 1) (lv' := [(7, .int (w7 + 1)), (9, .int 0), (8, .int 0), (0, .ref w0), (2, .int w2), (3, .int w3), (4, .int w4), (5, .int w5), (6, .int w6)]) hx hb d_ZoneNodesModel_perform_192 hl (k := 8) rfl (by rw [show Int32.ofInt 1 = 1 by decide]) (by decide) rfl (fun ls hl => ?_)
                    refine lv_goto (tgt := 85) hx hb d_ZoneNodesModel_perform_195 rfl ?_
                    exact ih X129 w0 w2 w3 w4 w5 w6 (w7 + 1) v X1 _ _ _ hm hX hS (lv_sub hl [3, 4, 5, 6, 7, 8, 0] rfl) hexit
                  · replace hm := zi_f h128 hm
                    refine lv_iload hx hb d_ZoneNodesModel_perform_181 (lv_at hl 0 rfl) ?_
                    refine lv_if_ne (tgt := 190) hx hb d_ZoneNodesModel_perform_183 rfl (fun h => absurd h (by decide)) (fun _ => ?_)
                    refine lv_iconst (v := 1) hx hb d_ZoneNodesModel_perform_186 (by decide) ?_
                    refine lv_goto (tgt := 191) hx hb d_ZoneNodesModel_perform_187 rfl ?_
                    replace hm := zb1_s hm
                    obtain ⟨X131, h132, hm⟩ := hm
                    refine zr_bastore hx hb hk hX hS h132 d_ZoneNodesModel_perform_191 (fun H locs hX hS => ?_)
                    refine lv_iinc (v := w7 + 1) (lv' := [(7, .int (w7 + 1)), (9, .int 0), (8, .int 0), (0, .ref w0), (2, .int w2), (3, .int w3), (4, .int w4), (5, .int w5), (6, .int w6)]) hx hb d_ZoneNodesModel_perform_192 hl (k := 8) rfl (by rw [show Int32.ofInt 1 = 1 by decide]) (by decide) rfl (fun ls hl => ?_)
                    refine lv_goto (tgt := 85) hx hb d_ZoneNodesModel_perform_195 rfl ?_
                    exact ih X131 w0 w2 w3 w4 w5 w6 (w7 + 1) v X1 _ _ _ hm hX hS (lv_sub hl [3, 4, 5, 6, 7, 8, 0] rfl) hexit
                · replace hm := zi_t h121 hm
                  refine lv_iconst (v := 1) hx hb d_ZoneNodesModel_perform_158 (by decide) ?_
                  refine lv_goto (tgt := 163) hx hb d_ZoneNodesModel_perform_159 rfl ?_
                  refine lv_istore (lv' := [(9, .int 1), (8, .int 0), (0, .ref w0), (2, .int w2), (3, .int w3), (4, .int w4), (5, .int w5), (6, .int w6), (7, .int w7)]) hx hb d_ZoneNodesModel_perform_163 hl (by decide) rfl (fun ls hl => ?_)
                  refine lv_aload_n hx hb d_ZoneNodesModel_perform_165 rfl (lv_at hl 2 rfl) ?_
                  replace hm := zb1_s hm
                  obtain ⟨a134, h133, hm⟩ := hm
                  refine zr_get (ci := 9) (C := R_ZoneNodesModel) (T := F_ZoneNodesModel) (N := 32) hx hb hts in_ZoneNodesModel hown hk hX rfl 23 (by decide) (hts _ tW456) rfl (zgr_v h133) d_ZoneNodesModel_perform_166 ?_
                  refine lv_iload hx hb d_ZoneNodesModel_perform_169 (lv_at hl 8 rfl) ?_
                  refine lv_aload_n hx hb d_ZoneNodesModel_perform_171 rfl (lv_at hl 2 rfl) ?_
                  replace hm := zb1_s hm
                  obtain ⟨a136, h135, hm⟩ := hm
                  refine zr_get (ci := 9) (C := R_ZoneNodesModel) (T := F_ZoneNodesModel) (N := 32) hx hb hts in_ZoneNodesModel hown hk hX rfl 23 (by decide) (hts _ tW456) rfl (zgr_v h135) d_ZoneNodesModel_perform_172 ?_
                  refine lv_iload hx hb d_ZoneNodesModel_perform_175 (lv_at hl 8 rfl) ?_
                  replace hm := zb1_s hm
                  obtain ⟨v137, h138, hm⟩ := hm
                  refine zr_baload hx hb hk hX h138 d_ZoneNodesModel_perform_177 ?_
                  refine lv_if_eq (tgt := 190) hx hb d_ZoneNodesModel_perform_178 rfl (fun h139 => ?_) (fun h139 => ?_)
                  · replace hm := zi_t h139 hm
                    refine lv_iconst (v := 0) hx hb d_ZoneNodesModel_perform_190 (by decide) ?_
                    replace hm := zb1_s hm
                    obtain ⟨X140, h141, hm⟩ := hm
                    refine zr_bastore hx hb hk hX hS h141 d_ZoneNodesModel_perform_191 (fun H locs hX hS => ?_)
                    refine lv_iinc (v := w7 + 1) (lv' := [(7, .int (w7 + 1)), (9, .int 1), (8, .int 0), (0, .ref w0), (2, .int w2), (3, .int w3), (4, .int w4), (5, .int w5), (6, .int w6)]) hx hb d_ZoneNodesModel_perform_192 hl (k := 8) rfl (by rw [show Int32.ofInt 1 = 1 by decide]) (by decide) rfl (fun ls hl => ?_)
                    refine lv_goto (tgt := 85) hx hb d_ZoneNodesModel_perform_195 rfl ?_
                    exact ih X140 w0 w2 w3 w4 w5 w6 (w7 + 1) v X1 _ _ _ hm hX hS (lv_sub hl [3, 4, 5, 6, 7, 8, 0] rfl) hexit
                  · replace hm := zi_f h139 hm
                    refine lv_iload hx hb d_ZoneNodesModel_perform_181 (lv_at hl 0 rfl) ?_
                    refine lv_if_ne (tgt := 190) hx hb d_ZoneNodesModel_perform_183 rfl (fun _ => ?_) (fun h => absurd h (by decide))
                    refine lv_iconst (v := 0) hx hb d_ZoneNodesModel_perform_190 (by decide) ?_
                    replace hm := zb1_s hm
                    obtain ⟨X142, h143, hm⟩ := hm
                    refine zr_bastore hx hb hk hX hS h143 d_ZoneNodesModel_perform_191 (fun H locs hX hS => ?_)
                    refine lv_iinc (v := w7 + 1) (lv' := [(7, .int (w7 + 1)), (9, .int 1), (8, .int 0), (0, .ref w0), (2, .int w2), (3, .int w3), (4, .int w4), (5, .int w5), (6, .int w6)]) hx hb d_ZoneNodesModel_perform_192 hl (k := 8) rfl (by rw [show Int32.ofInt 1 = 1 by decide]) (by decide) rfl (fun ls hl => ?_)
                    refine lv_goto (tgt := 85) hx hb d_ZoneNodesModel_perform_195 rfl ?_
                    exact ih X142 w0 w2 w3 w4 w5 w6 (w7 + 1) v X1 _ _ _ hm hX hS (lv_sub hl [3, 4, 5, 6, 7, 8, 0] rfl) hexit
            · replace hm := zi_f h108 hm
              refine lv_iload hx hb d_ZoneNodesModel_perform_114 (lv_at hl 6 rfl) ?_
              refine lv_iload hx hb d_ZoneNodesModel_perform_116 (lv_at hl 5 rfl) ?_
              refine lv_bipush (v := 8) hx hb d_ZoneNodesModel_perform_118 (by decide) ?_
              refine lv_iadd hx hb d_ZoneNodesModel_perform_120 ?_
              refine lv_icmp_ge (tgt := 128) hx hb d_ZoneNodesModel_perform_121 rfl (fun h144 => ?_) (fun h144 => ?_)
              · replace hm := zi_t h144 hm
                refine lv_iconst (v := 0) hx hb d_ZoneNodesModel_perform_128 (by decide) ?_
                refine lv_istore (lv' := [(8, .int 0), (0, .ref w0), (2, .int w2), (3, .int w3), (4, .int w4), (5, .int w5), (6, .int w6), (7, .int w7)]) hx hb d_ZoneNodesModel_perform_129 hl (by decide) rfl (fun ls hl => ?_)
                refine lv_iload hx hb d_ZoneNodesModel_perform_131 (lv_at hl 0 rfl) ?_
                refine lv_if_ne (tgt := 162) hx hb d_ZoneNodesModel_perform_133 rfl (fun h => absurd h (by decide)) (fun _ => ?_)
                refine lv_iload_n hx hb d_ZoneNodesModel_perform_136 rfl (lv_at hl 2 rfl) ?_
                refine lv_iconst (v := 2) hx hb d_ZoneNodesModel_perform_137 (by decide) ?_
                refine lv_icmp_eq (tgt := 158) hx hb d_ZoneNodesModel_perform_138 rfl (fun h145 => ?_) (fun h145 => ?_)
                · replace hm := zi_t h145 hm
                  refine lv_iconst (v := 1) hx hb d_ZoneNodesModel_perform_158 (by decide) ?_
                  refine lv_goto (tgt := 163) hx hb d_ZoneNodesModel_perform_159 rfl ?_
                  refine lv_istore (lv' := [(9, .int 1), (8, .int 0), (0, .ref w0), (2, .int w2), (3, .int w3), (4, .int w4), (5, .int w5), (6, .int w6), (7, .int w7)]) hx hb d_ZoneNodesModel_perform_163 hl (by decide) rfl (fun ls hl => ?_)
                  refine lv_aload_n hx hb d_ZoneNodesModel_perform_165 rfl (lv_at hl 2 rfl) ?_
                  replace hm := zb1_s hm
                  obtain ⟨a147, h146, hm⟩ := hm
                  refine zr_get (ci := 9) (C := R_ZoneNodesModel) (T := F_ZoneNodesModel) (N := 32) hx hb hts in_ZoneNodesModel hown hk hX rfl 23 (by decide) (hts _ tW456) rfl (zgr_v h146) d_ZoneNodesModel_perform_166 ?_
                  refine lv_iload hx hb d_ZoneNodesModel_perform_169 (lv_at hl 8 rfl) ?_
                  refine lv_aload_n hx hb d_ZoneNodesModel_perform_171 rfl (lv_at hl 2 rfl) ?_
                  replace hm := zb1_s hm
                  obtain ⟨a149, h148, hm⟩ := hm
                  refine zr_get (ci := 9) (C := R_ZoneNodesModel) (T := F_ZoneNodesModel) (N := 32) hx hb hts in_ZoneNodesModel hown hk hX rfl 23 (by decide) (hts _ tW456) rfl (zgr_v h148) d_ZoneNodesModel_perform_172 ?_
                  refine lv_iload hx hb d_ZoneNodesModel_perform_175 (lv_at hl 8 rfl) ?_
                  replace hm := zb1_s hm
                  obtain ⟨v150, h151, hm⟩ := hm
                  refine zr_baload hx hb hk hX h151 d_ZoneNodesModel_perform_177 ?_
                  refine lv_if_eq (tgt := 190) hx hb d_ZoneNodesModel_perform_178 rfl (fun h152 => ?_) (fun h152 => ?_)
                  · replace hm := zi_t h152 hm
                    refine lv_iconst (v := 0) hx hb d_ZoneNodesModel_perform_190 (by decide) ?_
                    replace hm := zb1_s hm
                    obtain ⟨X153, h154, hm⟩ := hm
                    refine zr_bastore hx hb hk hX hS h154 d_ZoneNodesModel_perform_191 (fun H locs hX hS => ?_)
                    refine lv_iinc (v := w7 + 1) (lv' := [(7, .int (w7 + 1)), (9, .int 1), (8, .int 0), (0, .ref w0), (2, .int w2), (3, .int w3), (4, .int w4), (5, .int w5), (6, .int w6)]) hx hb d_ZoneNodesModel_perform_192 hl (k := 8) rfl (by rw [show Int32.ofInt 1 = 1 by decide]) (by decide) rfl (fun ls hl => ?_)
                    refine lv_goto (tgt := 85) hx hb d_ZoneNodesModel_perform_195 rfl ?_
                    exact ih X153 w0 w2 w3 w4 w5 w6 (w7 + 1) v X1 _ _ _ hm hX hS (lv_sub hl [3, 4, 5, 6, 7, 8, 0] rfl) hexit
                  · replace hm := zi_f h152 hm
                    refine lv_iload hx hb d_ZoneNodesModel_perform_181 (lv_at hl 0 rfl) ?_
                    refine lv_if_ne (tgt := 190) hx hb d_ZoneNodesModel_perform_183 rfl (fun _ => ?_) (fun h => absurd h (by decide))
                    refine lv_iconst (v := 0) hx hb d_ZoneNodesModel_perform_190 (by decide) ?_
                    replace hm := zb1_s hm
                    obtain ⟨X155, h156, hm⟩ := hm
                    refine zr_bastore hx hb hk hX hS h156 d_ZoneNodesModel_perform_191 (fun H locs hX hS => ?_)
                    refine lv_iinc (v := w7 + 1) (lv' := [(7, .int (w7 + 1)), (9, .int 1), (8, .int 0), (0, .ref w0), (2, .int w2), (3, .int w3), (4, .int w4), (5, .int w5), (6, .int w6)]) hx hb d_ZoneNodesModel_perform_192 hl (k := 8) rfl (by rw [show Int32.ofInt 1 = 1 by decide]) (by decide) rfl (fun ls hl => ?_)
                    refine lv_goto (tgt := 85) hx hb d_ZoneNodesModel_perform_195 rfl ?_
                    exact ih X155 w0 w2 w3 w4 w5 w6 (w7 + 1) v X1 _ _ _ hm hX hS (lv_sub hl [3, 4, 5, 6, 7, 8, 0] rfl) hexit
                · replace hm := zi_f h145 hm
                  refine lv_iload hx hb d_ZoneNodesModel_perform_141 (lv_at hl 7 rfl) ?_
                  refine lv_bipush (v := 32) hx hb d_ZoneNodesModel_perform_143 (by decide) ?_
                  refine lv_iload_n hx hb d_ZoneNodesModel_perform_145 rfl (lv_at hl 3 rfl) ?_
                  refine lv_imul hx hb d_ZoneNodesModel_perform_146 ?_
                  refine lv_isub hx hb d_ZoneNodesModel_perform_147 ?_
                  refine lv_bipush (v := 8) hx hb d_ZoneNodesModel_perform_148 (by decide) ?_
                  refine lv_idiv hx hb d_ZoneNodesModel_perform_150 (by decide) ?_
                  refine lv_iload hx hb d_ZoneNodesModel_perform_151 (lv_at hl 4 rfl) ?_
                  refine lv_iconst (v := 1) hx hb d_ZoneNodesModel_perform_153 (by decide) ?_
                  refine lv_isub hx hb d_ZoneNodesModel_perform_154 ?_
                  refine lv_icmp_ne (tgt := 162) hx hb d_ZoneNodesModel_perform_155 rfl (fun h157 => ?_) (fun h157 => ?_)
                  · replace hm := zi_f h157 hm
                    refine lv_iconst (v := 0) hx hb d_ZoneNodesModel_perform_162 (by decide) ?_
                    refine lv_istore (lv' := [(9, .int 0), (8, .int 0), (0, .ref w0), (2, .int w2), (3, .int w3), (4, .int w4), (5, .int w5), (6, .int w6), (7, .int w7)]) hx hb d_ZoneNodesModel_perform_163 hl (by decide) rfl (fun ls hl => ?_)
                    refine lv_aload_n hx hb d_ZoneNodesModel_perform_165 rfl (lv_at hl 2 rfl) ?_
                    replace hm := zb1_s hm
                    obtain ⟨a159, h158, hm⟩ := hm
                    refine zr_get (ci := 9) (C := R_ZoneNodesModel) (T := F_ZoneNodesModel) (N := 32) hx hb hts in_ZoneNodesModel hown hk hX rfl 23 (by decide) (hts _ tW456) rfl (zgr_v h158) d_ZoneNodesModel_perform_166 ?_
                    refine lv_iload hx hb d_ZoneNodesModel_perform_169 (lv_at hl 8 rfl) ?_
                    refine lv_aload_n hx hb d_ZoneNodesModel_perform_171 rfl (lv_at hl 2 rfl) ?_
                    replace hm := zb1_s hm
                    obtain ⟨a161, h160, hm⟩ := hm
                    refine zr_get (ci := 9) (C := R_ZoneNodesModel) (T := F_ZoneNodesModel) (N := 32) hx hb hts in_ZoneNodesModel hown hk hX rfl 23 (by decide) (hts _ tW456) rfl (zgr_v h160) d_ZoneNodesModel_perform_172 ?_
                    refine lv_iload hx hb d_ZoneNodesModel_perform_175 (lv_at hl 8 rfl) ?_
                    replace hm := zb1_s hm
                    obtain ⟨v162, h163, hm⟩ := hm
                    refine zr_baload hx hb hk hX h163 d_ZoneNodesModel_perform_177 ?_
                    refine lv_if_eq (tgt := 190) hx hb d_ZoneNodesModel_perform_178 rfl (fun h164 => ?_) (fun h164 => ?_)
                    · replace hm := zi_t h164 hm
                      refine lv_iconst (v := 0) hx hb d_ZoneNodesModel_perform_190 (by decide) ?_
                      replace hm := zb1_s hm
                      obtain ⟨X165, h166, hm⟩ := hm
                      refine zr_bastore hx hb hk hX hS h166 d_ZoneNodesModel_perform_191 (fun H locs hX hS => ?_)
                      refine lv_iinc (v := w7 + 1) (lv' := [(7, .int (w7 + 1)), (9, .int 0), (8, .int 0), (0, .ref w0), (2, .int w2), (3, .int w3), (4, .int w4), (5, .int w5), (6, .int w6)]) hx hb d_ZoneNodesModel_perform_192 hl (k := 8) rfl (by rw [show Int32.ofInt 1 = 1 by decide]) (by decide) rfl (fun ls hl => ?_)
                      refine lv_goto (tgt := 85) hx hb d_ZoneNodesModel_perform_195 rfl ?_
                      exact ih X165 w0 w2 w3 w4 w5 w6 (w7 + 1) v X1 _ _ _ hm hX hS (lv_sub hl [3, 4, 5, 6, 7, 8, 0] rfl) hexit
                    · replace hm := zi_f h164 hm
                      refine lv_iload hx hb d_ZoneNodesModel_perform_181 (lv_at hl 0 rfl) ?_
                      refine lv_if_ne (tgt := 190) hx hb d_ZoneNodesModel_perform_183 rfl (fun h => absurd h (by decide)) (fun _ => ?_)
                      refine lv_iconst (v := 1) hx hb d_ZoneNodesModel_perform_186 (by decide) ?_
                      refine lv_goto (tgt := 191) hx hb d_ZoneNodesModel_perform_187 rfl ?_
                      replace hm := zb1_s hm
                      obtain ⟨X167, h168, hm⟩ := hm
                      refine zr_bastore hx hb hk hX hS h168 d_ZoneNodesModel_perform_191 (fun H locs hX hS => ?_)
                      refine lv_iinc (v := w7 + 1) (lv' := [(7, .int (w7 + 1)), (9, .int 0), (8, .int 0), (0, .ref w0), (2, .int w2), (3, .int w3), (4, .int w4), (5, .int w5), (6, .int w6)]) hx hb d_ZoneNodesModel_perform_192 hl (k := 8) rfl (by rw [show Int32.ofInt 1 = 1 by decide]) (by decide) rfl (fun ls hl => ?_)
                      refine lv_goto (tgt := 85) hx hb d_ZoneNodesModel_perform_195 rfl ?_
                      exact ih X167 w0 w2 w3 w4 w5 w6 (w7 + 1) v X1 _ _ _ hm hX hS (lv_sub hl [3, 4, 5, 6, 7, 8, 0] rfl) hexit
                  · replace hm := zi_t h157 hm
                    refine lv_iconst (v := 1) hx hb d_ZoneNodesModel_perform_158 (by decide) ?_
                    refine lv_goto (tgt := 163) hx hb d_ZoneNodesModel_perform_159 rfl ?_
                    refine lv_istore (lv' := [(9, .int 1), (8, .int 0), (0, .ref w0), (2, .int w2), (3, .int w3), (4, .int w4), (5, .int w5), (6, .int w6), (7, .int w7)]) hx hb d_ZoneNodesModel_perform_163 hl (by decide) rfl (fun ls hl => ?_)
                    refine lv_aload_n hx hb d_ZoneNodesModel_perform_165 rfl (lv_at hl 2 rfl) ?_
                    replace hm := zb1_s hm
                    obtain ⟨a170, h169, hm⟩ := hm
                    refine zr_get (ci := 9) (C := R_ZoneNodesModel) (T := F_ZoneNodesModel) (N := 32) hx hb hts in_ZoneNodesModel hown hk hX rfl 23 (by decide) (hts _ tW456) rfl (zgr_v h169) d_ZoneNodesModel_perform_166 ?_
                    refine lv_iload hx hb d_ZoneNodesModel_perform_169 (lv_at hl 8 rfl) ?_
                    refine lv_aload_n hx hb d_ZoneNodesModel_perform_171 rfl (lv_at hl 2 rfl) ?_
                    replace hm := zb1_s hm
                    obtain ⟨a172, h171, hm⟩ := hm
                    refine zr_get (ci := 9) (C := R_ZoneNodesModel) (T := F_ZoneNodesModel) (N := 32) hx hb hts in_ZoneNodesModel hown hk hX rfl 23 (by decide) (hts _ tW456) rfl (zgr_v h171) d_ZoneNodesModel_perform_172 ?_
                    refine lv_iload hx hb d_ZoneNodesModel_perform_175 (lv_at hl 8 rfl) ?_
                    replace hm := zb1_s hm
                    obtain ⟨v173, h174, hm⟩ := hm
                    refine zr_baload hx hb hk hX h174 d_ZoneNodesModel_perform_177 ?_
                    refine lv_if_eq (tgt := 190) hx hb d_ZoneNodesModel_perform_178 rfl (fun h175 => ?_) (fun h175 => ?_)
                    · replace hm := zi_t h175 hm
                      refine lv_iconst (v := 0) hx hb d_ZoneNodesModel_perform_190 (by decide) ?_
                      replace hm := zb1_s hm
                      obtain ⟨X176, h177, hm⟩ := hm
                      refine zr_bastore hx hb hk hX hS h177 d_ZoneNodesModel_perform_191 (fun H locs hX hS => ?_)
                      refine lv_iinc (v := w7 + 1) (lv' := [(7, .int (w7 + 1)), (9, .int 1), (8, .int 0), (0, .ref w0), (2, .int w2), (3, .int w3), (4, .int w4), (5, .int w5), (6, .int w6)]) hx hb d_ZoneNodesModel_perform_192 hl (k := 8) rfl (by rw [show Int32.ofInt 1 = 1 by decide]) (by decide) rfl (fun ls hl => ?_)
                      refine lv_goto (tgt := 85) hx hb d_ZoneNodesModel_perform_195 rfl ?_
                      exact ih X176 w0 w2 w3 w4 w5 w6 (w7 + 1) v X1 _ _ _ hm hX hS (lv_sub hl [3, 4, 5, 6, 7, 8, 0] rfl) hexit
                    · replace hm := zi_f h175 hm
                      refine lv_iload hx hb d_ZoneNodesModel_perform_181 (lv_at hl 0 rfl) ?_
                      refine lv_if_ne (tgt := 190) hx hb d_ZoneNodesModel_perform_183 rfl (fun _ => ?_) (fun h => absurd h (by decide))
                      refine lv_iconst (v := 0) hx hb d_ZoneNodesModel_perform_190 (by decide) ?_
                      replace hm := zb1_s hm
                      obtain ⟨X178, h179, hm⟩ := hm
                      refine zr_bastore hx hb hk hX hS h179 d_ZoneNodesModel_perform_191 (fun H locs hX hS => ?_)
                      refine lv_iinc (v := w7 + 1) (lv' := [(7, .int (w7 + 1)), (9, .int 1), (8, .int 0), (0, .ref w0), (2, .int w2), (3, .int w3), (4, .int w4), (5, .int w5), (6, .int w6)]) hx hb d_ZoneNodesModel_perform_192 hl (k := 8) rfl (by rw [show Int32.ofInt 1 = 1 by decide]) (by decide) rfl (fun ls hl => ?_)
                      refine lv_goto (tgt := 85) hx hb d_ZoneNodesModel_perform_195 rfl ?_
                      exact ih X178 w0 w2 w3 w4 w5 w6 (w7 + 1) v X1 _ _ _ hm hX hS (lv_sub hl [3, 4, 5, 6, 7, 8, 0] rfl) hexit
              · replace hm := zi_f h144 hm
                refine lv_iconst (v := 1) hx hb d_ZoneNodesModel_perform_124 (by decide) ?_
                refine lv_goto (tgt := 129) hx hb d_ZoneNodesModel_perform_125 rfl ?_
                refine lv_istore (lv' := [(8, .int 1), (0, .ref w0), (2, .int w2), (3, .int w3), (4, .int w4), (5, .int w5), (6, .int w6), (7, .int w7)]) hx hb d_ZoneNodesModel_perform_129 hl (by decide) rfl (fun ls hl => ?_)
                refine lv_iload hx hb d_ZoneNodesModel_perform_131 (lv_at hl 0 rfl) ?_
                refine lv_if_ne (tgt := 162) hx hb d_ZoneNodesModel_perform_133 rfl (fun _ => ?_) (fun h => absurd h (by decide))
                refine lv_iconst (v := 0) hx hb d_ZoneNodesModel_perform_162 (by decide) ?_
                refine lv_istore (lv' := [(9, .int 0), (8, .int 1), (0, .ref w0), (2, .int w2), (3, .int w3), (4, .int w4), (5, .int w5), (6, .int w6), (7, .int w7)]) hx hb d_ZoneNodesModel_perform_163 hl (by decide) rfl (fun ls hl => ?_)
                refine lv_aload_n hx hb d_ZoneNodesModel_perform_165 rfl (lv_at hl 2 rfl) ?_
                replace hm := zb1_s hm
                obtain ⟨a181, h180, hm⟩ := hm
                refine zr_get (ci := 9) (C := R_ZoneNodesModel) (T := F_ZoneNodesModel) (N := 32) hx hb hts in_ZoneNodesModel hown hk hX rfl 23 (by decide) (hts _ tW456) rfl (zgr_v h180) d_ZoneNodesModel_perform_166 ?_
                refine lv_iload hx hb d_ZoneNodesModel_perform_169 (lv_at hl 8 rfl) ?_
                refine lv_aload_n hx hb d_ZoneNodesModel_perform_171 rfl (lv_at hl 2 rfl) ?_
                replace hm := zb1_s hm
                obtain ⟨a183, h182, hm⟩ := hm
                refine zr_get (ci := 9) (C := R_ZoneNodesModel) (T := F_ZoneNodesModel) (N := 32) hx hb hts in_ZoneNodesModel hown hk hX rfl 23 (by decide) (hts _ tW456) rfl (zgr_v h182) d_ZoneNodesModel_perform_172 ?_
                refine lv_iload hx hb d_ZoneNodesModel_perform_175 (lv_at hl 8 rfl) ?_
                replace hm := zb1_s hm
                obtain ⟨v184, h185, hm⟩ := hm
                refine zr_baload hx hb hk hX h185 d_ZoneNodesModel_perform_177 ?_
                refine lv_if_eq (tgt := 190) hx hb d_ZoneNodesModel_perform_178 rfl (fun h186 => ?_) (fun h186 => ?_)
                · replace hm := zi_t h186 hm
                  refine lv_iconst (v := 0) hx hb d_ZoneNodesModel_perform_190 (by decide) ?_
                  replace hm := zb1_s hm
                  obtain ⟨X187, h188, hm⟩ := hm
                  refine zr_bastore hx hb hk hX hS h188 d_ZoneNodesModel_perform_191 (fun H locs hX hS => ?_)
                  refine lv_iinc (v := w7 + 1) (lv' := [(7, .int (w7 + 1)), (9, .int 0), (8, .int 1), (0, .ref w0), (2, .int w2), (3, .int w3), (4, .int w4), (5, .int w5), (6, .int w6)]) hx hb d_ZoneNodesModel_perform_192 hl (k := 8) rfl (by rw [show Int32.ofInt 1 = 1 by decide]) (by decide) rfl (fun ls hl => ?_)
                  refine lv_goto (tgt := 85) hx hb d_ZoneNodesModel_perform_195 rfl ?_
                  exact ih X187 w0 w2 w3 w4 w5 w6 (w7 + 1) v X1 _ _ _ hm hX hS (lv_sub hl [3, 4, 5, 6, 7, 8, 0] rfl) hexit
                · replace hm := zi_f h186 hm
                  refine lv_iload hx hb d_ZoneNodesModel_perform_181 (lv_at hl 0 rfl) ?_
                  refine lv_if_ne (tgt := 190) hx hb d_ZoneNodesModel_perform_183 rfl (fun h => absurd h (by decide)) (fun _ => ?_)
                  refine lv_iconst (v := 1) hx hb d_ZoneNodesModel_perform_186 (by decide) ?_
                  refine lv_goto (tgt := 191) hx hb d_ZoneNodesModel_perform_187 rfl ?_
                  replace hm := zb1_s hm
                  obtain ⟨X189, h190, hm⟩ := hm
                  refine zr_bastore hx hb hk hX hS h190 d_ZoneNodesModel_perform_191 (fun H locs hX hS => ?_)
                  refine lv_iinc (v := w7 + 1) (lv' := [(7, .int (w7 + 1)), (9, .int 0), (8, .int 1), (0, .ref w0), (2, .int w2), (3, .int w3), (4, .int w4), (5, .int w5), (6, .int w6)]) hx hb d_ZoneNodesModel_perform_192 hl (k := 8) rfl (by rw [show Int32.ofInt 1 = 1 by decide]) (by decide) rfl (fun ls hl => ?_)
                  refine lv_goto (tgt := 85) hx hb d_ZoneNodesModel_perform_195 rfl ?_
                  exact ih X189 w0 w2 w3 w4 w5 w6 (w7 + 1) v X1 _ _ _ hm hX hS (lv_sub hl [3, 4, 5, 6, 7, 8, 0] rfl) hexit
  refine lv_aload_n hx hb d_ZoneNodesModel_perform_0 rfl (lv_at hl 0 rfl) ?_
  replace hm := zb1_s hm
  obtain ⟨a2, h1, hm⟩ := hm
  refine zr_get (ci := 9) (C := R_ZoneNodesModel) (T := F_ZoneNodesModel) (N := 32) hx hb hts in_ZoneNodesModel hown hk hX rfl 16 (by decide) (hts _ tW451) rfl (zgr_v h1) d_ZoneNodesModel_perform_1 ?_
  refine lv_iconst (v := 4) hx hb d_ZoneNodesModel_perform_4 (by decide) ?_
  refine lv_iload_n hx hb d_ZoneNodesModel_perform_5 rfl (lv_at hl 1 rfl) ?_
  refine lv_imul hx hb d_ZoneNodesModel_perform_6 ?_
  replace hm := zb1_s hm
  obtain ⟨v3, h4, hm⟩ := hm
  refine zr_iaload hx hb hk hX h4 d_ZoneNodesModel_perform_7 ?_
  refine lv_istore_n (lv' := [(2, .int v3), (0, .ref x0), (1, .int x1)]) hx hb d_ZoneNodesModel_perform_8 rfl hl (by decide) rfl (fun ls hl => ?_)
  refine lv_aload_n hx hb d_ZoneNodesModel_perform_9 rfl (lv_at hl 1 rfl) ?_
  replace hm := zb1_s hm
  obtain ⟨a6, h5, hm⟩ := hm
  refine zr_get (ci := 9) (C := R_ZoneNodesModel) (T := F_ZoneNodesModel) (N := 32) hx hb hts in_ZoneNodesModel hown hk hX rfl 16 (by decide) (hts _ tW451) rfl (zgr_v h5) d_ZoneNodesModel_perform_10 ?_
  refine lv_iconst (v := 4) hx hb d_ZoneNodesModel_perform_13 (by decide) ?_
  refine lv_iload_n hx hb d_ZoneNodesModel_perform_14 rfl (lv_at hl 2 rfl) ?_
  refine lv_imul hx hb d_ZoneNodesModel_perform_15 ?_
  refine lv_iconst (v := 1) hx hb d_ZoneNodesModel_perform_16 (by decide) ?_
  refine lv_iadd hx hb d_ZoneNodesModel_perform_17 ?_
  replace hm := zb1_s hm
  obtain ⟨v7, h8, hm⟩ := hm
  refine zr_iaload hx hb hk hX h8 d_ZoneNodesModel_perform_18 ?_
  refine lv_istore_n (lv' := [(3, .int v7), (2, .int v3), (0, .ref x0), (1, .int x1)]) hx hb d_ZoneNodesModel_perform_19 rfl hl (by decide) rfl (fun ls hl => ?_)
  refine lv_aload_n hx hb d_ZoneNodesModel_perform_20 rfl (lv_at hl 2 rfl) ?_
  replace hm := zb1_s hm
  obtain ⟨a10, h9, hm⟩ := hm
  refine zr_get (ci := 9) (C := R_ZoneNodesModel) (T := F_ZoneNodesModel) (N := 32) hx hb hts in_ZoneNodesModel hown hk hX rfl 16 (by decide) (hts _ tW451) rfl (zgr_v h9) d_ZoneNodesModel_perform_21 ?_
  refine lv_iconst (v := 4) hx hb d_ZoneNodesModel_perform_24 (by decide) ?_
  refine lv_iload_n hx hb d_ZoneNodesModel_perform_25 rfl (lv_at hl 3 rfl) ?_
  refine lv_imul hx hb d_ZoneNodesModel_perform_26 ?_
  refine lv_iconst (v := 2) hx hb d_ZoneNodesModel_perform_27 (by decide) ?_
  refine lv_iadd hx hb d_ZoneNodesModel_perform_28 ?_
  replace hm := zb1_s hm
  obtain ⟨v11, h12, hm⟩ := hm
  refine zr_iaload hx hb hk hX h12 d_ZoneNodesModel_perform_29 ?_
  refine lv_istore (lv' := [(4, .int v11), (3, .int v7), (2, .int v3), (0, .ref x0), (1, .int x1)]) hx hb d_ZoneNodesModel_perform_30 hl (by decide) rfl (fun ls hl => ?_)
  refine lv_iload_n hx hb d_ZoneNodesModel_perform_32 rfl (lv_at hl 1 rfl) ?_
  refine lv_iload hx hb d_ZoneNodesModel_perform_33 (lv_at hl 0 rfl) ?_
  refine lv_aload_n hx hb d_ZoneNodesModel_perform_35 rfl (lv_at hl 3 rfl) ?_
  replace hm := zb1_s hm
  obtain ⟨a14, h13, hm⟩ := hm
  refine zr_get (ci := 9) (C := R_ZoneNodesModel) (T := F_ZoneNodesModel) (N := 32) hx hb hts in_ZoneNodesModel hown hk hX rfl 16 (by decide) (hts _ tW451) rfl (zgr_v h13) d_ZoneNodesModel_perform_36 ?_
  refine lv_iconst (v := 4) hx hb d_ZoneNodesModel_perform_39 (by decide) ?_
  refine lv_iload_n hx hb d_ZoneNodesModel_perform_40 rfl (lv_at hl 4 rfl) ?_
  refine lv_imul hx hb d_ZoneNodesModel_perform_41 ?_
  refine lv_iconst (v := 3) hx hb d_ZoneNodesModel_perform_42 (by decide) ?_
  refine lv_iadd hx hb d_ZoneNodesModel_perform_43 ?_
  replace hm := zb1_s hm
  obtain ⟨v15, h16, hm⟩ := hm
  refine zr_iaload hx hb hk hX h16 d_ZoneNodesModel_perform_44 ?_
  replace hm := zb1_s hm
  obtain ⟨v18, h17, hm⟩ := hm
  refine zr_calli (zr_runS (As := [.int v7, .int v11, .int v15]) (rest := []) (n := 3) hx hb hml hown hts hk hX (c_ZoneNodesModel_place l G N X v7 v11 v15 v18 h17) (hts _ tW467) tW468 (hts _ tW469) (hts _ tW470) (by decide +kernel) ⟨Nat.le_of_ble_eq_true rfl, Nat.le_of_ble_eq_true rfl⟩ rfl rfl hl.1 rfl (lv_room (Nat.le_of_ble_eq_true rfl)) d_ZoneNodesModel_perform_45 ⟨(Nat.le_of_ble_eq_true rfl), (Nat.le_of_ble_eq_true rfl)⟩) hS (fun H locs hX hS => ?_)
  refine lv_istore (lv' := [(5, .int v18), (4, .int v11), (3, .int v7), (2, .int v3), (0, .ref x0), (1, .int x1)]) hx hb d_ZoneNodesModel_perform_48 hl (by decide) rfl (fun ls hl => ?_)
  refine lv_iconst (v := 0) hx hb d_ZoneNodesModel_perform_50 (by decide) ?_
  refine lv_iconst (v := 3) hx hb d_ZoneNodesModel_perform_51 (by decide) ?_
  refine lv_iconst (v := 0) hx hb d_ZoneNodesModel_perform_52 (by decide) ?_
  replace hm := zb1_s hm
  obtain ⟨v20, h19, hm⟩ := hm
  refine zr_calli (zr_runS (As := [.int 0, .int 3, .int 0]) (rest := []) (n := 3) hx hb hml hown hts hk hX (c_ZoneNodesModel_place l G N X 0 3 0 v20 h19) (hts _ tW467) tW468 (hts _ tW469) (hts _ tW470) (by decide +kernel) ⟨Nat.le_of_ble_eq_true rfl, Nat.le_of_ble_eq_true rfl⟩ rfl rfl hl.1 rfl (lv_room (Nat.le_of_ble_eq_true rfl)) d_ZoneNodesModel_perform_53 ⟨(Nat.le_of_ble_eq_true rfl), (Nat.le_of_ble_eq_true rfl)⟩) hS (fun H locs hX hS => ?_)
  refine lv_istore (lv' := [(6, .int v20), (5, .int v18), (4, .int v11), (3, .int v7), (2, .int v3), (0, .ref x0), (1, .int x1)]) hx hb d_ZoneNodesModel_perform_56 hl (by decide) rfl (fun ls hl => ?_)
  refine lv_iload_n hx hb d_ZoneNodesModel_perform_58 rfl (lv_at hl 4 rfl) ?_
  refine lv_if_ne (tgt := 79) hx hb d_ZoneNodesModel_perform_59 rfl (fun h21 => ?_) (fun h21 => ?_)
  · replace hm := zi_f h21 hm
    refine lv_bipush (v := 32) hx hb d_ZoneNodesModel_perform_79 (by decide) ?_
    refine lv_iload_n hx hb d_ZoneNodesModel_perform_81 rfl (lv_at hl 3 rfl) ?_
    refine lv_imul hx hb d_ZoneNodesModel_perform_82 ?_
    refine lv_istore (lv' := [(7, .int (32 * v7)), (6, .int v20), (5, .int v18), (4, .int v11), (3, .int v7), (2, .int v3), (0, .ref x0), (1, .int x1)]) hx hb d_ZoneNodesModel_perform_83 hl (by decide) rfl (fun ls hl => ?_)
    replace hm := zb2_s hm
    obtain ⟨v191, X193, h192, hm⟩ := hm
    refine hL85 N X x0 v3 v7 v11 v18 v20 (32 * v7) v191 X193 _ _ _ h192 hX hS (lv_sub hl [6, 5, 4, 3, 2, 1, 0] rfl) (fun H locs ls hX hS hl => ?_)
    refine lv_iload hx hb d_ZoneNodesModel_perform_198 (lv_at hl 2 rfl) ?_
    refine lv_iload hx hb d_ZoneNodesModel_perform_200 (lv_at hl 3 rfl) ?_
    refine lv_icmp_lt (tgt := 234) hx hb d_ZoneNodesModel_perform_202 rfl (fun h194 => ?_) (fun h194 => ?_)
    · replace hm := zi_t h194 hm
      refine lv_iconst (v := 0) hx hb d_ZoneNodesModel_perform_234 (by decide) ?_
      refine lv_istore (lv' := [(7, .int 0), (0, .ref x0), (2, .int v3), (5, .int v18), (6, .int v20)]) hx hb d_ZoneNodesModel_perform_235 hl (by decide) rfl (fun ls hl => ?_)
      refine lv_iload_n hx hb d_ZoneNodesModel_perform_237 rfl (lv_at hl 2 rfl) ?_
      refine lv_iconst (v := 3) hx hb d_ZoneNodesModel_perform_238 (by decide) ?_
      refine lv_icmp_ne (tgt := 255) hx hb d_ZoneNodesModel_perform_239 rfl (fun h195 => ?_) (fun h195 => ?_)
      · replace hm := zi_f h195 hm
        cases hm
        exact W.vret hx hb hr (fun t ht hW => zh_end hk hX hS ht hW) hS.2.2 d_ZoneNodesModel_perform_255
      · replace hm := zi_t h195 hm
        refine lv_iload hx hb d_ZoneNodesModel_perform_242 (lv_at hl 0 rfl) ?_
        refine lv_if_ne (tgt := 255) hx hb d_ZoneNodesModel_perform_244 rfl (fun h => absurd h (by decide)) (fun _ => ?_)
        refine lv_aload_n hx hb d_ZoneNodesModel_perform_247 rfl (lv_at hl 1 rfl) ?_
        replace hm := zb1_s hm
        obtain ⟨a197, h196, hm⟩ := hm
        refine zr_get (ci := 9) (C := R_ZoneNodesModel) (T := F_ZoneNodesModel) (N := 32) hx hb hts in_ZoneNodesModel hown hk hX rfl 23 (by decide) (hts _ tW456) rfl (zgr_v h196) d_ZoneNodesModel_perform_248 ?_
        refine lv_iload hx hb d_ZoneNodesModel_perform_251 (lv_at hl 3 rfl) ?_
        refine lv_iconst (v := 0) hx hb d_ZoneNodesModel_perform_253 (by decide) ?_
        replace hm := zb1_s hm
        obtain ⟨X198, h199, hm⟩ := hm
        refine zr_bastore hx hb hk hX hS h199 d_ZoneNodesModel_perform_254 (fun H locs hX hS => ?_)
        cases hm
        exact W.vret hx hb hr (fun t ht hW => zh_end hk hX hS ht hW) hS.2.2 d_ZoneNodesModel_perform_255
    · replace hm := zi_f h194 hm
      refine lv_iload hx hb d_ZoneNodesModel_perform_205 (lv_at hl 2 rfl) ?_
      refine lv_iload hx hb d_ZoneNodesModel_perform_207 (lv_at hl 3 rfl) ?_
      refine lv_bipush (v := 8) hx hb d_ZoneNodesModel_perform_209 (by decide) ?_
      refine lv_iadd hx hb d_ZoneNodesModel_perform_211 ?_
      refine lv_icmp_ge (tgt := 234) hx hb d_ZoneNodesModel_perform_212 rfl (fun h200 => ?_) (fun h200 => ?_)
      · replace hm := zi_t h200 hm
        refine lv_iconst (v := 0) hx hb d_ZoneNodesModel_perform_234 (by decide) ?_
        refine lv_istore (lv' := [(7, .int 0), (0, .ref x0), (2, .int v3), (5, .int v18), (6, .int v20)]) hx hb d_ZoneNodesModel_perform_235 hl (by decide) rfl (fun ls hl => ?_)
        refine lv_iload_n hx hb d_ZoneNodesModel_perform_237 rfl (lv_at hl 2 rfl) ?_
        refine lv_iconst (v := 3) hx hb d_ZoneNodesModel_perform_238 (by decide) ?_
        refine lv_icmp_ne (tgt := 255) hx hb d_ZoneNodesModel_perform_239 rfl (fun h201 => ?_) (fun h201 => ?_)
        · replace hm := zi_f h201 hm
          cases hm
          exact W.vret hx hb hr (fun t ht hW => zh_end hk hX hS ht hW) hS.2.2 d_ZoneNodesModel_perform_255
        · replace hm := zi_t h201 hm
          refine lv_iload hx hb d_ZoneNodesModel_perform_242 (lv_at hl 0 rfl) ?_
          refine lv_if_ne (tgt := 255) hx hb d_ZoneNodesModel_perform_244 rfl (fun h => absurd h (by decide)) (fun _ => ?_)
          refine lv_aload_n hx hb d_ZoneNodesModel_perform_247 rfl (lv_at hl 1 rfl) ?_
          replace hm := zb1_s hm
          obtain ⟨a203, h202, hm⟩ := hm
          refine zr_get (ci := 9) (C := R_ZoneNodesModel) (T := F_ZoneNodesModel) (N := 32) hx hb hts in_ZoneNodesModel hown hk hX rfl 23 (by decide) (hts _ tW456) rfl (zgr_v h202) d_ZoneNodesModel_perform_248 ?_
          refine lv_iload hx hb d_ZoneNodesModel_perform_251 (lv_at hl 3 rfl) ?_
          refine lv_iconst (v := 0) hx hb d_ZoneNodesModel_perform_253 (by decide) ?_
          replace hm := zb1_s hm
          obtain ⟨X204, h205, hm⟩ := hm
          refine zr_bastore hx hb hk hX hS h205 d_ZoneNodesModel_perform_254 (fun H locs hX hS => ?_)
          cases hm
          exact W.vret hx hb hr (fun t ht hW => zh_end hk hX hS ht hW) hS.2.2 d_ZoneNodesModel_perform_255
      · replace hm := zi_f h200 hm
        refine lv_aload_n hx hb d_ZoneNodesModel_perform_215 rfl (lv_at hl 0 rfl) ?_
        refine lv_iload hx hb d_ZoneNodesModel_perform_216 (lv_at hl 3 rfl) ?_
        refine lv_iload hx hb d_ZoneNodesModel_perform_218 (lv_at hl 3 rfl) ?_
        refine lv_bipush (v := 8) hx hb d_ZoneNodesModel_perform_220 (by decide) ?_
        refine lv_iadd hx hb d_ZoneNodesModel_perform_222 ?_
        replace hm := zb1_s hm
        obtain ⟨_, h207, hm⟩ := hm
        replace hm := zb1_s hm
        obtain ⟨v208, h206, hm⟩ := hm
        refine zr_calli (zr_runV (As := [.int v20, .int (v20 + 8)]) (rest := []) (n := 2) hx hb hml hown hts hk hX (c_ZoneNodesModel_works l G N X193 x0 v20 (v20 + 8) v208 h206) (hts _ tW563) tW564 (hts _ tW469) (hts _ tW565) (hts _ tW566) rfl h207 (by decide +kernel) ⟨Nat.le_of_ble_eq_true rfl, Nat.le_of_ble_eq_true rfl⟩ rfl rfl hl.1 rfl (lv_room (Nat.le_of_ble_eq_true rfl)) d_ZoneNodesModel_perform_223 ⟨(Nat.le_of_ble_eq_true rfl), (Nat.le_of_ble_eq_true rfl)⟩) hS (fun H locs hX hS => ?_)
        refine lv_iconst (v := 1) hx hb d_ZoneNodesModel_perform_226 (by decide) ?_
        refine lv_icmp_ne (tgt := 234) hx hb d_ZoneNodesModel_perform_227 rfl (fun h209 => ?_) (fun h209 => ?_)
        · replace hm := zi_f h209 hm
          refine lv_iconst (v := 0) hx hb d_ZoneNodesModel_perform_234 (by decide) ?_
          refine lv_istore (lv' := [(7, .int 0), (0, .ref x0), (2, .int v3), (5, .int v18), (6, .int v20)]) hx hb d_ZoneNodesModel_perform_235 hl (by decide) rfl (fun ls hl => ?_)
          refine lv_iload_n hx hb d_ZoneNodesModel_perform_237 rfl (lv_at hl 2 rfl) ?_
          refine lv_iconst (v := 3) hx hb d_ZoneNodesModel_perform_238 (by decide) ?_
          refine lv_icmp_ne (tgt := 255) hx hb d_ZoneNodesModel_perform_239 rfl (fun h210 => ?_) (fun h210 => ?_)
          · replace hm := zi_f h210 hm
            cases hm
            exact W.vret hx hb hr (fun t ht hW => zh_end hk hX hS ht hW) hS.2.2 d_ZoneNodesModel_perform_255
          · replace hm := zi_t h210 hm
            refine lv_iload hx hb d_ZoneNodesModel_perform_242 (lv_at hl 0 rfl) ?_
            refine lv_if_ne (tgt := 255) hx hb d_ZoneNodesModel_perform_244 rfl (fun h => absurd h (by decide)) (fun _ => ?_)
            refine lv_aload_n hx hb d_ZoneNodesModel_perform_247 rfl (lv_at hl 1 rfl) ?_
            replace hm := zb1_s hm
            obtain ⟨a212, h211, hm⟩ := hm
            refine zr_get (ci := 9) (C := R_ZoneNodesModel) (T := F_ZoneNodesModel) (N := 32) hx hb hts in_ZoneNodesModel hown hk hX rfl 23 (by decide) (hts _ tW456) rfl (zgr_v h211) d_ZoneNodesModel_perform_248 ?_
            refine lv_iload hx hb d_ZoneNodesModel_perform_251 (lv_at hl 3 rfl) ?_
            refine lv_iconst (v := 0) hx hb d_ZoneNodesModel_perform_253 (by decide) ?_
            replace hm := zb1_s hm
            obtain ⟨X213, h214, hm⟩ := hm
            refine zr_bastore hx hb hk hX hS h214 d_ZoneNodesModel_perform_254 (fun H locs hX hS => ?_)
            cases hm
            exact W.vret hx hb hr (fun t ht hW => zh_end hk hX hS ht hW) hS.2.2 d_ZoneNodesModel_perform_255
        · replace hm := zi_t h209 hm
          refine lv_iconst (v := 1) hx hb d_ZoneNodesModel_perform_230 (by decide) ?_
          refine lv_goto (tgt := 235) hx hb d_ZoneNodesModel_perform_231 rfl ?_
          refine lv_istore (lv' := [(7, .int 1), (0, .ref x0), (2, .int v3), (5, .int v18), (6, .int v20)]) hx hb d_ZoneNodesModel_perform_235 hl (by decide) rfl (fun ls hl => ?_)
          refine lv_iload_n hx hb d_ZoneNodesModel_perform_237 rfl (lv_at hl 2 rfl) ?_
          refine lv_iconst (v := 3) hx hb d_ZoneNodesModel_perform_238 (by decide) ?_
          refine lv_icmp_ne (tgt := 255) hx hb d_ZoneNodesModel_perform_239 rfl (fun h215 => ?_) (fun h215 => ?_)
          · replace hm := zi_f h215 hm
            cases hm
            exact W.vret hx hb hr (fun t ht hW => zh_end hk hX hS ht hW) hS.2.2 d_ZoneNodesModel_perform_255
          · replace hm := zi_t h215 hm
            refine lv_iload hx hb d_ZoneNodesModel_perform_242 (lv_at hl 0 rfl) ?_
            refine lv_if_ne (tgt := 255) hx hb d_ZoneNodesModel_perform_244 rfl (fun _ => ?_) (fun h => absurd h (by decide))
            cases hm
            exact W.vret hx hb hr (fun t ht hW => zh_end hk hX hS ht hW) hS.2.2 d_ZoneNodesModel_perform_255
  · replace hm := zi_t h21 hm
    refine lv_aload_n hx hb d_ZoneNodesModel_perform_62 rfl (lv_at hl 5 rfl) ?_
    refine lv_iload_n hx hb d_ZoneNodesModel_perform_63 rfl (lv_at hl 3 rfl) ?_
    refine lv_iload hx hb d_ZoneNodesModel_perform_64 (lv_at hl 2 rfl) ?_
    refine lv_aload_n hx hb d_ZoneNodesModel_perform_66 rfl (lv_at hl 5 rfl) ?_
    replace hm := zb1_s hm
    obtain ⟨a217, h216, hm⟩ := hm
    refine zr_get (ci := 9) (C := R_ZoneNodesModel) (T := F_ZoneNodesModel) (N := 32) hx hb hts in_ZoneNodesModel hown hk hX rfl 16 (by decide) (hts _ tW451) rfl (zgr_v h216) d_ZoneNodesModel_perform_67 ?_
    refine lv_iconst (v := 4) hx hb d_ZoneNodesModel_perform_70 (by decide) ?_
    refine lv_iload_n hx hb d_ZoneNodesModel_perform_71 rfl (lv_at hl 6 rfl) ?_
    refine lv_imul hx hb d_ZoneNodesModel_perform_72 ?_
    refine lv_iconst (v := 3) hx hb d_ZoneNodesModel_perform_73 (by decide) ?_
    refine lv_iadd hx hb d_ZoneNodesModel_perform_74 ?_
    replace hm := zb1_s hm
    obtain ⟨v218, h219, hm⟩ := hm
    refine zr_iaload hx hb hk hX h219 d_ZoneNodesModel_perform_75 ?_
    replace hm := zb1_s hm
    obtain ⟨_, h221, hm⟩ := hm
    replace hm := zb2_s hm
    obtain ⟨v222, X223, h220, hm⟩ := hm
    refine zr_callv (zr_runV (As := [.int v7, .int v11, .int v218]) (rest := []) (n := 3) hx hb hml hown hts hk hX (c_ZoneNodesModel_add l G N X x0 v7 v11 v218 v222 X223 h220) (hts _ tW567) tW568 (hts _ tW469) (hts _ tW569) (hts _ tW570) rfl h221 (by decide +kernel) ⟨Nat.le_of_ble_eq_true rfl, Nat.le_of_ble_eq_true rfl⟩ rfl rfl hl.1 rfl (lv_room (Nat.le_of_ble_eq_true rfl)) d_ZoneNodesModel_perform_76 ⟨(Nat.le_of_ble_eq_true rfl), (Nat.le_of_ble_eq_true rfl)⟩) hS (fun H locs hX hS => ?_)
    refine lv_bipush (v := 32) hx hb d_ZoneNodesModel_perform_79 (by decide) ?_
    refine lv_iload_n hx hb d_ZoneNodesModel_perform_81 rfl (lv_at hl 3 rfl) ?_
    refine lv_imul hx hb d_ZoneNodesModel_perform_82 ?_
    refine lv_istore (lv' := [(7, .int (32 * v7)), (6, .int v20), (5, .int v18), (4, .int v11), (3, .int v7), (2, .int v3), (0, .ref x0), (1, .int x1)]) hx hb d_ZoneNodesModel_perform_83 hl (by decide) rfl (fun ls hl => ?_)
    replace hm := zb2_s hm
    obtain ⟨v224, X226, h225, hm⟩ := hm
    refine hL85 N X223 x0 v3 v7 v11 v18 v20 (32 * v7) v224 X226 _ _ _ h225 hX hS (lv_sub hl [6, 5, 4, 3, 2, 1, 0] rfl) (fun H locs ls hX hS hl => ?_)
    refine lv_iload hx hb d_ZoneNodesModel_perform_198 (lv_at hl 2 rfl) ?_
    refine lv_iload hx hb d_ZoneNodesModel_perform_200 (lv_at hl 3 rfl) ?_
    refine lv_icmp_lt (tgt := 234) hx hb d_ZoneNodesModel_perform_202 rfl (fun h227 => ?_) (fun h227 => ?_)
    · replace hm := zi_t h227 hm
      refine lv_iconst (v := 0) hx hb d_ZoneNodesModel_perform_234 (by decide) ?_
      refine lv_istore (lv' := [(7, .int 0), (0, .ref x0), (2, .int v3), (5, .int v18), (6, .int v20)]) hx hb d_ZoneNodesModel_perform_235 hl (by decide) rfl (fun ls hl => ?_)
      refine lv_iload_n hx hb d_ZoneNodesModel_perform_237 rfl (lv_at hl 2 rfl) ?_
      refine lv_iconst (v := 3) hx hb d_ZoneNodesModel_perform_238 (by decide) ?_
      refine lv_icmp_ne (tgt := 255) hx hb d_ZoneNodesModel_perform_239 rfl (fun h228 => ?_) (fun h228 => ?_)
      · replace hm := zi_f h228 hm
        cases hm
        exact W.vret hx hb hr (fun t ht hW => zh_end hk hX hS ht hW) hS.2.2 d_ZoneNodesModel_perform_255
      · replace hm := zi_t h228 hm
        refine lv_iload hx hb d_ZoneNodesModel_perform_242 (lv_at hl 0 rfl) ?_
        refine lv_if_ne (tgt := 255) hx hb d_ZoneNodesModel_perform_244 rfl (fun h => absurd h (by decide)) (fun _ => ?_)
        refine lv_aload_n hx hb d_ZoneNodesModel_perform_247 rfl (lv_at hl 1 rfl) ?_
        replace hm := zb1_s hm
        obtain ⟨a230, h229, hm⟩ := hm
        refine zr_get (ci := 9) (C := R_ZoneNodesModel) (T := F_ZoneNodesModel) (N := 32) hx hb hts in_ZoneNodesModel hown hk hX rfl 23 (by decide) (hts _ tW456) rfl (zgr_v h229) d_ZoneNodesModel_perform_248 ?_
        refine lv_iload hx hb d_ZoneNodesModel_perform_251 (lv_at hl 3 rfl) ?_
        refine lv_iconst (v := 0) hx hb d_ZoneNodesModel_perform_253 (by decide) ?_
        replace hm := zb1_s hm
        obtain ⟨X231, h232, hm⟩ := hm
        refine zr_bastore hx hb hk hX hS h232 d_ZoneNodesModel_perform_254 (fun H locs hX hS => ?_)
        cases hm
        exact W.vret hx hb hr (fun t ht hW => zh_end hk hX hS ht hW) hS.2.2 d_ZoneNodesModel_perform_255
    · replace hm := zi_f h227 hm
      refine lv_iload hx hb d_ZoneNodesModel_perform_205 (lv_at hl 2 rfl) ?_
      refine lv_iload hx hb d_ZoneNodesModel_perform_207 (lv_at hl 3 rfl) ?_
      refine lv_bipush (v := 8) hx hb d_ZoneNodesModel_perform_209 (by decide) ?_
      refine lv_iadd hx hb d_ZoneNodesModel_perform_211 ?_
      refine lv_icmp_ge (tgt := 234) hx hb d_ZoneNodesModel_perform_212 rfl (fun h233 => ?_) (fun h233 => ?_)
      · replace hm := zi_t h233 hm
        refine lv_iconst (v := 0) hx hb d_ZoneNodesModel_perform_234 (by decide) ?_
        refine lv_istore (lv' := [(7, .int 0), (0, .ref x0), (2, .int v3), (5, .int v18), (6, .int v20)]) hx hb d_ZoneNodesModel_perform_235 hl (by decide) rfl (fun ls hl => ?_)
        refine lv_iload_n hx hb d_ZoneNodesModel_perform_237 rfl (lv_at hl 2 rfl) ?_
        refine lv_iconst (v := 3) hx hb d_ZoneNodesModel_perform_238 (by decide) ?_
        refine lv_icmp_ne (tgt := 255) hx hb d_ZoneNodesModel_perform_239 rfl (fun h234 => ?_) (fun h234 => ?_)
        · replace hm := zi_f h234 hm
          cases hm
          exact W.vret hx hb hr (fun t ht hW => zh_end hk hX hS ht hW) hS.2.2 d_ZoneNodesModel_perform_255
        · replace hm := zi_t h234 hm
          refine lv_iload hx hb d_ZoneNodesModel_perform_242 (lv_at hl 0 rfl) ?_
          refine lv_if_ne (tgt := 255) hx hb d_ZoneNodesModel_perform_244 rfl (fun h => absurd h (by decide)) (fun _ => ?_)
          refine lv_aload_n hx hb d_ZoneNodesModel_perform_247 rfl (lv_at hl 1 rfl) ?_
          replace hm := zb1_s hm
          obtain ⟨a236, h235, hm⟩ := hm
          refine zr_get (ci := 9) (C := R_ZoneNodesModel) (T := F_ZoneNodesModel) (N := 32) hx hb hts in_ZoneNodesModel hown hk hX rfl 23 (by decide) (hts _ tW456) rfl (zgr_v h235) d_ZoneNodesModel_perform_248 ?_
          refine lv_iload hx hb d_ZoneNodesModel_perform_251 (lv_at hl 3 rfl) ?_
          refine lv_iconst (v := 0) hx hb d_ZoneNodesModel_perform_253 (by decide) ?_
          replace hm := zb1_s hm
          obtain ⟨X237, h238, hm⟩ := hm
          refine zr_bastore hx hb hk hX hS h238 d_ZoneNodesModel_perform_254 (fun H locs hX hS => ?_)
          cases hm
          exact W.vret hx hb hr (fun t ht hW => zh_end hk hX hS ht hW) hS.2.2 d_ZoneNodesModel_perform_255
      · replace hm := zi_f h233 hm
        refine lv_aload_n hx hb d_ZoneNodesModel_perform_215 rfl (lv_at hl 0 rfl) ?_
        refine lv_iload hx hb d_ZoneNodesModel_perform_216 (lv_at hl 3 rfl) ?_
        refine lv_iload hx hb d_ZoneNodesModel_perform_218 (lv_at hl 3 rfl) ?_
        refine lv_bipush (v := 8) hx hb d_ZoneNodesModel_perform_220 (by decide) ?_
        refine lv_iadd hx hb d_ZoneNodesModel_perform_222 ?_
        replace hm := zb1_s hm
        obtain ⟨_, h240, hm⟩ := hm
        replace hm := zb1_s hm
        obtain ⟨v241, h239, hm⟩ := hm
        refine zr_calli (zr_runV (As := [.int v20, .int (v20 + 8)]) (rest := []) (n := 2) hx hb hml hown hts hk hX (c_ZoneNodesModel_works l G N X226 x0 v20 (v20 + 8) v241 h239) (hts _ tW563) tW564 (hts _ tW469) (hts _ tW565) (hts _ tW566) rfl h240 (by decide +kernel) ⟨Nat.le_of_ble_eq_true rfl, Nat.le_of_ble_eq_true rfl⟩ rfl rfl hl.1 rfl (lv_room (Nat.le_of_ble_eq_true rfl)) d_ZoneNodesModel_perform_223 ⟨(Nat.le_of_ble_eq_true rfl), (Nat.le_of_ble_eq_true rfl)⟩) hS (fun H locs hX hS => ?_)
        refine lv_iconst (v := 1) hx hb d_ZoneNodesModel_perform_226 (by decide) ?_
        refine lv_icmp_ne (tgt := 234) hx hb d_ZoneNodesModel_perform_227 rfl (fun h242 => ?_) (fun h242 => ?_)
        · replace hm := zi_f h242 hm
          refine lv_iconst (v := 0) hx hb d_ZoneNodesModel_perform_234 (by decide) ?_
          refine lv_istore (lv' := [(7, .int 0), (0, .ref x0), (2, .int v3), (5, .int v18), (6, .int v20)]) hx hb d_ZoneNodesModel_perform_235 hl (by decide) rfl (fun ls hl => ?_)
          refine lv_iload_n hx hb d_ZoneNodesModel_perform_237 rfl (lv_at hl 2 rfl) ?_
          refine lv_iconst (v := 3) hx hb d_ZoneNodesModel_perform_238 (by decide) ?_
          refine lv_icmp_ne (tgt := 255) hx hb d_ZoneNodesModel_perform_239 rfl (fun h243 => ?_) (fun h243 => ?_)
          · replace hm := zi_f h243 hm
            cases hm
            exact W.vret hx hb hr (fun t ht hW => zh_end hk hX hS ht hW) hS.2.2 d_ZoneNodesModel_perform_255
          · replace hm := zi_t h243 hm
            refine lv_iload hx hb d_ZoneNodesModel_perform_242 (lv_at hl 0 rfl) ?_
            refine lv_if_ne (tgt := 255) hx hb d_ZoneNodesModel_perform_244 rfl (fun h => absurd h (by decide)) (fun _ => ?_)
            refine lv_aload_n hx hb d_ZoneNodesModel_perform_247 rfl (lv_at hl 1 rfl) ?_
            replace hm := zb1_s hm
            obtain ⟨a245, h244, hm⟩ := hm
            refine zr_get (ci := 9) (C := R_ZoneNodesModel) (T := F_ZoneNodesModel) (N := 32) hx hb hts in_ZoneNodesModel hown hk hX rfl 23 (by decide) (hts _ tW456) rfl (zgr_v h244) d_ZoneNodesModel_perform_248 ?_
            refine lv_iload hx hb d_ZoneNodesModel_perform_251 (lv_at hl 3 rfl) ?_
            refine lv_iconst (v := 0) hx hb d_ZoneNodesModel_perform_253 (by decide) ?_
            replace hm := zb1_s hm
            obtain ⟨X246, h247, hm⟩ := hm
            refine zr_bastore hx hb hk hX hS h247 d_ZoneNodesModel_perform_254 (fun H locs hX hS => ?_)
            cases hm
            exact W.vret hx hb hr (fun t ht hW => zh_end hk hX hS ht hW) hS.2.2 d_ZoneNodesModel_perform_255
        · replace hm := zi_t h242 hm
          refine lv_iconst (v := 1) hx hb d_ZoneNodesModel_perform_230 (by decide) ?_
          refine lv_goto (tgt := 235) hx hb d_ZoneNodesModel_perform_231 rfl ?_
          refine lv_istore (lv' := [(7, .int 1), (0, .ref x0), (2, .int v3), (5, .int v18), (6, .int v20)]) hx hb d_ZoneNodesModel_perform_235 hl (by decide) rfl (fun ls hl => ?_)
          refine lv_iload_n hx hb d_ZoneNodesModel_perform_237 rfl (lv_at hl 2 rfl) ?_
          refine lv_iconst (v := 3) hx hb d_ZoneNodesModel_perform_238 (by decide) ?_
          refine lv_icmp_ne (tgt := 255) hx hb d_ZoneNodesModel_perform_239 rfl (fun h248 => ?_) (fun h248 => ?_)
          · replace hm := zi_f h248 hm
            cases hm
            exact W.vret hx hb hr (fun t ht hW => zh_end hk hX hS ht hW) hS.2.2 d_ZoneNodesModel_perform_255
          · replace hm := zi_t h248 hm
            refine lv_iload hx hb d_ZoneNodesModel_perform_242 (lv_at hl 0 rfl) ?_
            refine lv_if_ne (tgt := 255) hx hb d_ZoneNodesModel_perform_244 rfl (fun _ => ?_) (fun h => absurd h (by decide))
            cases hm
            exact W.vret hx hb hr (fun t ht hW => zh_end hk hX hS ht hW) hS.2.2 d_ZoneNodesModel_perform_255
