set_option maxHeartbeats 4000000 in
set_option maxRecDepth 100000 in
theorem c_Wire_endStreamOf (l : Launch) (G : zh_G) (N : Nat) (X : zh_T) (x0 : Nat) (x1 : Int32) (r : Unit) (X' : zh_T) (hm : f_Wire_endStreamOf N X x0 x1 = some (r, X')) : zM l G y_Wire_endStreamOf w_Wire_endStreamOf 1 23 X [.ref x0, .int x1] none X' 0 0 := by
  refine zr_ofW (by decide) (by exact Nat.le_of_ble_eq_true rfl) ?_
  intro p e s m args below meth c ls hx hb hml hr hts hown hin hlocks hk hX hl
  have hS : va_S (zh_A G) s.heap s.heap [] := va_S.rf
  have hl : lv_has ls 3 [(0, .ref x0), (1, .int x1)] := hl
  have hown : s.vm.findClass R_Wire = some m.cls := hown
  unfold f_Wire_endStreamOf at hm
  have hL7 : ∀ (n : Nat) (X : zh_T) (w0 : Nat) (w1 : Int32) (w2 : Int32) (v : Unit) (X1 : zh_T) (H : Heap) (locs : List Loc) (ls : Array Slot), L_Wire_endStreamOf_7 N w0 w1 n X w2 = some (v, X1) → zh_w G X H → va_S (zh_A G) s.heap H locs → lv_has ls 3 [(0, .ref w0), (1, .int w1), (2, .int w2)] → (∀ (H : Heap) (locs : List Loc) (ls : Array Slot), zh_w G X1 H → va_S (zh_A G) s.heap H locs → lv_has ls 3 [] → W p l e { frames := 1, cells := 0, slots := 0, locals := 23 } s m args below meth c H locs 0 0 (MQ below (zh_Q G none X') args s 0 0 (zh_A G)) (F0 m 47 ls [])) → W p l e { frames := 1, cells := 0, slots := 0, locals := 23 } s m args below meth c H locs 0 0 (MQ below (zh_Q G none X') args s 0 0 (zh_A G)) (F0 m 7 ls []) := by
    intro n
    induction n with
    | zero =>
      intro X w0 w1 w2 v X1 H locs ls hm hX hS hl hexit
      rw [L_Wire_endStreamOf_7] at hm
      cases hm
    | succ n ih =>
      intro X w0 w1 w2 v X1 H locs ls hm hX hS hl hexit
      rw [L_Wire_endStreamOf_7] at hm
      refine lv_iload_n hx hb d_Wire_endStreamOf_7 rfl (lv_at hl 2 rfl) ?_
      refine lv_if_lt (tgt := 47) hx hb d_Wire_endStreamOf_8 rfl (fun h3 => ?_) (fun h3 => ?_)
      · replace hm := zi_t h3 hm
        cases hm
        exact hexit _ _ _ hX hS (lv_sub hl [] rfl)
      · replace hm := zi_f h3 hm
        refine lv_aload_n hx hb d_Wire_endStreamOf_11 rfl (lv_at hl 0 rfl) ?_
        replace hm := zb1_s hm
        obtain ⟨a5, h4, hm⟩ := hm
        refine zr_get (ci := 7) (C := R_Wire) (T := F_Wire) (N := 2) hx hb hts in_Wire hown hk hX rfl 0 (by decide) (hts _ tW74) rfl (zgr_v h4) d_Wire_endStreamOf_12 ?_
        refine lv_iload_n hx hb d_Wire_endStreamOf_15 rfl (lv_at hl 2 rfl) ?_
        replace hm := zb1_s hm
        obtain ⟨a7, h6, hm⟩ := hm
        refine zr_aaload (t := 3) (q := some a7) hx hb hk hX rfl (zar_v h6) d_Wire_endStreamOf_16 ?_
        replace hm := zb1_s hm
        obtain ⟨_, h9, hm⟩ := hm
        replace hm := zb1_s hm
        obtain ⟨v10, h8, hm⟩ := hm
        refine zr_calli (zr_runV (As := []) (rest := []) (n := 0) hx hb hml hown hts hk hX (c_Message_isOnStream l G N X a7 v10 h8) (hts _ tW136) tW137 (hts _ tW76) (hts _ tW138) (hts _ tW139) rfl h9 (by decide +kernel) ⟨Nat.le_of_ble_eq_true rfl, Nat.le_of_ble_eq_true rfl⟩ rfl rfl hl.1 rfl (lv_room (Nat.le_of_ble_eq_true rfl)) d_Wire_endStreamOf_17 ⟨(Nat.le_of_ble_eq_true rfl), (Nat.le_of_ble_eq_true rfl)⟩) hS (fun H locs hX hS => ?_)
        refine lv_if_eq (tgt := 41) hx hb d_Wire_endStreamOf_20 rfl (fun h11 => ?_) (fun h11 => ?_)
        · replace hm := zi_t h11 hm
          refine lv_iinc (v := w2 + (-1)) (lv' := [(2, .int (w2 + (-1))), (0, .ref w0), (1, .int w1)]) hx hb d_Wire_endStreamOf_41 hl (k := 2) rfl (by rw [show Int32.ofInt (-1) = (-1) by decide]) (by decide) rfl (fun ls hl => ?_)
          refine lv_goto (tgt := 7) hx hb d_Wire_endStreamOf_44 rfl ?_
          exact ih X w0 w1 (w2 + (-1)) v X1 _ _ _ hm hX hS (lv_sub hl [1, 2, 0] rfl) hexit
        · replace hm := zi_f h11 hm
          refine lv_aload_n hx hb d_Wire_endStreamOf_23 rfl (lv_at hl 0 rfl) ?_
          replace hm := zb1_s hm
          obtain ⟨a13, h12, hm⟩ := hm
          refine zr_get (ci := 7) (C := R_Wire) (T := F_Wire) (N := 2) hx hb hts in_Wire hown hk hX rfl 0 (by decide) (hts _ tW74) rfl (zgr_v h12) d_Wire_endStreamOf_24 ?_
          refine lv_iload_n hx hb d_Wire_endStreamOf_27 rfl (lv_at hl 2 rfl) ?_
          replace hm := zb1_s hm
          obtain ⟨a15, h14, hm⟩ := hm
          refine zr_aaload (t := 3) (q := some a15) hx hb hk hX rfl (zar_v h14) d_Wire_endStreamOf_28 ?_
          replace hm := zb1_s hm
          obtain ⟨v17, h16, hm⟩ := hm
          refine zr_getN (ci := 3) (C := R_Message) (T := F_Message) (N := 10) hx hb hts in_Message hown hk hX rfl 2 (by decide) rfl rfl (nF10 hk) rfl (zgi_v h16) d_Wire_endStreamOf_29 ?_
          refine lv_iload_n hx hb d_Wire_endStreamOf_32 rfl (lv_at hl 1 rfl) ?_
          refine lv_icmp_ne (tgt := 41) hx hb d_Wire_endStreamOf_33 rfl (fun h18 => ?_) (fun h18 => ?_)
          · replace hm := zi_f h18 hm
            refine lv_iinc (v := w2 + (-1)) (lv' := [(2, .int (w2 + (-1))), (0, .ref w0), (1, .int w1)]) hx hb d_Wire_endStreamOf_41 hl (k := 2) rfl (by rw [show Int32.ofInt (-1) = (-1) by decide]) (by decide) rfl (fun ls hl => ?_)
            refine lv_goto (tgt := 7) hx hb d_Wire_endStreamOf_44 rfl ?_
            exact ih X w0 w1 (w2 + (-1)) v X1 _ _ _ hm hX hS (lv_sub hl [1, 2, 0] rfl) hexit
          · replace hm := zi_t h18 hm
            refine lv_aload_n hx hb d_Wire_endStreamOf_36 rfl (lv_at hl 0 rfl) ?_
            refine lv_iload_n hx hb d_Wire_endStreamOf_37 rfl (lv_at hl 2 rfl) ?_
            replace hm := zb1_s hm
            obtain ⟨_, h20, hm⟩ := hm
            replace hm := zb2_s hm
            obtain ⟨v21, X22, h19, hm⟩ := hm
            refine zr_callv (zr_runV (As := [.int w2]) (rest := []) (n := 1) hx hb hml hown hts hk hX (c_Wire_takeOut l G N X w0 w2 v21 X22 h19) (hts _ tW215) tW216 (hts _ tW91) (hts _ tW217) (hts _ tW218) rfl h20 (by decide +kernel) ⟨Nat.le_of_ble_eq_true rfl, Nat.le_of_ble_eq_true rfl⟩ rfl rfl hl.1 rfl (lv_room (Nat.le_of_ble_eq_true rfl)) d_Wire_endStreamOf_38 ⟨(Nat.le_of_ble_eq_true rfl), (Nat.le_of_ble_eq_true rfl)⟩) hS (fun H locs hX hS => ?_)
            refine lv_iinc (v := w2 + (-1)) (lv' := [(2, .int (w2 + (-1))), (0, .ref w0), (1, .int w1)]) hx hb d_Wire_endStreamOf_41 hl (k := 2) rfl (by rw [show Int32.ofInt (-1) = (-1) by decide]) (by decide) rfl (fun ls hl => ?_)
            refine lv_goto (tgt := 7) hx hb d_Wire_endStreamOf_44 rfl ?_
            exact ih X22 w0 w1 (w2 + (-1)) v X1 _ _ _ hm hX hS (lv_sub hl [1, 2, 0] rfl) hexit
  refine lv_aload_n hx hb d_Wire_endStreamOf_0 rfl (lv_at hl 0 rfl) ?_
  replace hm := zb1_s hm
  obtain ⟨v2, h1, hm⟩ := hm
  refine zr_get (ci := 7) (C := R_Wire) (T := F_Wire) (N := 2) hx hb hts in_Wire hown hk hX rfl 1 (by decide) (hts _ tW113) rfl (zgi_v h1) d_Wire_endStreamOf_1 ?_
  refine lv_iconst (v := 1) hx hb d_Wire_endStreamOf_4 (by decide) ?_
  refine lv_isub hx hb d_Wire_endStreamOf_5 ?_
  refine lv_istore_n (lv' := [(2, .int (v2 - 1)), (0, .ref x0), (1, .int x1)]) hx hb d_Wire_endStreamOf_6 rfl hl (by decide) rfl (fun ls hl => ?_)
  replace hm := zb2_s hm
  obtain ⟨v23, X25, h24, hm⟩ := hm
  refine hL7 N X x0 x1 (v2 - 1) v23 X25 _ _ _ h24 hX hS (lv_sub hl [1, 2, 0] rfl) (fun H locs ls hX hS hl => ?_)
  cases hm
  exact W.vret hx hb hr (fun t ht hW => zh_end hk hX hS ht hW) hS.2.2 d_Wire_endStreamOf_47
set_option maxHeartbeats 4000000 in
set_option maxRecDepth 100000 in
theorem c_ZoneNodes_arriveAtSecondary (l : Launch) (G : zh_G) (N : Nat) (X : zh_T) (x0 : Nat) (x1 : Nat) (x2 : Nat) (r : Unit) (X' : zh_T) (hm : f_ZoneNodes_arriveAtSecondary N X x0 x1 x2 = some (r, X')) : zM l G y_ZoneNodes_arriveAtSecondary w_ZoneNodes_arriveAtSecondary 5 110 X [.ref x0, .ref x1, .ref x2] none X' 0 0 := by
  refine zr_ofW (by decide) (by exact Nat.le_of_ble_eq_true rfl) ?_
  intro p e s m args below meth c ls hx hb hml hr hts hown hin hlocks hk hX hl
  have hS : va_S (zh_A G) s.heap s.heap [] := va_S.rf
  have hl : lv_has ls 3 [(0, .ref x0), (1, .ref x1), (2, .ref x2)] := hl
  have hown : s.vm.findClass R_ZoneNodes = some m.cls := hown
  unfold f_ZoneNodes_arriveAtSecondary at hm
  refine lv_aload_n hx hb d_ZoneNodes_arriveAtSecondary_0 rfl (lv_at hl 2 rfl) ?_
  replace hm := zb1_s hm
  obtain ⟨v2, h1, hm⟩ := hm
  refine zr_getN (ci := 6) (C := R_Secondary) (T := F_Secondary) (N := 13) hx hb hts in_Secondary hown hk hX rfl 6 (by decide) rfl rfl (nF33 hk) rfl (zgi_v h1) d_ZoneNodes_arriveAtSecondary_1 ?_
  refine lv_if_ne (tgt := 8) hx hb d_ZoneNodes_arriveAtSecondary_4 rfl (fun h3 => ?_) (fun h3 => ?_)
  · replace hm := zi_f h3 hm
    refine lv_aload_n hx hb d_ZoneNodes_arriveAtSecondary_8 rfl (lv_at hl 1 rfl) ?_
    replace hm := zb1_s hm
    obtain ⟨v5, h4, hm⟩ := hm
    refine zr_getN (ci := 3) (C := R_Message) (T := F_Message) (N := 10) hx hb hts in_Message hown hk hX rfl 1 (by decide) rfl rfl (nF0 hk) rfl (zgi_v h4) d_ZoneNodes_arriveAtSecondary_9 ?_
    refine lv_iconst (v := 1) hx hb d_ZoneNodes_arriveAtSecondary_12 (by decide) ?_
    refine lv_icmp_ne (tgt := 35) hx hb d_ZoneNodes_arriveAtSecondary_13 rfl (fun h6 => ?_) (fun h6 => ?_)
    · replace hm := zi_f h6 hm
      refine lv_aload_n hx hb d_ZoneNodes_arriveAtSecondary_35 rfl (lv_at hl 1 rfl) ?_
      replace hm := zb1_s hm
      obtain ⟨v8, h7, hm⟩ := hm
      refine zr_getN (ci := 3) (C := R_Message) (T := F_Message) (N := 10) hx hb hts in_Message hown hk hX rfl 1 (by decide) rfl rfl (nF0 hk) rfl (zgi_v h7) d_ZoneNodes_arriveAtSecondary_36 ?_
      refine lv_iconst (v := 3) hx hb d_ZoneNodes_arriveAtSecondary_39 (by decide) ?_
      refine lv_icmp_ne (tgt := 69) hx hb d_ZoneNodes_arriveAtSecondary_40 rfl (fun h9 => ?_) (fun h9 => ?_)
      · replace hm := zi_f h9 hm
        refine lv_aload_n hx hb d_ZoneNodes_arriveAtSecondary_69 rfl (lv_at hl 1 rfl) ?_
        replace hm := zb1_s hm
        obtain ⟨v11, h10, hm⟩ := hm
        refine zr_getN (ci := 3) (C := R_Message) (T := F_Message) (N := 10) hx hb hts in_Message hown hk hX rfl 9 (by decide) rfl rfl (nF1 hk) rfl (zgi_v h10) d_ZoneNodes_arriveAtSecondary_70 ?_
        refine lv_if_eq (tgt := 98) hx hb d_ZoneNodes_arriveAtSecondary_73 rfl (fun h12 => ?_) (fun h12 => ?_)
        · replace hm := zi_t h12 hm
          refine lv_aload_n hx hb d_ZoneNodes_arriveAtSecondary_98 rfl (lv_at hl 2 rfl) ?_
          refine lv_aload_n hx hb d_ZoneNodes_arriveAtSecondary_99 rfl (lv_at hl 1 rfl) ?_
          refine lv_aload_n hx hb d_ZoneNodes_arriveAtSecondary_100 rfl (lv_at hl 0 rfl) ?_
          replace hm := zb1_s hm
          obtain ⟨v14, h13, hm⟩ := hm
          refine zr_get (ci := 8) (C := R_ZoneNodes) (T := F_ZoneNodes) (N := 7) hx hb hts in_ZoneNodes hown hk hX rfl 6 (by decide) (hts _ tW219) rfl (zgi_v h13) d_ZoneNodes_arriveAtSecondary_101 ?_
          replace hm := zb1_s hm
          obtain ⟨_, h16, hm⟩ := hm
          replace hm := zb2_s hm
          obtain ⟨v17, X18, h15, hm⟩ := hm
          refine zr_callv (zr_runV (As := [.ref x1, .int v14]) (rest := []) (n := 2) hx hb hml hown hts hk hX (c_Secondary_takePart l G N X x2 x1 v14 v17 X18 h15) (hts _ tW220) tW221 (hts _ tW54) (hts _ tW222) (hts _ tW223) rfl h16 (by decide +kernel) ⟨Nat.le_of_ble_eq_true rfl, Nat.le_of_ble_eq_true rfl⟩ rfl rfl hl.1 rfl (lv_room (Nat.le_of_ble_eq_true rfl)) d_ZoneNodes_arriveAtSecondary_104 ⟨(Nat.le_of_ble_eq_true rfl), (Nat.le_of_ble_eq_true rfl)⟩) hS (fun H locs hX hS => ?_)
          cases hm
          exact W.vret hx hb hr (fun t ht hW => zh_end hk hX hS ht hW) hS.2.2 d_ZoneNodes_arriveAtSecondary_107
        · replace hm := zi_f h12 hm
          refine lv_aload_n hx hb d_ZoneNodes_arriveAtSecondary_76 rfl (lv_at hl 0 rfl) ?_
          replace hm := zb1_s hm
          obtain ⟨a20, h19, hm⟩ := hm
          refine zr_get (ci := 8) (C := R_ZoneNodes) (T := F_ZoneNodes) (N := 7) hx hb hts in_ZoneNodes hown hk hX rfl 3 (by decide) (hts _ tW95) rfl (zgr_v h19) d_ZoneNodes_arriveAtSecondary_77 ?_
          refine lv_aload_n hx hb d_ZoneNodes_arriveAtSecondary_80 rfl (lv_at hl 2 rfl) ?_
          replace hm := zb1_s hm
          obtain ⟨v22, h21, hm⟩ := hm
          refine zr_getN (ci := 6) (C := R_Secondary) (T := F_Secondary) (N := 13) hx hb hts in_Secondary hown hk hX rfl 0 (by decide) rfl rfl (nF34 hk) rfl (zgi_v h21) d_ZoneNodes_arriveAtSecondary_81 ?_
          replace hm := zb1_s hm
          obtain ⟨_, h24, hm⟩ := hm
          replace hm := zb2_s hm
          obtain ⟨v25, X26, h23, hm⟩ := hm
          refine zr_callv (zr_runV (As := [.int v22]) (rest := []) (n := 1) hx hb hml hown hts hk hX (c_Wire_endStreamOf l G N X a20 v22 v25 X26 h23) (hts _ tW224) tW225 (hts _ tW91) (hts _ tW226) (hts _ tW227) rfl h24 (by decide +kernel) ⟨Nat.le_of_ble_eq_true rfl, Nat.le_of_ble_eq_true rfl⟩ rfl rfl hl.1 rfl (lv_room (Nat.le_of_ble_eq_true rfl)) d_ZoneNodes_arriveAtSecondary_84 ⟨(Nat.le_of_ble_eq_true rfl), (Nat.le_of_ble_eq_true rfl)⟩) hS (fun H locs hX hS => ?_)
          refine lv_aload_n hx hb d_ZoneNodes_arriveAtSecondary_87 rfl (lv_at hl 2 rfl) ?_
          refine lv_aload_n hx hb d_ZoneNodes_arriveAtSecondary_88 rfl (lv_at hl 0 rfl) ?_
          replace hm := zb1_s hm
          obtain ⟨v28, h27, hm⟩ := hm
          refine zr_get (ci := 8) (C := R_ZoneNodes) (T := F_ZoneNodes) (N := 7) hx hb hts in_ZoneNodes hown hk hX rfl 6 (by decide) (hts _ tW219) rfl (zgi_v h27) d_ZoneNodes_arriveAtSecondary_89 ?_
          replace hm := zb1_s hm
          obtain ⟨_, h30, hm⟩ := hm
          replace hm := zb2_s hm
          obtain ⟨v31, X32, h29, hm⟩ := hm
          refine zr_callv (zr_runV (As := [.int v28]) (rest := []) (n := 1) hx hb hml hown hts hk hX (c_Secondary_loseStream l G N X26 x2 v28 v31 X32 h29) (hts _ tW228) tW229 (hts _ tW54) (hts _ tW230) (hts _ tW231) rfl h30 (by decide +kernel) ⟨Nat.le_of_ble_eq_true rfl, Nat.le_of_ble_eq_true rfl⟩ rfl rfl hl.1 rfl (lv_room (Nat.le_of_ble_eq_true rfl)) d_ZoneNodes_arriveAtSecondary_92 ⟨(Nat.le_of_ble_eq_true rfl), (Nat.le_of_ble_eq_true rfl)⟩) hS (fun H locs hX hS => ?_)
          refine lv_goto (tgt := 107) hx hb d_ZoneNodes_arriveAtSecondary_95 rfl ?_
          cases hm
          exact W.vret hx hb hr (fun t ht hW => zh_end hk hX hS ht hW) hS.2.2 d_ZoneNodes_arriveAtSecondary_107
      · replace hm := zi_t h9 hm
        refine lv_aload_n hx hb d_ZoneNodes_arriveAtSecondary_43 rfl (lv_at hl 2 rfl) ?_
        refine lv_aload_n hx hb d_ZoneNodes_arriveAtSecondary_44 rfl (lv_at hl 1 rfl) ?_
        replace hm := zb1_s hm
        obtain ⟨v34, h33, hm⟩ := hm
        refine zr_getN (ci := 3) (C := R_Message) (T := F_Message) (N := 10) hx hb hts in_Message hown hk hX rfl 4 (by decide) rfl rfl (nF23 hk) rfl (zgi_v h33) d_ZoneNodes_arriveAtSecondary_45 ?_
        refine lv_aload_n hx hb d_ZoneNodes_arriveAtSecondary_48 rfl (lv_at hl 0 rfl) ?_
        replace hm := zb1_s hm
        obtain ⟨a36, h35, hm⟩ := hm
        refine zr_get (ci := 8) (C := R_ZoneNodes) (T := F_ZoneNodes) (N := 7) hx hb hts in_ZoneNodes hown hk hX rfl 4 (by decide) (hts _ tW108) rfl (zgr_v h35) d_ZoneNodes_arriveAtSecondary_49 ?_
        replace hm := zb1_s hm
        obtain ⟨v38, h37, hm⟩ := hm
        refine zr_getN (ci := 4) (C := R_Primary) (T := F_Primary) (N := 9) hx hb hts in_Primary hown hk hX rfl 8 (by decide) rfl rfl (nF2 hk) rfl (zgi_v h37) d_ZoneNodes_arriveAtSecondary_52 ?_
        refine lv_aload_n hx hb d_ZoneNodes_arriveAtSecondary_55 rfl (lv_at hl 0 rfl) ?_
        replace hm := zb1_s hm
        obtain ⟨v40, h39, hm⟩ := hm
        refine zr_get (ci := 8) (C := R_ZoneNodes) (T := F_ZoneNodes) (N := 7) hx hb hts in_ZoneNodes hown hk hX rfl 6 (by decide) (hts _ tW219) rfl (zgi_v h39) d_ZoneNodes_arriveAtSecondary_56 ?_
        refine lv_aload_n hx hb d_ZoneNodes_arriveAtSecondary_59 rfl (lv_at hl 0 rfl) ?_
        replace hm := zb1_s hm
        obtain ⟨a42, h41, hm⟩ := hm
        refine zr_get (ci := 8) (C := R_ZoneNodes) (T := F_ZoneNodes) (N := 7) hx hb hts in_ZoneNodes hown hk hX rfl 3 (by decide) (hts _ tW95) rfl (zgr_v h41) d_ZoneNodes_arriveAtSecondary_60 ?_
        replace hm := zb1_s hm
        obtain ⟨_, h44, hm⟩ := hm
        replace hm := zb2_s hm
        obtain ⟨v45, X46, h43, hm⟩ := hm
        refine zr_callv (zr_runV (As := [.int v34, .int v38, .int v40, .ref a42]) (rest := []) (n := 4) hx hb hml hown hts hk hX (c_Secondary_hearTell l G N X x2 v34 v38 v40 a42 v45 X46 h43) (hts _ tW232) tW233 (hts _ tW54) (hts _ tW234) (hts _ tW235) rfl h44 (by decide +kernel) ⟨Nat.le_of_ble_eq_true rfl, Nat.le_of_ble_eq_true rfl⟩ rfl rfl hl.1 rfl (lv_room (Nat.le_of_ble_eq_true rfl)) d_ZoneNodes_arriveAtSecondary_63 ⟨(Nat.le_of_ble_eq_true rfl), (Nat.le_of_ble_eq_true rfl)⟩) hS (fun H locs hX hS => ?_)
        refine lv_goto (tgt := 107) hx hb d_ZoneNodes_arriveAtSecondary_66 rfl ?_
        cases hm
        exact W.vret hx hb hr (fun t ht hW => zh_end hk hX hS ht hW) hS.2.2 d_ZoneNodes_arriveAtSecondary_107
    · replace hm := zi_t h6 hm
      refine lv_aload_n hx hb d_ZoneNodes_arriveAtSecondary_16 rfl (lv_at hl 2 rfl) ?_
      refine lv_aload_n hx hb d_ZoneNodes_arriveAtSecondary_17 rfl (lv_at hl 1 rfl) ?_
      replace hm := zb1_s hm
      obtain ⟨v48, h47, hm⟩ := hm
      refine zr_getN (ci := 3) (C := R_Message) (T := F_Message) (N := 10) hx hb hts in_Message hown hk hX rfl 4 (by decide) rfl rfl (nF23 hk) rfl (zgi_v h47) d_ZoneNodes_arriveAtSecondary_18 ?_
      refine lv_aload_n hx hb d_ZoneNodes_arriveAtSecondary_21 rfl (lv_at hl 0 rfl) ?_
      replace hm := zb1_s hm
      obtain ⟨v50, h49, hm⟩ := hm
      refine zr_get (ci := 8) (C := R_ZoneNodes) (T := F_ZoneNodes) (N := 7) hx hb hts in_ZoneNodes hown hk hX rfl 6 (by decide) (hts _ tW219) rfl (zgi_v h49) d_ZoneNodes_arriveAtSecondary_22 ?_
      refine lv_aload_n hx hb d_ZoneNodes_arriveAtSecondary_25 rfl (lv_at hl 0 rfl) ?_
      replace hm := zb1_s hm
      obtain ⟨a52, h51, hm⟩ := hm
      refine zr_get (ci := 8) (C := R_ZoneNodes) (T := F_ZoneNodes) (N := 7) hx hb hts in_ZoneNodes hown hk hX rfl 3 (by decide) (hts _ tW95) rfl (zgr_v h51) d_ZoneNodes_arriveAtSecondary_26 ?_
      replace hm := zb1_s hm
      obtain ⟨_, h54, hm⟩ := hm
      replace hm := zb2_s hm
      obtain ⟨v55, X56, h53, hm⟩ := hm
      refine zr_callv (zr_runV (As := [.int v48, .int v50, .ref a52]) (rest := []) (n := 3) hx hb hml hown hts hk hX (c_Secondary_hearNotify l G N X x2 v48 v50 a52 v55 X56 h53) (hts _ tW236) tW237 (hts _ tW54) (hts _ tW238) (hts _ tW239) rfl h54 (by decide +kernel) ⟨Nat.le_of_ble_eq_true rfl, Nat.le_of_ble_eq_true rfl⟩ rfl rfl hl.1 rfl (lv_room (Nat.le_of_ble_eq_true rfl)) d_ZoneNodes_arriveAtSecondary_29 ⟨(Nat.le_of_ble_eq_true rfl), (Nat.le_of_ble_eq_true rfl)⟩) hS (fun H locs hX hS => ?_)
      refine lv_goto (tgt := 107) hx hb d_ZoneNodes_arriveAtSecondary_32 rfl ?_
      cases hm
      exact W.vret hx hb hr (fun t ht hW => zh_end hk hX hS ht hW) hS.2.2 d_ZoneNodes_arriveAtSecondary_107
  · replace hm := zi_t h3 hm
    cases hm
    exact W.vret hx hb hr (fun t ht hW => zh_end hk hX hS ht hW) hS.2.2 d_ZoneNodes_arriveAtSecondary_7
set_option maxHeartbeats 4000000 in
set_option maxRecDepth 100000 in
theorem c_ZoneNodes_isRecord (l : Launch) (G : zh_G) (N : Nat) (X : zh_T) (x0 : Int32) (x1 : Int32) (x2 : Int32) (r : Int32) (hm : f_ZoneNodes_isRecord N X x0 x1 x2 = some r) : zM l G y_ZoneNodes_isRecord w_ZoneNodes_isRecord 1 22 X [.int x0, .int x1, .int x2] (some (.int r)) X 0 0 := by
  refine zr_ofW (by decide) (by exact Nat.le_of_ble_eq_true rfl) ?_
  intro p e s m args below meth c ls hx hb hml hr hts hown hin hlocks hk hX hl
  have hS : va_S (zh_A G) s.heap s.heap [] := va_S.rf
  have hl : lv_has ls 3 [(0, .int x0), (1, .int x1), (2, .int x2)] := hl
  have hown : s.vm.findClass R_ZoneNodes = some m.cls := hown
  unfold f_ZoneNodes_isRecord at hm
  refine lv_iload_n hx hb d_ZoneNodes_isRecord_0 rfl (lv_at hl 0 rfl) ?_
  refine lv_iconst (v := 0) hx hb d_ZoneNodes_isRecord_1 (by decide) ?_
  refine lv_bipush (v := 7) hx hb d_ZoneNodes_isRecord_2 (by decide) ?_
  replace hm := zb1_s hm
  obtain ⟨v2, h1, hm⟩ := hm
  refine zr_calli (zr_runS (As := [.int x0, .int 0, .int 7]) (rest := []) (n := 3) hx hb hml hown hts hk hX (c_ZoneNodes_within l G N X x0 0 7 v2 h1) (hts _ tW98) tW99 (hts _ tW100) (hts _ tW101) (by decide +kernel) ⟨Nat.le_of_ble_eq_true rfl, Nat.le_of_ble_eq_true rfl⟩ rfl rfl hl.1 rfl (lv_room (Nat.le_of_ble_eq_true rfl)) d_ZoneNodes_isRecord_4 ⟨(Nat.le_of_ble_eq_true rfl), (Nat.le_of_ble_eq_true rfl)⟩) hS (fun H locs hX hS => ?_)
  refine lv_if_eq (tgt := 33) hx hb d_ZoneNodes_isRecord_7 rfl (fun h3 => ?_) (fun h3 => ?_)
  · replace hm := zi_t h3 hm
    refine lv_iconst (v := 0) hx hb d_ZoneNodes_isRecord_33 (by decide) ?_
    cases hm
    exact W.zret hx hb hr (by decide) (fun t ht hW => zh_end hk hX hS ht hW) hS.2.2 d_ZoneNodes_isRecord_34
  · replace hm := zi_f h3 hm
    refine lv_iload_n hx hb d_ZoneNodes_isRecord_10 rfl (lv_at hl 1 rfl) ?_
    refine lv_iconst (v := 1) hx hb d_ZoneNodes_isRecord_11 (by decide) ?_
    refine lv_iconst (v := 4) hx hb d_ZoneNodes_isRecord_12 (by decide) ?_
    replace hm := zb1_s hm
    obtain ⟨v5, h4, hm⟩ := hm
    refine zr_calli (zr_runS (As := [.int x1, .int 1, .int 4]) (rest := []) (n := 3) hx hb hml hown hts hk hX (c_ZoneNodes_within l G N X x1 1 4 v5 h4) (hts _ tW98) tW99 (hts _ tW100) (hts _ tW101) (by decide +kernel) ⟨Nat.le_of_ble_eq_true rfl, Nat.le_of_ble_eq_true rfl⟩ rfl rfl hl.1 rfl (lv_room (Nat.le_of_ble_eq_true rfl)) d_ZoneNodes_isRecord_13 ⟨(Nat.le_of_ble_eq_true rfl), (Nat.le_of_ble_eq_true rfl)⟩) hS (fun H locs hX hS => ?_)
    refine lv_if_eq (tgt := 33) hx hb d_ZoneNodes_isRecord_16 rfl (fun h6 => ?_) (fun h6 => ?_)
    · replace hm := zi_t h6 hm
      refine lv_iconst (v := 0) hx hb d_ZoneNodes_isRecord_33 (by decide) ?_
      cases hm
      exact W.zret hx hb hr (by decide) (fun t ht hW => zh_end hk hX hS ht hW) hS.2.2 d_ZoneNodes_isRecord_34
    · replace hm := zi_f h6 hm
      refine lv_iload_n hx hb d_ZoneNodes_isRecord_19 rfl (lv_at hl 2 rfl) ?_
      refine lv_iconst (v := 0) hx hb d_ZoneNodes_isRecord_20 (by decide) ?_
      refine lv_bipush (v := 7) hx hb d_ZoneNodes_isRecord_21 (by decide) ?_
      replace hm := zb1_s hm
      obtain ⟨v8, h7, hm⟩ := hm
      refine zr_calli (zr_runS (As := [.int x2, .int 0, .int 7]) (rest := []) (n := 3) hx hb hml hown hts hk hX (c_ZoneNodes_within l G N X x2 0 7 v8 h7) (hts _ tW98) tW99 (hts _ tW100) (hts _ tW101) (by decide +kernel) ⟨Nat.le_of_ble_eq_true rfl, Nat.le_of_ble_eq_true rfl⟩ rfl rfl hl.1 rfl (lv_room (Nat.le_of_ble_eq_true rfl)) d_ZoneNodes_isRecord_23 ⟨(Nat.le_of_ble_eq_true rfl), (Nat.le_of_ble_eq_true rfl)⟩) hS (fun H locs hX hS => ?_)
      refine lv_if_eq (tgt := 33) hx hb d_ZoneNodes_isRecord_26 rfl (fun h9 => ?_) (fun h9 => ?_)
      · replace hm := zi_t h9 hm
        refine lv_iconst (v := 0) hx hb d_ZoneNodes_isRecord_33 (by decide) ?_
        cases hm
        exact W.zret hx hb hr (by decide) (fun t ht hW => zh_end hk hX hS ht hW) hS.2.2 d_ZoneNodes_isRecord_34
      · replace hm := zi_f h9 hm
        refine lv_iconst (v := 1) hx hb d_ZoneNodes_isRecord_29 (by decide) ?_
        refine lv_goto (tgt := 34) hx hb d_ZoneNodes_isRecord_30 rfl ?_
        cases hm
        exact W.zret hx hb hr (by decide) (fun t ht hW => zh_end hk hX hS ht hW) hS.2.2 d_ZoneNodes_isRecord_34
set_option maxHeartbeats 4000000 in
set_option maxRecDepth 100000 in
theorem c_Draft_addChange (l : Launch) (G : zh_G) (N : Nat) (X : zh_T) (x0 : Nat) (x1 : Int32) (r : Int32) (X' : zh_T) (hm : f_Draft_addChange N X x0 x1 = some (r, X')) : zM l G y_Draft_addChange w_Draft_addChange 0 0 X [.ref x0, .int x1] (some (.int r)) X' 0 0 := by
  refine zr_ofW (by decide) (by exact Nat.le_of_ble_eq_true rfl) ?_
  intro p e s m args below meth c ls hx hb hml hr hts hown hin hlocks hk hX hl
  have hS : va_S (zh_A G) s.heap s.heap [] := va_S.rf
  have hl : lv_has ls 2 [(0, .ref x0), (1, .int x1)] := hl
  have hown : s.vm.findClass R_Draft = some m.cls := hown
  unfold f_Draft_addChange at hm
  refine lv_aload_n hx hb d_Draft_addChange_0 rfl (lv_at hl 0 rfl) ?_
  replace hm := zb1_s hm
  obtain ⟨v2, h1, hm⟩ := hm
  refine zr_get (ci := 0) (C := R_Draft) (T := F_Draft) (N := 4) hx hb hts in_Draft hown hk hX rfl 3 (by decide) (hts _ tW240) rfl (zgi_v h1) d_Draft_addChange_1 ?_
  refine lv_iconst (v := 4) hx hb d_Draft_addChange_4 (by decide) ?_
  refine lv_icmp_lt (tgt := 10) hx hb d_Draft_addChange_5 rfl (fun h3 => ?_) (fun h3 => ?_)
  · replace hm := zi_t h3 hm
    refine lv_aload_n hx hb d_Draft_addChange_10 rfl (lv_at hl 0 rfl) ?_
    replace hm := zb1_s hm
    obtain ⟨a5, h4, hm⟩ := hm
    refine zr_get (ci := 0) (C := R_Draft) (T := F_Draft) (N := 4) hx hb hts in_Draft hown hk hX rfl 1 (by decide) (hts _ tW5) rfl (zgr_v h4) d_Draft_addChange_11 ?_
    refine lv_aload_n hx hb d_Draft_addChange_14 rfl (lv_at hl 0 rfl) ?_
    replace hm := zb1_s hm
    obtain ⟨v7, h6, hm⟩ := hm
    refine zr_get (ci := 0) (C := R_Draft) (T := F_Draft) (N := 4) hx hb hts in_Draft hown hk hX rfl 3 (by decide) (hts _ tW240) rfl (zgi_v h6) d_Draft_addChange_15 ?_
    refine lv_iload_n hx hb d_Draft_addChange_18 rfl (lv_at hl 1 rfl) ?_
    replace hm := zb1_s hm
    obtain ⟨X8, h9, hm⟩ := hm
    refine zr_iastore hx hb hk hX hS h9 d_Draft_addChange_19 (fun H locs hX hS => ?_)
    refine lv_aload_n hx hb d_Draft_addChange_20 rfl (lv_at hl 0 rfl) ?_
    refine lv_dup hx hb d_Draft_addChange_21 rfl ?_
    replace hm := zb1_s hm
    obtain ⟨v11, h10, hm⟩ := hm
    refine zr_get (ci := 0) (C := R_Draft) (T := F_Draft) (N := 4) hx hb hts in_Draft hown hk hX rfl 3 (by decide) (hts _ tW240) rfl (zgi_v h10) d_Draft_addChange_22 ?_
    refine lv_iconst (v := 1) hx hb d_Draft_addChange_25 (by decide) ?_
    refine lv_iadd hx hb d_Draft_addChange_26 ?_
    replace hm := zb1_s hm
    obtain ⟨X12, h13, hm⟩ := hm
    refine zr_put (ci := 0) (C := R_Draft) (T := F_Draft) (N := 4) (ty := .int) (v := .int (v11 + 1)) hx hb hts in_Draft t_Draft t_Draft_ok n_Draft hown hk hX hS rfl 3 (by decide) (hts _ tW240) rfl rfl (by decide +kernel) rfl rfl h13 d_Draft_addChange_27 (fun H locs hX hS => ?_)
    refine lv_iconst (v := 1) hx hb d_Draft_addChange_30 (by decide) ?_
    cases hm
    exact W.zret hx hb hr (by decide) (fun t ht hW => zh_end hk hX hS ht hW) hS.2.2 d_Draft_addChange_31
  · replace hm := zi_f h3 hm
    refine lv_iconst (v := 0) hx hb d_Draft_addChange_8 (by decide) ?_
    cases hm
    exact W.zret hx hb hr (by decide) (fun t ht hW => zh_end hk hX hS ht hW) hS.2.2 d_Draft_addChange_9
set_option maxHeartbeats 4000000 in
set_option maxRecDepth 100000 in
theorem c_ZoneNodes_change (l : Launch) (G : zh_G) (N : Nat) (X : zh_T) (x0 : Nat) (x1 : Int32) (x2 : Int32) (x3 : Int32) (x4 : Int32) (r : Int32) (X' : zh_T) (hm : f_ZoneNodes_change N X x0 x1 x2 x3 x4 = some (r, X')) : zM l G y_ZoneNodes_change w_ZoneNodes_change 2 44 X [.ref x0, .int x1, .int x2, .int x3, .int x4] (some (.int r)) X' 0 0 := by
  refine zr_ofW (by decide) (by exact Nat.le_of_ble_eq_true rfl) ?_
  intro p e s m args below meth c ls hx hb hml hr hts hown hin hlocks hk hX hl
  have hS : va_S (zh_A G) s.heap s.heap [] := va_S.rf
  have hl : lv_has ls 5 [(0, .ref x0), (1, .int x1), (2, .int x2), (3, .int x3), (4, .int x4)] := hl
  have hown : s.vm.findClass R_ZoneNodes = some m.cls := hown
  unfold f_ZoneNodes_change at hm
  refine lv_iload_n hx hb d_ZoneNodes_change_0 rfl (lv_at hl 1 rfl) ?_
  refine lv_iconst (v := 0) hx hb d_ZoneNodes_change_1 (by decide) ?_
  refine lv_iconst (v := 3) hx hb d_ZoneNodes_change_2 (by decide) ?_
  replace hm := zb1_s hm
  obtain ⟨v2, h1, hm⟩ := hm
  refine zr_calli (zr_runS (As := [.int x1, .int 0, .int 3]) (rest := []) (n := 3) hx hb hml hown hts hk hX (c_ZoneNodes_within l G N X x1 0 3 v2 h1) (hts _ tW98) tW99 (hts _ tW100) (hts _ tW101) (by decide +kernel) ⟨Nat.le_of_ble_eq_true rfl, Nat.le_of_ble_eq_true rfl⟩ rfl rfl hl.1 rfl (lv_room (Nat.le_of_ble_eq_true rfl)) d_ZoneNodes_change_3 ⟨(Nat.le_of_ble_eq_true rfl), (Nat.le_of_ble_eq_true rfl)⟩) hS (fun H locs hX hS => ?_)
  refine lv_if_eq (tgt := 41) hx hb d_ZoneNodes_change_6 rfl (fun h3 => ?_) (fun h3 => ?_)
  · replace hm := zi_t h3 hm
    refine lv_iconst (v := 0) hx hb d_ZoneNodes_change_41 (by decide) ?_
    cases hm
    exact W.zret hx hb hr (by decide) (fun t ht hW => zh_end hk hX hS ht hW) hS.2.2 d_ZoneNodes_change_42
  · replace hm := zi_f h3 hm
    refine lv_iload_n hx hb d_ZoneNodes_change_9 rfl (lv_at hl 2 rfl) ?_
    refine lv_iload_n hx hb d_ZoneNodes_change_10 rfl (lv_at hl 3 rfl) ?_
    refine lv_iload hx hb d_ZoneNodes_change_11 (lv_at hl 4 rfl) ?_
    replace hm := zb1_s hm
    obtain ⟨v5, h4, hm⟩ := hm
    refine zr_calli (zr_runS (As := [.int x2, .int x3, .int x4]) (rest := []) (n := 3) hx hb hml hown hts hk hX (c_ZoneNodes_isRecord l G N X x2 x3 x4 v5 h4) (hts _ tW241) tW242 (hts _ tW100) (hts _ tW243) (by decide +kernel) ⟨Nat.le_of_ble_eq_true rfl, Nat.le_of_ble_eq_true rfl⟩ rfl rfl hl.1 rfl (lv_room (Nat.le_of_ble_eq_true rfl)) d_ZoneNodes_change_13 ⟨(Nat.le_of_ble_eq_true rfl), (Nat.le_of_ble_eq_true rfl)⟩) hS (fun H locs hX hS => ?_)
    refine lv_if_eq (tgt := 41) hx hb d_ZoneNodes_change_16 rfl (fun h6 => ?_) (fun h6 => ?_)
    · replace hm := zi_t h6 hm
      refine lv_iconst (v := 0) hx hb d_ZoneNodes_change_41 (by decide) ?_
      cases hm
      exact W.zret hx hb hr (by decide) (fun t ht hW => zh_end hk hX hS ht hW) hS.2.2 d_ZoneNodes_change_42
    · replace hm := zi_f h6 hm
      refine lv_aload_n hx hb d_ZoneNodes_change_19 rfl (lv_at hl 0 rfl) ?_
      replace hm := zb1_s hm
      obtain ⟨a8, h7, hm⟩ := hm
      refine zr_get (ci := 8) (C := R_ZoneNodes) (T := F_ZoneNodes) (N := 7) hx hb hts in_ZoneNodes hown hk hX rfl 2 (by decide) (hts _ tW88) rfl (zgr_v h7) d_ZoneNodes_change_20 ?_
      refine lv_iload_n hx hb d_ZoneNodes_change_23 rfl (lv_at hl 1 rfl) ?_
      refine lv_iload_n hx hb d_ZoneNodes_change_24 rfl (lv_at hl 2 rfl) ?_
      refine lv_iload_n hx hb d_ZoneNodes_change_25 rfl (lv_at hl 3 rfl) ?_
      refine lv_iload hx hb d_ZoneNodes_change_26 (lv_at hl 4 rfl) ?_
      replace hm := zb1_s hm
      obtain ⟨v10, h9, hm⟩ := hm
      refine zr_calli (zr_runS (As := [.int x1, .int x2, .int x3, .int x4]) (rest := [.ref a8]) (n := 4) hx hb hml hown hts hk hX (c_ZoneNodes_coded l G N X x1 x2 x3 x4 v10 h9) (hts _ tW244) tW123 (hts _ tW100) (hts _ tW124) (by decide +kernel) ⟨Nat.le_of_ble_eq_true rfl, Nat.le_of_ble_eq_true rfl⟩ rfl rfl hl.1 rfl (lv_room (Nat.le_of_ble_eq_true rfl)) d_ZoneNodes_change_28 ⟨(Nat.le_of_ble_eq_true rfl), (Nat.le_of_ble_eq_true rfl)⟩) hS (fun H locs hX hS => ?_)
      replace hm := zb1_s hm
      obtain ⟨_, h12, hm⟩ := hm
      replace hm := zb2_s hm
      obtain ⟨v13, X14, h11, hm⟩ := hm
      refine zr_calli (zr_runV (As := [.int v10]) (rest := []) (n := 1) hx hb hml hown hts hk hX (c_Draft_addChange l G N X a8 v10 v13 X14 h11) (hts _ tW245) tW246 (hts _ tW85) (hts _ tW247) (hts _ tW248) rfl h12 (by decide +kernel) ⟨Nat.le_of_ble_eq_true rfl, Nat.le_of_ble_eq_true rfl⟩ rfl rfl hl.1 rfl (lv_room (Nat.le_of_ble_eq_true rfl)) d_ZoneNodes_change_31 ⟨(Nat.le_of_ble_eq_true rfl), (Nat.le_of_ble_eq_true rfl)⟩) hS (fun H locs hX hS => ?_)
      refine lv_if_eq (tgt := 41) hx hb d_ZoneNodes_change_34 rfl (fun h15 => ?_) (fun h15 => ?_)
      · replace hm := zi_t h15 hm
        refine lv_iconst (v := 0) hx hb d_ZoneNodes_change_41 (by decide) ?_
        cases hm
        exact W.zret hx hb hr (by decide) (fun t ht hW => zh_end hk hX hS ht hW) hS.2.2 d_ZoneNodes_change_42
      · replace hm := zi_f h15 hm
        refine lv_iconst (v := 1) hx hb d_ZoneNodes_change_37 (by decide) ?_
        refine lv_goto (tgt := 42) hx hb d_ZoneNodes_change_38 rfl ?_
        cases hm
        exact W.zret hx hb hr (by decide) (fun t ht hW => zh_end hk hX hS ht hW) hS.2.2 d_ZoneNodes_change_42
set_option maxHeartbeats 4000000 in
set_option maxRecDepth 100000 in
theorem c_ZoneNodes_isNode (l : Launch) (G : zh_G) (N : Nat) (X : zh_T) (x0 : Int32) (r : Int32) (hm : f_ZoneNodes_isNode N X x0 = some r) : zM l G y_ZoneNodes_isNode w_ZoneNodes_isNode 1 22 X [.int x0] (some (.int r)) X 0 0 := by
  refine zr_ofW (by decide) (by exact Nat.le_of_ble_eq_true rfl) ?_
  intro p e s m args below meth c ls hx hb hml hr hts hown hin hlocks hk hX hl
  have hS : va_S (zh_A G) s.heap s.heap [] := va_S.rf
  have hl : lv_has ls 1 [(0, .int x0)] := hl
  have hown : s.vm.findClass R_ZoneNodes = some m.cls := hown
  unfold f_ZoneNodes_isNode at hm
  refine lv_iload_n hx hb d_ZoneNodes_isNode_0 rfl (lv_at hl 0 rfl) ?_
  refine lv_iconst (v := 0) hx hb d_ZoneNodes_isNode_1 (by decide) ?_
  refine lv_iconst (v := 2) hx hb d_ZoneNodes_isNode_2 (by decide) ?_
  replace hm := zb1_s hm
  obtain ⟨v2, h1, hm⟩ := hm
  refine zr_calli (zr_runS (As := [.int x0, .int 0, .int 2]) (rest := []) (n := 3) hx hb hml hown hts hk hX (c_ZoneNodes_within l G N X x0 0 2 v2 h1) (hts _ tW98) tW99 (hts _ tW100) (hts _ tW101) (by decide +kernel) ⟨Nat.le_of_ble_eq_true rfl, Nat.le_of_ble_eq_true rfl⟩ rfl rfl hl.1 rfl (lv_room (Nat.le_of_ble_eq_true rfl)) d_ZoneNodes_isNode_3 ⟨(Nat.le_of_ble_eq_true rfl), (Nat.le_of_ble_eq_true rfl)⟩) hS (fun H locs hX hS => ?_)
  replace hm := zb1_s hm
  obtain ⟨v3, h4, hm⟩ := hm
  obtain ⟨h4e, h4n⟩ := zbz_s h4
  subst h4e
  cases hm
  exact W.zret hx hb hr h4n (fun t ht hW => zh_end hk hX hS ht hW) hS.2.2 d_ZoneNodes_isNode_6
set_option maxHeartbeats 4000000 in
set_option maxRecDepth 100000 in
theorem c_ZoneNodes_isUp (l : Launch) (G : zh_G) (N : Nat) (X : zh_T) (x0 : Nat) (x1 : Int32) (r : Int32) (hm : f_ZoneNodes_isUp N X x0 x1 = some r) : zM l G y_ZoneNodes_isUp w_ZoneNodes_isUp 0 0 X [.ref x0, .int x1] (some (.int r)) X 0 0 := by
  refine zr_ofW (by decide) (by exact Nat.le_of_ble_eq_true rfl) ?_
  intro p e s m args below meth c ls hx hb hml hr hts hown hin hlocks hk hX hl
  have hS : va_S (zh_A G) s.heap s.heap [] := va_S.rf
  have hl : lv_has ls 2 [(0, .ref x0), (1, .int x1)] := hl
  have hown : s.vm.findClass R_ZoneNodes = some m.cls := hown
  unfold f_ZoneNodes_isUp at hm
  refine lv_iload_n hx hb d_ZoneNodes_isUp_0 rfl (lv_at hl 1 rfl) ?_
  refine lv_if_ne (tgt := 14) hx hb d_ZoneNodes_isUp_1 rfl (fun h1 => ?_) (fun h1 => ?_)
  · replace hm := zi_f h1 hm
    refine lv_aload_n hx hb d_ZoneNodes_isUp_14 rfl (lv_at hl 0 rfl) ?_
    replace hm := zb1_s hm
    obtain ⟨a3, h2, hm⟩ := hm
    refine zr_get (ci := 8) (C := R_ZoneNodes) (T := F_ZoneNodes) (N := 7) hx hb hts in_ZoneNodes hown hk hX rfl 5 (by decide) (hts _ tW97) rfl (zgr_v h2) d_ZoneNodes_isUp_15 ?_
    refine lv_iload_n hx hb d_ZoneNodes_isUp_18 rfl (lv_at hl 1 rfl) ?_
    refine lv_iconst (v := 1) hx hb d_ZoneNodes_isUp_19 (by decide) ?_
    refine lv_isub hx hb d_ZoneNodes_isUp_20 ?_
    replace hm := zb1_s hm
    obtain ⟨a5, h4, hm⟩ := hm
    refine zr_aaload (t := 4) (q := some a5) hx hb hk hX rfl (zar_v h4) d_ZoneNodes_isUp_21 ?_
    replace hm := zb1_s hm
    obtain ⟨v7, h6, hm⟩ := hm
    refine zr_getN (ci := 6) (C := R_Secondary) (T := F_Secondary) (N := 13) hx hb hts in_Secondary hown hk hX rfl 6 (by decide) rfl rfl (nF33 hk) rfl (zgi_v h6) d_ZoneNodes_isUp_22 ?_
    replace hm := zb1_s hm
    obtain ⟨v8, h9, hm⟩ := hm
    obtain ⟨h9e, h9n⟩ := zbz_s h9
    subst h9e
    cases hm
    exact W.zret hx hb hr h9n (fun t ht hW => zh_end hk hX hS ht hW) hS.2.2 d_ZoneNodes_isUp_25
  · replace hm := zi_t h1 hm
    refine lv_aload_n hx hb d_ZoneNodes_isUp_4 rfl (lv_at hl 0 rfl) ?_
    replace hm := zb1_s hm
    obtain ⟨a11, h10, hm⟩ := hm
    refine zr_get (ci := 8) (C := R_ZoneNodes) (T := F_ZoneNodes) (N := 7) hx hb hts in_ZoneNodes hown hk hX rfl 4 (by decide) (hts _ tW108) rfl (zgr_v h10) d_ZoneNodes_isUp_5 ?_
    replace hm := zb1_s hm
    obtain ⟨v13, h12, hm⟩ := hm
    refine zr_getN (ci := 4) (C := R_Primary) (T := F_Primary) (N := 9) hx hb hts in_Primary hown hk hX rfl 8 (by decide) rfl rfl (nF2 hk) rfl (zgi_v h12) d_ZoneNodes_isUp_8 ?_
    refine lv_goto (tgt := 25) hx hb d_ZoneNodes_isUp_11 rfl ?_
    replace hm := zb1_s hm
    obtain ⟨v14, h15, hm⟩ := hm
    obtain ⟨h15e, h15n⟩ := zbz_s h15
    subst h15e
    cases hm
    exact W.zret hx hb hr h15n (fun t ht hW => zh_end hk hX hS ht hW) hS.2.2 d_ZoneNodes_isUp_25
set_option maxHeartbeats 4000000 in
set_option maxRecDepth 100000 in
theorem c_ZoneNodes_takePrimaryDown (l : Launch) (G : zh_G) (N : Nat) (X : zh_T) (x0 : Nat) (r : Unit) (X' : zh_T) (hm : f_ZoneNodes_takePrimaryDown N X x0 = some (r, X')) : zM l G y_ZoneNodes_takePrimaryDown w_ZoneNodes_takePrimaryDown 2 45 X [.ref x0] none X' 0 0 := by
  refine zr_ofW (by decide) (by exact Nat.le_of_ble_eq_true rfl) ?_
  intro p e s m args below meth c ls hx hb hml hr hts hown hin hlocks hk hX hl
  have hS : va_S (zh_A G) s.heap s.heap [] := va_S.rf
  have hl : lv_has ls 2 [(0, .ref x0)] := hl
  have hown : s.vm.findClass R_ZoneNodes = some m.cls := hown
  unfold f_ZoneNodes_takePrimaryDown at hm
  have hL18 : ∀ (n : Nat) (X : zh_T) (w0 : Nat) (w1 : Int32) (v : Unit) (X1 : zh_T) (H : Heap) (locs : List Loc) (ls : Array Slot), L_ZoneNodes_takePrimaryDown_18 N w0 n X w1 = some (v, X1) → zh_w G X H → va_S (zh_A G) s.heap H locs → lv_has ls 2 [(0, .ref w0), (1, .int w1)] → (∀ (H : Heap) (locs : List Loc) (ls : Array Slot), zh_w G X1 H → va_S (zh_A G) s.heap H locs → lv_has ls 2 [] → W p l e { frames := 2, cells := 0, slots := 0, locals := 45 } s m args below meth c H locs 0 0 (MQ below (zh_Q G none X') args s 0 0 (zh_A G)) (F0 m 52 ls [])) → W p l e { frames := 2, cells := 0, slots := 0, locals := 45 } s m args below meth c H locs 0 0 (MQ below (zh_Q G none X') args s 0 0 (zh_A G)) (F0 m 18 ls []) := by
    intro n
    induction n with
    | zero =>
      intro X w0 w1 v X1 H locs ls hm hX hS hl hexit
      rw [L_ZoneNodes_takePrimaryDown_18] at hm
      cases hm
    | succ n ih =>
      intro X w0 w1 v X1 H locs ls hm hX hS hl hexit
      rw [L_ZoneNodes_takePrimaryDown_18] at hm
      refine lv_iload_n hx hb d_ZoneNodes_takePrimaryDown_18 rfl (lv_at hl 1 rfl) ?_
      refine lv_iconst (v := 2) hx hb d_ZoneNodes_takePrimaryDown_19 (by decide) ?_
      refine lv_icmp_ge (tgt := 52) hx hb d_ZoneNodes_takePrimaryDown_20 rfl (fun h9 => ?_) (fun h9 => ?_)
      · replace hm := zi_t h9 hm
        cases hm
        exact hexit _ _ _ hX hS (lv_sub hl [] rfl)
      · replace hm := zi_f h9 hm
        refine lv_aload_n hx hb d_ZoneNodes_takePrimaryDown_23 rfl (lv_at hl 0 rfl) ?_
        replace hm := zb1_s hm
        obtain ⟨a11, h10, hm⟩ := hm
        refine zr_get (ci := 8) (C := R_ZoneNodes) (T := F_ZoneNodes) (N := 7) hx hb hts in_ZoneNodes hown hk hX rfl 3 (by decide) (hts _ tW95) rfl (zgr_v h10) d_ZoneNodes_takePrimaryDown_24 ?_
        refine lv_iload_n hx hb d_ZoneNodes_takePrimaryDown_27 rfl (lv_at hl 1 rfl) ?_
        refine lv_iconst (v := 1) hx hb d_ZoneNodes_takePrimaryDown_28 (by decide) ?_
        refine lv_iadd hx hb d_ZoneNodes_takePrimaryDown_29 ?_
        replace hm := zb1_s hm
        obtain ⟨_, h13, hm⟩ := hm
        replace hm := zb2_s hm
        obtain ⟨v14, X15, h12, hm⟩ := hm
        refine zr_callv (zr_runV (As := [.int (w1 + 1)]) (rest := []) (n := 1) hx hb hml hown hts hk hX (c_Wire_endStreamOf l G N X a11 (w1 + 1) v14 X15 h12) (hts _ tW224) tW225 (hts _ tW91) (hts _ tW226) (hts _ tW227) rfl h13 (by decide +kernel) ⟨Nat.le_of_ble_eq_true rfl, Nat.le_of_ble_eq_true rfl⟩ rfl rfl hl.1 rfl (lv_room (Nat.le_of_ble_eq_true rfl)) d_ZoneNodes_takePrimaryDown_30 ⟨(Nat.le_of_ble_eq_true rfl), (Nat.le_of_ble_eq_true rfl)⟩) hS (fun H locs hX hS => ?_)
        refine lv_aload_n hx hb d_ZoneNodes_takePrimaryDown_33 rfl (lv_at hl 0 rfl) ?_
        replace hm := zb1_s hm
        obtain ⟨a17, h16, hm⟩ := hm
        refine zr_get (ci := 8) (C := R_ZoneNodes) (T := F_ZoneNodes) (N := 7) hx hb hts in_ZoneNodes hown hk hX rfl 5 (by decide) (hts _ tW97) rfl (zgr_v h16) d_ZoneNodes_takePrimaryDown_34 ?_
        refine lv_iload_n hx hb d_ZoneNodes_takePrimaryDown_37 rfl (lv_at hl 1 rfl) ?_
        replace hm := zb1_s hm
        obtain ⟨a19, h18, hm⟩ := hm
        refine zr_aaload (t := 4) (q := some a19) hx hb hk hX rfl (zar_v h18) d_ZoneNodes_takePrimaryDown_38 ?_
        refine lv_aload_n hx hb d_ZoneNodes_takePrimaryDown_39 rfl (lv_at hl 0 rfl) ?_
        replace hm := zb1_s hm
        obtain ⟨v21, h20, hm⟩ := hm
        refine zr_get (ci := 8) (C := R_ZoneNodes) (T := F_ZoneNodes) (N := 7) hx hb hts in_ZoneNodes hown hk hX rfl 6 (by decide) (hts _ tW219) rfl (zgi_v h20) d_ZoneNodes_takePrimaryDown_40 ?_
        replace hm := zb1_s hm
        obtain ⟨_, h23, hm⟩ := hm
        replace hm := zb2_s hm
        obtain ⟨v24, X25, h22, hm⟩ := hm
        refine zr_callv (zr_runV (As := [.int v21]) (rest := []) (n := 1) hx hb hml hown hts hk hX (c_Secondary_loseStream l G N X15 a19 v21 v24 X25 h22) (hts _ tW228) tW229 (hts _ tW54) (hts _ tW230) (hts _ tW231) rfl h23 (by decide +kernel) ⟨Nat.le_of_ble_eq_true rfl, Nat.le_of_ble_eq_true rfl⟩ rfl rfl hl.1 rfl (lv_room (Nat.le_of_ble_eq_true rfl)) d_ZoneNodes_takePrimaryDown_43 ⟨(Nat.le_of_ble_eq_true rfl), (Nat.le_of_ble_eq_true rfl)⟩) hS (fun H locs hX hS => ?_)
        refine lv_iinc (v := w1 + 1) (lv' := [(1, .int (w1 + 1)), (0, .ref w0)]) hx hb d_ZoneNodes_takePrimaryDown_46 hl (k := 1) rfl (by rw [show Int32.ofInt 1 = 1 by decide]) (by decide) rfl (fun ls hl => ?_)
        refine lv_goto (tgt := 18) hx hb d_ZoneNodes_takePrimaryDown_49 rfl ?_
        exact ih X25 w0 (w1 + 1) v X1 _ _ _ hm hX hS (lv_sub hl [1, 0] rfl) hexit
  refine lv_aload_n hx hb d_ZoneNodes_takePrimaryDown_0 rfl (lv_at hl 0 rfl) ?_
  replace hm := zb1_s hm
  obtain ⟨a2, h1, hm⟩ := hm
  refine zr_get (ci := 8) (C := R_ZoneNodes) (T := F_ZoneNodes) (N := 7) hx hb hts in_ZoneNodes hown hk hX rfl 4 (by decide) (hts _ tW108) rfl (zgr_v h1) d_ZoneNodes_takePrimaryDown_1 ?_
  refine lv_iconst (v := 0) hx hb d_ZoneNodes_takePrimaryDown_4 (by decide) ?_
  replace hm := zb1_s hm
  obtain ⟨X3, h4, hm⟩ := hm
  refine zr_putN (ci := 4) (C := R_Primary) (T := F_Primary) (N := 9) (ty := .boolean) (v := .int 0) hx hb hts in_Primary t_Primary t_Primary_ok n_Primary hown hk hX hS rfl 8 (by decide) rfl rfl (nF2 hk) rfl rfl (by decide +kernel) (zpz_n h4) (zpz_f h4) (zpz_v h4) d_ZoneNodes_takePrimaryDown_5 (fun H locs hX hS => ?_)
  refine lv_aload_n hx hb d_ZoneNodes_takePrimaryDown_8 rfl (lv_at hl 0 rfl) ?_
  replace hm := zb1_s hm
  obtain ⟨a6, h5, hm⟩ := hm
  refine zr_get (ci := 8) (C := R_ZoneNodes) (T := F_ZoneNodes) (N := 7) hx hb hts in_ZoneNodes hown hk hX rfl 4 (by decide) (hts _ tW108) rfl (zgr_v h5) d_ZoneNodes_takePrimaryDown_9 ?_
  refine lv_iconst (v := 0) hx hb d_ZoneNodes_takePrimaryDown_12 (by decide) ?_
  replace hm := zb1_s hm
  obtain ⟨X7, h8, hm⟩ := hm
  refine zr_putN (ci := 4) (C := R_Primary) (T := F_Primary) (N := 9) (ty := .int) (v := .int 0) hx hb hts in_Primary t_Primary t_Primary_ok n_Primary hown hk hX hS rfl 7 (by decide) rfl rfl (nF3 hk) rfl rfl (by decide +kernel) rfl rfl h8 d_ZoneNodes_takePrimaryDown_13 (fun H locs hX hS => ?_)
  refine lv_iconst (v := 0) hx hb d_ZoneNodes_takePrimaryDown_16 (by decide) ?_
  refine lv_istore_n (lv' := [(1, .int 0), (0, .ref x0)]) hx hb d_ZoneNodes_takePrimaryDown_17 rfl hl (by decide) rfl (fun ls hl => ?_)
  replace hm := zb2_s hm
  obtain ⟨v26, X28, h27, hm⟩ := hm
  refine hL18 N X7 x0 0 v26 X28 _ _ _ h27 hX hS (lv_sub hl [1, 0] rfl) (fun H locs ls hX hS hl => ?_)
  cases hm
  exact W.vret hx hb hr (fun t ht hW => zh_end hk hX hS ht hW) hS.2.2 d_ZoneNodes_takePrimaryDown_52
set_option maxHeartbeats 4000000 in
set_option maxRecDepth 100000 in
theorem c_ZoneNodes_crash (l : Launch) (G : zh_G) (N : Nat) (X : zh_T) (x0 : Nat) (x1 : Int32) (r : Int32) (X' : zh_T) (hm : f_ZoneNodes_crash N X x0 x1 = some (r, X')) : zM l G y_ZoneNodes_crash w_ZoneNodes_crash 3 66 X [.ref x0, .int x1] (some (.int r)) X' 0 0 := by
  refine zr_ofW (by decide) (by exact Nat.le_of_ble_eq_true rfl) ?_
  intro p e s m args below meth c ls hx hb hml hr hts hown hin hlocks hk hX hl
  have hS : va_S (zh_A G) s.heap s.heap [] := va_S.rf
  have hl : lv_has ls 2 [(0, .ref x0), (1, .int x1)] := hl
  have hown : s.vm.findClass R_ZoneNodes = some m.cls := hown
  unfold f_ZoneNodes_crash at hm
  refine lv_iload_n hx hb d_ZoneNodes_crash_0 rfl (lv_at hl 1 rfl) ?_
  replace hm := zb1_s hm
  obtain ⟨v2, h1, hm⟩ := hm
  refine zr_calli (zr_runS (As := [.int x1]) (rest := []) (n := 1) hx hb hml hown hts hk hX (c_ZoneNodes_isNode l G N X x1 v2 h1) (hts _ tW249) tW250 (hts _ tW100) (hts _ tW251) (by decide +kernel) ⟨Nat.le_of_ble_eq_true rfl, Nat.le_of_ble_eq_true rfl⟩ rfl rfl hl.1 rfl (lv_room (Nat.le_of_ble_eq_true rfl)) d_ZoneNodes_crash_1 ⟨(Nat.le_of_ble_eq_true rfl), (Nat.le_of_ble_eq_true rfl)⟩) hS (fun H locs hX hS => ?_)
  refine lv_if_eq (tgt := 15) hx hb d_ZoneNodes_crash_4 rfl (fun h3 => ?_) (fun h3 => ?_)
  · replace hm := zi_t h3 hm
    refine lv_iconst (v := 0) hx hb d_ZoneNodes_crash_15 (by decide) ?_
    cases hm
    exact W.zret hx hb hr (by decide) (fun t ht hW => zh_end hk hX hS ht hW) hS.2.2 d_ZoneNodes_crash_16
  · replace hm := zi_f h3 hm
    refine lv_aload_n hx hb d_ZoneNodes_crash_7 rfl (lv_at hl 0 rfl) ?_
    refine lv_iload_n hx hb d_ZoneNodes_crash_8 rfl (lv_at hl 1 rfl) ?_
    replace hm := zb1_s hm
    obtain ⟨_, h5, hm⟩ := hm
    replace hm := zb1_s hm
    obtain ⟨v6, h4, hm⟩ := hm
    refine zr_calli (zr_runV (As := [.int x1]) (rest := []) (n := 1) hx hb hml hown hts hk hX (c_ZoneNodes_isUp l G N X x0 x1 v6 h4) (hts _ tW252) tW253 (hts _ tW100) (hts _ tW254) (hts _ tW255) rfl h5 (by decide +kernel) ⟨Nat.le_of_ble_eq_true rfl, Nat.le_of_ble_eq_true rfl⟩ rfl rfl hl.1 rfl (lv_room (Nat.le_of_ble_eq_true rfl)) d_ZoneNodes_crash_9 ⟨(Nat.le_of_ble_eq_true rfl), (Nat.le_of_ble_eq_true rfl)⟩) hS (fun H locs hX hS => ?_)
    refine lv_if_ne (tgt := 17) hx hb d_ZoneNodes_crash_12 rfl (fun h7 => ?_) (fun h7 => ?_)
    · replace hm := zi_f h7 hm
      refine lv_iload_n hx hb d_ZoneNodes_crash_17 rfl (lv_at hl 1 rfl) ?_
      refine lv_if_ne (tgt := 28) hx hb d_ZoneNodes_crash_18 rfl (fun h8 => ?_) (fun h8 => ?_)
      · replace hm := zi_f h8 hm
        refine lv_aload_n hx hb d_ZoneNodes_crash_28 rfl (lv_at hl 0 rfl) ?_
        replace hm := zb1_s hm
        obtain ⟨a10, h9, hm⟩ := hm
        refine zr_get (ci := 8) (C := R_ZoneNodes) (T := F_ZoneNodes) (N := 7) hx hb hts in_ZoneNodes hown hk hX rfl 3 (by decide) (hts _ tW95) rfl (zgr_v h9) d_ZoneNodes_crash_29 ?_
        refine lv_iload_n hx hb d_ZoneNodes_crash_32 rfl (lv_at hl 1 rfl) ?_
        replace hm := zb1_s hm
        obtain ⟨_, h12, hm⟩ := hm
        replace hm := zb2_s hm
        obtain ⟨v13, X14, h11, hm⟩ := hm
        refine zr_callv (zr_runV (As := [.int x1]) (rest := []) (n := 1) hx hb hml hown hts hk hX (c_Wire_endStreamOf l G N X a10 x1 v13 X14 h11) (hts _ tW224) tW225 (hts _ tW91) (hts _ tW226) (hts _ tW227) rfl h12 (by decide +kernel) ⟨Nat.le_of_ble_eq_true rfl, Nat.le_of_ble_eq_true rfl⟩ rfl rfl hl.1 rfl (lv_room (Nat.le_of_ble_eq_true rfl)) d_ZoneNodes_crash_33 ⟨(Nat.le_of_ble_eq_true rfl), (Nat.le_of_ble_eq_true rfl)⟩) hS (fun H locs hX hS => ?_)
        refine lv_aload_n hx hb d_ZoneNodes_crash_36 rfl (lv_at hl 0 rfl) ?_
        replace hm := zb1_s hm
        obtain ⟨a16, h15, hm⟩ := hm
        refine zr_get (ci := 8) (C := R_ZoneNodes) (T := F_ZoneNodes) (N := 7) hx hb hts in_ZoneNodes hown hk hX rfl 5 (by decide) (hts _ tW97) rfl (zgr_v h15) d_ZoneNodes_crash_37 ?_
        refine lv_iload_n hx hb d_ZoneNodes_crash_40 rfl (lv_at hl 1 rfl) ?_
        refine lv_iconst (v := 1) hx hb d_ZoneNodes_crash_41 (by decide) ?_
        refine lv_isub hx hb d_ZoneNodes_crash_42 ?_
        replace hm := zb1_s hm
        obtain ⟨a18, h17, hm⟩ := hm
        refine zr_aaload (t := 4) (q := some a18) hx hb hk hX rfl (zar_v h17) d_ZoneNodes_crash_43 ?_
        refine lv_iconst (v := 0) hx hb d_ZoneNodes_crash_44 (by decide) ?_
        replace hm := zb1_s hm
        obtain ⟨X19, h20, hm⟩ := hm
        refine zr_putN (ci := 6) (C := R_Secondary) (T := F_Secondary) (N := 13) (ty := .boolean) (v := .int 0) hx hb hts in_Secondary t_Secondary t_Secondary_ok n_Secondary hown hk hX hS rfl 6 (by decide) rfl rfl (nF33 hk) rfl rfl (by decide +kernel) (zpz_n h20) (zpz_f h20) (zpz_v h20) d_ZoneNodes_crash_45 (fun H locs hX hS => ?_)
        refine lv_iconst (v := 1) hx hb d_ZoneNodes_crash_48 (by decide) ?_
        cases hm
        exact W.zret hx hb hr (by decide) (fun t ht hW => zh_end hk hX hS ht hW) hS.2.2 d_ZoneNodes_crash_49
      · replace hm := zi_t h8 hm
        refine lv_aload_n hx hb d_ZoneNodes_crash_21 rfl (lv_at hl 0 rfl) ?_
        replace hm := zb1_s hm
        obtain ⟨_, h22, hm⟩ := hm
        replace hm := zb2_s hm
        obtain ⟨v23, X24, h21, hm⟩ := hm
        refine zr_callv (zr_runV (As := []) (rest := []) (n := 0) hx hb hml hown hts hk hX (c_ZoneNodes_takePrimaryDown l G N X x0 v23 X24 h21) (hts _ tW256) tW257 (hts _ tW100) (hts _ tW258) (hts _ tW259) rfl h22 (by decide +kernel) ⟨Nat.le_of_ble_eq_true rfl, Nat.le_of_ble_eq_true rfl⟩ rfl rfl hl.1 rfl (lv_room (Nat.le_of_ble_eq_true rfl)) d_ZoneNodes_crash_22 ⟨(Nat.le_of_ble_eq_true rfl), (Nat.le_of_ble_eq_true rfl)⟩) hS (fun H locs hX hS => ?_)
        refine lv_goto (tgt := 48) hx hb d_ZoneNodes_crash_25 rfl ?_
        refine lv_iconst (v := 1) hx hb d_ZoneNodes_crash_48 (by decide) ?_
        cases hm
        exact W.zret hx hb hr (by decide) (fun t ht hW => zh_end hk hX hS ht hW) hS.2.2 d_ZoneNodes_crash_49
    · replace hm := zi_t h7 hm
      refine lv_iconst (v := 0) hx hb d_ZoneNodes_crash_15 (by decide) ?_
      cases hm
      exact W.zret hx hb hr (by decide) (fun t ht hW => zh_end hk hX hS ht hW) hS.2.2 d_ZoneNodes_crash_16
set_option maxHeartbeats 4000000 in
set_option maxRecDepth 100000 in
theorem c_Wire_isBehindAnotherPart (l : Launch) (G : zh_G) (N : Nat) (X : zh_T) (x0 : Nat) (x1 : Int32) (r : Int32) (hm : f_Wire_isBehindAnotherPart N X x0 x1 = some r) : zM l G y_Wire_isBehindAnotherPart w_Wire_isBehindAnotherPart 0 0 X [.ref x0, .int x1] (some (.int r)) X 0 0 := by
  refine zr_ofW (by decide) (by exact Nat.le_of_ble_eq_true rfl) ?_
  intro p e s m args below meth c ls hx hb hml hr hts hown hin hlocks hk hX hl
  have hS : va_S (zh_A G) s.heap s.heap [] := va_S.rf
  have hl : lv_has ls 3 [(0, .ref x0), (1, .int x1)] := hl
  have hown : s.vm.findClass R_Wire = some m.cls := hown
  unfold f_Wire_isBehindAnotherPart at hm
  have hL17 : ∀ (n : Nat) (X : zh_T) (w0 : Nat) (w1 : Int32) (w2 : Int32) (o : (Int32 ⊕ Unit)) (H : Heap) (locs : List Loc) (ls : Array Slot), L_Wire_isBehindAnotherPart_17 N X w0 w1 n w2 = some o → zh_w G X H → va_S (zh_A G) s.heap H locs → lv_has ls 3 [(0, .ref w0), (1, .int w1), (2, .int w2)] → (∀ r0 : Int32, o = Sum.inl r0 → r0 = r) → (∀ v : Unit, o = Sum.inr v → ∀ (H : Heap) (locs : List Loc) (ls : Array Slot), zh_w G X H → va_S (zh_A G) s.heap H locs → lv_has ls 3 [] → W p l e { frames := 0, cells := 0, slots := 0, locals := 0 } s m args below meth c H locs 0 0 (MQ below (zh_Q G (some (.int r)) X) args s 0 0 (zh_A G)) (F0 m 64 ls [])) → W p l e { frames := 0, cells := 0, slots := 0, locals := 0 } s m args below meth c H locs 0 0 (MQ below (zh_Q G (some (.int r)) X) args s 0 0 (zh_A G)) (F0 m 17 ls []) := by
    intro n
    induction n with
    | zero =>
      intro X w0 w1 w2 o H locs ls hm hX hS hl hret hexit
      rw [L_Wire_isBehindAnotherPart_17] at hm
      cases hm
    | succ n ih =>
      intro X w0 w1 w2 o H locs ls hm hX hS hl hret hexit
      rw [L_Wire_isBehindAnotherPart_17] at hm
      refine lv_iload_n hx hb d_Wire_isBehindAnotherPart_17 rfl (lv_at hl 2 rfl) ?_
      refine lv_iload_n hx hb d_Wire_isBehindAnotherPart_18 rfl (lv_at hl 1 rfl) ?_
      refine lv_icmp_ge (tgt := 64) hx hb d_Wire_isBehindAnotherPart_19 rfl (fun h8 => ?_) (fun h8 => ?_)
      · replace hm := zi_t h8 hm
        exact hexit _ (Option.some.inj hm).symm _ _ _ hX hS (lv_sub hl [] rfl)
      · replace hm := zi_f h8 hm
        refine lv_aload_n hx hb d_Wire_isBehindAnotherPart_22 rfl (lv_at hl 0 rfl) ?_
        replace hm := zb1_s hm
        obtain ⟨a10, h9, hm⟩ := hm
        refine zr_get (ci := 7) (C := R_Wire) (T := F_Wire) (N := 2) hx hb hts in_Wire hown hk hX rfl 0 (by decide) (hts _ tW74) rfl (zgr_v h9) d_Wire_isBehindAnotherPart_23 ?_
        refine lv_iload_n hx hb d_Wire_isBehindAnotherPart_26 rfl (lv_at hl 2 rfl) ?_
        replace hm := zb1_s hm
        obtain ⟨a12, h11, hm⟩ := hm
        refine zr_aaload (t := 3) (q := some a12) hx hb hk hX rfl (zar_v h11) d_Wire_isBehindAnotherPart_27 ?_
        replace hm := zb1_s hm
        obtain ⟨v14, h13, hm⟩ := hm
        refine zr_getN (ci := 3) (C := R_Message) (T := F_Message) (N := 10) hx hb hts in_Message hown hk hX rfl 1 (by decide) rfl rfl (nF9 hk) rfl (zgi_v h13) d_Wire_isBehindAnotherPart_28 ?_
        refine lv_iconst (v := 5) hx hb d_Wire_isBehindAnotherPart_31 (by decide) ?_
        refine lv_icmp_ne (tgt := 58) hx hb d_Wire_isBehindAnotherPart_32 rfl (fun h15 => ?_) (fun h15 => ?_)
        · replace hm := zi_f h15 hm
          refine lv_iinc (v := w2 + 1) (lv' := [(2, .int (w2 + 1)), (0, .ref w0), (1, .int w1)]) hx hb d_Wire_isBehindAnotherPart_58 hl (k := 2) rfl (by rw [show Int32.ofInt 1 = 1 by decide]) (by decide) rfl (fun ls hl => ?_)
          refine lv_goto (tgt := 17) hx hb d_Wire_isBehindAnotherPart_61 rfl ?_
          exact ih X w0 w1 (w2 + 1) o _ _ _ hm hX hS (lv_sub hl [1, 2, 0] rfl) hret hexit
        · replace hm := zi_t h15 hm
          refine lv_aload_n hx hb d_Wire_isBehindAnotherPart_35 rfl (lv_at hl 0 rfl) ?_
          replace hm := zb1_s hm
          obtain ⟨a17, h16, hm⟩ := hm
          refine zr_get (ci := 7) (C := R_Wire) (T := F_Wire) (N := 2) hx hb hts in_Wire hown hk hX rfl 0 (by decide) (hts _ tW74) rfl (zgr_v h16) d_Wire_isBehindAnotherPart_36 ?_
          refine lv_iload_n hx hb d_Wire_isBehindAnotherPart_39 rfl (lv_at hl 2 rfl) ?_
          replace hm := zb1_s hm
          obtain ⟨a19, h18, hm⟩ := hm
          refine zr_aaload (t := 3) (q := some a19) hx hb hk hX rfl (zar_v h18) d_Wire_isBehindAnotherPart_40 ?_
          replace hm := zb1_s hm
          obtain ⟨v21, h20, hm⟩ := hm
          refine zr_getN (ci := 3) (C := R_Message) (T := F_Message) (N := 10) hx hb hts in_Message hown hk hX rfl 2 (by decide) rfl rfl (nF10 hk) rfl (zgi_v h20) d_Wire_isBehindAnotherPart_41 ?_
          refine lv_aload_n hx hb d_Wire_isBehindAnotherPart_44 rfl (lv_at hl 0 rfl) ?_
          replace hm := zb1_s hm
          obtain ⟨a23, h22, hm⟩ := hm
          refine zr_get (ci := 7) (C := R_Wire) (T := F_Wire) (N := 2) hx hb hts in_Wire hown hk hX rfl 0 (by decide) (hts _ tW74) rfl (zgr_v h22) d_Wire_isBehindAnotherPart_45 ?_
          refine lv_iload_n hx hb d_Wire_isBehindAnotherPart_48 rfl (lv_at hl 1 rfl) ?_
          replace hm := zb1_s hm
          obtain ⟨a25, h24, hm⟩ := hm
          refine zr_aaload (t := 3) (q := some a25) hx hb hk hX rfl (zar_v h24) d_Wire_isBehindAnotherPart_49 ?_
          replace hm := zb1_s hm
          obtain ⟨v27, h26, hm⟩ := hm
          refine zr_getN (ci := 3) (C := R_Message) (T := F_Message) (N := 10) hx hb hts in_Message hown hk hX rfl 2 (by decide) rfl rfl (nF10 hk) rfl (zgi_v h26) d_Wire_isBehindAnotherPart_50 ?_
          refine lv_icmp_ne (tgt := 58) hx hb d_Wire_isBehindAnotherPart_53 rfl (fun h28 => ?_) (fun h28 => ?_)
          · replace hm := zi_f h28 hm
            refine lv_iinc (v := w2 + 1) (lv' := [(2, .int (w2 + 1)), (0, .ref w0), (1, .int w1)]) hx hb d_Wire_isBehindAnotherPart_58 hl (k := 2) rfl (by rw [show Int32.ofInt 1 = 1 by decide]) (by decide) rfl (fun ls hl => ?_)
            refine lv_goto (tgt := 17) hx hb d_Wire_isBehindAnotherPart_61 rfl ?_
            exact ih X w0 w1 (w2 + 1) o _ _ _ hm hX hS (lv_sub hl [1, 2, 0] rfl) hret hexit
          · replace hm := zi_t h28 hm
            refine lv_iconst (v := 1) hx hb d_Wire_isBehindAnotherPart_56 (by decide) ?_
            obtain rfl := hret _ (Option.some.inj hm).symm
            exact W.zret hx hb hr (by decide) (fun t ht hW => zh_end hk hX hS ht hW) hS.2.2 d_Wire_isBehindAnotherPart_57
  refine lv_aload_n hx hb d_Wire_isBehindAnotherPart_0 rfl (lv_at hl 0 rfl) ?_
  replace hm := zb1_s hm
  obtain ⟨a2, h1, hm⟩ := hm
  refine zr_get (ci := 7) (C := R_Wire) (T := F_Wire) (N := 2) hx hb hts in_Wire hown hk hX rfl 0 (by decide) (hts _ tW74) rfl (zgr_v h1) d_Wire_isBehindAnotherPart_1 ?_
  refine lv_iload_n hx hb d_Wire_isBehindAnotherPart_4 rfl (lv_at hl 1 rfl) ?_
  replace hm := zb1_s hm
  obtain ⟨a4, h3, hm⟩ := hm
  refine zr_aaload (t := 3) (q := some a4) hx hb hk hX rfl (zar_v h3) d_Wire_isBehindAnotherPart_5 ?_
  replace hm := zb1_s hm
  obtain ⟨v6, h5, hm⟩ := hm
  refine zr_getN (ci := 3) (C := R_Message) (T := F_Message) (N := 10) hx hb hts in_Message hown hk hX rfl 1 (by decide) rfl rfl (nF9 hk) rfl (zgi_v h5) d_Wire_isBehindAnotherPart_6 ?_
  refine lv_iconst (v := 5) hx hb d_Wire_isBehindAnotherPart_9 (by decide) ?_
  refine lv_icmp_eq (tgt := 15) hx hb d_Wire_isBehindAnotherPart_10 rfl (fun h7 => ?_) (fun h7 => ?_)
  · replace hm := zi_t h7 hm
    refine lv_iconst (v := 0) hx hb d_Wire_isBehindAnotherPart_15 (by decide) ?_
    refine lv_istore_n (lv' := [(2, .int 0), (0, .ref x0), (1, .int x1)]) hx hb d_Wire_isBehindAnotherPart_16 rfl hl (by decide) rfl (fun ls hl => ?_)
    replace hm := zbs_s hm
    obtain ⟨o31, h30, hm⟩ := hm
    refine hL17 N X x0 x1 0 o31 _ _ _ h30 hX hS (lv_sub hl [1, 2, 0] rfl) (fun r0 e0 => ?_) (fun v29 e0 H locs ls hX hS hl => ?_)
    · subst e0
      replace hm := zs_l hm
      exact Option.some.inj hm
    · subst e0
      replace hm := zs_r hm
      refine lv_iconst (v := 0) hx hb d_Wire_isBehindAnotherPart_64 (by decide) ?_
      cases hm
      exact W.zret hx hb hr (by decide) (fun t ht hW => zh_end hk hX hS ht hW) hS.2.2 d_Wire_isBehindAnotherPart_65
  · replace hm := zi_f h7 hm
    refine lv_iconst (v := 0) hx hb d_Wire_isBehindAnotherPart_13 (by decide) ?_
    cases hm
    exact W.zret hx hb hr (by decide) (fun t ht hW => zh_end hk hX hS ht hW) hS.2.2 d_Wire_isBehindAnotherPart_14
set_option maxHeartbeats 4000000 in
set_option maxRecDepth 100000 in
theorem c_ZoneNodes_deliver (l : Launch) (G : zh_G) (N : Nat) (X : zh_T) (x0 : Nat) (x1 : Int32) (r : Int32) (X' : zh_T) (hm : f_ZoneNodes_deliver N X x0 x1 = some (r, X')) : zM l G y_ZoneNodes_deliver w_ZoneNodes_deliver 6 132 X [.ref x0, .int x1] (some (.int r)) X' 0 0 := by
  refine zr_ofW (by decide) (by exact Nat.le_of_ble_eq_true rfl) ?_
  intro p e s m args below meth c ls hx hb hml hr hts hown hin hlocks hk hX hl
  have hS : va_S (zh_A G) s.heap s.heap [] := va_S.rf
  have hl : lv_has ls 3 [(0, .ref x0), (1, .int x1)] := hl
  have hown : s.vm.findClass R_ZoneNodes = some m.cls := hown
  unfold f_ZoneNodes_deliver at hm
  refine lv_aload_n hx hb d_ZoneNodes_deliver_0 rfl (lv_at hl 0 rfl) ?_
  replace hm := zb1_s hm
  obtain ⟨a2, h1, hm⟩ := hm
  refine zr_get (ci := 8) (C := R_ZoneNodes) (T := F_ZoneNodes) (N := 7) hx hb hts in_ZoneNodes hown hk hX rfl 3 (by decide) (hts _ tW95) rfl (zgr_v h1) d_ZoneNodes_deliver_1 ?_
  refine lv_iload_n hx hb d_ZoneNodes_deliver_4 rfl (lv_at hl 1 rfl) ?_
  replace hm := zb1_s hm
  obtain ⟨_, h4, hm⟩ := hm
  replace hm := zb1_s hm
  obtain ⟨q5, h3, hm⟩ := hm
  refine zr_callq (zr_runV (As := [.int x1]) (rest := []) (n := 1) hx hb hml hown hts hk hX (c_Wire_at l G N X a2 x1 q5 h3) (hts _ tW114) tW115 (hts _ tW91) (hts _ tW116) (hts _ tW117) rfl h4 (by decide +kernel) ⟨Nat.le_of_ble_eq_true rfl, Nat.le_of_ble_eq_true rfl⟩ rfl rfl hl.1 rfl (lv_room (Nat.le_of_ble_eq_true rfl)) d_ZoneNodes_deliver_5 ⟨(Nat.le_of_ble_eq_true rfl), (Nat.le_of_ble_eq_true rfl)⟩) hS (fun H locs hX hS => ?_)
  refine zr_astore_nq (lv' := [(2, va_rf q5), (0, .ref x0), (1, .int x1)]) hx hb d_ZoneNodes_deliver_8 rfl hl (by decide) rfl (fun ls hl => ?_)
  cases q5 with
  | none =>
    replace hm := zbo_n hm
    refine lv_aload_nN hx hb d_ZoneNodes_deliver_9 rfl (lv_at hl 0 rfl) ?_
    refine lv_ifnullN (tgt := 24) hx hb d_ZoneNodes_deliver_10 rfl ?_
    refine lv_iconst (v := 0) hx hb d_ZoneNodes_deliver_24 (by decide) ?_
    cases hm
    exact W.zret hx hb hr (by decide) (fun t ht hW => zh_end hk hX hS ht hW) hS.2.2 d_ZoneNodes_deliver_25
  | some a6 =>
    replace hm := zbo_s hm
    refine lv_aload_n hx hb d_ZoneNodes_deliver_9 rfl (lv_at hl 0 rfl) ?_
    refine lv_ifnull hx hb d_ZoneNodes_deliver_10 ?_
    refine lv_aload_n hx hb d_ZoneNodes_deliver_13 rfl (lv_at hl 1 rfl) ?_
    replace hm := zb1_s hm
    obtain ⟨a8, h7, hm⟩ := hm
    refine zr_get (ci := 8) (C := R_ZoneNodes) (T := F_ZoneNodes) (N := 7) hx hb hts in_ZoneNodes hown hk hX rfl 3 (by decide) (hts _ tW95) rfl (zgr_v h7) d_ZoneNodes_deliver_14 ?_
    refine lv_iload_n hx hb d_ZoneNodes_deliver_17 rfl (lv_at hl 2 rfl) ?_
    replace hm := zb1_s hm
    obtain ⟨_, h10, hm⟩ := hm
    replace hm := zb1_s hm
    obtain ⟨v11, h9, hm⟩ := hm
    refine zr_calli (zr_runV (As := [.int x1]) (rest := []) (n := 1) hx hb hml hown hts hk hX (c_Wire_isBehindAnotherPart l G N X a8 x1 v11 h9) (hts _ tW260) tW261 (hts _ tW91) (hts _ tW262) (hts _ tW263) rfl h10 (by decide +kernel) ⟨Nat.le_of_ble_eq_true rfl, Nat.le_of_ble_eq_true rfl⟩ rfl rfl hl.1 rfl (lv_room (Nat.le_of_ble_eq_true rfl)) d_ZoneNodes_deliver_18 ⟨(Nat.le_of_ble_eq_true rfl), (Nat.le_of_ble_eq_true rfl)⟩) hS (fun H locs hX hS => ?_)
    refine lv_if_eq (tgt := 26) hx hb d_ZoneNodes_deliver_21 rfl (fun h12 => ?_) (fun h12 => ?_)
    · replace hm := zi_t h12 hm
      refine lv_aload_n hx hb d_ZoneNodes_deliver_26 rfl (lv_at hl 1 rfl) ?_
      replace hm := zb1_s hm
      obtain ⟨a14, h13, hm⟩ := hm
      refine zr_get (ci := 8) (C := R_ZoneNodes) (T := F_ZoneNodes) (N := 7) hx hb hts in_ZoneNodes hown hk hX rfl 3 (by decide) (hts _ tW95) rfl (zgr_v h13) d_ZoneNodes_deliver_27 ?_
      refine lv_iload_n hx hb d_ZoneNodes_deliver_30 rfl (lv_at hl 2 rfl) ?_
      replace hm := zb1_s hm
      obtain ⟨_, h16, hm⟩ := hm
      replace hm := zb2_s hm
      obtain ⟨v17, X18, h15, hm⟩ := hm
      refine zr_callv (zr_runV (As := [.int x1]) (rest := []) (n := 1) hx hb hml hown hts hk hX (c_Wire_takeOut l G N X a14 x1 v17 X18 h15) (hts _ tW264) tW216 (hts _ tW91) (hts _ tW217) (hts _ tW218) rfl h16 (by decide +kernel) ⟨Nat.le_of_ble_eq_true rfl, Nat.le_of_ble_eq_true rfl⟩ rfl rfl hl.1 rfl (lv_room (Nat.le_of_ble_eq_true rfl)) d_ZoneNodes_deliver_31 ⟨(Nat.le_of_ble_eq_true rfl), (Nat.le_of_ble_eq_true rfl)⟩) hS (fun H locs hX hS => ?_)
      refine lv_aload_n hx hb d_ZoneNodes_deliver_34 rfl (lv_at hl 0 rfl) ?_
      replace hm := zb1_s hm
      obtain ⟨v20, h19, hm⟩ := hm
      refine zr_getN (ci := 3) (C := R_Message) (T := F_Message) (N := 10) hx hb hts in_Message hown hk hX rfl 1 (by decide) rfl rfl (nF0 hk) rfl (zgi_v h19) d_ZoneNodes_deliver_35 ?_
      refine lv_iconst (v := 2) hx hb d_ZoneNodes_deliver_38 (by decide) ?_
      refine lv_icmp_eq (tgt := 50) hx hb d_ZoneNodes_deliver_39 rfl (fun h21 => ?_) (fun h21 => ?_)
      · replace hm := zi_t h21 hm
        refine lv_aload_n hx hb d_ZoneNodes_deliver_50 rfl (lv_at hl 1 rfl) ?_
        refine lv_aload_n hx hb d_ZoneNodes_deliver_51 rfl (lv_at hl 0 rfl) ?_
        replace hm := zb1_s hm
        obtain ⟨_, h23, hm⟩ := hm
        replace hm := zb2_s hm
        obtain ⟨v24, X25, h22, hm⟩ := hm
        refine zr_callv (zr_runV (As := [.ref a6]) (rest := []) (n := 1) hx hb hml hown hts hk hX (c_ZoneNodes_arriveAtPrimary l G N X18 x0 a6 v24 X25 h22) (hts _ tW265) tW266 (hts _ tW100) (hts _ tW267) (hts _ tW268) rfl h23 (by decide +kernel) ⟨Nat.le_of_ble_eq_true rfl, Nat.le_of_ble_eq_true rfl⟩ rfl rfl hl.1 rfl (lv_room (Nat.le_of_ble_eq_true rfl)) d_ZoneNodes_deliver_52 ⟨(Nat.le_of_ble_eq_true rfl), (Nat.le_of_ble_eq_true rfl)⟩) hS (fun H locs hX hS => ?_)
        refine lv_goto (tgt := 74) hx hb d_ZoneNodes_deliver_55 rfl ?_
        refine lv_iconst (v := 1) hx hb d_ZoneNodes_deliver_74 (by decide) ?_
        cases hm
        exact W.zret hx hb hr (by decide) (fun t ht hW => zh_end hk hX hS ht hW) hS.2.2 d_ZoneNodes_deliver_75
      · replace hm := zi_f h21 hm
        refine lv_aload_n hx hb d_ZoneNodes_deliver_42 rfl (lv_at hl 0 rfl) ?_
        replace hm := zb1_s hm
        obtain ⟨v27, h26, hm⟩ := hm
        refine zr_getN (ci := 3) (C := R_Message) (T := F_Message) (N := 10) hx hb hts in_Message hown hk hX rfl 1 (by decide) rfl rfl (nF0 hk) rfl (zgi_v h26) d_ZoneNodes_deliver_43 ?_
        refine lv_iconst (v := 4) hx hb d_ZoneNodes_deliver_46 (by decide) ?_
        refine lv_icmp_ne (tgt := 58) hx hb d_ZoneNodes_deliver_47 rfl (fun h28 => ?_) (fun h28 => ?_)
        · replace hm := zi_f h28 hm
          refine lv_aload_n hx hb d_ZoneNodes_deliver_58 rfl (lv_at hl 1 rfl) ?_
          refine lv_aload_n hx hb d_ZoneNodes_deliver_59 rfl (lv_at hl 0 rfl) ?_
          refine lv_aload_n hx hb d_ZoneNodes_deliver_60 rfl (lv_at hl 1 rfl) ?_
          replace hm := zb1_s hm
          obtain ⟨a30, h29, hm⟩ := hm
          refine zr_get (ci := 8) (C := R_ZoneNodes) (T := F_ZoneNodes) (N := 7) hx hb hts in_ZoneNodes hown hk hX rfl 5 (by decide) (hts _ tW97) rfl (zgr_v h29) d_ZoneNodes_deliver_61 ?_
          refine lv_aload_n hx hb d_ZoneNodes_deliver_64 rfl (lv_at hl 0 rfl) ?_
          replace hm := zb1_s hm
          obtain ⟨v32, h31, hm⟩ := hm
          refine zr_getN (ci := 3) (C := R_Message) (T := F_Message) (N := 10) hx hb hts in_Message hown hk hX rfl 2 (by decide) rfl rfl (nF24 hk) rfl (zgi_v h31) d_ZoneNodes_deliver_65 ?_
          refine lv_iconst (v := 1) hx hb d_ZoneNodes_deliver_68 (by decide) ?_
          refine lv_isub hx hb d_ZoneNodes_deliver_69 ?_
          replace hm := zb1_s hm
          obtain ⟨a34, h33, hm⟩ := hm
          refine zr_aaload (t := 4) (q := some a34) hx hb hk hX rfl (zar_v h33) d_ZoneNodes_deliver_70 ?_
          replace hm := zb1_s hm
          obtain ⟨_, h36, hm⟩ := hm
          replace hm := zb2_s hm
          obtain ⟨v37, X38, h35, hm⟩ := hm
          refine zr_callv (zr_runV (As := [.ref a6, .ref a34]) (rest := []) (n := 2) hx hb hml hown hts hk hX (c_ZoneNodes_arriveAtSecondary l G N X18 x0 a6 a34 v37 X38 h35) (hts _ tW269) tW270 (hts _ tW100) (hts _ tW271) (hts _ tW272) rfl h36 (by decide +kernel) ⟨Nat.le_of_ble_eq_true rfl, Nat.le_of_ble_eq_true rfl⟩ rfl rfl hl.1 rfl (lv_room (Nat.le_of_ble_eq_true rfl)) d_ZoneNodes_deliver_71 ⟨(Nat.le_of_ble_eq_true rfl), (Nat.le_of_ble_eq_true rfl)⟩) hS (fun H locs hX hS => ?_)
          refine lv_iconst (v := 1) hx hb d_ZoneNodes_deliver_74 (by decide) ?_
          cases hm
          exact W.zret hx hb hr (by decide) (fun t ht hW => zh_end hk hX hS ht hW) hS.2.2 d_ZoneNodes_deliver_75
        · replace hm := zi_t h28 hm
          refine lv_aload_n hx hb d_ZoneNodes_deliver_50 rfl (lv_at hl 1 rfl) ?_
          refine lv_aload_n hx hb d_ZoneNodes_deliver_51 rfl (lv_at hl 0 rfl) ?_
          replace hm := zb1_s hm
          obtain ⟨_, h40, hm⟩ := hm
          replace hm := zb2_s hm
          obtain ⟨v41, X42, h39, hm⟩ := hm
          refine zr_callv (zr_runV (As := [.ref a6]) (rest := []) (n := 1) hx hb hml hown hts hk hX (c_ZoneNodes_arriveAtPrimary l G N X18 x0 a6 v41 X42 h39) (hts _ tW265) tW266 (hts _ tW100) (hts _ tW267) (hts _ tW268) rfl h40 (by decide +kernel) ⟨Nat.le_of_ble_eq_true rfl, Nat.le_of_ble_eq_true rfl⟩ rfl rfl hl.1 rfl (lv_room (Nat.le_of_ble_eq_true rfl)) d_ZoneNodes_deliver_52 ⟨(Nat.le_of_ble_eq_true rfl), (Nat.le_of_ble_eq_true rfl)⟩) hS (fun H locs hX hS => ?_)
          refine lv_goto (tgt := 74) hx hb d_ZoneNodes_deliver_55 rfl ?_
          refine lv_iconst (v := 1) hx hb d_ZoneNodes_deliver_74 (by decide) ?_
          cases hm
          exact W.zret hx hb hr (by decide) (fun t ht hW => zh_end hk hX hS ht hW) hS.2.2 d_ZoneNodes_deliver_75
    · replace hm := zi_f h12 hm
      refine lv_iconst (v := 0) hx hb d_ZoneNodes_deliver_24 (by decide) ?_
      cases hm
      exact W.zret hx hb hr (by decide) (fun t ht hW => zh_end hk hX hS ht hW) hS.2.2 d_ZoneNodes_deliver_25
set_option maxHeartbeats 4000000 in
set_option maxRecDepth 100000 in
theorem c_ZoneNodes_drop (l : Launch) (G : zh_G) (N : Nat) (X : zh_T) (x0 : Nat) (x1 : Int32) (r : Int32) (X' : zh_T) (hm : f_ZoneNodes_drop N X x0 x1 = some (r, X')) : zM l G y_ZoneNodes_drop w_ZoneNodes_drop 2 43 X [.ref x0, .int x1] (some (.int r)) X' 0 0 := by
  refine zr_ofW (by decide) (by exact Nat.le_of_ble_eq_true rfl) ?_
  intro p e s m args below meth c ls hx hb hml hr hts hown hin hlocks hk hX hl
  have hS : va_S (zh_A G) s.heap s.heap [] := va_S.rf
  have hl : lv_has ls 3 [(0, .ref x0), (1, .int x1)] := hl
  have hown : s.vm.findClass R_ZoneNodes = some m.cls := hown
  unfold f_ZoneNodes_drop at hm
  refine lv_aload_n hx hb d_ZoneNodes_drop_0 rfl (lv_at hl 0 rfl) ?_
  replace hm := zb1_s hm
  obtain ⟨a2, h1, hm⟩ := hm
  refine zr_get (ci := 8) (C := R_ZoneNodes) (T := F_ZoneNodes) (N := 7) hx hb hts in_ZoneNodes hown hk hX rfl 3 (by decide) (hts _ tW95) rfl (zgr_v h1) d_ZoneNodes_drop_1 ?_
  refine lv_iload_n hx hb d_ZoneNodes_drop_4 rfl (lv_at hl 1 rfl) ?_
  replace hm := zb1_s hm
  obtain ⟨_, h4, hm⟩ := hm
  replace hm := zb1_s hm
  obtain ⟨q5, h3, hm⟩ := hm
  refine zr_callq (zr_runV (As := [.int x1]) (rest := []) (n := 1) hx hb hml hown hts hk hX (c_Wire_at l G N X a2 x1 q5 h3) (hts _ tW114) tW115 (hts _ tW91) (hts _ tW116) (hts _ tW117) rfl h4 (by decide +kernel) ⟨Nat.le_of_ble_eq_true rfl, Nat.le_of_ble_eq_true rfl⟩ rfl rfl hl.1 rfl (lv_room (Nat.le_of_ble_eq_true rfl)) d_ZoneNodes_drop_5 ⟨(Nat.le_of_ble_eq_true rfl), (Nat.le_of_ble_eq_true rfl)⟩) hS (fun H locs hX hS => ?_)
  refine zr_astore_nq (lv' := [(2, va_rf q5), (0, .ref x0), (1, .int x1)]) hx hb d_ZoneNodes_drop_8 rfl hl (by decide) rfl (fun ls hl => ?_)
  cases q5 with
  | none =>
    replace hm := zbo_n hm
    refine lv_aload_nN hx hb d_ZoneNodes_drop_9 rfl (lv_at hl 0 rfl) ?_
    refine lv_ifnullN (tgt := 20) hx hb d_ZoneNodes_drop_10 rfl ?_
    refine lv_iconst (v := 0) hx hb d_ZoneNodes_drop_20 (by decide) ?_
    cases hm
    exact W.zret hx hb hr (by decide) (fun t ht hW => zh_end hk hX hS ht hW) hS.2.2 d_ZoneNodes_drop_21
  | some a6 =>
    replace hm := zbo_s hm
    refine lv_aload_n hx hb d_ZoneNodes_drop_9 rfl (lv_at hl 0 rfl) ?_
    refine lv_ifnull hx hb d_ZoneNodes_drop_10 ?_
    refine lv_aload_n hx hb d_ZoneNodes_drop_13 rfl (lv_at hl 0 rfl) ?_
    replace hm := zb1_s hm
    obtain ⟨_, h8, hm⟩ := hm
    replace hm := zb1_s hm
    obtain ⟨v9, h7, hm⟩ := hm
    refine zr_calli (zr_runV (As := []) (rest := []) (n := 0) hx hb hml hown hts hk hX (c_Message_isOnStream l G N X a6 v9 h7) (hts _ tW273) tW137 (hts _ tW76) (hts _ tW138) (hts _ tW139) rfl h8 (by decide +kernel) ⟨Nat.le_of_ble_eq_true rfl, Nat.le_of_ble_eq_true rfl⟩ rfl rfl hl.1 rfl (lv_room (Nat.le_of_ble_eq_true rfl)) d_ZoneNodes_drop_14 ⟨(Nat.le_of_ble_eq_true rfl), (Nat.le_of_ble_eq_true rfl)⟩) hS (fun H locs hX hS => ?_)
    refine lv_if_eq (tgt := 22) hx hb d_ZoneNodes_drop_17 rfl (fun h10 => ?_) (fun h10 => ?_)
    · replace hm := zi_t h10 hm
      refine lv_aload_n hx hb d_ZoneNodes_drop_22 rfl (lv_at hl 1 rfl) ?_
      replace hm := zb1_s hm
      obtain ⟨a12, h11, hm⟩ := hm
      refine zr_get (ci := 8) (C := R_ZoneNodes) (T := F_ZoneNodes) (N := 7) hx hb hts in_ZoneNodes hown hk hX rfl 3 (by decide) (hts _ tW95) rfl (zgr_v h11) d_ZoneNodes_drop_23 ?_
      refine lv_iload_n hx hb d_ZoneNodes_drop_26 rfl (lv_at hl 2 rfl) ?_
      replace hm := zb1_s hm
      obtain ⟨_, h14, hm⟩ := hm
      replace hm := zb2_s hm
      obtain ⟨v15, X16, h13, hm⟩ := hm
      refine zr_callv (zr_runV (As := [.int x1]) (rest := []) (n := 1) hx hb hml hown hts hk hX (c_Wire_takeOut l G N X a12 x1 v15 X16 h13) (hts _ tW264) tW216 (hts _ tW91) (hts _ tW217) (hts _ tW218) rfl h14 (by decide +kernel) ⟨Nat.le_of_ble_eq_true rfl, Nat.le_of_ble_eq_true rfl⟩ rfl rfl hl.1 rfl (lv_room (Nat.le_of_ble_eq_true rfl)) d_ZoneNodes_drop_27 ⟨(Nat.le_of_ble_eq_true rfl), (Nat.le_of_ble_eq_true rfl)⟩) hS (fun H locs hX hS => ?_)
      refine lv_iconst (v := 1) hx hb d_ZoneNodes_drop_30 (by decide) ?_
      cases hm
      exact W.zret hx hb hr (by decide) (fun t ht hW => zh_end hk hX hS ht hW) hS.2.2 d_ZoneNodes_drop_31
    · replace hm := zi_f h10 hm
      refine lv_iconst (v := 0) hx hb d_ZoneNodes_drop_20 (by decide) ?_
      cases hm
      exact W.zret hx hb hr (by decide) (fun t ht hW => zh_end hk hX hS ht hW) hS.2.2 d_ZoneNodes_drop_21
set_option maxHeartbeats 4000000 in
set_option maxRecDepth 100000 in
theorem c_ZoneNodes_recordsOf (l : Launch) (G : zh_G) (N : Nat) (X : zh_T) (x0 : Nat) (x1 : Int32) (r : Option Nat) (hm : f_ZoneNodes_recordsOf N X x0 x1 = some r) : zM l G y_ZoneNodes_recordsOf w_ZoneNodes_recordsOf 2 42 X [.ref x0, .int x1] (some (va_rf r)) X 0 0 := by
  refine zr_ofW (by decide) (by exact Nat.le_of_ble_eq_true rfl) ?_
  intro p e s m args below meth c ls hx hb hml hr hts hown hin hlocks hk hX hl
  have hS : va_S (zh_A G) s.heap s.heap [] := va_S.rf
  have hl : lv_has ls 2 [(0, .ref x0), (1, .int x1)] := hl
  have hown : s.vm.findClass R_ZoneNodes = some m.cls := hown
  unfold f_ZoneNodes_recordsOf at hm
  refine lv_iload_n hx hb d_ZoneNodes_recordsOf_0 rfl (lv_at hl 1 rfl) ?_
  refine lv_if_ne (tgt := 12) hx hb d_ZoneNodes_recordsOf_1 rfl (fun h1 => ?_) (fun h1 => ?_)
  · replace hm := zi_f h1 hm
    refine lv_iload_n hx hb d_ZoneNodes_recordsOf_12 rfl (lv_at hl 1 rfl) ?_
    replace hm := zb1_s hm
    obtain ⟨v3, h2, hm⟩ := hm
    refine zr_calli (zr_runS (As := [.int x1]) (rest := []) (n := 1) hx hb hml hown hts hk hX (c_ZoneNodes_isNode l G N X x1 v3 h2) (hts _ tW249) tW250 (hts _ tW100) (hts _ tW251) (by decide +kernel) ⟨Nat.le_of_ble_eq_true rfl, Nat.le_of_ble_eq_true rfl⟩ rfl rfl hl.1 rfl (lv_room (Nat.le_of_ble_eq_true rfl)) d_ZoneNodes_recordsOf_13 ⟨(Nat.le_of_ble_eq_true rfl), (Nat.le_of_ble_eq_true rfl)⟩) hS (fun H locs hX hS => ?_)
    refine lv_if_eq (tgt := 33) hx hb d_ZoneNodes_recordsOf_16 rfl (fun h4 => ?_) (fun h4 => ?_)
    · replace hm := zi_t h4 hm
      refine lv_null hx hb d_ZoneNodes_recordsOf_33 ?_
      cases hm
      exact W.aret hx hb hr (Or.inl ⟨_, rfl⟩) (Or.inl rfl) (fun t ht hW => zh_end hk hX hS ht hW) hS.2.2 d_ZoneNodes_recordsOf_34
    · replace hm := zi_f h4 hm
      refine lv_aload_n hx hb d_ZoneNodes_recordsOf_19 rfl (lv_at hl 0 rfl) ?_
      replace hm := zb1_s hm
      obtain ⟨a6, h5, hm⟩ := hm
      refine zr_get (ci := 8) (C := R_ZoneNodes) (T := F_ZoneNodes) (N := 7) hx hb hts in_ZoneNodes hown hk hX rfl 5 (by decide) (hts _ tW97) rfl (zgr_v h5) d_ZoneNodes_recordsOf_20 ?_
      refine lv_iload_n hx hb d_ZoneNodes_recordsOf_23 rfl (lv_at hl 1 rfl) ?_
      refine lv_iconst (v := 1) hx hb d_ZoneNodes_recordsOf_24 (by decide) ?_
      refine lv_isub hx hb d_ZoneNodes_recordsOf_25 ?_
      replace hm := zb1_s hm
      obtain ⟨a8, h7, hm⟩ := hm
      refine zr_aaload (t := 4) (q := some a8) hx hb hk hX rfl (zar_v h7) d_ZoneNodes_recordsOf_26 ?_
      replace hm := zb1_s hm
      obtain ⟨v10, h9, hm⟩ := hm
      refine zr_getN (ci := 6) (C := R_Secondary) (T := F_Secondary) (N := 13) hx hb hts in_Secondary hown hk hX rfl 7 (by decide) rfl rfl (nF35 hk) rfl (zgi_v h9) d_ZoneNodes_recordsOf_27 ?_
      refine lv_if_ne (tgt := 35) hx hb d_ZoneNodes_recordsOf_30 rfl (fun h11 => ?_) (fun h11 => ?_)
      · replace hm := zi_f h11 hm
        refine lv_aload_n hx hb d_ZoneNodes_recordsOf_35 rfl (lv_at hl 0 rfl) ?_
        replace hm := zb1_s hm
        obtain ⟨a13, h12, hm⟩ := hm
        refine zr_get (ci := 8) (C := R_ZoneNodes) (T := F_ZoneNodes) (N := 7) hx hb hts in_ZoneNodes hown hk hX rfl 5 (by decide) (hts _ tW97) rfl (zgr_v h12) d_ZoneNodes_recordsOf_36 ?_
        refine lv_iload_n hx hb d_ZoneNodes_recordsOf_39 rfl (lv_at hl 1 rfl) ?_
        refine lv_iconst (v := 1) hx hb d_ZoneNodes_recordsOf_40 (by decide) ?_
        refine lv_isub hx hb d_ZoneNodes_recordsOf_41 ?_
        replace hm := zb1_s hm
        obtain ⟨a15, h14, hm⟩ := hm
        refine zr_aaload (t := 4) (q := some a15) hx hb hk hX rfl (zar_v h14) d_ZoneNodes_recordsOf_42 ?_
        replace hm := zb1_s hm
        obtain ⟨a17, h16, hm⟩ := hm
        refine zr_getN (ci := 6) (C := R_Secondary) (T := F_Secondary) (N := 13) hx hb hts in_Secondary hown hk hX rfl 4 (by decide) rfl rfl (nF36 hk) rfl (zgr_v h16) d_ZoneNodes_recordsOf_43 ?_
        cases hm
        exact W.aret hx hb hr (Or.inl ⟨_, rfl⟩) (Or.inr ⟨_, rfl⟩) (fun t ht hW => zh_end hk hX hS ht hW) hS.2.2 d_ZoneNodes_recordsOf_46
      · replace hm := zi_t h11 hm
        refine lv_null hx hb d_ZoneNodes_recordsOf_33 ?_
        cases hm
        exact W.aret hx hb hr (Or.inl ⟨_, rfl⟩) (Or.inl rfl) (fun t ht hW => zh_end hk hX hS ht hW) hS.2.2 d_ZoneNodes_recordsOf_34
  · replace hm := zi_t h1 hm
    refine lv_aload_n hx hb d_ZoneNodes_recordsOf_4 rfl (lv_at hl 0 rfl) ?_
    replace hm := zb1_s hm
    obtain ⟨a19, h18, hm⟩ := hm
    refine zr_get (ci := 8) (C := R_ZoneNodes) (T := F_ZoneNodes) (N := 7) hx hb hts in_ZoneNodes hown hk hX rfl 4 (by decide) (hts _ tW108) rfl (zgr_v h18) d_ZoneNodes_recordsOf_5 ?_
    replace hm := zb1_s hm
    obtain ⟨a21, h20, hm⟩ := hm
    refine zr_getN (ci := 4) (C := R_Primary) (T := F_Primary) (N := 9) hx hb hts in_Primary hown hk hX rfl 0 (by decide) rfl rfl (nF37 hk) rfl (zgr_v h20) d_ZoneNodes_recordsOf_8 ?_
    cases hm
    exact W.aret hx hb hr (Or.inl ⟨_, rfl⟩) (Or.inr ⟨_, rfl⟩) (fun t ht hW => zh_end hk hX hS ht hW) hS.2.2 d_ZoneNodes_recordsOf_11
