set_option maxHeartbeats 4000000 in
set_option maxRecDepth 100000 in
theorem c_Journal_startOfWay (l : Launch) (G : zh_G) (N : Nat) (X : zh_T) (x0 : Nat) (x1 : Int32) (x2 : Int32) (r : Int32) (hm : f_Journal_startOfWay N X x0 x1 x2 = some r) : zM l G y_Journal_startOfWay w_Journal_startOfWay 1 24 X [.ref x0, .int x1, .int x2] (some (.int r)) X 0 0 := by
  refine zr_ofW (by decide) (by exact Nat.le_of_ble_eq_true rfl) ?_
  intro p e s m args below meth c ls hx hb hml hr hts hown hin hlocks hk hX hl
  have hS : va_S (zh_A G) s.heap s.heap [] := va_S.rf
  have hl : lv_has ls 4 [(0, .ref x0), (1, .int x1), (2, .int x2)] := hl
  have hown : s.vm.findClass R_Journal = some m.cls := hown
  unfold f_Journal_startOfWay at hm
  have hL2 : ∀ (n : Nat) (X : zh_T) (w0 : Nat) (w1 : Int32) (w2 : Int32) (w3 : Int32) (o : (Int32 ⊕ Unit)) (H : Heap) (locs : List Loc) (ls : Array Slot), L_Journal_startOfWay_2 N X w0 w1 w2 n w3 = some o → zh_w G X H → va_S (zh_A G) s.heap H locs → lv_has ls 4 [(0, .ref w0), (1, .int w1), (2, .int w2), (3, .int w3)] → (∀ r0 : Int32, o = Sum.inl r0 → r0 = r) → (∀ v : Unit, o = Sum.inr v → ∀ (H : Heap) (locs : List Loc) (ls : Array Slot), zh_w G X H → va_S (zh_A G) s.heap H locs → lv_has ls 4 [(0, .ref w0)] → W p l e { frames := 1, cells := 0, slots := 0, locals := 24 } s m args below meth c H locs 0 0 (MQ below (zh_Q G (some (.int r)) X) args s 0 0 (zh_A G)) (F0 m 47 ls [])) → W p l e { frames := 1, cells := 0, slots := 0, locals := 24 } s m args below meth c H locs 0 0 (MQ below (zh_Q G (some (.int r)) X) args s 0 0 (zh_A G)) (F0 m 2 ls []) := by
    intro n
    induction n with
    | zero =>
      intro X w0 w1 w2 w3 o H locs ls hm hX hS hl hret hexit
      rw [L_Journal_startOfWay_2] at hm
      cases hm
    | succ n ih =>
      intro X w0 w1 w2 w3 o H locs ls hm hX hS hl hret hexit
      rw [L_Journal_startOfWay_2] at hm
      refine lv_iload_n hx hb d_Journal_startOfWay_2 rfl (lv_at hl 3 rfl) ?_
      refine lv_aload_n hx hb d_Journal_startOfWay_3 rfl (lv_at hl 0 rfl) ?_
      replace hm := zb1_s hm
      obtain ⟨v2, h1, hm⟩ := hm
      refine zr_get (ci := 2) (C := R_Journal) (T := F_Journal) (N := 2) hx hb hts in_Journal hown hk hX rfl 1 (by decide) (hts _ tW118) rfl (zgi_v h1) d_Journal_startOfWay_4 ?_
      refine lv_icmp_ge (tgt := 47) hx hb d_Journal_startOfWay_7 rfl (fun h3 => ?_) (fun h3 => ?_)
      · replace hm := zi_t h3 hm
        exact hexit _ (Option.some.inj hm).symm _ _ _ hX hS (lv_sub hl [0] rfl)
      · replace hm := zi_f h3 hm
        refine lv_aload_n hx hb d_Journal_startOfWay_10 rfl (lv_at hl 0 rfl) ?_
        replace hm := zb1_s hm
        obtain ⟨a5, h4, hm⟩ := hm
        refine zr_get (ci := 2) (C := R_Journal) (T := F_Journal) (N := 2) hx hb hts in_Journal hown hk hX rfl 0 (by decide) (hts _ tW18) rfl (zgr_v h4) d_Journal_startOfWay_11 ?_
        refine lv_iload_n hx hb d_Journal_startOfWay_14 rfl (lv_at hl 3 rfl) ?_
        replace hm := zb1_s hm
        obtain ⟨a7, h6, hm⟩ := hm
        refine zr_aaload (t := 2) (q := some a7) hx hb hk hX rfl (zar_v h6) d_Journal_startOfWay_15 ?_
        replace hm := zb1_s hm
        obtain ⟨v9, h8, hm⟩ := hm
        refine zr_getN (ci := 1) (C := R_Entry) (T := F_Entry) (N := 4) hx hb hts in_Entry hown hk hX rfl 2 (by decide) rfl rfl (nF4 hk) rfl (zgi_v h8) d_Journal_startOfWay_16 ?_
        refine lv_iload_n hx hb d_Journal_startOfWay_19 rfl (lv_at hl 1 rfl) ?_
        refine lv_icmp_ne (tgt := 41) hx hb d_Journal_startOfWay_20 rfl (fun h10 => ?_) (fun h10 => ?_)
        · replace hm := zi_f h10 hm
          refine lv_iinc (v := w3 + 1) (lv' := [(3, .int (w3 + 1)), (0, .ref w0), (1, .int w1), (2, .int w2)]) hx hb d_Journal_startOfWay_41 hl (k := 3) rfl (by rw [show Int32.ofInt 1 = 1 by decide]) (by decide) rfl (fun ls hl => ?_)
          refine lv_goto (tgt := 2) hx hb d_Journal_startOfWay_44 rfl ?_
          exact ih X w0 w1 w2 (w3 + 1) o _ _ _ hm hX hS (lv_sub hl [1, 2, 3, 0] rfl) hret hexit
        · replace hm := zi_t h10 hm
          refine lv_aload_n hx hb d_Journal_startOfWay_23 rfl (lv_at hl 0 rfl) ?_
          refine lv_iload_n hx hb d_Journal_startOfWay_24 rfl (lv_at hl 3 rfl) ?_
          refine lv_iload_n hx hb d_Journal_startOfWay_25 rfl (lv_at hl 2 rfl) ?_
          replace hm := zb1_s hm
          obtain ⟨_, h12, hm⟩ := hm
          replace hm := zb1_s hm
          obtain ⟨v13, h11, hm⟩ := hm
          refine zr_calli (zr_runV (As := [.int w3, .int w2]) (rest := []) (n := 2) hx hb hml hown hts hk hX (c_Journal_leadsTo l G N X w0 w3 w2 v13 h11) (hts _ tW119) tW120 (hts _ tW37) (hts _ tW121) (hts _ tW122) rfl h12 (by decide +kernel) ⟨Nat.le_of_ble_eq_true rfl, Nat.le_of_ble_eq_true rfl⟩ rfl rfl hl.1 rfl (lv_room (Nat.le_of_ble_eq_true rfl)) d_Journal_startOfWay_26 ⟨(Nat.le_of_ble_eq_true rfl), (Nat.le_of_ble_eq_true rfl)⟩) hS (fun H locs hX hS => ?_)
          refine lv_if_eq (tgt := 36) hx hb d_Journal_startOfWay_29 rfl (fun h14 => ?_) (fun h14 => ?_)
          · replace hm := zi_t h14 hm
            refine lv_aload_n hx hb d_Journal_startOfWay_36 rfl (lv_at hl 0 rfl) ?_
            replace hm := zb1_s hm
            obtain ⟨v16, h15, hm⟩ := hm
            refine zr_get (ci := 2) (C := R_Journal) (T := F_Journal) (N := 2) hx hb hts in_Journal hown hk hX rfl 1 (by decide) (hts _ tW118) rfl (zgi_v h15) d_Journal_startOfWay_37 ?_
            obtain rfl := hret _ (Option.some.inj hm).symm
            exact W.iret hx hb hr (fun t ht hW => zh_end hk hX hS ht hW) hS.2.2 d_Journal_startOfWay_40
          · replace hm := zi_f h14 hm
            refine lv_iload_n hx hb d_Journal_startOfWay_32 rfl (lv_at hl 3 rfl) ?_
            refine lv_goto (tgt := 40) hx hb d_Journal_startOfWay_33 rfl ?_
            obtain rfl := hret _ (Option.some.inj hm).symm
            exact W.iret hx hb hr (fun t ht hW => zh_end hk hX hS ht hW) hS.2.2 d_Journal_startOfWay_40
  refine lv_iconst (v := 0) hx hb d_Journal_startOfWay_0 (by decide) ?_
  refine lv_istore_n (lv' := [(3, .int 0), (0, .ref x0), (1, .int x1), (2, .int x2)]) hx hb d_Journal_startOfWay_1 rfl hl (by decide) rfl (fun ls hl => ?_)
  replace hm := zbs_s hm
  obtain ⟨o21, h18, hm⟩ := hm
  refine hL2 N X x0 x1 x2 0 o21 _ _ _ h18 hX hS (lv_sub hl [1, 2, 3, 0] rfl) (fun r0 e0 => ?_) (fun v17 e0 H locs ls hX hS hl => ?_)
  · subst e0
    replace hm := zs_l hm
    exact Option.some.inj hm
  · subst e0
    replace hm := zs_r hm
    refine lv_aload_n hx hb d_Journal_startOfWay_47 rfl (lv_at hl 0 rfl) ?_
    replace hm := zb1_s hm
    obtain ⟨v20, h19, hm⟩ := hm
    refine zr_get (ci := 2) (C := R_Journal) (T := F_Journal) (N := 2) hx hb hts in_Journal hown hk hX rfl 1 (by decide) (hts _ tW118) rfl (zgi_v h19) d_Journal_startOfWay_48 ?_
    cases hm
    exact W.iret hx hb hr (fun t ht hW => zh_end hk hX hS ht hW) hS.2.2 d_Journal_startOfWay_51
set_option maxHeartbeats 4000000 in
set_option maxRecDepth 100000 in
theorem c_ZoneNodes_coded (l : Launch) (G : zh_G) (N : Nat) (X : zh_T) (x0 : Int32) (x1 : Int32) (x2 : Int32) (x3 : Int32) (r : Int32) (hm : f_ZoneNodes_coded N X x0 x1 x2 x3 = some r) : zM l G y_ZoneNodes_coded w_ZoneNodes_coded 0 0 X [.int x0, .int x1, .int x2, .int x3] (some (.int r)) X 0 0 := by
  refine zr_ofW (by decide) (by exact Nat.le_of_ble_eq_true rfl) ?_
  intro p e s m args below meth c ls hx hb hml hr hts hown hin hlocks hk hX hl
  have hS : va_S (zh_A G) s.heap s.heap [] := va_S.rf
  have hl : lv_has ls 4 [(0, .int x0), (1, .int x1), (2, .int x2), (3, .int x3)] := hl
  have hown : s.vm.findClass R_ZoneNodes = some m.cls := hown
  unfold f_ZoneNodes_coded at hm
  refine lv_sipush (v := 1000) hx hb d_ZoneNodes_coded_0 (by decide) ?_
  refine lv_iload_n hx hb d_ZoneNodes_coded_3 rfl (lv_at hl 0 rfl) ?_
  refine lv_imul hx hb d_ZoneNodes_coded_4 ?_
  refine lv_bipush (v := 100) hx hb d_ZoneNodes_coded_5 (by decide) ?_
  refine lv_iload_n hx hb d_ZoneNodes_coded_7 rfl (lv_at hl 1 rfl) ?_
  refine lv_imul hx hb d_ZoneNodes_coded_8 ?_
  refine lv_iadd hx hb d_ZoneNodes_coded_9 ?_
  refine lv_bipush (v := 10) hx hb d_ZoneNodes_coded_10 (by decide) ?_
  refine lv_iload_n hx hb d_ZoneNodes_coded_12 rfl (lv_at hl 2 rfl) ?_
  refine lv_imul hx hb d_ZoneNodes_coded_13 ?_
  refine lv_iadd hx hb d_ZoneNodes_coded_14 ?_
  refine lv_iload_n hx hb d_ZoneNodes_coded_15 rfl (lv_at hl 3 rfl) ?_
  refine lv_iadd hx hb d_ZoneNodes_coded_16 ?_
  cases hm
  exact W.iret hx hb hr (fun t ht hW => zh_end hk hX hS ht hW) hS.2.2 d_ZoneNodes_coded_17
set_option maxHeartbeats 4000000 in
set_option maxRecDepth 100000 in
theorem c_Records_listInto (l : Launch) (G : zh_G) (N : Nat) (X : zh_T) (x0 : Nat) (x1 : Nat) (x2 : Int32) (x3 : Int32) (r : Int32) (X' : zh_T) (hm : f_Records_listInto N X x0 x1 x2 x3 = some (r, X')) : zM l G y_Records_listInto w_Records_listInto 1 23 X [.ref x0, .ref x1, .int x2, .int x3] (some (.int r)) X' 0 0 := by
  refine zr_ofW (by decide) (by exact Nat.le_of_ble_eq_true rfl) ?_
  intro p e s m args below meth c ls hx hb hml hr hts hown hin hlocks hk hX hl
  have hS : va_S (zh_A G) s.heap s.heap [] := va_S.rf
  have hl : lv_has ls 7 [(0, .ref x0), (1, .ref x1), (2, .int x2), (3, .int x3)] := hl
  have hown : s.vm.findClass R_Records = some m.cls := hown
  unfold f_Records_listInto at hm
  have hL19 : ∀ (n : Nat) (X : zh_T) (w0 : Nat) (w1 : Nat) (w3 : Int32) (w5 : Int32) (w4 : Int32) (w6 : Int32) (v : Int32) (X1 : zh_T) (H : Heap) (locs : List Loc) (ls : Array Slot), L_Records_listInto_19 N w0 w1 w3 w5 n X w4 w6 = some (v, X1) → zh_w G X H → va_S (zh_A G) s.heap H locs → lv_has ls 7 [(0, .ref w0), (1, .ref w1), (3, .int w3), (4, .int w4), (5, .int w5), (6, .int w6)] → (∀ (H : Heap) (locs : List Loc) (ls : Array Slot), zh_w G X1 H → va_S (zh_A G) s.heap H locs → lv_has ls 7 [(0, .ref w0), (1, .ref w1), (3, .int w3), (4, .int v), (5, .int w5)] → W p l e { frames := 1, cells := 0, slots := 0, locals := 23 } s m args below meth c H locs 0 0 (MQ below (zh_Q G (some (.int r)) X') args s 0 0 (zh_A G)) (F0 m 78 ls [])) → W p l e { frames := 1, cells := 0, slots := 0, locals := 23 } s m args below meth c H locs 0 0 (MQ below (zh_Q G (some (.int r)) X') args s 0 0 (zh_A G)) (F0 m 19 ls []) := by
    intro n
    induction n with
    | zero =>
      intro X w0 w1 w3 w5 w4 w6 v X1 H locs ls hm hX hS hl hexit
      rw [L_Records_listInto_19] at hm
      cases hm
    | succ n ih =>
      intro X w0 w1 w3 w5 w4 w6 v X1 H locs ls hm hX hS hl hexit
      rw [L_Records_listInto_19] at hm
      refine lv_iload hx hb d_Records_listInto_19 (lv_at hl 5 rfl) ?_
      refine lv_bipush (v := 8) hx hb d_Records_listInto_21 (by decide) ?_
      refine lv_icmp_ge (tgt := 78) hx hb d_Records_listInto_23 rfl (fun h6 => ?_) (fun h6 => ?_)
      · replace hm := zi_t h6 hm
        cases hm
        exact hexit _ _ _ hX hS (lv_sub hl [0, 1, 2, 3, 4] rfl)
      · replace hm := zi_f h6 hm
        refine lv_aload_n hx hb d_Records_listInto_26 rfl (lv_at hl 0 rfl) ?_
        replace hm := zb1_s hm
        obtain ⟨a8, h7, hm⟩ := hm
        refine zr_get (ci := 5) (C := R_Records) (T := F_Records) (N := 1) hx hb hts in_Records hown hk hX rfl 0 (by decide) (hts _ tW7) rfl (zgr_v h7) d_Records_listInto_27 ?_
        refine lv_iload hx hb d_Records_listInto_30 (lv_at hl 4 rfl) ?_
        replace hm := zb1_s hm
        obtain ⟨v9, h10, hm⟩ := hm
        refine zr_iaload hx hb hk hX h10 d_Records_listInto_32 ?_
        refine lv_iload hx hb d_Records_listInto_33 (lv_at hl 5 rfl) ?_
        refine lv_ishr hx hb d_Records_listInto_35 ?_
        refine lv_iconst (v := 1) hx hb d_Records_listInto_36 (by decide) ?_
        refine lv_iand hx hb d_Records_listInto_37 ?_
        refine lv_iconst (v := 1) hx hb d_Records_listInto_38 (by decide) ?_
        refine lv_icmp_ne (tgt := 72) hx hb d_Records_listInto_39 rfl (fun h11 => ?_) (fun h11 => ?_)
        · replace hm := zi_f h11 hm
          refine lv_iinc (v := w6 + 1) (lv' := [(6, .int (w6 + 1)), (0, .ref w0), (1, .ref w1), (3, .int w3), (4, .int w4), (5, .int w5)]) hx hb d_Records_listInto_72 hl (k := 5) rfl (by rw [show Int32.ofInt 1 = 1 by decide]) (by decide) rfl (fun ls hl => ?_)
          refine lv_goto (tgt := 19) hx hb d_Records_listInto_75 rfl ?_
          exact ih X w0 w1 w3 w5 w4 (w6 + 1) v X1 _ _ _ hm hX hS (lv_sub hl [1, 2, 3, 4, 5, 0] rfl) hexit
        · replace hm := zi_t h11 hm
          refine lv_iload hx hb d_Records_listInto_42 (lv_at hl 3 rfl) ?_
          refine lv_aload_n hx hb d_Records_listInto_44 rfl (lv_at hl 1 rfl) ?_
          replace hm := zb1_s hm
          obtain ⟨v12, h13, hm⟩ := hm
          refine zr_alen (t := 0) hx hb hk hX rfl h13 d_Records_listInto_45 ?_
          refine lv_icmp_ge (tgt := 72) hx hb d_Records_listInto_46 rfl (fun h14 => ?_) (fun h14 => ?_)
          · replace hm := zi_t h14 hm
            refine lv_iinc (v := w6 + 1) (lv' := [(6, .int (w6 + 1)), (0, .ref w0), (1, .ref w1), (3, .int w3), (4, .int w4), (5, .int w5)]) hx hb d_Records_listInto_72 hl (k := 5) rfl (by rw [show Int32.ofInt 1 = 1 by decide]) (by decide) rfl (fun ls hl => ?_)
            refine lv_goto (tgt := 19) hx hb d_Records_listInto_75 rfl ?_
            exact ih X w0 w1 w3 w5 w4 (w6 + 1) v X1 _ _ _ hm hX hS (lv_sub hl [1, 2, 3, 4, 5, 0] rfl) hexit
          · replace hm := zi_f h14 hm
            refine lv_aload_n hx hb d_Records_listInto_49 rfl (lv_at hl 1 rfl) ?_
            refine lv_iload hx hb d_Records_listInto_50 (lv_at hl 3 rfl) ?_
            refine lv_iload_n hx hb d_Records_listInto_52 rfl (lv_at hl 2 rfl) ?_
            refine lv_iload hx hb d_Records_listInto_53 (lv_at hl 4 rfl) ?_
            refine lv_iconst (v := 4) hx hb d_Records_listInto_55 (by decide) ?_
            refine lv_idiv hx hb d_Records_listInto_56 (by decide) ?_
            refine lv_iload hx hb d_Records_listInto_57 (lv_at hl 4 rfl) ?_
            refine lv_iconst (v := 4) hx hb d_Records_listInto_59 (by decide) ?_
            refine lv_irem hx hb d_Records_listInto_60 (by decide) ?_
            refine lv_iconst (v := 1) hx hb d_Records_listInto_61 (by decide) ?_
            refine lv_iadd hx hb d_Records_listInto_62 ?_
            refine lv_iload hx hb d_Records_listInto_63 (lv_at hl 5 rfl) ?_
            replace hm := zb1_s hm
            obtain ⟨v16, h15, hm⟩ := hm
            refine zr_calli (zr_runSN (As := [.int w3, .int (w5 / 4), .int ((zi_rem w5 4) + 1), .int w6]) (rest := [.int w4, .ref w1]) (n := 4) hx hb hml hown hts hk hX (c_ZoneNodes_coded l G N X w3 (w5 / 4) ((zi_rem w5 4) + 1) w6 v16 h15) (nM7 hk) tW123 (hts _ tW100) (hts _ tW124) (by decide +kernel) ⟨Nat.le_of_ble_eq_true rfl, Nat.le_of_ble_eq_true rfl⟩ rfl rfl hl.1 rfl (lv_room (Nat.le_of_ble_eq_true rfl)) d_Records_listInto_65 ⟨(Nat.le_of_ble_eq_true rfl), (Nat.le_of_ble_eq_true rfl)⟩) hS (fun H locs hX hS => ?_)
            replace hm := zb1_s hm
            obtain ⟨X17, h18, hm⟩ := hm
            refine zr_iastore hx hb hk hX hS h18 d_Records_listInto_68 (fun H locs hX hS => ?_)
            refine lv_iinc (v := w4 + 1) (lv' := [(4, .int (w4 + 1)), (0, .ref w0), (1, .ref w1), (3, .int w3), (5, .int w5), (6, .int w6)]) hx hb d_Records_listInto_69 hl (k := 3) rfl (by rw [show Int32.ofInt 1 = 1 by decide]) (by decide) rfl (fun ls hl => ?_)
            refine lv_iinc (v := w6 + 1) (lv' := [(6, .int (w6 + 1)), (4, .int (w4 + 1)), (0, .ref w0), (1, .ref w1), (3, .int w3), (5, .int w5)]) hx hb d_Records_listInto_72 hl (k := 5) rfl (by rw [show Int32.ofInt 1 = 1 by decide]) (by decide) rfl (fun ls hl => ?_)
            refine lv_goto (tgt := 19) hx hb d_Records_listInto_75 rfl ?_
            exact ih X17 w0 w1 w3 w5 (w4 + 1) (w6 + 1) v X1 _ _ _ hm hX hS (lv_sub hl [2, 3, 4, 1, 5, 0] rfl) hexit
  have hL6 : ∀ (n : Nat) (X : zh_T) (w0 : Nat) (w1 : Nat) (w3 : Int32) (w4 : Int32) (w5 : Int32) (v : Int32) (X1 : zh_T) (H : Heap) (locs : List Loc) (ls : Array Slot), L_Records_listInto_6 N w0 w1 w3 n X w4 w5 = some (v, X1) → zh_w G X H → va_S (zh_A G) s.heap H locs → lv_has ls 7 [(0, .ref w0), (1, .ref w1), (3, .int w3), (4, .int w4), (5, .int w5)] → (∀ (H : Heap) (locs : List Loc) (ls : Array Slot), zh_w G X1 H → va_S (zh_A G) s.heap H locs → lv_has ls 7 [(4, .int v)] → W p l e { frames := 1, cells := 0, slots := 0, locals := 23 } s m args below meth c H locs 0 0 (MQ below (zh_Q G (some (.int r)) X') args s 0 0 (zh_A G)) (F0 m 84 ls [])) → W p l e { frames := 1, cells := 0, slots := 0, locals := 23 } s m args below meth c H locs 0 0 (MQ below (zh_Q G (some (.int r)) X') args s 0 0 (zh_A G)) (F0 m 6 ls []) := by
    intro n
    induction n with
    | zero =>
      intro X w0 w1 w3 w4 w5 v X1 H locs ls hm hX hS hl hexit
      rw [L_Records_listInto_6] at hm
      cases hm
    | succ n ih =>
      intro X w0 w1 w3 w4 w5 v X1 H locs ls hm hX hS hl hexit
      rw [L_Records_listInto_6] at hm
      refine lv_iload hx hb d_Records_listInto_6 (lv_at hl 4 rfl) ?_
      refine lv_aload_n hx hb d_Records_listInto_8 rfl (lv_at hl 0 rfl) ?_
      replace hm := zb1_s hm
      obtain ⟨a2, h1, hm⟩ := hm
      refine zr_get (ci := 5) (C := R_Records) (T := F_Records) (N := 1) hx hb hts in_Records hown hk hX rfl 0 (by decide) (hts _ tW7) rfl (zgr_v h1) d_Records_listInto_9 ?_
      replace hm := zb1_s hm
      obtain ⟨v3, h4, hm⟩ := hm
      refine zr_alen (t := 0) hx hb hk hX rfl h4 d_Records_listInto_12 ?_
      refine lv_icmp_ge (tgt := 84) hx hb d_Records_listInto_13 rfl (fun h5 => ?_) (fun h5 => ?_)
      · replace hm := zi_t h5 hm
        cases hm
        exact hexit _ _ _ hX hS (lv_sub hl [3] rfl)
      · replace hm := zi_f h5 hm
        refine lv_iconst (v := 0) hx hb d_Records_listInto_16 (by decide) ?_
        refine lv_istore (lv' := [(6, .int 0), (0, .ref w0), (1, .ref w1), (3, .int w3), (4, .int w4), (5, .int w5)]) hx hb d_Records_listInto_17 hl (by decide) rfl (fun ls hl => ?_)
        replace hm := zb2_s hm
        obtain ⟨v19, X21, h20, hm⟩ := hm
        refine hL19 N X w0 w1 w3 w5 w4 0 v19 X21 _ _ _ h20 hX hS (lv_sub hl [1, 2, 3, 4, 5, 0] rfl) (fun H locs ls hX hS hl => ?_)
        refine lv_iinc (v := w5 + 1) (lv' := [(5, .int (w5 + 1)), (0, .ref w0), (1, .ref w1), (3, .int w3), (4, .int v19)]) hx hb d_Records_listInto_78 hl (k := 4) rfl (by rw [show Int32.ofInt 1 = 1 by decide]) (by decide) rfl (fun ls hl => ?_)
        refine lv_goto (tgt := 6) hx hb d_Records_listInto_81 rfl ?_
        exact ih X21 w0 w1 w3 v19 (w5 + 1) v X1 _ _ _ hm hX hS (lv_sub hl [1, 2, 3, 4, 0] rfl) hexit
  refine lv_iload_n hx hb d_Records_listInto_0 rfl (lv_at hl 2 rfl) ?_
  refine lv_istore (lv' := [(4, .int x2), (0, .ref x0), (1, .ref x1), (2, .int x2), (3, .int x3)]) hx hb d_Records_listInto_1 hl (by decide) rfl (fun ls hl => ?_)
  refine lv_iconst (v := 0) hx hb d_Records_listInto_3 (by decide) ?_
  refine lv_istore (lv' := [(5, .int 0), (4, .int x2), (0, .ref x0), (1, .ref x1), (2, .int x2), (3, .int x3)]) hx hb d_Records_listInto_4 hl (by decide) rfl (fun ls hl => ?_)
  replace hm := zb2_s hm
  obtain ⟨v22, X24, h23, hm⟩ := hm
  refine hL6 N X x0 x1 x3 x2 0 v22 X24 _ _ _ h23 hX hS (lv_sub hl [2, 3, 5, 1, 0] rfl) (fun H locs ls hX hS hl => ?_)
  refine lv_iload hx hb d_Records_listInto_84 (lv_at hl 0 rfl) ?_
  cases hm
  exact W.iret hx hb hr (fun t ht hW => zh_end hk hX hS ht hW) hS.2.2 d_Records_listInto_86
set_option maxHeartbeats 4000000 in
set_option maxRecDepth 100000 in
theorem c_Primary_workOutItems (l : Launch) (G : zh_G) (N : Nat) (X : zh_T) (x0 : Nat) (x1 : Int32) (x2 : Int32) (r : Unit) (X' : zh_T) (hm : f_Primary_workOutItems N X x0 x1 x2 = some (r, X')) : zM l G y_Primary_workOutItems w_Primary_workOutItems 2 49 X [.ref x0, .int x1, .int x2] none X' 0 0 := by
  refine zr_ofW (by decide) (by exact Nat.le_of_ble_eq_true rfl) ?_
  intro p e s m args below meth c ls hx hb hml hr hts hown hin hlocks hk hX hl
  have hS : va_S (zh_A G) s.heap s.heap [] := va_S.rf
  have hl : lv_has ls 5 [(0, .ref x0), (1, .int x1), (2, .int x2)] := hl
  have hown : s.vm.findClass R_Primary = some m.cls := hown
  unfold f_Primary_workOutItems at hm
  have hL80 : ∀ (n : Nat) (X : zh_T) (w0 : Nat) (w4 : Int32) (v : Unit) (X1 : zh_T) (H : Heap) (locs : List Loc) (ls : Array Slot), L_Primary_workOutItems_80 N w0 n X w4 = some (v, X1) → zh_w G X H → va_S (zh_A G) s.heap H locs → lv_has ls 5 [(0, .ref w0), (4, .int w4)] → (∀ (H : Heap) (locs : List Loc) (ls : Array Slot), zh_w G X1 H → va_S (zh_A G) s.heap H locs → lv_has ls 5 [] → W p l e { frames := 2, cells := 0, slots := 0, locals := 49 } s m args below meth c H locs 0 0 (MQ below (zh_Q G none X') args s 0 0 (zh_A G)) (F0 m 156 ls [])) → W p l e { frames := 2, cells := 0, slots := 0, locals := 49 } s m args below meth c H locs 0 0 (MQ below (zh_Q G none X') args s 0 0 (zh_A G)) (F0 m 80 ls []) := by
    intro n
    induction n with
    | zero =>
      intro X w0 w4 v X1 H locs ls hm hX hS hl hexit
      rw [L_Primary_workOutItems_80] at hm
      cases hm
    | succ n ih =>
      intro X w0 w4 v X1 H locs ls hm hX hS hl hexit
      rw [L_Primary_workOutItems_80] at hm
      refine lv_iload hx hb d_Primary_workOutItems_80 (lv_at hl 1 rfl) ?_
      refine lv_aload_n hx hb d_Primary_workOutItems_82 rfl (lv_at hl 0 rfl) ?_
      replace hm := zb1_s hm
      obtain ⟨a19, h18, hm⟩ := hm
      refine zr_get (ci := 4) (C := R_Primary) (T := F_Primary) (N := 9) hx hb hts in_Primary hown hk hX rfl 2 (by decide) (hts _ tW41) rfl (zgr_v h18) d_Primary_workOutItems_83 ?_
      replace hm := zb1_s hm
      obtain ⟨v21, h20, hm⟩ := hm
      refine zr_getN (ci := 2) (C := R_Journal) (T := F_Journal) (N := 2) hx hb hts in_Journal hown hk hX rfl 1 (by decide) rfl rfl (nF5 hk) rfl (zgi_v h20) d_Primary_workOutItems_86 ?_
      refine lv_icmp_ge (tgt := 156) hx hb d_Primary_workOutItems_89 rfl (fun h22 => ?_) (fun h22 => ?_)
      · replace hm := zi_t h22 hm
        cases hm
        exact hexit _ _ _ hX hS (lv_sub hl [] rfl)
      · replace hm := zi_f h22 hm
        refine lv_aload_n hx hb d_Primary_workOutItems_92 rfl (lv_at hl 0 rfl) ?_
        refine lv_aload_n hx hb d_Primary_workOutItems_93 rfl (lv_at hl 0 rfl) ?_
        replace hm := zb1_s hm
        obtain ⟨a24, h23, hm⟩ := hm
        refine zr_get (ci := 4) (C := R_Primary) (T := F_Primary) (N := 9) hx hb hts in_Primary hown hk hX rfl 2 (by decide) (hts _ tW41) rfl (zgr_v h23) d_Primary_workOutItems_94 ?_
        replace hm := zb1_s hm
        obtain ⟨a26, h25, hm⟩ := hm
        refine zr_getN (ci := 2) (C := R_Journal) (T := F_Journal) (N := 2) hx hb hts in_Journal hown hk hX rfl 0 (by decide) rfl rfl (nF6 hk) rfl (zgr_v h25) d_Primary_workOutItems_97 ?_
        refine lv_iload hx hb d_Primary_workOutItems_100 (lv_at hl 1 rfl) ?_
        replace hm := zb1_s hm
        obtain ⟨a28, h27, hm⟩ := hm
        refine zr_aaload (t := 2) (q := some a28) hx hb hk hX rfl (zar_v h27) d_Primary_workOutItems_102 ?_
        replace hm := zb1_s hm
        obtain ⟨a30, h29, hm⟩ := hm
        refine zr_getN (ci := 1) (C := R_Entry) (T := F_Entry) (N := 4) hx hb hts in_Entry hown hk hX rfl 0 (by decide) rfl rfl (nF7 hk) rfl (zgr_v h29) d_Primary_workOutItems_103 ?_
        refine lv_aload_n hx hb d_Primary_workOutItems_106 rfl (lv_at hl 0 rfl) ?_
        replace hm := zb1_s hm
        obtain ⟨a32, h31, hm⟩ := hm
        refine zr_get (ci := 4) (C := R_Primary) (T := F_Primary) (N := 9) hx hb hts in_Primary hown hk hX rfl 3 (by decide) (hts _ tW42) rfl (zgr_v h31) d_Primary_workOutItems_107 ?_
        refine lv_aload_n hx hb d_Primary_workOutItems_110 rfl (lv_at hl 0 rfl) ?_
        replace hm := zb1_s hm
        obtain ⟨v34, h33, hm⟩ := hm
        refine zr_get (ci := 4) (C := R_Primary) (T := F_Primary) (N := 9) hx hb hts in_Primary hown hk hX rfl 4 (by decide) (hts _ tW126) rfl (zgi_v h33) d_Primary_workOutItems_111 ?_
        refine lv_iconst (v := 1) hx hb d_Primary_workOutItems_114 (by decide) ?_
        replace hm := zb1_s hm
        obtain ⟨_, h36, hm⟩ := hm
        replace hm := zb2_s hm
        obtain ⟨v37, X38, h35, hm⟩ := hm
        refine zr_calli (zr_runV (As := [.ref a32, .int v34, .int 1]) (rest := [.ref w0]) (n := 3) hx hb hml hown hts hk hX (c_Records_listInto l G N X a30 a32 v34 1 v37 X38 h35) (hts _ tW127) tW128 (hts _ tW11) (hts _ tW129) (hts _ tW130) rfl h36 (by decide +kernel) ⟨Nat.le_of_ble_eq_true rfl, Nat.le_of_ble_eq_true rfl⟩ rfl rfl hl.1 rfl (lv_room (Nat.le_of_ble_eq_true rfl)) d_Primary_workOutItems_115 ⟨(Nat.le_of_ble_eq_true rfl), (Nat.le_of_ble_eq_true rfl)⟩) hS (fun H locs hX hS => ?_)
        replace hm := zb1_s hm
        obtain ⟨X39, h40, hm⟩ := hm
        refine zr_put (ci := 4) (C := R_Primary) (T := F_Primary) (N := 9) (ty := .int) (v := .int v37) hx hb hts in_Primary t_Primary t_Primary_ok n_Primary hown hk hX hS rfl 4 (by decide) (hts _ tW126) rfl rfl (by decide +kernel) rfl rfl h40 d_Primary_workOutItems_118 (fun H locs hX hS => ?_)
        refine lv_aload_n hx hb d_Primary_workOutItems_121 rfl (lv_at hl 0 rfl) ?_
        refine lv_aload_n hx hb d_Primary_workOutItems_122 rfl (lv_at hl 0 rfl) ?_
        replace hm := zb1_s hm
        obtain ⟨a42, h41, hm⟩ := hm
        refine zr_get (ci := 4) (C := R_Primary) (T := F_Primary) (N := 9) hx hb hts in_Primary hown hk hX rfl 2 (by decide) (hts _ tW41) rfl (zgr_v h41) d_Primary_workOutItems_123 ?_
        replace hm := zb1_s hm
        obtain ⟨a44, h43, hm⟩ := hm
        refine zr_getN (ci := 2) (C := R_Journal) (T := F_Journal) (N := 2) hx hb hts in_Journal hown hk hX rfl 0 (by decide) rfl rfl (nF6 hk) rfl (zgr_v h43) d_Primary_workOutItems_126 ?_
        refine lv_iload hx hb d_Primary_workOutItems_129 (lv_at hl 1 rfl) ?_
        replace hm := zb1_s hm
        obtain ⟨a46, h45, hm⟩ := hm
        refine zr_aaload (t := 2) (q := some a46) hx hb hk hX rfl (zar_v h45) d_Primary_workOutItems_131 ?_
        replace hm := zb1_s hm
        obtain ⟨a48, h47, hm⟩ := hm
        refine zr_getN (ci := 1) (C := R_Entry) (T := F_Entry) (N := 4) hx hb hts in_Entry hown hk hX rfl 1 (by decide) rfl rfl (nF8 hk) rfl (zgr_v h47) d_Primary_workOutItems_132 ?_
        refine lv_aload_n hx hb d_Primary_workOutItems_135 rfl (lv_at hl 0 rfl) ?_
        replace hm := zb1_s hm
        obtain ⟨a50, h49, hm⟩ := hm
        refine zr_get (ci := 4) (C := R_Primary) (T := F_Primary) (N := 9) hx hb hts in_Primary hown hk hX rfl 3 (by decide) (hts _ tW42) rfl (zgr_v h49) d_Primary_workOutItems_136 ?_
        refine lv_aload_n hx hb d_Primary_workOutItems_139 rfl (lv_at hl 0 rfl) ?_
        replace hm := zb1_s hm
        obtain ⟨v52, h51, hm⟩ := hm
        refine zr_get (ci := 4) (C := R_Primary) (T := F_Primary) (N := 9) hx hb hts in_Primary hown hk hX rfl 4 (by decide) (hts _ tW126) rfl (zgi_v h51) d_Primary_workOutItems_140 ?_
        refine lv_iconst (v := 0) hx hb d_Primary_workOutItems_143 (by decide) ?_
        replace hm := zb1_s hm
        obtain ⟨_, h54, hm⟩ := hm
        replace hm := zb2_s hm
        obtain ⟨v55, X56, h53, hm⟩ := hm
        refine zr_calli (zr_runV (As := [.ref a50, .int v52, .int 0]) (rest := [.ref w0]) (n := 3) hx hb hml hown hts hk hX (c_Records_listInto l G N X39 a48 a50 v52 0 v55 X56 h53) (hts _ tW127) tW128 (hts _ tW11) (hts _ tW129) (hts _ tW130) rfl h54 (by decide +kernel) ⟨Nat.le_of_ble_eq_true rfl, Nat.le_of_ble_eq_true rfl⟩ rfl rfl hl.1 rfl (lv_room (Nat.le_of_ble_eq_true rfl)) d_Primary_workOutItems_144 ⟨(Nat.le_of_ble_eq_true rfl), (Nat.le_of_ble_eq_true rfl)⟩) hS (fun H locs hX hS => ?_)
        replace hm := zb1_s hm
        obtain ⟨X57, h58, hm⟩ := hm
        refine zr_put (ci := 4) (C := R_Primary) (T := F_Primary) (N := 9) (ty := .int) (v := .int v55) hx hb hts in_Primary t_Primary t_Primary_ok n_Primary hown hk hX hS rfl 4 (by decide) (hts _ tW126) rfl rfl (by decide +kernel) rfl rfl h58 d_Primary_workOutItems_147 (fun H locs hX hS => ?_)
        refine lv_iinc (v := w4 + 1) (lv' := [(4, .int (w4 + 1)), (0, .ref w0)]) hx hb d_Primary_workOutItems_150 hl (k := 1) rfl (by rw [show Int32.ofInt 1 = 1 by decide]) (by decide) rfl (fun ls hl => ?_)
        refine lv_goto (tgt := 80) hx hb d_Primary_workOutItems_153 rfl ?_
        exact ih X57 w0 (w4 + 1) v X1 _ _ _ hm hX hS (lv_sub hl [1, 0] rfl) hexit
  refine lv_iload_n hx hb d_Primary_workOutItems_0 rfl (lv_at hl 1 rfl) ?_
  refine lv_if_eq (tgt := 19) hx hb d_Primary_workOutItems_1 rfl (fun h1 => ?_) (fun h1 => ?_)
  · replace hm := zi_t h1 hm
    refine lv_aload_n hx hb d_Primary_workOutItems_19 rfl (lv_at hl 0 rfl) ?_
    replace hm := zb1_s hm
    obtain ⟨a3, h2, hm⟩ := hm
    refine zr_get (ci := 4) (C := R_Primary) (T := F_Primary) (N := 9) hx hb hts in_Primary hown hk hX rfl 2 (by decide) (hts _ tW41) rfl (zgr_v h2) d_Primary_workOutItems_20 ?_
    replace hm := zb1_s hm
    obtain ⟨v5, h4, hm⟩ := hm
    refine zr_getN (ci := 2) (C := R_Journal) (T := F_Journal) (N := 2) hx hb hts in_Journal hown hk hX rfl 1 (by decide) rfl rfl (nF5 hk) rfl (zgi_v h4) d_Primary_workOutItems_23 ?_
    refine lv_istore_n (lv' := [(3, .int v5), (0, .ref x0), (1, .int x1), (2, .int x2)]) hx hb d_Primary_workOutItems_26 rfl hl (by decide) rfl (fun ls hl => ?_)
    refine lv_aload_n hx hb d_Primary_workOutItems_27 rfl (lv_at hl 1 rfl) ?_
    refine lv_iload_n hx hb d_Primary_workOutItems_28 rfl (lv_at hl 0 rfl) ?_
    refine lv_aload_n hx hb d_Primary_workOutItems_29 rfl (lv_at hl 1 rfl) ?_
    replace hm := zb1_s hm
    obtain ⟨a7, h6, hm⟩ := hm
    refine zr_get (ci := 4) (C := R_Primary) (T := F_Primary) (N := 9) hx hb hts in_Primary hown hk hX rfl 2 (by decide) (hts _ tW41) rfl (zgr_v h6) d_Primary_workOutItems_30 ?_
    replace hm := zb1_s hm
    obtain ⟨v9, h8, hm⟩ := hm
    refine zr_getN (ci := 2) (C := R_Journal) (T := F_Journal) (N := 2) hx hb hts in_Journal hown hk hX rfl 1 (by decide) rfl rfl (nF5 hk) rfl (zgi_v h8) d_Primary_workOutItems_33 ?_
    refine lv_icmp_lt (tgt := 43) hx hb d_Primary_workOutItems_36 rfl (fun h10 => ?_) (fun h10 => ?_)
    · replace hm := zi_t h10 hm
      refine lv_iconst (v := 0) hx hb d_Primary_workOutItems_43 (by decide) ?_
      replace hm := zb1_s hm
      obtain ⟨X11, h12, hm⟩ := hm
      refine zr_put (ci := 4) (C := R_Primary) (T := F_Primary) (N := 9) (ty := .boolean) (v := .int 0) hx hb hts in_Primary t_Primary t_Primary_ok n_Primary hown hk hX hS rfl 5 (by decide) (hts _ tW125) rfl rfl (by decide +kernel) (zpz_n h12) (zpz_f h12) (zpz_v h12) d_Primary_workOutItems_44 (fun H locs hX hS => ?_)
      refine lv_aload_n hx hb d_Primary_workOutItems_47 rfl (lv_at hl 1 rfl) ?_
      refine lv_iconst (v := 0) hx hb d_Primary_workOutItems_48 (by decide) ?_
      replace hm := zb1_s hm
      obtain ⟨X13, h14, hm⟩ := hm
      refine zr_put (ci := 4) (C := R_Primary) (T := F_Primary) (N := 9) (ty := .int) (v := .int 0) hx hb hts in_Primary t_Primary t_Primary_ok n_Primary hown hk hX hS rfl 4 (by decide) (hts _ tW126) rfl rfl (by decide +kernel) rfl rfl h14 d_Primary_workOutItems_49 (fun H locs hX hS => ?_)
      refine lv_aload_n hx hb d_Primary_workOutItems_52 rfl (lv_at hl 1 rfl) ?_
      replace hm := zb1_s hm
      obtain ⟨v16, h15, hm⟩ := hm
      refine zr_get (ci := 4) (C := R_Primary) (T := F_Primary) (N := 9) hx hb hts in_Primary hown hk hX rfl 5 (by decide) (hts _ tW125) rfl (zgi_v h15) d_Primary_workOutItems_53 ?_
      refine lv_if_eq (tgt := 77) hx hb d_Primary_workOutItems_56 rfl (fun h17 => ?_) (fun h17 => ?_)
      · replace hm := zi_t h17 hm
        refine lv_iload_n hx hb d_Primary_workOutItems_77 rfl (lv_at hl 0 rfl) ?_
        refine lv_istore (lv' := [(4, .int v5), (3, .int v5), (0, .ref x0), (1, .int x1), (2, .int x2)]) hx hb d_Primary_workOutItems_78 hl (by decide) rfl (fun ls hl => ?_)
        replace hm := zb2_s hm
        obtain ⟨v59, X61, h60, hm⟩ := hm
        refine hL80 N X13 x0 v5 v59 X61 _ _ _ h60 hX hS (lv_sub hl [2, 0] rfl) (fun H locs ls hX hS hl => ?_)
        cases hm
        exact W.vret hx hb hr (fun t ht hW => zh_end hk hX hS ht hW) hS.2.2 d_Primary_workOutItems_156
      · replace hm := zi_f h17 hm
        refine lv_aload_n hx hb d_Primary_workOutItems_59 rfl (lv_at hl 1 rfl) ?_
        refine lv_aload_n hx hb d_Primary_workOutItems_60 rfl (lv_at hl 1 rfl) ?_
        replace hm := zb1_s hm
        obtain ⟨a63, h62, hm⟩ := hm
        refine zr_get (ci := 4) (C := R_Primary) (T := F_Primary) (N := 9) hx hb hts in_Primary hown hk hX rfl 0 (by decide) (hts _ tW33) rfl (zgr_v h62) d_Primary_workOutItems_61 ?_
        refine lv_aload_n hx hb d_Primary_workOutItems_64 rfl (lv_at hl 1 rfl) ?_
        replace hm := zb1_s hm
        obtain ⟨a65, h64, hm⟩ := hm
        refine zr_get (ci := 4) (C := R_Primary) (T := F_Primary) (N := 9) hx hb hts in_Primary hown hk hX rfl 3 (by decide) (hts _ tW42) rfl (zgr_v h64) d_Primary_workOutItems_65 ?_
        refine lv_iconst (v := 0) hx hb d_Primary_workOutItems_68 (by decide) ?_
        refine lv_iconst (v := 0) hx hb d_Primary_workOutItems_69 (by decide) ?_
        replace hm := zb1_s hm
        obtain ⟨_, h67, hm⟩ := hm
        replace hm := zb2_s hm
        obtain ⟨v68, X69, h66, hm⟩ := hm
        refine zr_calli (zr_runV (As := [.ref a65, .int 0, .int 0]) (rest := [.ref x0]) (n := 3) hx hb hml hown hts hk hX (c_Records_listInto l G N X13 a63 a65 0 0 v68 X69 h66) (hts _ tW127) tW128 (hts _ tW11) (hts _ tW129) (hts _ tW130) rfl h67 (by decide +kernel) ⟨Nat.le_of_ble_eq_true rfl, Nat.le_of_ble_eq_true rfl⟩ rfl rfl hl.1 rfl (lv_room (Nat.le_of_ble_eq_true rfl)) d_Primary_workOutItems_70 ⟨(Nat.le_of_ble_eq_true rfl), (Nat.le_of_ble_eq_true rfl)⟩) hS (fun H locs hX hS => ?_)
        replace hm := zb1_s hm
        obtain ⟨X70, h71, hm⟩ := hm
        refine zr_put (ci := 4) (C := R_Primary) (T := F_Primary) (N := 9) (ty := .int) (v := .int v68) hx hb hts in_Primary t_Primary t_Primary_ok n_Primary hown hk hX hS rfl 4 (by decide) (hts _ tW126) rfl rfl (by decide +kernel) rfl rfl h71 d_Primary_workOutItems_73 (fun H locs hX hS => ?_)
        cases hm
        exact W.vret hx hb hr (fun t ht hW => zh_end hk hX hS ht hW) hS.2.2 d_Primary_workOutItems_76
    · replace hm := zi_f h10 hm
      refine lv_iconst (v := 1) hx hb d_Primary_workOutItems_39 (by decide) ?_
      refine lv_goto (tgt := 44) hx hb d_Primary_workOutItems_40 rfl ?_
      replace hm := zb1_s hm
      obtain ⟨X72, h73, hm⟩ := hm
      refine zr_put (ci := 4) (C := R_Primary) (T := F_Primary) (N := 9) (ty := .boolean) (v := .int 1) hx hb hts in_Primary t_Primary t_Primary_ok n_Primary hown hk hX hS rfl 5 (by decide) (hts _ tW125) rfl rfl (by decide +kernel) (zpz_n h73) (zpz_f h73) (zpz_v h73) d_Primary_workOutItems_44 (fun H locs hX hS => ?_)
      refine lv_aload_n hx hb d_Primary_workOutItems_47 rfl (lv_at hl 1 rfl) ?_
      refine lv_iconst (v := 0) hx hb d_Primary_workOutItems_48 (by decide) ?_
      replace hm := zb1_s hm
      obtain ⟨X74, h75, hm⟩ := hm
      refine zr_put (ci := 4) (C := R_Primary) (T := F_Primary) (N := 9) (ty := .int) (v := .int 0) hx hb hts in_Primary t_Primary t_Primary_ok n_Primary hown hk hX hS rfl 4 (by decide) (hts _ tW126) rfl rfl (by decide +kernel) rfl rfl h75 d_Primary_workOutItems_49 (fun H locs hX hS => ?_)
      refine lv_aload_n hx hb d_Primary_workOutItems_52 rfl (lv_at hl 1 rfl) ?_
      replace hm := zb1_s hm
      obtain ⟨v77, h76, hm⟩ := hm
      refine zr_get (ci := 4) (C := R_Primary) (T := F_Primary) (N := 9) hx hb hts in_Primary hown hk hX rfl 5 (by decide) (hts _ tW125) rfl (zgi_v h76) d_Primary_workOutItems_53 ?_
      refine lv_if_eq (tgt := 77) hx hb d_Primary_workOutItems_56 rfl (fun h78 => ?_) (fun h78 => ?_)
      · replace hm := zi_t h78 hm
        refine lv_iload_n hx hb d_Primary_workOutItems_77 rfl (lv_at hl 0 rfl) ?_
        refine lv_istore (lv' := [(4, .int v5), (3, .int v5), (0, .ref x0), (1, .int x1), (2, .int x2)]) hx hb d_Primary_workOutItems_78 hl (by decide) rfl (fun ls hl => ?_)
        replace hm := zb2_s hm
        obtain ⟨v79, X81, h80, hm⟩ := hm
        refine hL80 N X74 x0 v5 v79 X81 _ _ _ h80 hX hS (lv_sub hl [2, 0] rfl) (fun H locs ls hX hS hl => ?_)
        cases hm
        exact W.vret hx hb hr (fun t ht hW => zh_end hk hX hS ht hW) hS.2.2 d_Primary_workOutItems_156
      · replace hm := zi_f h78 hm
        refine lv_aload_n hx hb d_Primary_workOutItems_59 rfl (lv_at hl 1 rfl) ?_
        refine lv_aload_n hx hb d_Primary_workOutItems_60 rfl (lv_at hl 1 rfl) ?_
        replace hm := zb1_s hm
        obtain ⟨a83, h82, hm⟩ := hm
        refine zr_get (ci := 4) (C := R_Primary) (T := F_Primary) (N := 9) hx hb hts in_Primary hown hk hX rfl 0 (by decide) (hts _ tW33) rfl (zgr_v h82) d_Primary_workOutItems_61 ?_
        refine lv_aload_n hx hb d_Primary_workOutItems_64 rfl (lv_at hl 1 rfl) ?_
        replace hm := zb1_s hm
        obtain ⟨a85, h84, hm⟩ := hm
        refine zr_get (ci := 4) (C := R_Primary) (T := F_Primary) (N := 9) hx hb hts in_Primary hown hk hX rfl 3 (by decide) (hts _ tW42) rfl (zgr_v h84) d_Primary_workOutItems_65 ?_
        refine lv_iconst (v := 0) hx hb d_Primary_workOutItems_68 (by decide) ?_
        refine lv_iconst (v := 0) hx hb d_Primary_workOutItems_69 (by decide) ?_
        replace hm := zb1_s hm
        obtain ⟨_, h87, hm⟩ := hm
        replace hm := zb2_s hm
        obtain ⟨v88, X89, h86, hm⟩ := hm
        refine zr_calli (zr_runV (As := [.ref a85, .int 0, .int 0]) (rest := [.ref x0]) (n := 3) hx hb hml hown hts hk hX (c_Records_listInto l G N X74 a83 a85 0 0 v88 X89 h86) (hts _ tW127) tW128 (hts _ tW11) (hts _ tW129) (hts _ tW130) rfl h87 (by decide +kernel) ⟨Nat.le_of_ble_eq_true rfl, Nat.le_of_ble_eq_true rfl⟩ rfl rfl hl.1 rfl (lv_room (Nat.le_of_ble_eq_true rfl)) d_Primary_workOutItems_70 ⟨(Nat.le_of_ble_eq_true rfl), (Nat.le_of_ble_eq_true rfl)⟩) hS (fun H locs hX hS => ?_)
        replace hm := zb1_s hm
        obtain ⟨X90, h91, hm⟩ := hm
        refine zr_put (ci := 4) (C := R_Primary) (T := F_Primary) (N := 9) (ty := .int) (v := .int v88) hx hb hts in_Primary t_Primary t_Primary_ok n_Primary hown hk hX hS rfl 4 (by decide) (hts _ tW126) rfl rfl (by decide +kernel) rfl rfl h91 d_Primary_workOutItems_73 (fun H locs hX hS => ?_)
        cases hm
        exact W.vret hx hb hr (fun t ht hW => zh_end hk hX hS ht hW) hS.2.2 d_Primary_workOutItems_76
  · replace hm := zi_f h1 hm
    refine lv_aload_n hx hb d_Primary_workOutItems_4 rfl (lv_at hl 0 rfl) ?_
    replace hm := zb1_s hm
    obtain ⟨a93, h92, hm⟩ := hm
    refine zr_get (ci := 4) (C := R_Primary) (T := F_Primary) (N := 9) hx hb hts in_Primary hown hk hX rfl 2 (by decide) (hts _ tW41) rfl (zgr_v h92) d_Primary_workOutItems_5 ?_
    refine lv_iload_n hx hb d_Primary_workOutItems_8 rfl (lv_at hl 2 rfl) ?_
    refine lv_aload_n hx hb d_Primary_workOutItems_9 rfl (lv_at hl 0 rfl) ?_
    replace hm := zb1_s hm
    obtain ⟨v95, h94, hm⟩ := hm
    refine zr_get (ci := 4) (C := R_Primary) (T := F_Primary) (N := 9) hx hb hts in_Primary hown hk hX rfl 6 (by decide) (hts _ tW44) rfl (zgi_v h94) d_Primary_workOutItems_10 ?_
    replace hm := zb1_s hm
    obtain ⟨_, h97, hm⟩ := hm
    replace hm := zb1_s hm
    obtain ⟨v98, h96, hm⟩ := hm
    refine zr_calli (zr_runV (As := [.int x2, .int v95]) (rest := []) (n := 2) hx hb hml hown hts hk hX (c_Journal_startOfWay l G N X a93 x2 v95 v98 h96) (hts _ tW131) tW132 (hts _ tW37) (hts _ tW133) (hts _ tW134) rfl h97 (by decide +kernel) ⟨Nat.le_of_ble_eq_true rfl, Nat.le_of_ble_eq_true rfl⟩ rfl rfl hl.1 rfl (lv_room (Nat.le_of_ble_eq_true rfl)) d_Primary_workOutItems_13 ⟨(Nat.le_of_ble_eq_true rfl), (Nat.le_of_ble_eq_true rfl)⟩) hS (fun H locs hX hS => ?_)
    refine lv_goto (tgt := 26) hx hb d_Primary_workOutItems_16 rfl ?_
    refine lv_istore_n (lv' := [(3, .int v98), (0, .ref x0), (1, .int x1), (2, .int x2)]) hx hb d_Primary_workOutItems_26 rfl hl (by decide) rfl (fun ls hl => ?_)
    refine lv_aload_n hx hb d_Primary_workOutItems_27 rfl (lv_at hl 1 rfl) ?_
    refine lv_iload_n hx hb d_Primary_workOutItems_28 rfl (lv_at hl 0 rfl) ?_
    refine lv_aload_n hx hb d_Primary_workOutItems_29 rfl (lv_at hl 1 rfl) ?_
    replace hm := zb1_s hm
    obtain ⟨a100, h99, hm⟩ := hm
    refine zr_get (ci := 4) (C := R_Primary) (T := F_Primary) (N := 9) hx hb hts in_Primary hown hk hX rfl 2 (by decide) (hts _ tW41) rfl (zgr_v h99) d_Primary_workOutItems_30 ?_
    replace hm := zb1_s hm
    obtain ⟨v102, h101, hm⟩ := hm
    refine zr_getN (ci := 2) (C := R_Journal) (T := F_Journal) (N := 2) hx hb hts in_Journal hown hk hX rfl 1 (by decide) rfl rfl (nF5 hk) rfl (zgi_v h101) d_Primary_workOutItems_33 ?_
    refine lv_icmp_lt (tgt := 43) hx hb d_Primary_workOutItems_36 rfl (fun h103 => ?_) (fun h103 => ?_)
    · replace hm := zi_t h103 hm
      refine lv_iconst (v := 0) hx hb d_Primary_workOutItems_43 (by decide) ?_
      replace hm := zb1_s hm
      obtain ⟨X104, h105, hm⟩ := hm
      refine zr_put (ci := 4) (C := R_Primary) (T := F_Primary) (N := 9) (ty := .boolean) (v := .int 0) hx hb hts in_Primary t_Primary t_Primary_ok n_Primary hown hk hX hS rfl 5 (by decide) (hts _ tW125) rfl rfl (by decide +kernel) (zpz_n h105) (zpz_f h105) (zpz_v h105) d_Primary_workOutItems_44 (fun H locs hX hS => ?_)
      refine lv_aload_n hx hb d_Primary_workOutItems_47 rfl (lv_at hl 1 rfl) ?_
      refine lv_iconst (v := 0) hx hb d_Primary_workOutItems_48 (by decide) ?_
      replace hm := zb1_s hm
      obtain ⟨X106, h107, hm⟩ := hm
      refine zr_put (ci := 4) (C := R_Primary) (T := F_Primary) (N := 9) (ty := .int) (v := .int 0) hx hb hts in_Primary t_Primary t_Primary_ok n_Primary hown hk hX hS rfl 4 (by decide) (hts _ tW126) rfl rfl (by decide +kernel) rfl rfl h107 d_Primary_workOutItems_49 (fun H locs hX hS => ?_)
      refine lv_aload_n hx hb d_Primary_workOutItems_52 rfl (lv_at hl 1 rfl) ?_
      replace hm := zb1_s hm
      obtain ⟨v109, h108, hm⟩ := hm
      refine zr_get (ci := 4) (C := R_Primary) (T := F_Primary) (N := 9) hx hb hts in_Primary hown hk hX rfl 5 (by decide) (hts _ tW125) rfl (zgi_v h108) d_Primary_workOutItems_53 ?_
      refine lv_if_eq (tgt := 77) hx hb d_Primary_workOutItems_56 rfl (fun h110 => ?_) (fun h110 => ?_)
      · replace hm := zi_t h110 hm
        refine lv_iload_n hx hb d_Primary_workOutItems_77 rfl (lv_at hl 0 rfl) ?_
        refine lv_istore (lv' := [(4, .int v98), (3, .int v98), (0, .ref x0), (1, .int x1), (2, .int x2)]) hx hb d_Primary_workOutItems_78 hl (by decide) rfl (fun ls hl => ?_)
        replace hm := zb2_s hm
        obtain ⟨v111, X113, h112, hm⟩ := hm
        refine hL80 N X106 x0 v98 v111 X113 _ _ _ h112 hX hS (lv_sub hl [2, 0] rfl) (fun H locs ls hX hS hl => ?_)
        cases hm
        exact W.vret hx hb hr (fun t ht hW => zh_end hk hX hS ht hW) hS.2.2 d_Primary_workOutItems_156
      · replace hm := zi_f h110 hm
        refine lv_aload_n hx hb d_Primary_workOutItems_59 rfl (lv_at hl 1 rfl) ?_
        refine lv_aload_n hx hb d_Primary_workOutItems_60 rfl (lv_at hl 1 rfl) ?_
        replace hm := zb1_s hm
        obtain ⟨a115, h114, hm⟩ := hm
        refine zr_get (ci := 4) (C := R_Primary) (T := F_Primary) (N := 9) hx hb hts in_Primary hown hk hX rfl 0 (by decide) (hts _ tW33) rfl (zgr_v h114) d_Primary_workOutItems_61 ?_
        refine lv_aload_n hx hb d_Primary_workOutItems_64 rfl (lv_at hl 1 rfl) ?_
        replace hm := zb1_s hm
        obtain ⟨a117, h116, hm⟩ := hm
        refine zr_get (ci := 4) (C := R_Primary) (T := F_Primary) (N := 9) hx hb hts in_Primary hown hk hX rfl 3 (by decide) (hts _ tW42) rfl (zgr_v h116) d_Primary_workOutItems_65 ?_
        refine lv_iconst (v := 0) hx hb d_Primary_workOutItems_68 (by decide) ?_
        refine lv_iconst (v := 0) hx hb d_Primary_workOutItems_69 (by decide) ?_
        replace hm := zb1_s hm
        obtain ⟨_, h119, hm⟩ := hm
        replace hm := zb2_s hm
        obtain ⟨v120, X121, h118, hm⟩ := hm
        refine zr_calli (zr_runV (As := [.ref a117, .int 0, .int 0]) (rest := [.ref x0]) (n := 3) hx hb hml hown hts hk hX (c_Records_listInto l G N X106 a115 a117 0 0 v120 X121 h118) (hts _ tW127) tW128 (hts _ tW11) (hts _ tW129) (hts _ tW130) rfl h119 (by decide +kernel) ⟨Nat.le_of_ble_eq_true rfl, Nat.le_of_ble_eq_true rfl⟩ rfl rfl hl.1 rfl (lv_room (Nat.le_of_ble_eq_true rfl)) d_Primary_workOutItems_70 ⟨(Nat.le_of_ble_eq_true rfl), (Nat.le_of_ble_eq_true rfl)⟩) hS (fun H locs hX hS => ?_)
        replace hm := zb1_s hm
        obtain ⟨X122, h123, hm⟩ := hm
        refine zr_put (ci := 4) (C := R_Primary) (T := F_Primary) (N := 9) (ty := .int) (v := .int v120) hx hb hts in_Primary t_Primary t_Primary_ok n_Primary hown hk hX hS rfl 4 (by decide) (hts _ tW126) rfl rfl (by decide +kernel) rfl rfl h123 d_Primary_workOutItems_73 (fun H locs hX hS => ?_)
        cases hm
        exact W.vret hx hb hr (fun t ht hW => zh_end hk hX hS ht hW) hS.2.2 d_Primary_workOutItems_76
    · replace hm := zi_f h103 hm
      refine lv_iconst (v := 1) hx hb d_Primary_workOutItems_39 (by decide) ?_
      refine lv_goto (tgt := 44) hx hb d_Primary_workOutItems_40 rfl ?_
      replace hm := zb1_s hm
      obtain ⟨X124, h125, hm⟩ := hm
      refine zr_put (ci := 4) (C := R_Primary) (T := F_Primary) (N := 9) (ty := .boolean) (v := .int 1) hx hb hts in_Primary t_Primary t_Primary_ok n_Primary hown hk hX hS rfl 5 (by decide) (hts _ tW125) rfl rfl (by decide +kernel) (zpz_n h125) (zpz_f h125) (zpz_v h125) d_Primary_workOutItems_44 (fun H locs hX hS => ?_)
      refine lv_aload_n hx hb d_Primary_workOutItems_47 rfl (lv_at hl 1 rfl) ?_
      refine lv_iconst (v := 0) hx hb d_Primary_workOutItems_48 (by decide) ?_
      replace hm := zb1_s hm
      obtain ⟨X126, h127, hm⟩ := hm
      refine zr_put (ci := 4) (C := R_Primary) (T := F_Primary) (N := 9) (ty := .int) (v := .int 0) hx hb hts in_Primary t_Primary t_Primary_ok n_Primary hown hk hX hS rfl 4 (by decide) (hts _ tW126) rfl rfl (by decide +kernel) rfl rfl h127 d_Primary_workOutItems_49 (fun H locs hX hS => ?_)
      refine lv_aload_n hx hb d_Primary_workOutItems_52 rfl (lv_at hl 1 rfl) ?_
      replace hm := zb1_s hm
      obtain ⟨v129, h128, hm⟩ := hm
      refine zr_get (ci := 4) (C := R_Primary) (T := F_Primary) (N := 9) hx hb hts in_Primary hown hk hX rfl 5 (by decide) (hts _ tW125) rfl (zgi_v h128) d_Primary_workOutItems_53 ?_
      refine lv_if_eq (tgt := 77) hx hb d_Primary_workOutItems_56 rfl (fun h130 => ?_) (fun h130 => ?_)
      · replace hm := zi_t h130 hm
        refine lv_iload_n hx hb d_Primary_workOutItems_77 rfl (lv_at hl 0 rfl) ?_
        refine lv_istore (lv' := [(4, .int v98), (3, .int v98), (0, .ref x0), (1, .int x1), (2, .int x2)]) hx hb d_Primary_workOutItems_78 hl (by decide) rfl (fun ls hl => ?_)
        replace hm := zb2_s hm
        obtain ⟨v131, X133, h132, hm⟩ := hm
        refine hL80 N X126 x0 v98 v131 X133 _ _ _ h132 hX hS (lv_sub hl [2, 0] rfl) (fun H locs ls hX hS hl => ?_)
        cases hm
        exact W.vret hx hb hr (fun t ht hW => zh_end hk hX hS ht hW) hS.2.2 d_Primary_workOutItems_156
      · replace hm := zi_f h130 hm
        refine lv_aload_n hx hb d_Primary_workOutItems_59 rfl (lv_at hl 1 rfl) ?_
        refine lv_aload_n hx hb d_Primary_workOutItems_60 rfl (lv_at hl 1 rfl) ?_
        replace hm := zb1_s hm
        obtain ⟨a135, h134, hm⟩ := hm
        refine zr_get (ci := 4) (C := R_Primary) (T := F_Primary) (N := 9) hx hb hts in_Primary hown hk hX rfl 0 (by decide) (hts _ tW33) rfl (zgr_v h134) d_Primary_workOutItems_61 ?_
        refine lv_aload_n hx hb d_Primary_workOutItems_64 rfl (lv_at hl 1 rfl) ?_
        replace hm := zb1_s hm
        obtain ⟨a137, h136, hm⟩ := hm
        refine zr_get (ci := 4) (C := R_Primary) (T := F_Primary) (N := 9) hx hb hts in_Primary hown hk hX rfl 3 (by decide) (hts _ tW42) rfl (zgr_v h136) d_Primary_workOutItems_65 ?_
        refine lv_iconst (v := 0) hx hb d_Primary_workOutItems_68 (by decide) ?_
        refine lv_iconst (v := 0) hx hb d_Primary_workOutItems_69 (by decide) ?_
        replace hm := zb1_s hm
        obtain ⟨_, h139, hm⟩ := hm
        replace hm := zb2_s hm
        obtain ⟨v140, X141, h138, hm⟩ := hm
        refine zr_calli (zr_runV (As := [.ref a137, .int 0, .int 0]) (rest := [.ref x0]) (n := 3) hx hb hml hown hts hk hX (c_Records_listInto l G N X126 a135 a137 0 0 v140 X141 h138) (hts _ tW127) tW128 (hts _ tW11) (hts _ tW129) (hts _ tW130) rfl h139 (by decide +kernel) ⟨Nat.le_of_ble_eq_true rfl, Nat.le_of_ble_eq_true rfl⟩ rfl rfl hl.1 rfl (lv_room (Nat.le_of_ble_eq_true rfl)) d_Primary_workOutItems_70 ⟨(Nat.le_of_ble_eq_true rfl), (Nat.le_of_ble_eq_true rfl)⟩) hS (fun H locs hX hS => ?_)
        replace hm := zb1_s hm
        obtain ⟨X142, h143, hm⟩ := hm
        refine zr_put (ci := 4) (C := R_Primary) (T := F_Primary) (N := 9) (ty := .int) (v := .int v140) hx hb hts in_Primary t_Primary t_Primary_ok n_Primary hown hk hX hS rfl 4 (by decide) (hts _ tW126) rfl rfl (by decide +kernel) rfl rfl h143 d_Primary_workOutItems_73 (fun H locs hX hS => ?_)
        cases hm
        exact W.vret hx hb hr (fun t ht hW => zh_end hk hX hS ht hW) hS.2.2 d_Primary_workOutItems_76
set_option maxHeartbeats 4000000 in
set_option maxRecDepth 100000 in
theorem c_Message_isOnStream (l : Launch) (G : zh_G) (N : Nat) (X : zh_T) (x0 : Nat) (r : Int32) (hm : f_Message_isOnStream N X x0 = some r) : zM l G y_Message_isOnStream w_Message_isOnStream 0 0 X [.ref x0] (some (.int r)) X 0 0 := by
  refine zr_ofW (by decide) (by exact Nat.le_of_ble_eq_true rfl) ?_
  intro p e s m args below meth c ls hx hb hml hr hts hown hin hlocks hk hX hl
  have hS : va_S (zh_A G) s.heap s.heap [] := va_S.rf
  have hl : lv_has ls 1 [(0, .ref x0)] := hl
  have hown : s.vm.findClass R_Message = some m.cls := hown
  unfold f_Message_isOnStream at hm
  refine lv_aload_n hx hb d_Message_isOnStream_0 rfl (lv_at hl 0 rfl) ?_
  replace hm := zb1_s hm
  obtain ⟨v2, h1, hm⟩ := hm
  refine zr_get (ci := 3) (C := R_Message) (T := F_Message) (N := 10) hx hb hts in_Message hown hk hX rfl 1 (by decide) (hts _ tW135) rfl (zgi_v h1) d_Message_isOnStream_1 ?_
  refine lv_iconst (v := 4) hx hb d_Message_isOnStream_4 (by decide) ?_
  refine lv_icmp_eq (tgt := 16) hx hb d_Message_isOnStream_5 rfl (fun h3 => ?_) (fun h3 => ?_)
  · replace hm := zi_t h3 hm
    refine lv_iconst (v := 1) hx hb d_Message_isOnStream_16 (by decide) ?_
    refine lv_goto (tgt := 21) hx hb d_Message_isOnStream_17 rfl ?_
    cases hm
    exact W.zret hx hb hr (by decide) (fun t ht hW => zh_end hk hX hS ht hW) hS.2.2 d_Message_isOnStream_21
  · replace hm := zi_f h3 hm
    refine lv_aload_n hx hb d_Message_isOnStream_8 rfl (lv_at hl 0 rfl) ?_
    replace hm := zb1_s hm
    obtain ⟨v5, h4, hm⟩ := hm
    refine zr_get (ci := 3) (C := R_Message) (T := F_Message) (N := 10) hx hb hts in_Message hown hk hX rfl 1 (by decide) (hts _ tW135) rfl (zgi_v h4) d_Message_isOnStream_9 ?_
    refine lv_iconst (v := 5) hx hb d_Message_isOnStream_12 (by decide) ?_
    refine lv_icmp_ne (tgt := 20) hx hb d_Message_isOnStream_13 rfl (fun h6 => ?_) (fun h6 => ?_)
    · replace hm := zi_f h6 hm
      refine lv_iconst (v := 0) hx hb d_Message_isOnStream_20 (by decide) ?_
      cases hm
      exact W.zret hx hb hr (by decide) (fun t ht hW => zh_end hk hX hS ht hW) hS.2.2 d_Message_isOnStream_21
    · replace hm := zi_t h6 hm
      refine lv_iconst (v := 1) hx hb d_Message_isOnStream_16 (by decide) ?_
      refine lv_goto (tgt := 21) hx hb d_Message_isOnStream_17 rfl ?_
      cases hm
      exact W.zret hx hb hr (by decide) (fun t ht hW => zh_end hk hX hS ht hW) hS.2.2 d_Message_isOnStream_21
set_option maxHeartbeats 4000000 in
set_option maxRecDepth 100000 in
theorem c_Wire_countLossy (l : Launch) (G : zh_G) (N : Nat) (X : zh_T) (x0 : Nat) (r : Int32) (hm : f_Wire_countLossy N X x0 = some r) : zM l G y_Wire_countLossy w_Wire_countLossy 1 20 X [.ref x0] (some (.int r)) X 0 0 := by
  refine zr_ofW (by decide) (by exact Nat.le_of_ble_eq_true rfl) ?_
  intro p e s m args below meth c ls hx hb hml hr hts hown hin hlocks hk hX hl
  have hS : va_S (zh_A G) s.heap s.heap [] := va_S.rf
  have hl : lv_has ls 3 [(0, .ref x0)] := hl
  have hown : s.vm.findClass R_Wire = some m.cls := hown
  unfold f_Wire_countLossy at hm
  have hL4 : ∀ (n : Nat) (X : zh_T) (w0 : Nat) (w1 : Int32) (w2 : Int32) (v : Int32) (H : Heap) (locs : List Loc) (ls : Array Slot), L_Wire_countLossy_4 N X w0 n w1 w2 = some v → zh_w G X H → va_S (zh_A G) s.heap H locs → lv_has ls 3 [(0, .ref w0), (1, .int w1), (2, .int w2)] → (∀ (H : Heap) (locs : List Loc) (ls : Array Slot), zh_w G X H → va_S (zh_A G) s.heap H locs → lv_has ls 3 [(1, .int v)] → W p l e { frames := 1, cells := 0, slots := 0, locals := 20 } s m args below meth c H locs 0 0 (MQ below (zh_Q G (some (.int r)) X) args s 0 0 (zh_A G)) (F0 m 33 ls [])) → W p l e { frames := 1, cells := 0, slots := 0, locals := 20 } s m args below meth c H locs 0 0 (MQ below (zh_Q G (some (.int r)) X) args s 0 0 (zh_A G)) (F0 m 4 ls []) := by
    intro n
    induction n with
    | zero =>
      intro X w0 w1 w2 v H locs ls hm hX hS hl hexit
      rw [L_Wire_countLossy_4] at hm
      cases hm
    | succ n ih =>
      intro X w0 w1 w2 v H locs ls hm hX hS hl hexit
      rw [L_Wire_countLossy_4] at hm
      refine lv_iload_n hx hb d_Wire_countLossy_4 rfl (lv_at hl 2 rfl) ?_
      refine lv_aload_n hx hb d_Wire_countLossy_5 rfl (lv_at hl 0 rfl) ?_
      replace hm := zb1_s hm
      obtain ⟨v2, h1, hm⟩ := hm
      refine zr_get (ci := 7) (C := R_Wire) (T := F_Wire) (N := 2) hx hb hts in_Wire hown hk hX rfl 1 (by decide) (hts _ tW113) rfl (zgi_v h1) d_Wire_countLossy_6 ?_
      refine lv_icmp_ge (tgt := 33) hx hb d_Wire_countLossy_9 rfl (fun h3 => ?_) (fun h3 => ?_)
      · replace hm := zi_t h3 hm
        cases hm
        exact hexit _ _ _ hX hS (lv_sub hl [1] rfl)
      · replace hm := zi_f h3 hm
        refine lv_aload_n hx hb d_Wire_countLossy_12 rfl (lv_at hl 0 rfl) ?_
        replace hm := zb1_s hm
        obtain ⟨a5, h4, hm⟩ := hm
        refine zr_get (ci := 7) (C := R_Wire) (T := F_Wire) (N := 2) hx hb hts in_Wire hown hk hX rfl 0 (by decide) (hts _ tW74) rfl (zgr_v h4) d_Wire_countLossy_13 ?_
        refine lv_iload_n hx hb d_Wire_countLossy_16 rfl (lv_at hl 2 rfl) ?_
        replace hm := zb1_s hm
        obtain ⟨a7, h6, hm⟩ := hm
        refine zr_aaload (t := 3) (q := some a7) hx hb hk hX rfl (zar_v h6) d_Wire_countLossy_17 ?_
        replace hm := zb1_s hm
        obtain ⟨_, h9, hm⟩ := hm
        replace hm := zb1_s hm
        obtain ⟨v10, h8, hm⟩ := hm
        refine zr_calli (zr_runV (As := []) (rest := []) (n := 0) hx hb hml hown hts hk hX (c_Message_isOnStream l G N X a7 v10 h8) (hts _ tW136) tW137 (hts _ tW76) (hts _ tW138) (hts _ tW139) rfl h9 (by decide +kernel) ⟨Nat.le_of_ble_eq_true rfl, Nat.le_of_ble_eq_true rfl⟩ rfl rfl hl.1 rfl (lv_room (Nat.le_of_ble_eq_true rfl)) d_Wire_countLossy_18 ⟨(Nat.le_of_ble_eq_true rfl), (Nat.le_of_ble_eq_true rfl)⟩) hS (fun H locs hX hS => ?_)
        refine lv_if_ne (tgt := 27) hx hb d_Wire_countLossy_21 rfl (fun h11 => ?_) (fun h11 => ?_)
        · replace hm := zi_f h11 hm
          refine lv_iinc (v := w2 + 1) (lv' := [(2, .int (w2 + 1)), (0, .ref w0), (1, .int w1)]) hx hb d_Wire_countLossy_27 hl (k := 2) rfl (by rw [show Int32.ofInt 1 = 1 by decide]) (by decide) rfl (fun ls hl => ?_)
          refine lv_goto (tgt := 4) hx hb d_Wire_countLossy_30 rfl ?_
          exact ih X w0 w1 (w2 + 1) v _ _ _ hm hX hS (lv_sub hl [1, 2, 0] rfl) hexit
        · replace hm := zi_t h11 hm
          refine lv_iinc (v := w1 + 1) (lv' := [(1, .int (w1 + 1)), (0, .ref w0), (2, .int w2)]) hx hb d_Wire_countLossy_24 hl (k := 1) rfl (by rw [show Int32.ofInt 1 = 1 by decide]) (by decide) rfl (fun ls hl => ?_)
          refine lv_iinc (v := w2 + 1) (lv' := [(2, .int (w2 + 1)), (1, .int (w1 + 1)), (0, .ref w0)]) hx hb d_Wire_countLossy_27 hl (k := 2) rfl (by rw [show Int32.ofInt 1 = 1 by decide]) (by decide) rfl (fun ls hl => ?_)
          refine lv_goto (tgt := 4) hx hb d_Wire_countLossy_30 rfl ?_
          exact ih X w0 (w1 + 1) (w2 + 1) v _ _ _ hm hX hS (lv_sub hl [2, 1, 0] rfl) hexit
  refine lv_iconst (v := 0) hx hb d_Wire_countLossy_0 (by decide) ?_
  refine lv_istore_n (lv' := [(1, .int 0), (0, .ref x0)]) hx hb d_Wire_countLossy_1 rfl hl (by decide) rfl (fun ls hl => ?_)
  refine lv_iconst (v := 0) hx hb d_Wire_countLossy_2 (by decide) ?_
  refine lv_istore_n (lv' := [(2, .int 0), (1, .int 0), (0, .ref x0)]) hx hb d_Wire_countLossy_3 rfl hl (by decide) rfl (fun ls hl => ?_)
  replace hm := zb1_s hm
  obtain ⟨v12, h13, hm⟩ := hm
  refine hL4 N X x0 0 0 v12 _ _ _ h13 hX hS (lv_sub hl [2, 1, 0] rfl) (fun H locs ls hX hS hl => ?_)
  refine lv_iload_n hx hb d_Wire_countLossy_33 rfl (lv_at hl 0 rfl) ?_
  cases hm
  exact W.iret hx hb hr (fun t ht hW => zh_end hk hX hS ht hW) hS.2.2 d_Wire_countLossy_34
set_option maxHeartbeats 4000000 in
set_option maxRecDepth 100000 in
theorem c_Wire_put (l : Launch) (G : zh_G) (N : Nat) (X : zh_T) (x0 : Nat) (x1 : Int32) (x2 : Int32) (x3 : Int32) (r : Option Nat) (X' : zh_T) (hm : f_Wire_put N X x0 x1 x2 x3 = some (r, X')) : zM l G y_Wire_put w_Wire_put 0 0 X [.ref x0, .int x1, .int x2, .int x3] (some (va_rf r)) X' 0 0 := by
  refine zr_ofW (by decide) (by exact Nat.le_of_ble_eq_true rfl) ?_
  intro p e s m args below meth c ls hx hb hml hr hts hown hin hlocks hk hX hl
  have hS : va_S (zh_A G) s.heap s.heap [] := va_S.rf
  have hl : lv_has ls 5 [(0, .ref x0), (1, .int x1), (2, .int x2), (3, .int x3)] := hl
  have hown : s.vm.findClass R_Wire = some m.cls := hown
  unfold f_Wire_put at hm
  refine lv_aload_n hx hb d_Wire_put_0 rfl (lv_at hl 0 rfl) ?_
  replace hm := zb1_s hm
  obtain ⟨v2, h1, hm⟩ := hm
  refine zr_get (ci := 7) (C := R_Wire) (T := F_Wire) (N := 2) hx hb hts in_Wire hown hk hX rfl 1 (by decide) (hts _ tW113) rfl (zgi_v h1) d_Wire_put_1 ?_
  refine lv_aload_n hx hb d_Wire_put_4 rfl (lv_at hl 0 rfl) ?_
  replace hm := zb1_s hm
  obtain ⟨a4, h3, hm⟩ := hm
  refine zr_get (ci := 7) (C := R_Wire) (T := F_Wire) (N := 2) hx hb hts in_Wire hown hk hX rfl 0 (by decide) (hts _ tW74) rfl (zgr_v h3) d_Wire_put_5 ?_
  replace hm := zb1_s hm
  obtain ⟨v5, h6, hm⟩ := hm
  refine zr_alen (t := 3) hx hb hk hX rfl h6 d_Wire_put_8 ?_
  refine lv_icmp_lt (tgt := 14) hx hb d_Wire_put_9 rfl (fun h7 => ?_) (fun h7 => ?_)
  · replace hm := zi_t h7 hm
    refine lv_aload_n hx hb d_Wire_put_14 rfl (lv_at hl 0 rfl) ?_
    replace hm := zb1_s hm
    obtain ⟨a9, h8, hm⟩ := hm
    refine zr_get (ci := 7) (C := R_Wire) (T := F_Wire) (N := 2) hx hb hts in_Wire hown hk hX rfl 0 (by decide) (hts _ tW74) rfl (zgr_v h8) d_Wire_put_15 ?_
    refine lv_aload_n hx hb d_Wire_put_18 rfl (lv_at hl 0 rfl) ?_
    replace hm := zb1_s hm
    obtain ⟨v11, h10, hm⟩ := hm
    refine zr_get (ci := 7) (C := R_Wire) (T := F_Wire) (N := 2) hx hb hts in_Wire hown hk hX rfl 1 (by decide) (hts _ tW113) rfl (zgi_v h10) d_Wire_put_19 ?_
    replace hm := zb1_s hm
    obtain ⟨a13, h12, hm⟩ := hm
    refine zr_aaload (t := 3) (q := some a13) hx hb hk hX rfl (zar_v h12) d_Wire_put_22 ?_
    refine lv_astore (lv' := [(4, .ref a13), (0, .ref x0), (1, .int x1), (2, .int x2), (3, .int x3)]) hx hb d_Wire_put_23 hl (by decide) rfl (fun ls hl => ?_)
    refine lv_aload hx hb d_Wire_put_25 (lv_at hl 0 rfl) ?_
    refine lv_iload_n hx hb d_Wire_put_27 rfl (lv_at hl 2 rfl) ?_
    replace hm := zb1_s hm
    obtain ⟨X14, h15, hm⟩ := hm
    refine zr_putN (ci := 3) (C := R_Message) (T := F_Message) (N := 10) (ty := .int) (v := .int x1) hx hb hts in_Message t_Message t_Message_ok n_Message hown hk hX hS rfl 1 (by decide) rfl rfl (nF9 hk) rfl rfl (by decide +kernel) rfl rfl h15 d_Wire_put_28 (fun H locs hX hS => ?_)
    refine lv_aload hx hb d_Wire_put_31 (lv_at hl 0 rfl) ?_
    refine lv_iload_n hx hb d_Wire_put_33 rfl (lv_at hl 3 rfl) ?_
    replace hm := zb1_s hm
    obtain ⟨X16, h17, hm⟩ := hm
    refine zr_putN (ci := 3) (C := R_Message) (T := F_Message) (N := 10) (ty := .int) (v := .int x2) hx hb hts in_Message t_Message t_Message_ok n_Message hown hk hX hS rfl 2 (by decide) rfl rfl (nF10 hk) rfl rfl (by decide +kernel) rfl rfl h17 d_Wire_put_34 (fun H locs hX hS => ?_)
    refine lv_aload hx hb d_Wire_put_37 (lv_at hl 0 rfl) ?_
    refine lv_iload_n hx hb d_Wire_put_39 rfl (lv_at hl 4 rfl) ?_
    replace hm := zb1_s hm
    obtain ⟨X18, h19, hm⟩ := hm
    refine zr_putN (ci := 3) (C := R_Message) (T := F_Message) (N := 10) (ty := .int) (v := .int x3) hx hb hts in_Message t_Message t_Message_ok n_Message hown hk hX hS rfl 4 (by decide) rfl rfl (nF11 hk) rfl rfl (by decide +kernel) rfl rfl h19 d_Wire_put_40 (fun H locs hX hS => ?_)
    refine lv_aload hx hb d_Wire_put_43 (lv_at hl 0 rfl) ?_
    refine lv_iconst (v := 0) hx hb d_Wire_put_45 (by decide) ?_
    replace hm := zb1_s hm
    obtain ⟨X20, h21, hm⟩ := hm
    refine zr_putN (ci := 3) (C := R_Message) (T := F_Message) (N := 10) (ty := .boolean) (v := .int 0) hx hb hts in_Message t_Message t_Message_ok n_Message hown hk hX hS rfl 9 (by decide) rfl rfl (nF12 hk) rfl rfl (by decide +kernel) (zpz_n h21) (zpz_f h21) (zpz_v h21) d_Wire_put_46 (fun H locs hX hS => ?_)
    refine lv_aload_n hx hb d_Wire_put_49 rfl (lv_at hl 1 rfl) ?_
    refine lv_dup hx hb d_Wire_put_50 rfl ?_
    replace hm := zb1_s hm
    obtain ⟨v23, h22, hm⟩ := hm
    refine zr_get (ci := 7) (C := R_Wire) (T := F_Wire) (N := 2) hx hb hts in_Wire hown hk hX rfl 1 (by decide) (hts _ tW113) rfl (zgi_v h22) d_Wire_put_51 ?_
    refine lv_iconst (v := 1) hx hb d_Wire_put_54 (by decide) ?_
    refine lv_iadd hx hb d_Wire_put_55 ?_
    replace hm := zb1_s hm
    obtain ⟨X24, h25, hm⟩ := hm
    refine zr_put (ci := 7) (C := R_Wire) (T := F_Wire) (N := 2) (ty := .int) (v := .int (v23 + 1)) hx hb hts in_Wire t_Wire t_Wire_ok n_Wire hown hk hX hS rfl 1 (by decide) (hts _ tW113) rfl rfl (by decide +kernel) rfl rfl h25 d_Wire_put_56 (fun H locs hX hS => ?_)
    refine lv_aload hx hb d_Wire_put_59 (lv_at hl 0 rfl) ?_
    cases hm
    exact W.aret hx hb hr (Or.inl ⟨_, rfl⟩) (Or.inr ⟨_, rfl⟩) (fun t ht hW => zh_end hk hX hS ht hW) hS.2.2 d_Wire_put_61
  · replace hm := zi_f h7 hm
    refine lv_null hx hb d_Wire_put_12 ?_
    cases hm
    exact W.aret hx hb hr (Or.inl ⟨_, rfl⟩) (Or.inl rfl) (fun t ht hW => zh_end hk hX hS ht hW) hS.2.2 d_Wire_put_13
set_option maxHeartbeats 4000000 in
set_option maxRecDepth 100000 in
theorem c_Wire_sendLossy (l : Launch) (G : zh_G) (N : Nat) (X : zh_T) (x0 : Nat) (x1 : Int32) (x2 : Int32) (x3 : Int32) (r : Unit) (X' : zh_T) (hm : f_Wire_sendLossy N X x0 x1 x2 x3 = some (r, X')) : zM l G y_Wire_sendLossy w_Wire_sendLossy 2 42 X [.ref x0, .int x1, .int x2, .int x3] none X' 0 0 := by
  refine zr_ofW (by decide) (by exact Nat.le_of_ble_eq_true rfl) ?_
  intro p e s m args below meth c ls hx hb hml hr hts hown hin hlocks hk hX hl
  have hS : va_S (zh_A G) s.heap s.heap [] := va_S.rf
  have hl : lv_has ls 4 [(0, .ref x0), (1, .int x1), (2, .int x2), (3, .int x3)] := hl
  have hown : s.vm.findClass R_Wire = some m.cls := hown
  unfold f_Wire_sendLossy at hm
  refine lv_aload_n hx hb d_Wire_sendLossy_0 rfl (lv_at hl 0 rfl) ?_
  replace hm := zb1_s hm
  obtain ⟨_, h2, hm⟩ := hm
  replace hm := zb1_s hm
  obtain ⟨v3, h1, hm⟩ := hm
  refine zr_calli (zr_runV (As := []) (rest := []) (n := 0) hx hb hml hown hts hk hX (c_Wire_countLossy l G N X x0 v3 h1) (hts _ tW140) tW141 (hts _ tW91) (hts _ tW142) (hts _ tW143) rfl h2 (by decide +kernel) ⟨Nat.le_of_ble_eq_true rfl, Nat.le_of_ble_eq_true rfl⟩ rfl rfl hl.1 rfl (lv_room (Nat.le_of_ble_eq_true rfl)) d_Wire_sendLossy_1 ⟨(Nat.le_of_ble_eq_true rfl), (Nat.le_of_ble_eq_true rfl)⟩) hS (fun H locs hX hS => ?_)
  refine lv_bipush (v := 24) hx hb d_Wire_sendLossy_4 (by decide) ?_
  refine lv_icmp_ge (tgt := 17) hx hb d_Wire_sendLossy_6 rfl (fun h4 => ?_) (fun h4 => ?_)
  · replace hm := zi_t h4 hm
    cases hm
    exact W.vret hx hb hr (fun t ht hW => zh_end hk hX hS ht hW) hS.2.2 d_Wire_sendLossy_17
  · replace hm := zi_f h4 hm
    refine lv_aload_n hx hb d_Wire_sendLossy_9 rfl (lv_at hl 0 rfl) ?_
    refine lv_iload_n hx hb d_Wire_sendLossy_10 rfl (lv_at hl 1 rfl) ?_
    refine lv_iload_n hx hb d_Wire_sendLossy_11 rfl (lv_at hl 2 rfl) ?_
    refine lv_iload_n hx hb d_Wire_sendLossy_12 rfl (lv_at hl 3 rfl) ?_
    replace hm := zb1_s hm
    obtain ⟨_, h6, hm⟩ := hm
    replace hm := zb2_s hm
    obtain ⟨q7, X8, h5, hm⟩ := hm
    refine zr_callq (zr_runV (As := [.int x1, .int x2, .int x3]) (rest := []) (n := 3) hx hb hml hown hts hk hX (c_Wire_put l G N X x0 x1 x2 x3 q7 X8 h5) (hts _ tW144) tW145 (hts _ tW91) (hts _ tW146) (hts _ tW147) rfl h6 (by decide +kernel) ⟨Nat.le_of_ble_eq_true rfl, Nat.le_of_ble_eq_true rfl⟩ rfl rfl hl.1 rfl (lv_room (Nat.le_of_ble_eq_true rfl)) d_Wire_sendLossy_13 ⟨(Nat.le_of_ble_eq_true rfl), (Nat.le_of_ble_eq_true rfl)⟩) hS (fun H locs hX hS => ?_)
    refine lv_pop hx hb d_Wire_sendLossy_16 zv_q ?_
    cases hm
    exact W.vret hx hb hr (fun t ht hW => zh_end hk hX hS ht hW) hS.2.2 d_Wire_sendLossy_17
set_option maxHeartbeats 4000000 in
set_option maxRecDepth 100000 in
theorem c_Wire_sendParts (l : Launch) (G : zh_G) (N : Nat) (X : zh_T) (x0 : Nat) (x1 : Int32) (x2 : Nat) (r : Unit) (X' : zh_T) (hm : f_Wire_sendParts N X x0 x1 x2 = some (r, X')) : zM l G y_Wire_sendParts w_Wire_sendParts 1 24 X [.ref x0, .int x1, .ref x2] none X' 0 0 := by
  refine zr_ofW (by decide) (by exact Nat.le_of_ble_eq_true rfl) ?_
  intro p e s m args below meth c ls hx hb hml hr hts hown hin hlocks hk hX hl
  have hS : va_S (zh_A G) s.heap s.heap [] := va_S.rf
  have hl : lv_has ls 7 [(0, .ref x0), (1, .int x1), (2, .ref x2)] := hl
  have hown : s.vm.findClass R_Wire = some m.cls := hown
  unfold f_Wire_sendParts at hm
  have hL87 : ∀ (n : Nat) (X : zh_T) (w0 : Nat) (w1 : Int32) (w2 : Nat) (w3 : Int32) (w4 : Int32) (w5 : Nat) (w6 : Int32) (v : Unit) (X1 : zh_T) (H : Heap) (locs : List Loc) (ls : Array Slot), L_Wire_sendParts_87 N w0 w1 w2 w3 w4 w5 n X w6 = some (v, X1) → zh_w G X H → va_S (zh_A G) s.heap H locs → lv_has ls 7 [(0, .ref w0), (1, .int w1), (2, .ref w2), (3, .int w3), (4, .int w4), (5, .ref w5), (6, .int w6)] → (∀ (H : Heap) (locs : List Loc) (ls : Array Slot), zh_w G X1 H → va_S (zh_A G) s.heap H locs → lv_has ls 7 [(0, .ref w0), (1, .int w1), (2, .ref w2), (3, .int w3), (4, .int w4)] → W p l e { frames := 1, cells := 0, slots := 0, locals := 24 } s m args below meth c H locs 0 0 (MQ below (zh_Q G none X') args s 0 0 (zh_A G)) (F0 m 121 ls [])) → W p l e { frames := 1, cells := 0, slots := 0, locals := 24 } s m args below meth c H locs 0 0 (MQ below (zh_Q G none X') args s 0 0 (zh_A G)) (F0 m 87 ls []) := by
    intro n
    induction n with
    | zero =>
      intro X w0 w1 w2 w3 w4 w5 w6 v X1 H locs ls hm hX hS hl hexit
      rw [L_Wire_sendParts_87] at hm
      cases hm
    | succ n ih =>
      intro X w0 w1 w2 w3 w4 w5 w6 v X1 H locs ls hm hX hS hl hexit
      rw [L_Wire_sendParts_87] at hm
      refine lv_iload hx hb d_Wire_sendParts_87 (lv_at hl 6 rfl) ?_
      refine lv_aload hx hb d_Wire_sendParts_89 (lv_at hl 5 rfl) ?_
      replace hm := zb1_s hm
      obtain ⟨v27, h26, hm⟩ := hm
      refine zr_getN (ci := 3) (C := R_Message) (T := F_Message) (N := 10) hx hb hts in_Message hown hk hX rfl 6 (by decide) rfl rfl (nF19 hk) rfl (zgi_v h26) d_Wire_sendParts_91 ?_
      refine lv_icmp_ge (tgt := 121) hx hb d_Wire_sendParts_94 rfl (fun h28 => ?_) (fun h28 => ?_)
      · replace hm := zi_t h28 hm
        cases hm
        exact hexit _ _ _ hX hS (lv_sub hl [0, 1, 2, 3, 4] rfl)
      · replace hm := zi_f h28 hm
        refine lv_aload hx hb d_Wire_sendParts_97 (lv_at hl 5 rfl) ?_
        replace hm := zb1_s hm
        obtain ⟨a30, h29, hm⟩ := hm
        refine zr_getN (ci := 3) (C := R_Message) (T := F_Message) (N := 10) hx hb hts in_Message hown hk hX rfl 0 (by decide) rfl rfl (nF20 hk) rfl (zgr_v h29) d_Wire_sendParts_99 ?_
        refine lv_iload hx hb d_Wire_sendParts_102 (lv_at hl 6 rfl) ?_
        refine lv_aload_n hx hb d_Wire_sendParts_104 rfl (lv_at hl 2 rfl) ?_
        replace hm := zb1_s hm
        obtain ⟨a32, h31, hm⟩ := hm
        refine zr_getN (ci := 4) (C := R_Primary) (T := F_Primary) (N := 9) hx hb hts in_Primary hown hk hX rfl 3 (by decide) rfl rfl (nF21 hk) rfl (zgr_v h31) d_Wire_sendParts_105 ?_
        refine lv_iload hx hb d_Wire_sendParts_108 (lv_at hl 4 rfl) ?_
        refine lv_iload hx hb d_Wire_sendParts_110 (lv_at hl 6 rfl) ?_
        refine lv_iadd hx hb d_Wire_sendParts_112 ?_
        replace hm := zb1_s hm
        obtain ⟨v33, h34, hm⟩ := hm
        refine zr_iaload hx hb hk hX h34 d_Wire_sendParts_113 ?_
        replace hm := zb1_s hm
        obtain ⟨X35, h36, hm⟩ := hm
        refine zr_iastore hx hb hk hX hS h36 d_Wire_sendParts_114 (fun H locs hX hS => ?_)
        refine lv_iinc (v := w6 + 1) (lv' := [(6, .int (w6 + 1)), (0, .ref w0), (1, .int w1), (2, .ref w2), (3, .int w3), (4, .int w4), (5, .ref w5)]) hx hb d_Wire_sendParts_115 hl (k := 6) rfl (by rw [show Int32.ofInt 1 = 1 by decide]) (by decide) rfl (fun ls hl => ?_)
        refine lv_goto (tgt := 87) hx hb d_Wire_sendParts_118 rfl ?_
        exact ih X35 w0 w1 w2 w3 w4 w5 (w6 + 1) v X1 _ _ _ hm hX hS (lv_sub hl [1, 2, 3, 4, 5, 6, 0] rfl) hexit
  have hL5 : ∀ (n : Nat) (X : zh_T) (w0 : Nat) (w1 : Int32) (w2 : Nat) (w3 : Int32) (w4 : Int32) (o : ((Unit × zh_T) ⊕ (Unit × zh_T))) (H : Heap) (locs : List Loc) (ls : Array Slot), L_Wire_sendParts_5 N w0 w1 w2 n X w3 w4 = some o → zh_w G X H → va_S (zh_A G) s.heap H locs → lv_has ls 7 [(0, .ref w0), (1, .int w1), (2, .ref w2), (3, .int w3), (4, .int w4)] → (∀ (r0 : Unit) (X0 : zh_T), o = Sum.inl (r0, X0) → r0 = r ∧ X0 = X') → (∀ (v : Unit) (X1 : zh_T), o = Sum.inr (v, X1) → ∀ (H : Heap) (locs : List Loc) (ls : Array Slot), zh_w G X1 H → va_S (zh_A G) s.heap H locs → lv_has ls 7 [] → W p l e { frames := 1, cells := 0, slots := 0, locals := 24 } s m args below meth c H locs 0 0 (MQ below (zh_Q G none X') args s 0 0 (zh_A G)) (F0 m 130 ls [])) → W p l e { frames := 1, cells := 0, slots := 0, locals := 24 } s m args below meth c H locs 0 0 (MQ below (zh_Q G none X') args s 0 0 (zh_A G)) (F0 m 5 ls []) := by
    intro n
    induction n with
    | zero =>
      intro X w0 w1 w2 w3 w4 o H locs ls hm hX hS hl hret hexit
      rw [L_Wire_sendParts_5] at hm
      cases hm
    | succ n ih =>
      intro X w0 w1 w2 w3 w4 o H locs ls hm hX hS hl hret hexit
      rw [L_Wire_sendParts_5] at hm
      refine lv_iload hx hb d_Wire_sendParts_5 (lv_at hl 4 rfl) ?_
      refine lv_aload_n hx hb d_Wire_sendParts_7 rfl (lv_at hl 2 rfl) ?_
      replace hm := zb1_s hm
      obtain ⟨v2, h1, hm⟩ := hm
      refine zr_getN (ci := 4) (C := R_Primary) (T := F_Primary) (N := 9) hx hb hts in_Primary hown hk hX rfl 4 (by decide) rfl rfl (nF13 hk) rfl (zgi_v h1) d_Wire_sendParts_8 ?_
      refine lv_icmp_ge (tgt := 130) hx hb d_Wire_sendParts_11 rfl (fun h3 => ?_) (fun h3 => ?_)
      · replace hm := zi_t h3 hm
        exact hexit _ _ (Option.some.inj hm).symm _ _ _ hX hS (lv_sub hl [] rfl)
      · replace hm := zi_f h3 hm
        refine lv_aload_n hx hb d_Wire_sendParts_14 rfl (lv_at hl 0 rfl) ?_
        refine lv_iconst (v := 5) hx hb d_Wire_sendParts_15 (by decide) ?_
        refine lv_iload_n hx hb d_Wire_sendParts_16 rfl (lv_at hl 1 rfl) ?_
        refine lv_aload_n hx hb d_Wire_sendParts_17 rfl (lv_at hl 2 rfl) ?_
        replace hm := zb1_s hm
        obtain ⟨v5, h4, hm⟩ := hm
        refine zr_getN (ci := 4) (C := R_Primary) (T := F_Primary) (N := 9) hx hb hts in_Primary hown hk hX rfl 6 (by decide) rfl rfl (nF14 hk) rfl (zgi_v h4) d_Wire_sendParts_18 ?_
        replace hm := zb1_s hm
        obtain ⟨_, h7, hm⟩ := hm
        replace hm := zb2_s hm
        obtain ⟨q8, X9, h6, hm⟩ := hm
        refine zr_callq (zr_runV (As := [.int 5, .int w1, .int v5]) (rest := []) (n := 3) hx hb hml hown hts hk hX (c_Wire_put l G N X w0 5 w1 v5 q8 X9 h6) (hts _ tW144) tW145 (hts _ tW91) (hts _ tW146) (hts _ tW147) rfl h7 (by decide +kernel) ⟨Nat.le_of_ble_eq_true rfl, Nat.le_of_ble_eq_true rfl⟩ rfl rfl hl.1 rfl (lv_room (Nat.le_of_ble_eq_true rfl)) d_Wire_sendParts_21 ⟨(Nat.le_of_ble_eq_true rfl), (Nat.le_of_ble_eq_true rfl)⟩) hS (fun H locs hX hS => ?_)
        refine zr_astoreq (lv' := [(5, va_rf q8), (0, .ref w0), (1, .int w1), (2, .ref w2), (3, .int w3), (4, .int w4)]) hx hb d_Wire_sendParts_24 hl (by decide) rfl (fun ls hl => ?_)
        cases q8 with
        | none =>
          replace hm := zbo_n hm
          refine lv_aloadN hx hb d_Wire_sendParts_26 (lv_at hl 0 rfl) ?_
          refine lv_ifnonnullN hx hb d_Wire_sendParts_28 ?_
          obtain ⟨rfl, rfl⟩ := hret _ _ (Option.some.inj hm).symm
          exact W.vret hx hb hr (fun t ht hW => zh_end hk hX hS ht hW) hS.2.2 d_Wire_sendParts_31
        | some a10 =>
          replace hm := zbo_s hm
          refine lv_aload hx hb d_Wire_sendParts_26 (lv_at hl 0 rfl) ?_
          refine lv_ifnonnull (tgt := 32) hx hb d_Wire_sendParts_28 rfl ?_
          refine lv_aload hx hb d_Wire_sendParts_32 (lv_at hl 0 rfl) ?_
          refine lv_iload_n hx hb d_Wire_sendParts_34 rfl (lv_at hl 4 rfl) ?_
          replace hm := zb1_s hm
          obtain ⟨X11, h12, hm⟩ := hm
          refine zr_putN (ci := 3) (C := R_Message) (T := F_Message) (N := 10) (ty := .int) (v := .int w3) hx hb hts in_Message t_Message t_Message_ok n_Message hown hk hX hS rfl 5 (by decide) rfl rfl (nF15 hk) rfl rfl (by decide +kernel) rfl rfl h12 d_Wire_sendParts_35 (fun H locs hX hS => ?_)
          refine lv_aload hx hb d_Wire_sendParts_38 (lv_at hl 0 rfl) ?_
          refine lv_aload_n hx hb d_Wire_sendParts_40 rfl (lv_at hl 3 rfl) ?_
          replace hm := zb1_s hm
          obtain ⟨v14, h13, hm⟩ := hm
          refine zr_getN (ci := 4) (C := R_Primary) (T := F_Primary) (N := 9) hx hb hts in_Primary hown hk hX rfl 5 (by decide) rfl rfl (nF16 hk) rfl (zgi_v h13) d_Wire_sendParts_41 ?_
          replace hm := zb1_s hm
          obtain ⟨X15, h16, hm⟩ := hm
          refine zr_putN (ci := 3) (C := R_Message) (T := F_Message) (N := 10) (ty := .boolean) (v := .int v14) hx hb hts in_Message t_Message t_Message_ok n_Message hown hk hX hS rfl 7 (by decide) rfl rfl (nF17 hk) rfl rfl (by decide +kernel) (zpz_n h16) (zpz_f h16) (zpz_v h16) d_Wire_sendParts_44 (fun H locs hX hS => ?_)
          refine lv_aload hx hb d_Wire_sendParts_47 (lv_at hl 0 rfl) ?_
          refine lv_iload hx hb d_Wire_sendParts_49 (lv_at hl 5 rfl) ?_
          refine lv_iconst (v := 4) hx hb d_Wire_sendParts_51 (by decide) ?_
          refine lv_iadd hx hb d_Wire_sendParts_52 ?_
          refine lv_aload_n hx hb d_Wire_sendParts_53 rfl (lv_at hl 3 rfl) ?_
          replace hm := zb1_s hm
          obtain ⟨v18, h17, hm⟩ := hm
          refine zr_getN (ci := 4) (C := R_Primary) (T := F_Primary) (N := 9) hx hb hts in_Primary hown hk hX rfl 4 (by decide) rfl rfl (nF13 hk) rfl (zgi_v h17) d_Wire_sendParts_54 ?_
          refine lv_icmp_lt (tgt := 64) hx hb d_Wire_sendParts_57 rfl (fun h19 => ?_) (fun h19 => ?_)
          · replace hm := zi_t h19 hm
            refine lv_iconst (v := 0) hx hb d_Wire_sendParts_64 (by decide) ?_
            replace hm := zb1_s hm
            obtain ⟨X20, h21, hm⟩ := hm
            refine zr_putN (ci := 3) (C := R_Message) (T := F_Message) (N := 10) (ty := .boolean) (v := .int 0) hx hb hts in_Message t_Message t_Message_ok n_Message hown hk hX hS rfl 8 (by decide) rfl rfl (nF18 hk) rfl rfl (by decide +kernel) (zpz_n h21) (zpz_f h21) (zpz_v h21) d_Wire_sendParts_65 (fun H locs hX hS => ?_)
            refine lv_aload hx hb d_Wire_sendParts_68 (lv_at hl 0 rfl) ?_
            refine lv_iconst (v := 4) hx hb d_Wire_sendParts_70 (by decide) ?_
            refine lv_aload_n hx hb d_Wire_sendParts_71 rfl (lv_at hl 3 rfl) ?_
            replace hm := zb1_s hm
            obtain ⟨v23, h22, hm⟩ := hm
            refine zr_getN (ci := 4) (C := R_Primary) (T := F_Primary) (N := 9) hx hb hts in_Primary hown hk hX rfl 4 (by decide) rfl rfl (nF13 hk) rfl (zgi_v h22) d_Wire_sendParts_72 ?_
            refine lv_iload hx hb d_Wire_sendParts_75 (lv_at hl 5 rfl) ?_
            refine lv_isub hx hb d_Wire_sendParts_77 ?_
            refine va_mmin hx hb (hml.trans hl.1.symm) hown (hts _ tW148) (hts _ tW149) (hts _ tW150) (hts _ tW151) (Nat.le_of_ble_eq_true rfl) (Nat.le_of_ble_eq_true rfl) (Nat.le_of_ble_eq_true rfl) (Nat.le_of_ble_eq_true rfl) d_Wire_sendParts_78 ?_
            replace hm := zb1_s hm
            obtain ⟨X24, h25, hm⟩ := hm
            refine zr_putN (ci := 3) (C := R_Message) (T := F_Message) (N := 10) (ty := .int) (v := .int (if (v23 - w4) < 4 then (v23 - w4) else 4)) hx hb hts in_Message t_Message t_Message_ok n_Message hown hk hX hS rfl 6 (by decide) rfl rfl (nF19 hk) rfl rfl (by decide +kernel) rfl rfl h25 d_Wire_sendParts_81 (fun H locs hX hS => ?_)
            refine lv_iconst (v := 0) hx hb d_Wire_sendParts_84 (by decide) ?_
            refine lv_istore (lv' := [(6, .int 0), (5, .ref a10), (0, .ref w0), (1, .int w1), (2, .ref w2), (3, .int w3), (4, .int w4)]) hx hb d_Wire_sendParts_85 hl (by decide) rfl (fun ls hl => ?_)
            replace hm := zb2_s hm
            obtain ⟨v37, X39, h38, hm⟩ := hm
            refine hL87 N X24 w0 w1 w2 w3 w4 a10 0 v37 X39 _ _ _ h38 hX hS (lv_sub hl [2, 3, 4, 5, 6, 1, 0] rfl) (fun H locs ls hX hS hl => ?_)
            refine lv_iinc (v := w3 + 1) (lv' := [(3, .int (w3 + 1)), (0, .ref w0), (1, .int w1), (2, .ref w2), (4, .int w4)]) hx hb d_Wire_sendParts_121 hl (k := 3) rfl (by rw [show Int32.ofInt 1 = 1 by decide]) (by decide) rfl (fun ls hl => ?_)
            refine lv_iinc (v := w4 + 4) (lv' := [(4, .int (w4 + 4)), (3, .int (w3 + 1)), (0, .ref w0), (1, .int w1), (2, .ref w2)]) hx hb d_Wire_sendParts_124 hl (k := 4) rfl (by rw [show Int32.ofInt 4 = 4 by decide]) (by decide) rfl (fun ls hl => ?_)
            refine lv_goto (tgt := 5) hx hb d_Wire_sendParts_127 rfl ?_
            exact ih X39 w0 w1 w2 (w3 + 1) (w4 + 4) o _ _ _ hm hX hS (lv_sub hl [2, 3, 4, 1, 0] rfl) hret hexit
          · replace hm := zi_f h19 hm
            refine lv_iconst (v := 1) hx hb d_Wire_sendParts_60 (by decide) ?_
            refine lv_goto (tgt := 65) hx hb d_Wire_sendParts_61 rfl ?_
            replace hm := zb1_s hm
            obtain ⟨X40, h41, hm⟩ := hm
            refine zr_putN (ci := 3) (C := R_Message) (T := F_Message) (N := 10) (ty := .boolean) (v := .int 1) hx hb hts in_Message t_Message t_Message_ok n_Message hown hk hX hS rfl 8 (by decide) rfl rfl (nF18 hk) rfl rfl (by decide +kernel) (zpz_n h41) (zpz_f h41) (zpz_v h41) d_Wire_sendParts_65 (fun H locs hX hS => ?_)
            refine lv_aload hx hb d_Wire_sendParts_68 (lv_at hl 0 rfl) ?_
            refine lv_iconst (v := 4) hx hb d_Wire_sendParts_70 (by decide) ?_
            refine lv_aload_n hx hb d_Wire_sendParts_71 rfl (lv_at hl 3 rfl) ?_
            replace hm := zb1_s hm
            obtain ⟨v43, h42, hm⟩ := hm
            refine zr_getN (ci := 4) (C := R_Primary) (T := F_Primary) (N := 9) hx hb hts in_Primary hown hk hX rfl 4 (by decide) rfl rfl (nF13 hk) rfl (zgi_v h42) d_Wire_sendParts_72 ?_
            refine lv_iload hx hb d_Wire_sendParts_75 (lv_at hl 5 rfl) ?_
            refine lv_isub hx hb d_Wire_sendParts_77 ?_
            refine va_mmin hx hb (hml.trans hl.1.symm) hown (hts _ tW148) (hts _ tW149) (hts _ tW150) (hts _ tW151) (Nat.le_of_ble_eq_true rfl) (Nat.le_of_ble_eq_true rfl) (Nat.le_of_ble_eq_true rfl) (Nat.le_of_ble_eq_true rfl) d_Wire_sendParts_78 ?_
            replace hm := zb1_s hm
            obtain ⟨X44, h45, hm⟩ := hm
            refine zr_putN (ci := 3) (C := R_Message) (T := F_Message) (N := 10) (ty := .int) (v := .int (if (v43 - w4) < 4 then (v43 - w4) else 4)) hx hb hts in_Message t_Message t_Message_ok n_Message hown hk hX hS rfl 6 (by decide) rfl rfl (nF19 hk) rfl rfl (by decide +kernel) rfl rfl h45 d_Wire_sendParts_81 (fun H locs hX hS => ?_)
            refine lv_iconst (v := 0) hx hb d_Wire_sendParts_84 (by decide) ?_
            refine lv_istore (lv' := [(6, .int 0), (5, .ref a10), (0, .ref w0), (1, .int w1), (2, .ref w2), (3, .int w3), (4, .int w4)]) hx hb d_Wire_sendParts_85 hl (by decide) rfl (fun ls hl => ?_)
            replace hm := zb2_s hm
            obtain ⟨v46, X48, h47, hm⟩ := hm
            refine hL87 N X44 w0 w1 w2 w3 w4 a10 0 v46 X48 _ _ _ h47 hX hS (lv_sub hl [2, 3, 4, 5, 6, 1, 0] rfl) (fun H locs ls hX hS hl => ?_)
            refine lv_iinc (v := w3 + 1) (lv' := [(3, .int (w3 + 1)), (0, .ref w0), (1, .int w1), (2, .ref w2), (4, .int w4)]) hx hb d_Wire_sendParts_121 hl (k := 3) rfl (by rw [show Int32.ofInt 1 = 1 by decide]) (by decide) rfl (fun ls hl => ?_)
            refine lv_iinc (v := w4 + 4) (lv' := [(4, .int (w4 + 4)), (3, .int (w3 + 1)), (0, .ref w0), (1, .int w1), (2, .ref w2)]) hx hb d_Wire_sendParts_124 hl (k := 4) rfl (by rw [show Int32.ofInt 4 = 4 by decide]) (by decide) rfl (fun ls hl => ?_)
            refine lv_goto (tgt := 5) hx hb d_Wire_sendParts_127 rfl ?_
            exact ih X48 w0 w1 w2 (w3 + 1) (w4 + 4) o _ _ _ hm hX hS (lv_sub hl [2, 3, 4, 1, 0] rfl) hret hexit
  refine lv_iconst (v := 0) hx hb d_Wire_sendParts_0 (by decide) ?_
  refine lv_istore_n (lv' := [(3, .int 0), (0, .ref x0), (1, .int x1), (2, .ref x2)]) hx hb d_Wire_sendParts_1 rfl hl (by decide) rfl (fun ls hl => ?_)
  refine lv_iconst (v := 0) hx hb d_Wire_sendParts_2 (by decide) ?_
  refine lv_istore (lv' := [(4, .int 0), (3, .int 0), (0, .ref x0), (1, .int x1), (2, .ref x2)]) hx hb d_Wire_sendParts_3 hl (by decide) rfl (fun ls hl => ?_)
  replace hm := zbt_s hm
  obtain ⟨o52, h50, hm⟩ := hm
  refine hL5 N X x0 x1 x2 0 0 o52 _ _ _ h50 hX hS (lv_sub hl [2, 3, 4, 1, 0] rfl) (fun r0 X0 e0 => ?_) (fun v49 X51 e0 H locs ls hX hS hl => ?_)
  · subst e0
    replace hm := zt_l hm
    exact zs_p hm
  · subst e0
    replace hm := zt_r hm
    cases hm
    exact W.vret hx hb hr (fun t ht hW => zh_end hk hX hS ht hW) hS.2.2 d_Wire_sendParts_130
