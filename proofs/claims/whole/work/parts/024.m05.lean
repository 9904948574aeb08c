set_option maxHeartbeats 4000000 in
set_option maxRecDepth 100000 in
theorem c_Records_becomeDifference (l : Launch) (G : zh_G) (N : Nat) (X : zh_T) (x0 : Nat) (x1 : Nat) (x2 : Nat) (r : Unit) (X' : zh_T) (hm : f_Records_becomeDifference N X x0 x1 x2 = some (r, X')) : zM l G y_Records_becomeDifference w_Records_becomeDifference 0 0 X [.ref x0, .ref x1, .ref x2] none X' 0 0 := by
  refine zr_ofW (by decide) (by exact Nat.le_of_ble_eq_true rfl) ?_
  intro p e s m args below meth c ls hx hb hml hr hts hown hin hlocks hk hX hl
  have hS : va_S (zh_A G) s.heap s.heap [] := va_S.rf
  have hl : lv_has ls 4 [(0, .ref x0), (1, .ref x1), (2, .ref x2)] := hl
  have hown : s.vm.findClass R_Records = some m.cls := hown
  unfold f_Records_becomeDifference at hm
  have hL2 : ∀ (n : Nat) (X : zh_T) (w0 : Nat) (w1 : Nat) (w2 : Nat) (w3 : Int32) (v : Unit) (X1 : zh_T) (H : Heap) (locs : List Loc) (ls : Array Slot), L_Records_becomeDifference_2 N w0 w1 w2 n X w3 = some (v, X1) → zh_w G X H → va_S (zh_A G) s.heap H locs → lv_has ls 4 [(0, .ref w0), (1, .ref w1), (2, .ref w2), (3, .int w3)] → (∀ (H : Heap) (locs : List Loc) (ls : Array Slot), zh_w G X1 H → va_S (zh_A G) s.heap H locs → lv_has ls 4 [] → W p l e { frames := 0, cells := 0, slots := 0, locals := 0 } s m args below meth c H locs 0 0 (MQ below (zh_Q G none X') args s 0 0 (zh_A G)) (F0 m 38 ls [])) → W p l e { frames := 0, cells := 0, slots := 0, locals := 0 } s m args below meth c H locs 0 0 (MQ below (zh_Q G none X') args s 0 0 (zh_A G)) (F0 m 2 ls []) := by
    intro n
    induction n with
    | zero =>
      intro X w0 w1 w2 w3 v X1 H locs ls hm hX hS hl hexit
      rw [L_Records_becomeDifference_2] at hm
      cases hm
    | succ n ih =>
      intro X w0 w1 w2 w3 v X1 H locs ls hm hX hS hl hexit
      rw [L_Records_becomeDifference_2] at hm
      refine lv_iload_n hx hb d_Records_becomeDifference_2 rfl (lv_at hl 3 rfl) ?_
      refine lv_aload_n hx hb d_Records_becomeDifference_3 rfl (lv_at hl 0 rfl) ?_
      replace hm := zb1_s hm
      obtain ⟨a2, h1, hm⟩ := hm
      refine zr_get (ci := 5) (C := R_Records) (T := F_Records) (N := 1) hx hb hts in_Records hown hk hX rfl 0 (by decide) (hts _ tW7) rfl (zgr_v h1) d_Records_becomeDifference_4 ?_
      replace hm := zb1_s hm
      obtain ⟨v3, h4, hm⟩ := hm
      refine zr_alen (t := 0) hx hb hk hX rfl h4 d_Records_becomeDifference_7 ?_
      refine lv_icmp_ge (tgt := 38) hx hb d_Records_becomeDifference_8 rfl (fun h5 => ?_) (fun h5 => ?_)
      · replace hm := zi_t h5 hm
        cases hm
        exact hexit _ _ _ hX hS (lv_sub hl [] rfl)
      · replace hm := zi_f h5 hm
        refine lv_aload_n hx hb d_Records_becomeDifference_11 rfl (lv_at hl 0 rfl) ?_
        replace hm := zb1_s hm
        obtain ⟨a7, h6, hm⟩ := hm
        refine zr_get (ci := 5) (C := R_Records) (T := F_Records) (N := 1) hx hb hts in_Records hown hk hX rfl 0 (by decide) (hts _ tW7) rfl (zgr_v h6) d_Records_becomeDifference_12 ?_
        refine lv_iload_n hx hb d_Records_becomeDifference_15 rfl (lv_at hl 3 rfl) ?_
        refine lv_aload_n hx hb d_Records_becomeDifference_16 rfl (lv_at hl 1 rfl) ?_
        replace hm := zb1_s hm
        obtain ⟨a9, h8, hm⟩ := hm
        refine zr_get (ci := 5) (C := R_Records) (T := F_Records) (N := 1) hx hb hts in_Records hown hk hX rfl 0 (by decide) (hts _ tW7) rfl (zgr_v h8) d_Records_becomeDifference_17 ?_
        refine lv_iload_n hx hb d_Records_becomeDifference_20 rfl (lv_at hl 3 rfl) ?_
        replace hm := zb1_s hm
        obtain ⟨v10, h11, hm⟩ := hm
        refine zr_iaload hx hb hk hX h11 d_Records_becomeDifference_21 ?_
        refine lv_aload_n hx hb d_Records_becomeDifference_22 rfl (lv_at hl 2 rfl) ?_
        replace hm := zb1_s hm
        obtain ⟨a13, h12, hm⟩ := hm
        refine zr_get (ci := 5) (C := R_Records) (T := F_Records) (N := 1) hx hb hts in_Records hown hk hX rfl 0 (by decide) (hts _ tW7) rfl (zgr_v h12) d_Records_becomeDifference_23 ?_
        refine lv_iload_n hx hb d_Records_becomeDifference_26 rfl (lv_at hl 3 rfl) ?_
        replace hm := zb1_s hm
        obtain ⟨v14, h15, hm⟩ := hm
        refine zr_iaload hx hb hk hX h15 d_Records_becomeDifference_27 ?_
        refine lv_iconst (v := (-1)) hx hb d_Records_becomeDifference_28 (by decide) ?_
        refine lv_ixor hx hb d_Records_becomeDifference_29 ?_
        refine lv_iand hx hb d_Records_becomeDifference_30 ?_
        replace hm := zb1_s hm
        obtain ⟨X16, h17, hm⟩ := hm
        refine zr_iastore hx hb hk hX hS h17 d_Records_becomeDifference_31 (fun H locs hX hS => ?_)
        refine lv_iinc (v := w3 + 1) (lv' := [(3, .int (w3 + 1)), (0, .ref w0), (1, .ref w1), (2, .ref w2)]) hx hb d_Records_becomeDifference_32 hl (k := 3) rfl (by rw [show Int32.ofInt 1 = 1 by decide]) (by decide) rfl (fun ls hl => ?_)
        refine lv_goto (tgt := 2) hx hb d_Records_becomeDifference_35 rfl ?_
        exact ih X16 w0 w1 w2 (w3 + 1) v X1 _ _ _ hm hX hS (lv_sub hl [1, 2, 3, 0] rfl) hexit
  refine lv_iconst (v := 0) hx hb d_Records_becomeDifference_0 (by decide) ?_
  refine lv_istore_n (lv' := [(3, .int 0), (0, .ref x0), (1, .ref x1), (2, .ref x2)]) hx hb d_Records_becomeDifference_1 rfl hl (by decide) rfl (fun ls hl => ?_)
  replace hm := zb2_s hm
  obtain ⟨v18, X20, h19, hm⟩ := hm
  refine hL2 N X x0 x1 x2 0 v18 X20 _ _ _ h19 hX hS (lv_sub hl [1, 2, 3, 0] rfl) (fun H locs ls hX hS hl => ?_)
  cases hm
  exact W.vret hx hb hr (fun t ht hW => zh_end hk hX hS ht hW) hS.2.2 d_Records_becomeDifference_38
set_option maxHeartbeats 4000000 in
set_option maxRecDepth 100000 in
theorem c_Journal_append (l : Launch) (G : zh_G) (N : Nat) (X : zh_T) (x0 : Nat) (x1 : Int32) (x2 : Nat) (x3 : Nat) (r : Unit) (X' : zh_T) (hm : f_Journal_append N X x0 x1 x2 x3 = some (r, X')) : zM l G y_Journal_append w_Journal_append 1 23 X [.ref x0, .int x1, .ref x2, .ref x3] none X' 0 0 := by
  refine zr_ofW (by decide) (by exact Nat.le_of_ble_eq_true rfl) ?_
  intro p e s m args below meth c ls hx hb hml hr hts hown hin hlocks hk hX hl
  have hS : va_S (zh_A G) s.heap s.heap [] := va_S.rf
  have hl : lv_has ls 5 [(0, .ref x0), (1, .int x1), (2, .ref x2), (3, .ref x3)] := hl
  have hown : s.vm.findClass R_Journal = some m.cls := hown
  unfold f_Journal_append at hm
  refine lv_aload_n hx hb d_Journal_append_0 rfl (lv_at hl 0 rfl) ?_
  replace hm := zb1_s hm
  obtain ⟨v2, h1, hm⟩ := hm
  refine zr_get (ci := 2) (C := R_Journal) (T := F_Journal) (N := 2) hx hb hts in_Journal hown hk hX rfl 1 (by decide) (hts _ tW118) rfl (zgi_v h1) d_Journal_append_1 ?_
  refine lv_aload_n hx hb d_Journal_append_4 rfl (lv_at hl 0 rfl) ?_
  replace hm := zb1_s hm
  obtain ⟨a4, h3, hm⟩ := hm
  refine zr_get (ci := 2) (C := R_Journal) (T := F_Journal) (N := 2) hx hb hts in_Journal hown hk hX rfl 0 (by decide) (hts _ tW18) rfl (zgr_v h3) d_Journal_append_5 ?_
  replace hm := zb1_s hm
  obtain ⟨v5, h6, hm⟩ := hm
  refine zr_alen (t := 2) hx hb hk hX rfl h6 d_Journal_append_8 ?_
  refine lv_icmp_lt (tgt := 13) hx hb d_Journal_append_9 rfl (fun h7 => ?_) (fun h7 => ?_)
  · replace hm := zi_t h7 hm
    refine lv_aload_n hx hb d_Journal_append_13 rfl (lv_at hl 0 rfl) ?_
    replace hm := zb1_s hm
    obtain ⟨a9, h8, hm⟩ := hm
    refine zr_get (ci := 2) (C := R_Journal) (T := F_Journal) (N := 2) hx hb hts in_Journal hown hk hX rfl 0 (by decide) (hts _ tW18) rfl (zgr_v h8) d_Journal_append_14 ?_
    refine lv_aload_n hx hb d_Journal_append_17 rfl (lv_at hl 0 rfl) ?_
    replace hm := zb1_s hm
    obtain ⟨v11, h10, hm⟩ := hm
    refine zr_get (ci := 2) (C := R_Journal) (T := F_Journal) (N := 2) hx hb hts in_Journal hown hk hX rfl 1 (by decide) (hts _ tW118) rfl (zgi_v h10) d_Journal_append_18 ?_
    replace hm := zb1_s hm
    obtain ⟨a13, h12, hm⟩ := hm
    refine zr_aaload (t := 2) (q := some a13) hx hb hk hX rfl (zar_v h12) d_Journal_append_21 ?_
    refine lv_astore (lv' := [(4, .ref a13), (0, .ref x0), (1, .int x1), (2, .ref x2), (3, .ref x3)]) hx hb d_Journal_append_22 hl (by decide) rfl (fun ls hl => ?_)
    refine lv_aload hx hb d_Journal_append_24 (lv_at hl 0 rfl) ?_
    refine lv_iload_n hx hb d_Journal_append_26 rfl (lv_at hl 2 rfl) ?_
    replace hm := zb1_s hm
    obtain ⟨X14, h15, hm⟩ := hm
    refine zr_putN (ci := 1) (C := R_Entry) (T := F_Entry) (N := 4) (ty := .int) (v := .int x1) hx hb hts in_Entry t_Entry t_Entry_ok n_Entry hown hk hX hS rfl 2 (by decide) rfl rfl (nF4 hk) rfl rfl (by decide +kernel) rfl rfl h15 d_Journal_append_27 (fun H locs hX hS => ?_)
    refine lv_aload hx hb d_Journal_append_30 (lv_at hl 0 rfl) ?_
    refine lv_iconst (v := 0) hx hb d_Journal_append_32 (by decide) ?_
    replace hm := zb1_s hm
    obtain ⟨X16, h17, hm⟩ := hm
    refine zr_putN (ci := 1) (C := R_Entry) (T := F_Entry) (N := 4) (ty := .boolean) (v := .int 0) hx hb hts in_Entry t_Entry t_Entry_ok n_Entry hown hk hX hS rfl 3 (by decide) rfl rfl (nF40 hk) rfl rfl (by decide +kernel) (zpz_n h17) (zpz_f h17) (zpz_v h17) d_Journal_append_33 (fun H locs hX hS => ?_)
    refine lv_aload hx hb d_Journal_append_36 (lv_at hl 0 rfl) ?_
    replace hm := zb1_s hm
    obtain ⟨a19, h18, hm⟩ := hm
    refine zr_getN (ci := 1) (C := R_Entry) (T := F_Entry) (N := 4) hx hb hts in_Entry hown hk hX rfl 0 (by decide) rfl rfl (nF41 hk) rfl (zgr_v h18) d_Journal_append_38 ?_
    refine lv_aload_n hx hb d_Journal_append_41 rfl (lv_at hl 3 rfl) ?_
    refine lv_aload_n hx hb d_Journal_append_42 rfl (lv_at hl 4 rfl) ?_
    replace hm := zb1_s hm
    obtain ⟨_, h21, hm⟩ := hm
    replace hm := zb2_s hm
    obtain ⟨v22, X23, h20, hm⟩ := hm
    refine zr_callv (zr_runV (As := [.ref x2, .ref x3]) (rest := []) (n := 2) hx hb hml hown hts hk hX (c_Records_becomeDifference l G N X16 a19 x2 x3 v22 X23 h20) (hts _ tW319) tW320 (hts _ tW11) (hts _ tW321) (hts _ tW322) rfl h21 (by decide +kernel) ⟨Nat.le_of_ble_eq_true rfl, Nat.le_of_ble_eq_true rfl⟩ rfl rfl hl.1 rfl (lv_room (Nat.le_of_ble_eq_true rfl)) d_Journal_append_43 ⟨(Nat.le_of_ble_eq_true rfl), (Nat.le_of_ble_eq_true rfl)⟩) hS (fun H locs hX hS => ?_)
    refine lv_aload hx hb d_Journal_append_46 (lv_at hl 0 rfl) ?_
    replace hm := zb1_s hm
    obtain ⟨a25, h24, hm⟩ := hm
    refine zr_getN (ci := 1) (C := R_Entry) (T := F_Entry) (N := 4) hx hb hts in_Entry hown hk hX rfl 1 (by decide) rfl rfl (nF42 hk) rfl (zgr_v h24) d_Journal_append_48 ?_
    refine lv_aload_n hx hb d_Journal_append_51 rfl (lv_at hl 4 rfl) ?_
    refine lv_aload_n hx hb d_Journal_append_52 rfl (lv_at hl 3 rfl) ?_
    replace hm := zb1_s hm
    obtain ⟨_, h27, hm⟩ := hm
    replace hm := zb2_s hm
    obtain ⟨v28, X29, h26, hm⟩ := hm
    refine zr_callv (zr_runV (As := [.ref x3, .ref x2]) (rest := []) (n := 2) hx hb hml hown hts hk hX (c_Records_becomeDifference l G N X23 a25 x3 x2 v28 X29 h26) (hts _ tW319) tW320 (hts _ tW11) (hts _ tW321) (hts _ tW322) rfl h27 (by decide +kernel) ⟨Nat.le_of_ble_eq_true rfl, Nat.le_of_ble_eq_true rfl⟩ rfl rfl hl.1 rfl (lv_room (Nat.le_of_ble_eq_true rfl)) d_Journal_append_53 ⟨(Nat.le_of_ble_eq_true rfl), (Nat.le_of_ble_eq_true rfl)⟩) hS (fun H locs hX hS => ?_)
    refine lv_aload_n hx hb d_Journal_append_56 rfl (lv_at hl 1 rfl) ?_
    refine lv_dup hx hb d_Journal_append_57 rfl ?_
    replace hm := zb1_s hm
    obtain ⟨v31, h30, hm⟩ := hm
    refine zr_get (ci := 2) (C := R_Journal) (T := F_Journal) (N := 2) hx hb hts in_Journal hown hk hX rfl 1 (by decide) (hts _ tW118) rfl (zgi_v h30) d_Journal_append_58 ?_
    refine lv_iconst (v := 1) hx hb d_Journal_append_61 (by decide) ?_
    refine lv_iadd hx hb d_Journal_append_62 ?_
    replace hm := zb1_s hm
    obtain ⟨X32, h33, hm⟩ := hm
    refine zr_put (ci := 2) (C := R_Journal) (T := F_Journal) (N := 2) (ty := .int) (v := .int (v31 + 1)) hx hb hts in_Journal t_Journal t_Journal_ok n_Journal hown hk hX hS rfl 1 (by decide) (hts _ tW118) rfl rfl (by decide +kernel) rfl rfl h33 d_Journal_append_63 (fun H locs hX hS => ?_)
    cases hm
    exact W.vret hx hb hr (fun t ht hW => zh_end hk hX hS ht hW) hS.2.2 d_Journal_append_66
  · replace hm := zi_f h7 hm
    cases hm
    exact W.vret hx hb hr (fun t ht hW => zh_end hk hX hS ht hW) hS.2.2 d_Journal_append_12
set_option maxHeartbeats 4000000 in
set_option maxRecDepth 100000 in
theorem c_Journal_markLatest (l : Launch) (G : zh_G) (N : Nat) (X : zh_T) (x0 : Nat) (r : Unit) (X' : zh_T) (hm : f_Journal_markLatest N X x0 = some (r, X')) : zM l G y_Journal_markLatest w_Journal_markLatest 0 0 X [.ref x0] none X' 0 0 := by
  refine zr_ofW (by decide) (by exact Nat.le_of_ble_eq_true rfl) ?_
  intro p e s m args below meth c ls hx hb hml hr hts hown hin hlocks hk hX hl
  have hS : va_S (zh_A G) s.heap s.heap [] := va_S.rf
  have hl : lv_has ls 1 [(0, .ref x0)] := hl
  have hown : s.vm.findClass R_Journal = some m.cls := hown
  unfold f_Journal_markLatest at hm
  refine lv_aload_n hx hb d_Journal_markLatest_0 rfl (lv_at hl 0 rfl) ?_
  replace hm := zb1_s hm
  obtain ⟨v2, h1, hm⟩ := hm
  refine zr_get (ci := 2) (C := R_Journal) (T := F_Journal) (N := 2) hx hb hts in_Journal hown hk hX rfl 1 (by decide) (hts _ tW118) rfl (zgi_v h1) d_Journal_markLatest_1 ?_
  refine lv_if_le (tgt := 22) hx hb d_Journal_markLatest_4 rfl (fun h3 => ?_) (fun h3 => ?_)
  · replace hm := zi_t h3 hm
    cases hm
    exact W.vret hx hb hr (fun t ht hW => zh_end hk hX hS ht hW) hS.2.2 d_Journal_markLatest_22
  · replace hm := zi_f h3 hm
    refine lv_aload_n hx hb d_Journal_markLatest_7 rfl (lv_at hl 0 rfl) ?_
    replace hm := zb1_s hm
    obtain ⟨a5, h4, hm⟩ := hm
    refine zr_get (ci := 2) (C := R_Journal) (T := F_Journal) (N := 2) hx hb hts in_Journal hown hk hX rfl 0 (by decide) (hts _ tW18) rfl (zgr_v h4) d_Journal_markLatest_8 ?_
    refine lv_aload_n hx hb d_Journal_markLatest_11 rfl (lv_at hl 0 rfl) ?_
    replace hm := zb1_s hm
    obtain ⟨v7, h6, hm⟩ := hm
    refine zr_get (ci := 2) (C := R_Journal) (T := F_Journal) (N := 2) hx hb hts in_Journal hown hk hX rfl 1 (by decide) (hts _ tW118) rfl (zgi_v h6) d_Journal_markLatest_12 ?_
    refine lv_iconst (v := 1) hx hb d_Journal_markLatest_15 (by decide) ?_
    refine lv_isub hx hb d_Journal_markLatest_16 ?_
    replace hm := zb1_s hm
    obtain ⟨a9, h8, hm⟩ := hm
    refine zr_aaload (t := 2) (q := some a9) hx hb hk hX rfl (zar_v h8) d_Journal_markLatest_17 ?_
    refine lv_iconst (v := 1) hx hb d_Journal_markLatest_18 (by decide) ?_
    replace hm := zb1_s hm
    obtain ⟨X10, h11, hm⟩ := hm
    refine zr_putN (ci := 1) (C := R_Entry) (T := F_Entry) (N := 4) (ty := .boolean) (v := .int 1) hx hb hts in_Entry t_Entry t_Entry_ok n_Entry hown hk hX hS rfl 3 (by decide) rfl rfl (nF40 hk) rfl rfl (by decide +kernel) (zpz_n h11) (zpz_f h11) (zpz_v h11) d_Journal_markLatest_19 (fun H locs hX hS => ?_)
    cases hm
    exact W.vret hx hb hr (fun t ht hW => zh_end hk hX hS ht hW) hS.2.2 d_Journal_markLatest_22
set_option maxHeartbeats 4000000 in
set_option maxRecDepth 100000 in
theorem c_Journal_keepLatest (l : Launch) (G : zh_G) (N : Nat) (X : zh_T) (x0 : Nat) (r : Unit) (X' : zh_T) (hm : f_Journal_keepLatest N X x0 = some (r, X')) : zM l G y_Journal_keepLatest w_Journal_keepLatest 0 0 X [.ref x0] none X' 0 0 := by
  refine zr_ofW (by decide) (by exact Nat.le_of_ble_eq_true rfl) ?_
  intro p e s m args below meth c ls hx hb hml hr hts hown hin hlocks hk hX hl
  have hS : va_S (zh_A G) s.heap s.heap [] := va_S.rf
  have hl : lv_has ls 3 [(0, .ref x0)] := hl
  have hown : s.vm.findClass R_Journal = some m.cls := hown
  unfold f_Journal_keepLatest at hm
  have hL18 : ∀ (n : Nat) (X : zh_T) (w0 : Nat) (w1 : Nat) (w2 : Int32) (v : Unit) (X1 : zh_T) (H : Heap) (locs : List Loc) (ls : Array Slot), L_Journal_keepLatest_18 N w0 w1 n X w2 = some (v, X1) → zh_w G X H → va_S (zh_A G) s.heap H locs → lv_has ls 3 [(0, .ref w0), (1, .ref w1), (2, .int w2)] → (∀ (H : Heap) (locs : List Loc) (ls : Array Slot), zh_w G X1 H → va_S (zh_A G) s.heap H locs → lv_has ls 3 [(0, .ref w0), (1, .ref w1)] → W p l e { frames := 0, cells := 0, slots := 0, locals := 0 } s m args below meth c H locs 0 0 (MQ below (zh_Q G none X') args s 0 0 (zh_A G)) (F0 m 47 ls [])) → W p l e { frames := 0, cells := 0, slots := 0, locals := 0 } s m args below meth c H locs 0 0 (MQ below (zh_Q G none X') args s 0 0 (zh_A G)) (F0 m 18 ls []) := by
    intro n
    induction n with
    | zero =>
      intro X w0 w1 w2 v X1 H locs ls hm hX hS hl hexit
      rw [L_Journal_keepLatest_18] at hm
      cases hm
    | succ n ih =>
      intro X w0 w1 w2 v X1 H locs ls hm hX hS hl hexit
      rw [L_Journal_keepLatest_18] at hm
      refine lv_iload_n hx hb d_Journal_keepLatest_18 rfl (lv_at hl 2 rfl) ?_
      refine lv_aload_n hx hb d_Journal_keepLatest_19 rfl (lv_at hl 0 rfl) ?_
      replace hm := zb1_s hm
      obtain ⟨a9, h8, hm⟩ := hm
      refine zr_get (ci := 2) (C := R_Journal) (T := F_Journal) (N := 2) hx hb hts in_Journal hown hk hX rfl 0 (by decide) (hts _ tW18) rfl (zgr_v h8) d_Journal_keepLatest_20 ?_
      replace hm := zb1_s hm
      obtain ⟨v10, h11, hm⟩ := hm
      refine zr_alen (t := 2) hx hb hk hX rfl h11 d_Journal_keepLatest_23 ?_
      refine lv_icmp_ge (tgt := 47) hx hb d_Journal_keepLatest_24 rfl (fun h12 => ?_) (fun h12 => ?_)
      · replace hm := zi_t h12 hm
        cases hm
        exact hexit _ _ _ hX hS (lv_sub hl [0, 1] rfl)
      · replace hm := zi_f h12 hm
        refine lv_aload_n hx hb d_Journal_keepLatest_27 rfl (lv_at hl 0 rfl) ?_
        replace hm := zb1_s hm
        obtain ⟨a14, h13, hm⟩ := hm
        refine zr_get (ci := 2) (C := R_Journal) (T := F_Journal) (N := 2) hx hb hts in_Journal hown hk hX rfl 0 (by decide) (hts _ tW18) rfl (zgr_v h13) d_Journal_keepLatest_28 ?_
        refine lv_iload_n hx hb d_Journal_keepLatest_31 rfl (lv_at hl 2 rfl) ?_
        refine lv_iconst (v := 1) hx hb d_Journal_keepLatest_32 (by decide) ?_
        refine lv_isub hx hb d_Journal_keepLatest_33 ?_
        refine lv_aload_n hx hb d_Journal_keepLatest_34 rfl (lv_at hl 0 rfl) ?_
        replace hm := zb1_s hm
        obtain ⟨a16, h15, hm⟩ := hm
        refine zr_get (ci := 2) (C := R_Journal) (T := F_Journal) (N := 2) hx hb hts in_Journal hown hk hX rfl 0 (by decide) (hts _ tW18) rfl (zgr_v h15) d_Journal_keepLatest_35 ?_
        refine lv_iload_n hx hb d_Journal_keepLatest_38 rfl (lv_at hl 2 rfl) ?_
        replace hm := zb1_s hm
        obtain ⟨a18, h17, hm⟩ := hm
        refine zr_aaload (t := 2) (q := some a18) hx hb hk hX rfl (zar_v h17) d_Journal_keepLatest_39 ?_
        replace hm := zb1_s hm
        obtain ⟨X19, h20, hm⟩ := hm
        refine zr_aastore (t := 2) (ci := 1) hx hb hk hX hS rfl rfl h20 d_Journal_keepLatest_40 (fun H locs hX hS => ?_)
        refine lv_iinc (v := w2 + 1) (lv' := [(2, .int (w2 + 1)), (0, .ref w0), (1, .ref w1)]) hx hb d_Journal_keepLatest_41 hl (k := 2) rfl (by rw [show Int32.ofInt 1 = 1 by decide]) (by decide) rfl (fun ls hl => ?_)
        refine lv_goto (tgt := 18) hx hb d_Journal_keepLatest_44 rfl ?_
        exact ih X19 w0 w1 (w2 + 1) v X1 _ _ _ hm hX hS (lv_sub hl [1, 2, 0] rfl) hexit
  refine lv_aload_n hx hb d_Journal_keepLatest_0 rfl (lv_at hl 0 rfl) ?_
  replace hm := zb1_s hm
  obtain ⟨v2, h1, hm⟩ := hm
  refine zr_get (ci := 2) (C := R_Journal) (T := F_Journal) (N := 2) hx hb hts in_Journal hown hk hX rfl 1 (by decide) (hts _ tW118) rfl (zgi_v h1) d_Journal_keepLatest_1 ?_
  refine lv_iconst (v := 4) hx hb d_Journal_keepLatest_4 (by decide) ?_
  refine lv_icmp_gt (tgt := 9) hx hb d_Journal_keepLatest_5 rfl (fun h3 => ?_) (fun h3 => ?_)
  · replace hm := zi_t h3 hm
    refine lv_aload_n hx hb d_Journal_keepLatest_9 rfl (lv_at hl 0 rfl) ?_
    replace hm := zb1_s hm
    obtain ⟨a5, h4, hm⟩ := hm
    refine zr_get (ci := 2) (C := R_Journal) (T := F_Journal) (N := 2) hx hb hts in_Journal hown hk hX rfl 0 (by decide) (hts _ tW18) rfl (zgr_v h4) d_Journal_keepLatest_10 ?_
    refine lv_iconst (v := 0) hx hb d_Journal_keepLatest_13 (by decide) ?_
    replace hm := zb1_s hm
    obtain ⟨a7, h6, hm⟩ := hm
    refine zr_aaload (t := 2) (q := some a7) hx hb hk hX rfl (zar_v h6) d_Journal_keepLatest_14 ?_
    refine lv_astore_n (lv' := [(1, .ref a7), (0, .ref x0)]) hx hb d_Journal_keepLatest_15 rfl hl (by decide) rfl (fun ls hl => ?_)
    refine lv_iconst (v := 1) hx hb d_Journal_keepLatest_16 (by decide) ?_
    refine lv_istore_n (lv' := [(2, .int 1), (1, .ref a7), (0, .ref x0)]) hx hb d_Journal_keepLatest_17 rfl hl (by decide) rfl (fun ls hl => ?_)
    replace hm := zb2_s hm
    obtain ⟨v21, X23, h22, hm⟩ := hm
    refine hL18 N X x0 a7 1 v21 X23 _ _ _ h22 hX hS (lv_sub hl [2, 1, 0] rfl) (fun H locs ls hX hS hl => ?_)
    refine lv_aload_n hx hb d_Journal_keepLatest_47 rfl (lv_at hl 0 rfl) ?_
    replace hm := zb1_s hm
    obtain ⟨a25, h24, hm⟩ := hm
    refine zr_get (ci := 2) (C := R_Journal) (T := F_Journal) (N := 2) hx hb hts in_Journal hown hk hX rfl 0 (by decide) (hts _ tW18) rfl (zgr_v h24) d_Journal_keepLatest_48 ?_
    refine lv_aload_n hx hb d_Journal_keepLatest_51 rfl (lv_at hl 0 rfl) ?_
    replace hm := zb1_s hm
    obtain ⟨a27, h26, hm⟩ := hm
    refine zr_get (ci := 2) (C := R_Journal) (T := F_Journal) (N := 2) hx hb hts in_Journal hown hk hX rfl 0 (by decide) (hts _ tW18) rfl (zgr_v h26) d_Journal_keepLatest_52 ?_
    replace hm := zb1_s hm
    obtain ⟨v28, h29, hm⟩ := hm
    refine zr_alen (t := 2) hx hb hk hX rfl h29 d_Journal_keepLatest_55 ?_
    refine lv_iconst (v := 1) hx hb d_Journal_keepLatest_56 (by decide) ?_
    refine lv_isub hx hb d_Journal_keepLatest_57 ?_
    refine lv_aload_n hx hb d_Journal_keepLatest_58 rfl (lv_at hl 1 rfl) ?_
    replace hm := zb1_s hm
    obtain ⟨X30, h31, hm⟩ := hm
    refine zr_aastore (t := 2) (ci := 1) hx hb hk hX hS rfl rfl h31 d_Journal_keepLatest_59 (fun H locs hX hS => ?_)
    refine lv_aload_n hx hb d_Journal_keepLatest_60 rfl (lv_at hl 0 rfl) ?_
    refine lv_iconst (v := 4) hx hb d_Journal_keepLatest_61 (by decide) ?_
    replace hm := zb1_s hm
    obtain ⟨X32, h33, hm⟩ := hm
    refine zr_put (ci := 2) (C := R_Journal) (T := F_Journal) (N := 2) (ty := .int) (v := .int 4) hx hb hts in_Journal t_Journal t_Journal_ok n_Journal hown hk hX hS rfl 1 (by decide) (hts _ tW118) rfl rfl (by decide +kernel) rfl rfl h33 d_Journal_keepLatest_62 (fun H locs hX hS => ?_)
    cases hm
    exact W.vret hx hb hr (fun t ht hW => zh_end hk hX hS ht hW) hS.2.2 d_Journal_keepLatest_65
  · replace hm := zi_f h3 hm
    cases hm
    exact W.vret hx hb hr (fun t ht hW => zh_end hk hX hS ht hW) hS.2.2 d_Journal_keepLatest_8
set_option maxHeartbeats 4000000 in
set_option maxRecDepth 100000 in
theorem c_Journal_latest (l : Launch) (G : zh_G) (N : Nat) (X : zh_T) (x0 : Nat) (r : Option Nat) (hm : f_Journal_latest N X x0 = some r) : zM l G y_Journal_latest w_Journal_latest 0 0 X [.ref x0] (some (va_rf r)) X 0 0 := by
  refine zr_ofW (by decide) (by exact Nat.le_of_ble_eq_true rfl) ?_
  intro p e s m args below meth c ls hx hb hml hr hts hown hin hlocks hk hX hl
  have hS : va_S (zh_A G) s.heap s.heap [] := va_S.rf
  have hl : lv_has ls 1 [(0, .ref x0)] := hl
  have hown : s.vm.findClass R_Journal = some m.cls := hown
  unfold f_Journal_latest at hm
  refine lv_aload_n hx hb d_Journal_latest_0 rfl (lv_at hl 0 rfl) ?_
  replace hm := zb1_s hm
  obtain ⟨v2, h1, hm⟩ := hm
  refine zr_get (ci := 2) (C := R_Journal) (T := F_Journal) (N := 2) hx hb hts in_Journal hown hk hX rfl 1 (by decide) (hts _ tW118) rfl (zgi_v h1) d_Journal_latest_1 ?_
  refine lv_if_le (tgt := 21) hx hb d_Journal_latest_4 rfl (fun h3 => ?_) (fun h3 => ?_)
  · replace hm := zi_t h3 hm
    refine lv_null hx hb d_Journal_latest_21 ?_
    cases hm
    exact W.aret hx hb hr (Or.inl ⟨_, rfl⟩) (Or.inl rfl) (fun t ht hW => zh_end hk hX hS ht hW) hS.2.2 d_Journal_latest_22
  · replace hm := zi_f h3 hm
    refine lv_aload_n hx hb d_Journal_latest_7 rfl (lv_at hl 0 rfl) ?_
    replace hm := zb1_s hm
    obtain ⟨a5, h4, hm⟩ := hm
    refine zr_get (ci := 2) (C := R_Journal) (T := F_Journal) (N := 2) hx hb hts in_Journal hown hk hX rfl 0 (by decide) (hts _ tW18) rfl (zgr_v h4) d_Journal_latest_8 ?_
    refine lv_aload_n hx hb d_Journal_latest_11 rfl (lv_at hl 0 rfl) ?_
    replace hm := zb1_s hm
    obtain ⟨v7, h6, hm⟩ := hm
    refine zr_get (ci := 2) (C := R_Journal) (T := F_Journal) (N := 2) hx hb hts in_Journal hown hk hX rfl 1 (by decide) (hts _ tW118) rfl (zgi_v h6) d_Journal_latest_12 ?_
    refine lv_iconst (v := 1) hx hb d_Journal_latest_15 (by decide) ?_
    refine lv_isub hx hb d_Journal_latest_16 ?_
    replace hm := zb1_s hm
    obtain ⟨a9, h8, hm⟩ := hm
    refine zr_aaload (t := 2) (q := some a9) hx hb hk hX rfl (zar_v h8) d_Journal_latest_17 ?_
    refine lv_goto (tgt := 22) hx hb d_Journal_latest_18 rfl ?_
    cases hm
    exact W.aret hx hb hr (Or.inl ⟨_, rfl⟩) (Or.inr ⟨_, rfl⟩) (fun t ht hW => zh_end hk hX hS ht hW) hS.2.2 d_Journal_latest_22
set_option maxHeartbeats 4000000 in
set_option maxRecDepth 100000 in
theorem c_Records_exchange (l : Launch) (G : zh_G) (N : Nat) (X : zh_T) (x0 : Nat) (x1 : Nat) (x2 : Nat) (r : Unit) (X' : zh_T) (hm : f_Records_exchange N X x0 x1 x2 = some (r, X')) : zM l G y_Records_exchange w_Records_exchange 0 0 X [.ref x0, .ref x1, .ref x2] none X' 0 0 := by
  refine zr_ofW (by decide) (by exact Nat.le_of_ble_eq_true rfl) ?_
  intro p e s m args below meth c ls hx hb hml hr hts hown hin hlocks hk hX hl
  have hS : va_S (zh_A G) s.heap s.heap [] := va_S.rf
  have hl : lv_has ls 4 [(0, .ref x0), (1, .ref x1), (2, .ref x2)] := hl
  have hown : s.vm.findClass R_Records = some m.cls := hown
  unfold f_Records_exchange at hm
  have hL2 : ∀ (n : Nat) (X : zh_T) (w0 : Nat) (w1 : Nat) (w2 : Nat) (w3 : Int32) (v : Unit) (X1 : zh_T) (H : Heap) (locs : List Loc) (ls : Array Slot), L_Records_exchange_2 N w0 w1 w2 n X w3 = some (v, X1) → zh_w G X H → va_S (zh_A G) s.heap H locs → lv_has ls 4 [(0, .ref w0), (1, .ref w1), (2, .ref w2), (3, .int w3)] → (∀ (H : Heap) (locs : List Loc) (ls : Array Slot), zh_w G X1 H → va_S (zh_A G) s.heap H locs → lv_has ls 4 [] → W p l e { frames := 0, cells := 0, slots := 0, locals := 0 } s m args below meth c H locs 0 0 (MQ below (zh_Q G none X') args s 0 0 (zh_A G)) (F0 m 45 ls [])) → W p l e { frames := 0, cells := 0, slots := 0, locals := 0 } s m args below meth c H locs 0 0 (MQ below (zh_Q G none X') args s 0 0 (zh_A G)) (F0 m 2 ls []) := by
    intro n
    induction n with
    | zero =>
      intro X w0 w1 w2 w3 v X1 H locs ls hm hX hS hl hexit
      rw [L_Records_exchange_2] at hm
      cases hm
    | succ n ih =>
      intro X w0 w1 w2 w3 v X1 H locs ls hm hX hS hl hexit
      rw [L_Records_exchange_2] at hm
      refine lv_iload_n hx hb d_Records_exchange_2 rfl (lv_at hl 3 rfl) ?_
      refine lv_aload_n hx hb d_Records_exchange_3 rfl (lv_at hl 0 rfl) ?_
      replace hm := zb1_s hm
      obtain ⟨a2, h1, hm⟩ := hm
      refine zr_get (ci := 5) (C := R_Records) (T := F_Records) (N := 1) hx hb hts in_Records hown hk hX rfl 0 (by decide) (hts _ tW7) rfl (zgr_v h1) d_Records_exchange_4 ?_
      replace hm := zb1_s hm
      obtain ⟨v3, h4, hm⟩ := hm
      refine zr_alen (t := 0) hx hb hk hX rfl h4 d_Records_exchange_7 ?_
      refine lv_icmp_ge (tgt := 45) hx hb d_Records_exchange_8 rfl (fun h5 => ?_) (fun h5 => ?_)
      · replace hm := zi_t h5 hm
        cases hm
        exact hexit _ _ _ hX hS (lv_sub hl [] rfl)
      · replace hm := zi_f h5 hm
        refine lv_aload_n hx hb d_Records_exchange_11 rfl (lv_at hl 0 rfl) ?_
        replace hm := zb1_s hm
        obtain ⟨a7, h6, hm⟩ := hm
        refine zr_get (ci := 5) (C := R_Records) (T := F_Records) (N := 1) hx hb hts in_Records hown hk hX rfl 0 (by decide) (hts _ tW7) rfl (zgr_v h6) d_Records_exchange_12 ?_
        refine lv_iload_n hx hb d_Records_exchange_15 rfl (lv_at hl 3 rfl) ?_
        refine lv_aload_n hx hb d_Records_exchange_16 rfl (lv_at hl 0 rfl) ?_
        replace hm := zb1_s hm
        obtain ⟨a9, h8, hm⟩ := hm
        refine zr_get (ci := 5) (C := R_Records) (T := F_Records) (N := 1) hx hb hts in_Records hown hk hX rfl 0 (by decide) (hts _ tW7) rfl (zgr_v h8) d_Records_exchange_17 ?_
        refine lv_iload_n hx hb d_Records_exchange_20 rfl (lv_at hl 3 rfl) ?_
        replace hm := zb1_s hm
        obtain ⟨v10, h11, hm⟩ := hm
        refine zr_iaload hx hb hk hX h11 d_Records_exchange_21 ?_
        refine lv_aload_n hx hb d_Records_exchange_22 rfl (lv_at hl 1 rfl) ?_
        replace hm := zb1_s hm
        obtain ⟨a13, h12, hm⟩ := hm
        refine zr_get (ci := 5) (C := R_Records) (T := F_Records) (N := 1) hx hb hts in_Records hown hk hX rfl 0 (by decide) (hts _ tW7) rfl (zgr_v h12) d_Records_exchange_23 ?_
        refine lv_iload_n hx hb d_Records_exchange_26 rfl (lv_at hl 3 rfl) ?_
        replace hm := zb1_s hm
        obtain ⟨v14, h15, hm⟩ := hm
        refine zr_iaload hx hb hk hX h15 d_Records_exchange_27 ?_
        refine lv_iconst (v := (-1)) hx hb d_Records_exchange_28 (by decide) ?_
        refine lv_ixor hx hb d_Records_exchange_29 ?_
        refine lv_iand hx hb d_Records_exchange_30 ?_
        refine lv_aload_n hx hb d_Records_exchange_31 rfl (lv_at hl 2 rfl) ?_
        replace hm := zb1_s hm
        obtain ⟨a17, h16, hm⟩ := hm
        refine zr_get (ci := 5) (C := R_Records) (T := F_Records) (N := 1) hx hb hts in_Records hown hk hX rfl 0 (by decide) (hts _ tW7) rfl (zgr_v h16) d_Records_exchange_32 ?_
        refine lv_iload_n hx hb d_Records_exchange_35 rfl (lv_at hl 3 rfl) ?_
        replace hm := zb1_s hm
        obtain ⟨v18, h19, hm⟩ := hm
        refine zr_iaload hx hb hk hX h19 d_Records_exchange_36 ?_
        refine lv_ior hx hb d_Records_exchange_37 ?_
        replace hm := zb1_s hm
        obtain ⟨X20, h21, hm⟩ := hm
        refine zr_iastore hx hb hk hX hS h21 d_Records_exchange_38 (fun H locs hX hS => ?_)
        refine lv_iinc (v := w3 + 1) (lv' := [(3, .int (w3 + 1)), (0, .ref w0), (1, .ref w1), (2, .ref w2)]) hx hb d_Records_exchange_39 hl (k := 3) rfl (by rw [show Int32.ofInt 1 = 1 by decide]) (by decide) rfl (fun ls hl => ?_)
        refine lv_goto (tgt := 2) hx hb d_Records_exchange_42 rfl ?_
        exact ih X20 w0 w1 w2 (w3 + 1) v X1 _ _ _ hm hX hS (lv_sub hl [1, 2, 3, 0] rfl) hexit
  refine lv_iconst (v := 0) hx hb d_Records_exchange_0 (by decide) ?_
  refine lv_istore_n (lv' := [(3, .int 0), (0, .ref x0), (1, .ref x1), (2, .ref x2)]) hx hb d_Records_exchange_1 rfl hl (by decide) rfl (fun ls hl => ?_)
  replace hm := zb2_s hm
  obtain ⟨v22, X24, h23, hm⟩ := hm
  refine hL2 N X x0 x1 x2 0 v22 X24 _ _ _ h23 hX hS (lv_sub hl [1, 2, 3, 0] rfl) (fun H locs ls hX hS hl => ?_)
  cases hm
  exact W.vret hx hb hr (fun t ht hW => zh_end hk hX hS ht hW) hS.2.2 d_Records_exchange_45
set_option maxHeartbeats 4000000 in
set_option maxRecDepth 100000 in
theorem c_Primary_becomeLatest (l : Launch) (G : zh_G) (N : Nat) (X : zh_T) (x0 : Nat) (r : Unit) (X' : zh_T) (hm : f_Primary_becomeLatest N X x0 = some (r, X')) : zM l G y_Primary_becomeLatest w_Primary_becomeLatest 1 23 X [.ref x0] none X' 0 0 := by
  refine zr_ofW (by decide) (by exact Nat.le_of_ble_eq_true rfl) ?_
  intro p e s m args below meth c ls hx hb hml hr hts hown hin hlocks hk hX hl
  have hS : va_S (zh_A G) s.heap s.heap [] := va_S.rf
  have hl : lv_has ls 2 [(0, .ref x0)] := hl
  have hown : s.vm.findClass R_Primary = some m.cls := hown
  unfold f_Primary_becomeLatest at hm
  refine lv_aload_n hx hb d_Primary_becomeLatest_0 rfl (lv_at hl 0 rfl) ?_
  replace hm := zb1_s hm
  obtain ⟨a2, h1, hm⟩ := hm
  refine zr_get (ci := 4) (C := R_Primary) (T := F_Primary) (N := 9) hx hb hts in_Primary hown hk hX rfl 2 (by decide) (hts _ tW41) rfl (zgr_v h1) d_Primary_becomeLatest_1 ?_
  replace hm := zb1_s hm
  obtain ⟨_, h4, hm⟩ := hm
  replace hm := zb1_s hm
  obtain ⟨q5, h3, hm⟩ := hm
  refine zr_callq (zr_runV (As := []) (rest := []) (n := 0) hx hb hml hown hts hk hX (c_Journal_latest l G N X a2 q5 h3) (hts _ tW323) tW324 (hts _ tW37) (hts _ tW325) (hts _ tW326) rfl h4 (by decide +kernel) ⟨Nat.le_of_ble_eq_true rfl, Nat.le_of_ble_eq_true rfl⟩ rfl rfl hl.1 rfl (lv_room (Nat.le_of_ble_eq_true rfl)) d_Primary_becomeLatest_4 ⟨(Nat.le_of_ble_eq_true rfl), (Nat.le_of_ble_eq_true rfl)⟩) hS (fun H locs hX hS => ?_)
  refine zr_astore_nq (lv' := [(1, va_rf q5), (0, .ref x0)]) hx hb d_Primary_becomeLatest_7 rfl hl (by decide) rfl (fun ls hl => ?_)
  cases q5 with
  | none =>
    replace hm := zbo_n hm
    refine lv_aload_nN hx hb d_Primary_becomeLatest_8 rfl (lv_at hl 0 rfl) ?_
    refine lv_ifnonnullN hx hb d_Primary_becomeLatest_9 ?_
    cases hm
    exact W.vret hx hb hr (fun t ht hW => zh_end hk hX hS ht hW) hS.2.2 d_Primary_becomeLatest_12
  | some a6 =>
    replace hm := zbo_s hm
    refine lv_aload_n hx hb d_Primary_becomeLatest_8 rfl (lv_at hl 0 rfl) ?_
    refine lv_ifnonnull (tgt := 13) hx hb d_Primary_becomeLatest_9 rfl ?_
    refine lv_aload_n hx hb d_Primary_becomeLatest_13 rfl (lv_at hl 1 rfl) ?_
    replace hm := zb1_s hm
    obtain ⟨a8, h7, hm⟩ := hm
    refine zr_get (ci := 4) (C := R_Primary) (T := F_Primary) (N := 9) hx hb hts in_Primary hown hk hX rfl 0 (by decide) (hts _ tW33) rfl (zgr_v h7) d_Primary_becomeLatest_14 ?_
    refine lv_aload_n hx hb d_Primary_becomeLatest_17 rfl (lv_at hl 0 rfl) ?_
    replace hm := zb1_s hm
    obtain ⟨a10, h9, hm⟩ := hm
    refine zr_getN (ci := 1) (C := R_Entry) (T := F_Entry) (N := 4) hx hb hts in_Entry hown hk hX rfl 0 (by decide) rfl rfl (nF7 hk) rfl (zgr_v h9) d_Primary_becomeLatest_18 ?_
    refine lv_aload_n hx hb d_Primary_becomeLatest_21 rfl (lv_at hl 0 rfl) ?_
    replace hm := zb1_s hm
    obtain ⟨a12, h11, hm⟩ := hm
    refine zr_getN (ci := 1) (C := R_Entry) (T := F_Entry) (N := 4) hx hb hts in_Entry hown hk hX rfl 1 (by decide) rfl rfl (nF8 hk) rfl (zgr_v h11) d_Primary_becomeLatest_22 ?_
    replace hm := zb1_s hm
    obtain ⟨_, h14, hm⟩ := hm
    replace hm := zb2_s hm
    obtain ⟨v15, X16, h13, hm⟩ := hm
    refine zr_callv (zr_runV (As := [.ref a10, .ref a12]) (rest := []) (n := 2) hx hb hml hown hts hk hX (c_Records_exchange l G N X a8 a10 a12 v15 X16 h13) (hts _ tW327) tW328 (hts _ tW11) (hts _ tW329) (hts _ tW330) rfl h14 (by decide +kernel) ⟨Nat.le_of_ble_eq_true rfl, Nat.le_of_ble_eq_true rfl⟩ rfl rfl hl.1 rfl (lv_room (Nat.le_of_ble_eq_true rfl)) d_Primary_becomeLatest_25 ⟨(Nat.le_of_ble_eq_true rfl), (Nat.le_of_ble_eq_true rfl)⟩) hS (fun H locs hX hS => ?_)
    refine lv_aload_n hx hb d_Primary_becomeLatest_28 rfl (lv_at hl 1 rfl) ?_
    refine lv_aload_n hx hb d_Primary_becomeLatest_29 rfl (lv_at hl 0 rfl) ?_
    replace hm := zb1_s hm
    obtain ⟨v18, h17, hm⟩ := hm
    refine zr_getN (ci := 1) (C := R_Entry) (T := F_Entry) (N := 4) hx hb hts in_Entry hown hk hX rfl 2 (by decide) rfl rfl (nF43 hk) rfl (zgi_v h17) d_Primary_becomeLatest_30 ?_
    refine lv_iconst (v := 1) hx hb d_Primary_becomeLatest_33 (by decide) ?_
    refine lv_iadd hx hb d_Primary_becomeLatest_34 ?_
    replace hm := zb1_s hm
    obtain ⟨X19, h20, hm⟩ := hm
    refine zr_put (ci := 4) (C := R_Primary) (T := F_Primary) (N := 9) (ty := .int) (v := .int (v18 + 1)) hx hb hts in_Primary t_Primary t_Primary_ok n_Primary hown hk hX hS rfl 6 (by decide) (hts _ tW44) rfl rfl (by decide +kernel) rfl rfl h20 d_Primary_becomeLatest_35 (fun H locs hX hS => ?_)
    refine lv_aload_n hx hb d_Primary_becomeLatest_38 rfl (lv_at hl 1 rfl) ?_
    replace hm := zb1_s hm
    obtain ⟨a22, h21, hm⟩ := hm
    refine zr_get (ci := 4) (C := R_Primary) (T := F_Primary) (N := 9) hx hb hts in_Primary hown hk hX rfl 2 (by decide) (hts _ tW41) rfl (zgr_v h21) d_Primary_becomeLatest_39 ?_
    replace hm := zb1_s hm
    obtain ⟨_, h24, hm⟩ := hm
    replace hm := zb2_s hm
    obtain ⟨v25, X26, h23, hm⟩ := hm
    refine zr_callv (zr_runV (As := []) (rest := []) (n := 0) hx hb hml hown hts hk hX (c_Journal_keepLatest l G N X19 a22 v25 X26 h23) (hts _ tW331) tW332 (hts _ tW37) (hts _ tW333) (hts _ tW334) rfl h24 (by decide +kernel) ⟨Nat.le_of_ble_eq_true rfl, Nat.le_of_ble_eq_true rfl⟩ rfl rfl hl.1 rfl (lv_room (Nat.le_of_ble_eq_true rfl)) d_Primary_becomeLatest_42 ⟨(Nat.le_of_ble_eq_true rfl), (Nat.le_of_ble_eq_true rfl)⟩) hS (fun H locs hX hS => ?_)
    cases hm
    exact W.vret hx hb hr (fun t ht hW => zh_end hk hX hS ht hW) hS.2.2 d_Primary_becomeLatest_45
set_option maxHeartbeats 4000000 in
set_option maxRecDepth 100000 in
theorem c_Primary_takeStep (l : Launch) (G : zh_G) (N : Nat) (X : zh_T) (x0 : Nat) (x1 : Int32) (r : Unit) (X' : zh_T) (hm : f_Primary_takeStep N X x0 x1 = some (r, X')) : zM l G y_Primary_takeStep w_Primary_takeStep 2 47 X [.ref x0, .int x1] none X' 0 0 := by
  refine zr_ofW (by decide) (by exact Nat.le_of_ble_eq_true rfl) ?_
  intro p e s m args below meth c ls hx hb hml hr hts hown hin hlocks hk hX hl
  have hS : va_S (zh_A G) s.heap s.heap [] := va_S.rf
  have hl : lv_has ls 2 [(0, .ref x0), (1, .int x1)] := hl
  have hown : s.vm.findClass R_Primary = some m.cls := hown
  unfold f_Primary_takeStep at hm
  refine lv_iload_n hx hb d_Primary_takeStep_0 rfl (lv_at hl 1 rfl) ?_
  rcases zi_or (c := x1 = 1) hm with ⟨h1, hm⟩ | ⟨h1, hm⟩
  · refine lv_lookup (tgt := 28) hx hb d_Primary_takeStep_1 (by decide) (zsl_at h1 rfl) rfl ?_
    refine lv_aload_n hx hb d_Primary_takeStep_28 rfl (lv_at hl 0 rfl) ?_
    replace hm := zb1_s hm
    obtain ⟨a3, h2, hm⟩ := hm
    refine zr_get (ci := 4) (C := R_Primary) (T := F_Primary) (N := 9) hx hb hts in_Primary hown hk hX rfl 2 (by decide) (hts _ tW41) rfl (zgr_v h2) d_Primary_takeStep_29 ?_
    refine lv_aload_n hx hb d_Primary_takeStep_32 rfl (lv_at hl 0 rfl) ?_
    replace hm := zb1_s hm
    obtain ⟨v5, h4, hm⟩ := hm
    refine zr_get (ci := 4) (C := R_Primary) (T := F_Primary) (N := 9) hx hb hts in_Primary hown hk hX rfl 6 (by decide) (hts _ tW44) rfl (zgi_v h4) d_Primary_takeStep_33 ?_
    refine lv_aload_n hx hb d_Primary_takeStep_36 rfl (lv_at hl 0 rfl) ?_
    replace hm := zb1_s hm
    obtain ⟨a7, h6, hm⟩ := hm
    refine zr_get (ci := 4) (C := R_Primary) (T := F_Primary) (N := 9) hx hb hts in_Primary hown hk hX rfl 0 (by decide) (hts _ tW33) rfl (zgr_v h6) d_Primary_takeStep_37 ?_
    refine lv_aload_n hx hb d_Primary_takeStep_40 rfl (lv_at hl 0 rfl) ?_
    replace hm := zb1_s hm
    obtain ⟨a9, h8, hm⟩ := hm
    refine zr_get (ci := 4) (C := R_Primary) (T := F_Primary) (N := 9) hx hb hts in_Primary hown hk hX rfl 1 (by decide) (hts _ tW34) rfl (zgr_v h8) d_Primary_takeStep_41 ?_
    replace hm := zb1_s hm
    obtain ⟨_, h11, hm⟩ := hm
    replace hm := zb2_s hm
    obtain ⟨v12, X13, h10, hm⟩ := hm
    refine zr_callv (zr_runV (As := [.int v5, .ref a7, .ref a9]) (rest := []) (n := 3) hx hb hml hown hts hk hX (c_Journal_append l G N X a3 v5 a7 a9 v12 X13 h10) (hts _ tW335) tW336 (hts _ tW37) (hts _ tW337) (hts _ tW338) rfl h11 (by decide +kernel) ⟨Nat.le_of_ble_eq_true rfl, Nat.le_of_ble_eq_true rfl⟩ rfl rfl hl.1 rfl (lv_room (Nat.le_of_ble_eq_true rfl)) d_Primary_takeStep_44 ⟨(Nat.le_of_ble_eq_true rfl), (Nat.le_of_ble_eq_true rfl)⟩) hS (fun H locs hX hS => ?_)
    refine lv_goto (tgt := 64) hx hb d_Primary_takeStep_47 rfl ?_
    cases hm
    exact W.vret hx hb hr (fun t ht hW => zh_end hk hX hS ht hW) hS.2.2 d_Primary_takeStep_64
  · rcases zi_or (c := x1 = 2) hm with ⟨h14, hm⟩ | ⟨h14, hm⟩
    · refine lv_lookup (tgt := 50) hx hb d_Primary_takeStep_1 (by decide) (zsl_at h14 rfl) rfl ?_
      refine lv_aload_n hx hb d_Primary_takeStep_50 rfl (lv_at hl 0 rfl) ?_
      replace hm := zb1_s hm
      obtain ⟨a16, h15, hm⟩ := hm
      refine zr_get (ci := 4) (C := R_Primary) (T := F_Primary) (N := 9) hx hb hts in_Primary hown hk hX rfl 2 (by decide) (hts _ tW41) rfl (zgr_v h15) d_Primary_takeStep_51 ?_
      replace hm := zb1_s hm
      obtain ⟨_, h18, hm⟩ := hm
      replace hm := zb2_s hm
      obtain ⟨v19, X20, h17, hm⟩ := hm
      refine zr_callv (zr_runV (As := []) (rest := []) (n := 0) hx hb hml hown hts hk hX (c_Journal_markLatest l G N X a16 v19 X20 h17) (hts _ tW339) tW340 (hts _ tW37) (hts _ tW341) (hts _ tW342) rfl h18 (by decide +kernel) ⟨Nat.le_of_ble_eq_true rfl, Nat.le_of_ble_eq_true rfl⟩ rfl rfl hl.1 rfl (lv_room (Nat.le_of_ble_eq_true rfl)) d_Primary_takeStep_54 ⟨(Nat.le_of_ble_eq_true rfl), (Nat.le_of_ble_eq_true rfl)⟩) hS (fun H locs hX hS => ?_)
      refine lv_goto (tgt := 64) hx hb d_Primary_takeStep_57 rfl ?_
      cases hm
      exact W.vret hx hb hr (fun t ht hW => zh_end hk hX hS ht hW) hS.2.2 d_Primary_takeStep_64
    · refine lv_lookup (tgt := 60) hx hb d_Primary_takeStep_1 (by decide) ((lv_osw h1 (by decide)).trans ((lv_osw h14 (by decide)).trans rfl)) rfl ?_
      refine lv_aload_n hx hb d_Primary_takeStep_60 rfl (lv_at hl 0 rfl) ?_
      replace hm := zb1_s hm
      obtain ⟨_, h22, hm⟩ := hm
      replace hm := zb2_s hm
      obtain ⟨v23, X24, h21, hm⟩ := hm
      refine zr_callv (zr_runV (As := []) (rest := []) (n := 0) hx hb hml hown hts hk hX (c_Primary_becomeLatest l G N X x0 v23 X24 h21) (hts _ tW343) tW344 (hts _ tW104) (hts _ tW345) (hts _ tW346) rfl h22 (by decide +kernel) ⟨Nat.le_of_ble_eq_true rfl, Nat.le_of_ble_eq_true rfl⟩ rfl rfl hl.1 rfl (lv_room (Nat.le_of_ble_eq_true rfl)) d_Primary_takeStep_61 ⟨(Nat.le_of_ble_eq_true rfl), (Nat.le_of_ble_eq_true rfl)⟩) hS (fun H locs hX hS => ?_)
      cases hm
      exact W.vret hx hb hr (fun t ht hW => zh_end hk hX hS ht hW) hS.2.2 d_Primary_takeStep_64
set_option maxHeartbeats 4000000 in
set_option maxRecDepth 100000 in
theorem c_Primary_writeNext (l : Launch) (G : zh_G) (N : Nat) (X : zh_T) (x0 : Nat) (r : Int32) (X' : zh_T) (hm : f_Primary_writeNext N X x0 = some (r, X')) : zM l G y_Primary_writeNext w_Primary_writeNext 3 68 X [.ref x0] (some (.int r)) X' 0 0 := by
  refine zr_ofW (by decide) (by exact Nat.le_of_ble_eq_true rfl) ?_
  intro p e s m args below meth c ls hx hb hml hr hts hown hin hlocks hk hX hl
  have hS : va_S (zh_A G) s.heap s.heap [] := va_S.rf
  have hl : lv_has ls 2 [(0, .ref x0)] := hl
  have hown : s.vm.findClass R_Primary = some m.cls := hown
  unfold f_Primary_writeNext at hm
  have hL2 : ∀ (n : Nat) (X : zh_T) (w0 : Nat) (w1 : Int32) (o : ((Int32 × zh_T) ⊕ (Unit × zh_T))) (H : Heap) (locs : List Loc) (ls : Array Slot), L_Primary_writeNext_2 N w0 n X w1 = some o → zh_w G X H → va_S (zh_A G) s.heap H locs → lv_has ls 2 [(0, .ref w0), (1, .int w1)] → (∀ (r0 : Int32) (X0 : zh_T), o = Sum.inl (r0, X0) → r0 = r ∧ X0 = X') → (∀ (v : Unit) (X1 : zh_T), o = Sum.inr (v, X1) → ∀ (H : Heap) (locs : List Loc) (ls : Array Slot), zh_w G X1 H → va_S (zh_A G) s.heap H locs → lv_has ls 2 [] → W p l e { frames := 3, cells := 0, slots := 0, locals := 68 } s m args below meth c H locs 0 0 (MQ below (zh_Q G (some (.int r)) X') args s 0 0 (zh_A G)) (F0 m 28 ls [])) → W p l e { frames := 3, cells := 0, slots := 0, locals := 68 } s m args below meth c H locs 0 0 (MQ below (zh_Q G (some (.int r)) X') args s 0 0 (zh_A G)) (F0 m 2 ls []) := by
    intro n
    induction n with
    | zero =>
      intro X w0 w1 o H locs ls hm hX hS hl hret hexit
      rw [L_Primary_writeNext_2] at hm
      cases hm
    | succ n ih =>
      intro X w0 w1 o H locs ls hm hX hS hl hret hexit
      rw [L_Primary_writeNext_2] at hm
      refine lv_iload_n hx hb d_Primary_writeNext_2 rfl (lv_at hl 1 rfl) ?_
      refine lv_iconst (v := 3) hx hb d_Primary_writeNext_3 (by decide) ?_
      refine lv_icmp_gt (tgt := 28) hx hb d_Primary_writeNext_4 rfl (fun h1 => ?_) (fun h1 => ?_)
      · replace hm := zi_t h1 hm
        exact hexit _ _ (Option.some.inj hm).symm _ _ _ hX hS (lv_sub hl [] rfl)
      · replace hm := zi_f h1 hm
        refine lv_iload_n hx hb d_Primary_writeNext_7 rfl (lv_at hl 1 rfl) ?_
        refine lv_aload_n hx hb d_Primary_writeNext_8 rfl (lv_at hl 0 rfl) ?_
        replace hm := zb1_s hm
        obtain ⟨v3, h2, hm⟩ := hm
        refine zr_get (ci := 4) (C := R_Primary) (T := F_Primary) (N := 9) hx hb hts in_Primary hown hk hX rfl 7 (by decide) (hts _ tW347) rfl (zgi_v h2) d_Primary_writeNext_9 ?_
        refine lv_icmp_ne (tgt := 17) hx hb d_Primary_writeNext_12 rfl (fun h4 => ?_) (fun h4 => ?_)
        · replace hm := zi_f h4 hm
          refine lv_aload_n hx hb d_Primary_writeNext_17 rfl (lv_at hl 0 rfl) ?_
          refine lv_iload_n hx hb d_Primary_writeNext_18 rfl (lv_at hl 1 rfl) ?_
          replace hm := zb1_s hm
          obtain ⟨_, h6, hm⟩ := hm
          replace hm := zb2_s hm
          obtain ⟨v7, X8, h5, hm⟩ := hm
          refine zr_callv (zr_runV (As := [.int w1]) (rest := []) (n := 1) hx hb hml hown hts hk hX (c_Primary_takeStep l G N X w0 w1 v7 X8 h5) (hts _ tW348) tW349 (hts _ tW104) (hts _ tW350) (hts _ tW351) rfl h6 (by decide +kernel) ⟨Nat.le_of_ble_eq_true rfl, Nat.le_of_ble_eq_true rfl⟩ rfl rfl hl.1 rfl (lv_room (Nat.le_of_ble_eq_true rfl)) d_Primary_writeNext_19 ⟨(Nat.le_of_ble_eq_true rfl), (Nat.le_of_ble_eq_true rfl)⟩) hS (fun H locs hX hS => ?_)
          refine lv_iinc (v := w1 + 1) (lv' := [(1, .int (w1 + 1)), (0, .ref w0)]) hx hb d_Primary_writeNext_22 hl (k := 1) rfl (by rw [show Int32.ofInt 1 = 1 by decide]) (by decide) rfl (fun ls hl => ?_)
          refine lv_goto (tgt := 2) hx hb d_Primary_writeNext_25 rfl ?_
          exact ih X8 w0 (w1 + 1) o _ _ _ hm hX hS (lv_sub hl [1, 0] rfl) hret hexit
        · replace hm := zi_t h4 hm
          refine lv_iconst (v := 0) hx hb d_Primary_writeNext_15 (by decide) ?_
          obtain ⟨rfl, rfl⟩ := hret _ _ (Option.some.inj hm).symm
          exact W.zret hx hb hr (by decide) (fun t ht hW => zh_end hk hX hS ht hW) hS.2.2 d_Primary_writeNext_16
  refine lv_iconst (v := 1) hx hb d_Primary_writeNext_0 (by decide) ?_
  refine lv_istore_n (lv' := [(1, .int 1), (0, .ref x0)]) hx hb d_Primary_writeNext_1 rfl hl (by decide) rfl (fun ls hl => ?_)
  replace hm := zbt_s hm
  obtain ⟨o12, h10, hm⟩ := hm
  refine hL2 N X x0 1 o12 _ _ _ h10 hX hS (lv_sub hl [1, 0] rfl) (fun r0 X0 e0 => ?_) (fun v9 X11 e0 H locs ls hX hS hl => ?_)
  · subst e0
    replace hm := zt_l hm
    exact zs_p hm
  · subst e0
    replace hm := zt_r hm
    refine lv_iconst (v := 1) hx hb d_Primary_writeNext_28 (by decide) ?_
    cases hm
    exact W.zret hx hb hr (by decide) (fun t ht hW => zh_end hk hX hS ht hW) hS.2.2 d_Primary_writeNext_29
set_option maxHeartbeats 4000000 in
set_option maxRecDepth 100000 in
theorem c_Records_sameAs (l : Launch) (G : zh_G) (N : Nat) (X : zh_T) (x0 : Nat) (x1 : Nat) (r : Int32) (hm : f_Records_sameAs N X x0 x1 = some r) : zM l G y_Records_sameAs w_Records_sameAs 0 0 X [.ref x0, .ref x1] (some (.int r)) X 0 0 := by
  refine zr_ofW (by decide) (by exact Nat.le_of_ble_eq_true rfl) ?_
  intro p e s m args below meth c ls hx hb hml hr hts hown hin hlocks hk hX hl
  have hS : va_S (zh_A G) s.heap s.heap [] := va_S.rf
  have hl : lv_has ls 3 [(0, .ref x0), (1, .ref x1)] := hl
  have hown : s.vm.findClass R_Records = some m.cls := hown
  unfold f_Records_sameAs at hm
  have hL2 : ∀ (n : Nat) (X : zh_T) (w0 : Nat) (w1 : Nat) (w2 : Int32) (o : (Int32 ⊕ Unit)) (H : Heap) (locs : List Loc) (ls : Array Slot), L_Records_sameAs_2 N X w0 w1 n w2 = some o → zh_w G X H → va_S (zh_A G) s.heap H locs → lv_has ls 3 [(0, .ref w0), (1, .ref w1), (2, .int w2)] → (∀ r0 : Int32, o = Sum.inl r0 → r0 = r) → (∀ v : Unit, o = Sum.inr v → ∀ (H : Heap) (locs : List Loc) (ls : Array Slot), zh_w G X H → va_S (zh_A G) s.heap H locs → lv_has ls 3 [] → W p l e { frames := 0, cells := 0, slots := 0, locals := 0 } s m args below meth c H locs 0 0 (MQ below (zh_Q G (some (.int r)) X) args s 0 0 (zh_A G)) (F0 m 34 ls [])) → W p l e { frames := 0, cells := 0, slots := 0, locals := 0 } s m args below meth c H locs 0 0 (MQ below (zh_Q G (some (.int r)) X) args s 0 0 (zh_A G)) (F0 m 2 ls []) := by
    intro n
    induction n with
    | zero =>
      intro X w0 w1 w2 o H locs ls hm hX hS hl hret hexit
      rw [L_Records_sameAs_2] at hm
      cases hm
    | succ n ih =>
      intro X w0 w1 w2 o H locs ls hm hX hS hl hret hexit
      rw [L_Records_sameAs_2] at hm
      refine lv_iload_n hx hb d_Records_sameAs_2 rfl (lv_at hl 2 rfl) ?_
      refine lv_aload_n hx hb d_Records_sameAs_3 rfl (lv_at hl 0 rfl) ?_
      replace hm := zb1_s hm
      obtain ⟨a2, h1, hm⟩ := hm
      refine zr_get (ci := 5) (C := R_Records) (T := F_Records) (N := 1) hx hb hts in_Records hown hk hX rfl 0 (by decide) (hts _ tW7) rfl (zgr_v h1) d_Records_sameAs_4 ?_
      replace hm := zb1_s hm
      obtain ⟨v3, h4, hm⟩ := hm
      refine zr_alen (t := 0) hx hb hk hX rfl h4 d_Records_sameAs_7 ?_
      refine lv_icmp_ge (tgt := 34) hx hb d_Records_sameAs_8 rfl (fun h5 => ?_) (fun h5 => ?_)
      · replace hm := zi_t h5 hm
        exact hexit _ (Option.some.inj hm).symm _ _ _ hX hS (lv_sub hl [] rfl)
      · replace hm := zi_f h5 hm
        refine lv_aload_n hx hb d_Records_sameAs_11 rfl (lv_at hl 0 rfl) ?_
        replace hm := zb1_s hm
        obtain ⟨a7, h6, hm⟩ := hm
        refine zr_get (ci := 5) (C := R_Records) (T := F_Records) (N := 1) hx hb hts in_Records hown hk hX rfl 0 (by decide) (hts _ tW7) rfl (zgr_v h6) d_Records_sameAs_12 ?_
        refine lv_iload_n hx hb d_Records_sameAs_15 rfl (lv_at hl 2 rfl) ?_
        replace hm := zb1_s hm
        obtain ⟨v8, h9, hm⟩ := hm
        refine zr_iaload hx hb hk hX h9 d_Records_sameAs_16 ?_
        refine lv_aload_n hx hb d_Records_sameAs_17 rfl (lv_at hl 1 rfl) ?_
        replace hm := zb1_s hm
        obtain ⟨a11, h10, hm⟩ := hm
        refine zr_get (ci := 5) (C := R_Records) (T := F_Records) (N := 1) hx hb hts in_Records hown hk hX rfl 0 (by decide) (hts _ tW7) rfl (zgr_v h10) d_Records_sameAs_18 ?_
        refine lv_iload_n hx hb d_Records_sameAs_21 rfl (lv_at hl 2 rfl) ?_
        replace hm := zb1_s hm
        obtain ⟨v12, h13, hm⟩ := hm
        refine zr_iaload hx hb hk hX h13 d_Records_sameAs_22 ?_
        refine lv_icmp_eq (tgt := 28) hx hb d_Records_sameAs_23 rfl (fun h14 => ?_) (fun h14 => ?_)
        · replace hm := zi_t h14 hm
          refine lv_iinc (v := w2 + 1) (lv' := [(2, .int (w2 + 1)), (0, .ref w0), (1, .ref w1)]) hx hb d_Records_sameAs_28 hl (k := 2) rfl (by rw [show Int32.ofInt 1 = 1 by decide]) (by decide) rfl (fun ls hl => ?_)
          refine lv_goto (tgt := 2) hx hb d_Records_sameAs_31 rfl ?_
          exact ih X w0 w1 (w2 + 1) o _ _ _ hm hX hS (lv_sub hl [1, 2, 0] rfl) hret hexit
        · replace hm := zi_f h14 hm
          refine lv_iconst (v := 0) hx hb d_Records_sameAs_26 (by decide) ?_
          obtain rfl := hret _ (Option.some.inj hm).symm
          exact W.zret hx hb hr (by decide) (fun t ht hW => zh_end hk hX hS ht hW) hS.2.2 d_Records_sameAs_27
  refine lv_iconst (v := 0) hx hb d_Records_sameAs_0 (by decide) ?_
  refine lv_istore_n (lv' := [(2, .int 0), (0, .ref x0), (1, .ref x1)]) hx hb d_Records_sameAs_1 rfl hl (by decide) rfl (fun ls hl => ?_)
  replace hm := zbs_s hm
  obtain ⟨o17, h16, hm⟩ := hm
  refine hL2 N X x0 x1 0 o17 _ _ _ h16 hX hS (lv_sub hl [1, 2, 0] rfl) (fun r0 e0 => ?_) (fun v15 e0 H locs ls hX hS hl => ?_)
  · subst e0
    replace hm := zs_l hm
    exact Option.some.inj hm
  · subst e0
    replace hm := zs_r hm
    refine lv_iconst (v := 1) hx hb d_Records_sameAs_34 (by decide) ?_
    cases hm
    exact W.zret hx hb hr (by decide) (fun t ht hW => zh_end hk hX hS ht hW) hS.2.2 d_Records_sameAs_35
set_option maxHeartbeats 4000000 in
set_option maxRecDepth 100000 in
theorem c_Records_total (l : Launch) (G : zh_G) (N : Nat) (X : zh_T) (x0 : Nat) (r : Int32) (hm : f_Records_total N X x0 = some r) : zM l G y_Records_total w_Records_total 1 20 X [.ref x0] (some (.int r)) X 0 0 := by
  refine zr_ofW (by decide) (by exact Nat.le_of_ble_eq_true rfl) ?_
  intro p e s m args below meth c ls hx hb hml hr hts hown hin hlocks hk hX hl
  have hS : va_S (zh_A G) s.heap s.heap [] := va_S.rf
  have hl : lv_has ls 3 [(0, .ref x0)] := hl
  have hown : s.vm.findClass R_Records = some m.cls := hown
  unfold f_Records_total at hm
  have hL4 : ∀ (n : Nat) (X : zh_T) (w0 : Nat) (w1 : Int32) (w2 : Int32) (v : Int32) (H : Heap) (locs : List Loc) (ls : Array Slot), L_Records_total_4 N X w0 n w1 w2 = some v → zh_w G X H → va_S (zh_A G) s.heap H locs → lv_has ls 3 [(0, .ref w0), (1, .int w1), (2, .int w2)] → (∀ (H : Heap) (locs : List Loc) (ls : Array Slot), zh_w G X H → va_S (zh_A G) s.heap H locs → lv_has ls 3 [(1, .int v)] → W p l e { frames := 1, cells := 0, slots := 0, locals := 20 } s m args below meth c H locs 0 0 (MQ below (zh_Q G (some (.int r)) X) args s 0 0 (zh_A G)) (F0 m 31 ls [])) → W p l e { frames := 1, cells := 0, slots := 0, locals := 20 } s m args below meth c H locs 0 0 (MQ below (zh_Q G (some (.int r)) X) args s 0 0 (zh_A G)) (F0 m 4 ls []) := by
    intro n
    induction n with
    | zero =>
      intro X w0 w1 w2 v H locs ls hm hX hS hl hexit
      rw [L_Records_total_4] at hm
      cases hm
    | succ n ih =>
      intro X w0 w1 w2 v H locs ls hm hX hS hl hexit
      rw [L_Records_total_4] at hm
      refine lv_iload_n hx hb d_Records_total_4 rfl (lv_at hl 2 rfl) ?_
      refine lv_aload_n hx hb d_Records_total_5 rfl (lv_at hl 0 rfl) ?_
      replace hm := zb1_s hm
      obtain ⟨a2, h1, hm⟩ := hm
      refine zr_get (ci := 5) (C := R_Records) (T := F_Records) (N := 1) hx hb hts in_Records hown hk hX rfl 0 (by decide) (hts _ tW7) rfl (zgr_v h1) d_Records_total_6 ?_
      replace hm := zb1_s hm
      obtain ⟨v3, h4, hm⟩ := hm
      refine zr_alen (t := 0) hx hb hk hX rfl h4 d_Records_total_9 ?_
      refine lv_icmp_ge (tgt := 31) hx hb d_Records_total_10 rfl (fun h5 => ?_) (fun h5 => ?_)
      · replace hm := zi_t h5 hm
        cases hm
        exact hexit _ _ _ hX hS (lv_sub hl [1] rfl)
      · replace hm := zi_f h5 hm
        refine lv_iload_n hx hb d_Records_total_13 rfl (lv_at hl 1 rfl) ?_
        refine lv_aload_n hx hb d_Records_total_14 rfl (lv_at hl 0 rfl) ?_
        replace hm := zb1_s hm
        obtain ⟨a7, h6, hm⟩ := hm
        refine zr_get (ci := 5) (C := R_Records) (T := F_Records) (N := 1) hx hb hts in_Records hown hk hX rfl 0 (by decide) (hts _ tW7) rfl (zgr_v h6) d_Records_total_15 ?_
        refine lv_iload_n hx hb d_Records_total_18 rfl (lv_at hl 2 rfl) ?_
        replace hm := zb1_s hm
        obtain ⟨v8, h9, hm⟩ := hm
        refine zr_iaload hx hb hk hX h9 d_Records_total_19 ?_
        replace hm := zb1_s hm
        obtain ⟨v11, h10, hm⟩ := hm
        refine zr_calli (zr_runS (As := [.int v8]) (rest := [.int w1]) (n := 1) hx hb hml hown hts hk hX (c_Integer_bitCount l G N X v8 v11 h10) (hts _ tW352) tW300 (hts _ tW301) (hts _ tW302) (by decide +kernel) ⟨Nat.le_of_ble_eq_true rfl, Nat.le_of_ble_eq_true rfl⟩ rfl rfl hl.1 rfl (lv_room (Nat.le_of_ble_eq_true rfl)) d_Records_total_20 ⟨(Nat.le_of_ble_eq_true rfl), (Nat.le_of_ble_eq_true rfl)⟩) hS (fun H locs hX hS => ?_)
        refine lv_iadd hx hb d_Records_total_23 ?_
        refine lv_istore_n (lv' := [(1, .int (w1 + v11)), (0, .ref w0), (2, .int w2)]) hx hb d_Records_total_24 rfl hl (by decide) rfl (fun ls hl => ?_)
        refine lv_iinc (v := w2 + 1) (lv' := [(2, .int (w2 + 1)), (1, .int (w1 + v11)), (0, .ref w0)]) hx hb d_Records_total_25 hl (k := 2) rfl (by rw [show Int32.ofInt 1 = 1 by decide]) (by decide) rfl (fun ls hl => ?_)
        refine lv_goto (tgt := 4) hx hb d_Records_total_28 rfl ?_
        exact ih X w0 (w1 + v11) (w2 + 1) v _ _ _ hm hX hS (lv_sub hl [2, 1, 0] rfl) hexit
  refine lv_iconst (v := 0) hx hb d_Records_total_0 (by decide) ?_
  refine lv_istore_n (lv' := [(1, .int 0), (0, .ref x0)]) hx hb d_Records_total_1 rfl hl (by decide) rfl (fun ls hl => ?_)
  refine lv_iconst (v := 0) hx hb d_Records_total_2 (by decide) ?_
  refine lv_istore_n (lv' := [(2, .int 0), (1, .int 0), (0, .ref x0)]) hx hb d_Records_total_3 rfl hl (by decide) rfl (fun ls hl => ?_)
  replace hm := zb1_s hm
  obtain ⟨v12, h13, hm⟩ := hm
  refine hL4 N X x0 0 0 v12 _ _ _ h13 hX hS (lv_sub hl [2, 1, 0] rfl) (fun H locs ls hX hS hl => ?_)
  refine lv_iload_n hx hb d_Records_total_31 rfl (lv_at hl 0 rfl) ?_
  cases hm
  exact W.iret hx hb hr (fun t ht hW => zh_end hk hX hS ht hW) hS.2.2 d_Records_total_32
set_option maxHeartbeats 4000000 in
set_option maxRecDepth 100000 in
theorem c_ZoneNodes_makeChanges (l : Launch) (G : zh_G) (N : Nat) (X : zh_T) (x0 : Nat) (r : Int32) (X' : zh_T) (hm : f_ZoneNodes_makeChanges N X x0 = some (r, X')) : zM l G y_ZoneNodes_makeChanges w_ZoneNodes_makeChanges 5 117 X [.ref x0] (some (.int r)) X' 0 0 := by
  refine zr_ofW (by decide) (by exact Nat.le_of_ble_eq_true rfl) ?_
  intro p e s m args below meth c ls hx hb hml hr hts hown hin hlocks hk hX hl
  have hS : va_S (zh_A G) s.heap s.heap [] := va_S.rf
  have hl : lv_has ls 2 [(0, .ref x0)] := hl
  have hown : s.vm.findClass R_ZoneNodes = some m.cls := hown
  unfold f_ZoneNodes_makeChanges at hm
  refine lv_aload_n hx hb d_ZoneNodes_makeChanges_0 rfl (lv_at hl 0 rfl) ?_
  replace hm := zb1_s hm
  obtain ⟨a2, h1, hm⟩ := hm
  refine zr_get (ci := 8) (C := R_ZoneNodes) (T := F_ZoneNodes) (N := 7) hx hb hts in_ZoneNodes hown hk hX rfl 4 (by decide) (hts _ tW108) rfl (zgr_v h1) d_ZoneNodes_makeChanges_1 ?_
  replace hm := zb1_s hm
  obtain ⟨a4, h3, hm⟩ := hm
  refine zr_getN (ci := 4) (C := R_Primary) (T := F_Primary) (N := 9) hx hb hts in_Primary hown hk hX rfl 1 (by decide) rfl rfl (nF44 hk) rfl (zgr_v h3) d_ZoneNodes_makeChanges_4 ?_
  refine lv_astore_n (lv' := [(1, .ref a4), (0, .ref x0)]) hx hb d_ZoneNodes_makeChanges_7 rfl hl (by decide) rfl (fun ls hl => ?_)
  refine lv_aload_n hx hb d_ZoneNodes_makeChanges_8 rfl (lv_at hl 0 rfl) ?_
  refine lv_aload_n hx hb d_ZoneNodes_makeChanges_9 rfl (lv_at hl 1 rfl) ?_
  replace hm := zb1_s hm
  obtain ⟨a6, h5, hm⟩ := hm
  refine zr_get (ci := 8) (C := R_ZoneNodes) (T := F_ZoneNodes) (N := 7) hx hb hts in_ZoneNodes hown hk hX rfl 4 (by decide) (hts _ tW108) rfl (zgr_v h5) d_ZoneNodes_makeChanges_10 ?_
  replace hm := zb1_s hm
  obtain ⟨a8, h7, hm⟩ := hm
  refine zr_getN (ci := 4) (C := R_Primary) (T := F_Primary) (N := 9) hx hb hts in_Primary hown hk hX rfl 0 (by decide) rfl rfl (nF37 hk) rfl (zgr_v h7) d_ZoneNodes_makeChanges_13 ?_
  replace hm := zb1_s hm
  obtain ⟨_, h10, hm⟩ := hm
  replace hm := zb2_s hm
  obtain ⟨v11, X12, h9, hm⟩ := hm
  refine zr_callv (zr_runV (As := [.ref a8]) (rest := []) (n := 1) hx hb hml hown hts hk hX (c_Records_copyFrom l G N X a4 a8 v11 X12 h9) (hts _ tW353) tW200 (hts _ tW11) (hts _ tW201) (hts _ tW202) rfl h10 (by decide +kernel) ⟨Nat.le_of_ble_eq_true rfl, Nat.le_of_ble_eq_true rfl⟩ rfl rfl hl.1 rfl (lv_room (Nat.le_of_ble_eq_true rfl)) d_ZoneNodes_makeChanges_16 ⟨(Nat.le_of_ble_eq_true rfl), (Nat.le_of_ble_eq_true rfl)⟩) hS (fun H locs hX hS => ?_)
  refine lv_aload_n hx hb d_ZoneNodes_makeChanges_19 rfl (lv_at hl 1 rfl) ?_
  replace hm := zb1_s hm
  obtain ⟨a14, h13, hm⟩ := hm
  refine zr_get (ci := 8) (C := R_ZoneNodes) (T := F_ZoneNodes) (N := 7) hx hb hts in_ZoneNodes hown hk hX rfl 2 (by decide) (hts _ tW88) rfl (zgr_v h13) d_ZoneNodes_makeChanges_20 ?_
  refine lv_aload_n hx hb d_ZoneNodes_makeChanges_23 rfl (lv_at hl 0 rfl) ?_
  replace hm := zb1_s hm
  obtain ⟨_, h16, hm⟩ := hm
  replace hm := zb2_s hm
  obtain ⟨v17, X18, h15, hm⟩ := hm
  refine zr_callv (zr_runV (As := [.ref a4]) (rest := []) (n := 1) hx hb hml hown hts hk hX (c_Draft_changeRecords l G N X12 a14 a4 v17 X18 h15) (hts _ tW354) tW355 (hts _ tW85) (hts _ tW356) (hts _ tW357) rfl h16 (by decide +kernel) ⟨Nat.le_of_ble_eq_true rfl, Nat.le_of_ble_eq_true rfl⟩ rfl rfl hl.1 rfl (lv_room (Nat.le_of_ble_eq_true rfl)) d_ZoneNodes_makeChanges_24 ⟨(Nat.le_of_ble_eq_true rfl), (Nat.le_of_ble_eq_true rfl)⟩) hS (fun H locs hX hS => ?_)
  refine lv_aload_n hx hb d_ZoneNodes_makeChanges_27 rfl (lv_at hl 0 rfl) ?_
  replace hm := zb1_s hm
  obtain ⟨_, h20, hm⟩ := hm
  replace hm := zb1_s hm
  obtain ⟨v21, h19, hm⟩ := hm
  refine zr_calli (zr_runV (As := []) (rest := []) (n := 0) hx hb hml hown hts hk hX (c_Records_total l G N X18 a4 v21 h19) (hts _ tW358) tW359 (hts _ tW11) (hts _ tW360) (hts _ tW361) rfl h20 (by decide +kernel) ⟨Nat.le_of_ble_eq_true rfl, Nat.le_of_ble_eq_true rfl⟩ rfl rfl hl.1 rfl (lv_room (Nat.le_of_ble_eq_true rfl)) d_ZoneNodes_makeChanges_28 ⟨(Nat.le_of_ble_eq_true rfl), (Nat.le_of_ble_eq_true rfl)⟩) hS (fun H locs hX hS => ?_)
  refine lv_bipush (v := 24) hx hb d_ZoneNodes_makeChanges_31 (by decide) ?_
  refine lv_icmp_le (tgt := 38) hx hb d_ZoneNodes_makeChanges_33 rfl (fun h22 => ?_) (fun h22 => ?_)
  · replace hm := zi_t h22 hm
    refine lv_aload_n hx hb d_ZoneNodes_makeChanges_38 rfl (lv_at hl 0 rfl) ?_
    refine lv_aload_n hx hb d_ZoneNodes_makeChanges_39 rfl (lv_at hl 1 rfl) ?_
    replace hm := zb1_s hm
    obtain ⟨a24, h23, hm⟩ := hm
    refine zr_get (ci := 8) (C := R_ZoneNodes) (T := F_ZoneNodes) (N := 7) hx hb hts in_ZoneNodes hown hk hX rfl 4 (by decide) (hts _ tW108) rfl (zgr_v h23) d_ZoneNodes_makeChanges_40 ?_
    replace hm := zb1_s hm
    obtain ⟨a26, h25, hm⟩ := hm
    refine zr_getN (ci := 4) (C := R_Primary) (T := F_Primary) (N := 9) hx hb hts in_Primary hown hk hX rfl 0 (by decide) rfl rfl (nF37 hk) rfl (zgr_v h25) d_ZoneNodes_makeChanges_43 ?_
    replace hm := zb1_s hm
    obtain ⟨_, h28, hm⟩ := hm
    replace hm := zb1_s hm
    obtain ⟨v29, h27, hm⟩ := hm
    refine zr_calli (zr_runV (As := [.ref a26]) (rest := []) (n := 1) hx hb hml hown hts hk hX (c_Records_sameAs l G N X18 a4 a26 v29 h27) (hts _ tW362) tW363 (hts _ tW11) (hts _ tW364) (hts _ tW365) rfl h28 (by decide +kernel) ⟨Nat.le_of_ble_eq_true rfl, Nat.le_of_ble_eq_true rfl⟩ rfl rfl hl.1 rfl (lv_room (Nat.le_of_ble_eq_true rfl)) d_ZoneNodes_makeChanges_46 ⟨(Nat.le_of_ble_eq_true rfl), (Nat.le_of_ble_eq_true rfl)⟩) hS (fun H locs hX hS => ?_)
    refine lv_if_eq (tgt := 54) hx hb d_ZoneNodes_makeChanges_49 rfl (fun h30 => ?_) (fun h30 => ?_)
    · replace hm := zi_t h30 hm
      refine lv_aload_n hx hb d_ZoneNodes_makeChanges_54 rfl (lv_at hl 1 rfl) ?_
      replace hm := zb1_s hm
      obtain ⟨a32, h31, hm⟩ := hm
      refine zr_get (ci := 8) (C := R_ZoneNodes) (T := F_ZoneNodes) (N := 7) hx hb hts in_ZoneNodes hown hk hX rfl 4 (by decide) (hts _ tW108) rfl (zgr_v h31) d_ZoneNodes_makeChanges_55 ?_
      replace hm := zb1_s hm
      obtain ⟨_, h34, hm⟩ := hm
      replace hm := zb2_s hm
      obtain ⟨v35, X36, h33, hm⟩ := hm
      refine zr_calli (zr_runV (As := []) (rest := []) (n := 0) hx hb hml hown hts hk hX (c_Primary_writeNext l G N X18 a32 v35 X36 h33) (hts _ tW366) tW367 (hts _ tW104) (hts _ tW368) (hts _ tW369) rfl h34 (by decide +kernel) ⟨Nat.le_of_ble_eq_true rfl, Nat.le_of_ble_eq_true rfl⟩ rfl rfl hl.1 rfl (lv_room (Nat.le_of_ble_eq_true rfl)) d_ZoneNodes_makeChanges_58 ⟨(Nat.le_of_ble_eq_true rfl), (Nat.le_of_ble_eq_true rfl)⟩) hS (fun H locs hX hS => ?_)
      refine lv_if_ne (tgt := 70) hx hb d_ZoneNodes_makeChanges_61 rfl (fun h37 => ?_) (fun h37 => ?_)
      · replace hm := zi_f h37 hm
        refine lv_aload_n hx hb d_ZoneNodes_makeChanges_70 rfl (lv_at hl 1 rfl) ?_
        replace hm := zb1_s hm
        obtain ⟨_, h39, hm⟩ := hm
        replace hm := zb2_s hm
        obtain ⟨v40, X41, h38, hm⟩ := hm
        refine zr_callv (zr_runV (As := []) (rest := []) (n := 0) hx hb hml hown hts hk hX (c_ZoneNodes_notifySecondaries l G N X36 x0 v40 X41 h38) (hts _ tW370) tW371 (hts _ tW100) (hts _ tW372) (hts _ tW373) rfl h39 (by decide +kernel) ⟨Nat.le_of_ble_eq_true rfl, Nat.le_of_ble_eq_true rfl⟩ rfl rfl hl.1 rfl (lv_room (Nat.le_of_ble_eq_true rfl)) d_ZoneNodes_makeChanges_71 ⟨(Nat.le_of_ble_eq_true rfl), (Nat.le_of_ble_eq_true rfl)⟩) hS (fun H locs hX hS => ?_)
        refine lv_iconst (v := 0) hx hb d_ZoneNodes_makeChanges_74 (by decide) ?_
        cases hm
        exact W.iret hx hb hr (fun t ht hW => zh_end hk hX hS ht hW) hS.2.2 d_ZoneNodes_makeChanges_75
      · replace hm := zi_t h37 hm
        refine lv_aload_n hx hb d_ZoneNodes_makeChanges_64 rfl (lv_at hl 1 rfl) ?_
        replace hm := zb1_s hm
        obtain ⟨_, h43, hm⟩ := hm
        replace hm := zb2_s hm
        obtain ⟨v44, X45, h42, hm⟩ := hm
        refine zr_callv (zr_runV (As := []) (rest := []) (n := 0) hx hb hml hown hts hk hX (c_ZoneNodes_takePrimaryDown l G N X36 x0 v44 X45 h42) (hts _ tW256) tW257 (hts _ tW100) (hts _ tW258) (hts _ tW259) rfl h43 (by decide +kernel) ⟨Nat.le_of_ble_eq_true rfl, Nat.le_of_ble_eq_true rfl⟩ rfl rfl hl.1 rfl (lv_room (Nat.le_of_ble_eq_true rfl)) d_ZoneNodes_makeChanges_65 ⟨(Nat.le_of_ble_eq_true rfl), (Nat.le_of_ble_eq_true rfl)⟩) hS (fun H locs hX hS => ?_)
        refine lv_iconst (v := (-1)) hx hb d_ZoneNodes_makeChanges_68 (by decide) ?_
        cases hm
        exact W.iret hx hb hr (fun t ht hW => zh_end hk hX hS ht hW) hS.2.2 d_ZoneNodes_makeChanges_69
    · replace hm := zi_f h30 hm
      refine lv_iconst (v := 0) hx hb d_ZoneNodes_makeChanges_52 (by decide) ?_
      cases hm
      exact W.iret hx hb hr (fun t ht hW => zh_end hk hX hS ht hW) hS.2.2 d_ZoneNodes_makeChanges_53
  · replace hm := zi_f h22 hm
    refine lv_iconst (v := 2) hx hb d_ZoneNodes_makeChanges_36 (by decide) ?_
    cases hm
    exact W.iret hx hb hr (fun t ht hW => zh_end hk hX hS ht hW) hS.2.2 d_ZoneNodes_makeChanges_37
set_option maxHeartbeats 4000000 in
set_option maxRecDepth 100000 in
theorem c_ZoneNodes_message (l : Launch) (G : zh_G) (N : Nat) (X : zh_T) (x0 : Nat) (x1 : Int32) (r : Int32) (hm : f_ZoneNodes_message N X x0 x1 = some r) : zM l G y_ZoneNodes_message w_ZoneNodes_message 2 43 X [.ref x0, .int x1] (some (.int r)) X 0 0 := by
  refine zr_ofW (by decide) (by exact Nat.le_of_ble_eq_true rfl) ?_
  intro p e s m args below meth c ls hx hb hml hr hts hown hin hlocks hk hX hl
  have hS : va_S (zh_A G) s.heap s.heap [] := va_S.rf
  have hl : lv_has ls 4 [(0, .ref x0), (1, .int x1)] := hl
  have hown : s.vm.findClass R_ZoneNodes = some m.cls := hown
  unfold f_ZoneNodes_message at hm
  refine lv_aload_n hx hb d_ZoneNodes_message_0 rfl (lv_at hl 0 rfl) ?_
  replace hm := zb1_s hm
  obtain ⟨a2, h1, hm⟩ := hm
  refine zr_get (ci := 8) (C := R_ZoneNodes) (T := F_ZoneNodes) (N := 7) hx hb hts in_ZoneNodes hown hk hX rfl 3 (by decide) (hts _ tW95) rfl (zgr_v h1) d_ZoneNodes_message_1 ?_
  refine lv_iload_n hx hb d_ZoneNodes_message_4 rfl (lv_at hl 1 rfl) ?_
  replace hm := zb1_s hm
  obtain ⟨_, h4, hm⟩ := hm
  replace hm := zb1_s hm
  obtain ⟨q5, h3, hm⟩ := hm
  refine zr_callq (zr_runV (As := [.int x1]) (rest := []) (n := 1) hx hb hml hown hts hk hX (c_Wire_at l G N X a2 x1 q5 h3) (hts _ tW114) tW115 (hts _ tW91) (hts _ tW116) (hts _ tW117) rfl h4 (by decide +kernel) ⟨Nat.le_of_ble_eq_true rfl, Nat.le_of_ble_eq_true rfl⟩ rfl rfl hl.1 rfl (lv_room (Nat.le_of_ble_eq_true rfl)) d_ZoneNodes_message_5 ⟨(Nat.le_of_ble_eq_true rfl), (Nat.le_of_ble_eq_true rfl)⟩) hS (fun H locs hX hS => ?_)
  refine zr_astore_nq (lv' := [(2, va_rf q5), (0, .ref x0), (1, .int x1)]) hx hb d_ZoneNodes_message_8 rfl hl (by decide) rfl (fun ls hl => ?_)
  cases q5 with
  | none =>
    replace hm := zbo_n hm
    refine lv_aload_nN hx hb d_ZoneNodes_message_9 rfl (lv_at hl 0 rfl) ?_
    refine lv_ifnonnullN hx hb d_ZoneNodes_message_10 ?_
    refine lv_iconst (v := (-1)) hx hb d_ZoneNodes_message_13 (by decide) ?_
    cases hm
    exact W.iret hx hb hr (fun t ht hW => zh_end hk hX hS ht hW) hS.2.2 d_ZoneNodes_message_14
  | some a6 =>
    replace hm := zbo_s hm
    refine lv_aload_n hx hb d_ZoneNodes_message_9 rfl (lv_at hl 0 rfl) ?_
    refine lv_ifnonnull (tgt := 15) hx hb d_ZoneNodes_message_10 rfl ?_
    refine lv_ldc (v := 100000) hx hb hown (hts _ tW374) d_ZoneNodes_message_15 ?_
    refine lv_aload_n hx hb d_ZoneNodes_message_17 rfl (lv_at hl 0 rfl) ?_
    replace hm := zb1_s hm
    obtain ⟨v8, h7, hm⟩ := hm
    refine zr_getN (ci := 3) (C := R_Message) (T := F_Message) (N := 10) hx hb hts in_Message hown hk hX rfl 1 (by decide) rfl rfl (nF0 hk) rfl (zgi_v h7) d_ZoneNodes_message_18 ?_
    refine lv_imul hx hb d_ZoneNodes_message_21 ?_
    refine lv_sipush (v := 10000) hx hb d_ZoneNodes_message_22 (by decide) ?_
    refine lv_aload_n hx hb d_ZoneNodes_message_25 rfl (lv_at hl 0 rfl) ?_
    replace hm := zb1_s hm
    obtain ⟨v10, h9, hm⟩ := hm
    refine zr_getN (ci := 3) (C := R_Message) (T := F_Message) (N := 10) hx hb hts in_Message hown hk hX rfl 2 (by decide) rfl rfl (nF24 hk) rfl (zgi_v h9) d_ZoneNodes_message_26 ?_
    refine lv_imul hx hb d_ZoneNodes_message_29 ?_
    refine lv_iadd hx hb d_ZoneNodes_message_30 ?_
    refine lv_istore_n (lv' := [(3, .int ((100000 * v8) + (10000 * v10))), (2, .ref a6), (0, .ref x0), (1, .int x1)]) hx hb d_ZoneNodes_message_31 rfl hl (by decide) rfl (fun ls hl => ?_)
    refine lv_aload_n hx hb d_ZoneNodes_message_32 rfl (lv_at hl 1 rfl) ?_
    replace hm := zb1_s hm
    obtain ⟨v12, h11, hm⟩ := hm
    refine zr_getN (ci := 3) (C := R_Message) (T := F_Message) (N := 10) hx hb hts in_Message hown hk hX rfl 1 (by decide) rfl rfl (nF0 hk) rfl (zgi_v h11) d_ZoneNodes_message_33 ?_
    refine lv_iconst (v := 5) hx hb d_ZoneNodes_message_36 (by decide) ?_
    refine lv_icmp_ne (tgt := 57) hx hb d_ZoneNodes_message_37 rfl (fun h13 => ?_) (fun h13 => ?_)
    · replace hm := zi_f h13 hm
      refine lv_iload_n hx hb d_ZoneNodes_message_57 rfl (lv_at hl 0 rfl) ?_
      cases hm
      exact W.iret hx hb hr (fun t ht hW => zh_end hk hX hS ht hW) hS.2.2 d_ZoneNodes_message_58
    · replace hm := zi_t h13 hm
      refine lv_iload_n hx hb d_ZoneNodes_message_40 rfl (lv_at hl 0 rfl) ?_
      refine lv_bipush (v := 100) hx hb d_ZoneNodes_message_41 (by decide) ?_
      refine lv_aload_n hx hb d_ZoneNodes_message_43 rfl (lv_at hl 1 rfl) ?_
      replace hm := zb1_s hm
      obtain ⟨v15, h14, hm⟩ := hm
      refine zr_getN (ci := 3) (C := R_Message) (T := F_Message) (N := 10) hx hb hts in_Message hown hk hX rfl 5 (by decide) rfl rfl (nF45 hk) rfl (zgi_v h14) d_ZoneNodes_message_44 ?_
      refine lv_imul hx hb d_ZoneNodes_message_47 ?_
      refine lv_iadd hx hb d_ZoneNodes_message_48 ?_
      refine lv_aload_n hx hb d_ZoneNodes_message_49 rfl (lv_at hl 1 rfl) ?_
      replace hm := zb1_s hm
      obtain ⟨v17, h16, hm⟩ := hm
      refine zr_getN (ci := 3) (C := R_Message) (T := F_Message) (N := 10) hx hb hts in_Message hown hk hX rfl 6 (by decide) rfl rfl (nF46 hk) rfl (zgi_v h16) d_ZoneNodes_message_50 ?_
      refine lv_iadd hx hb d_ZoneNodes_message_53 ?_
      refine lv_goto (tgt := 58) hx hb d_ZoneNodes_message_54 rfl ?_
      cases hm
      exact W.iret hx hb hr (fun t ht hW => zh_end hk hX hS ht hW) hS.2.2 d_ZoneNodes_message_58
set_option maxHeartbeats 4000000 in
set_option maxRecDepth 100000 in
theorem c_ZoneNodes_messages (l : Launch) (G : zh_G) (N : Nat) (X : zh_T) (x0 : Nat) (r : Int32) (hm : f_ZoneNodes_messages N X x0 = some r) : zM l G y_ZoneNodes_messages w_ZoneNodes_messages 0 0 X [.ref x0] (some (.int r)) X 0 0 := by
  refine zr_ofW (by decide) (by exact Nat.le_of_ble_eq_true rfl) ?_
  intro p e s m args below meth c ls hx hb hml hr hts hown hin hlocks hk hX hl
  have hS : va_S (zh_A G) s.heap s.heap [] := va_S.rf
  have hl : lv_has ls 1 [(0, .ref x0)] := hl
  have hown : s.vm.findClass R_ZoneNodes = some m.cls := hown
  unfold f_ZoneNodes_messages at hm
  refine lv_aload_n hx hb d_ZoneNodes_messages_0 rfl (lv_at hl 0 rfl) ?_
  replace hm := zb1_s hm
  obtain ⟨a2, h1, hm⟩ := hm
  refine zr_get (ci := 8) (C := R_ZoneNodes) (T := F_ZoneNodes) (N := 7) hx hb hts in_ZoneNodes hown hk hX rfl 3 (by decide) (hts _ tW95) rfl (zgr_v h1) d_ZoneNodes_messages_1 ?_
  replace hm := zb1_s hm
  obtain ⟨v4, h3, hm⟩ := hm
  refine zr_getN (ci := 7) (C := R_Wire) (T := F_Wire) (N := 2) hx hb hts in_Wire hown hk hX rfl 1 (by decide) rfl rfl (nF47 hk) rfl (zgi_v h3) d_ZoneNodes_messages_4 ?_
  cases hm
  exact W.iret hx hb hr (fun t ht hW => zh_end hk hX hS ht hW) hS.2.2 d_ZoneNodes_messages_7
set_option maxHeartbeats 4000000 in
set_option maxRecDepth 100000 in
theorem c_Draft_addNeed (l : Launch) (G : zh_G) (N : Nat) (X : zh_T) (x0 : Nat) (x1 : Int32) (r : Int32) (X' : zh_T) (hm : f_Draft_addNeed N X x0 x1 = some (r, X')) : zM l G y_Draft_addNeed w_Draft_addNeed 0 0 X [.ref x0, .int x1] (some (.int r)) X' 0 0 := by
  refine zr_ofW (by decide) (by exact Nat.le_of_ble_eq_true rfl) ?_
  intro p e s m args below meth c ls hx hb hml hr hts hown hin hlocks hk hX hl
  have hS : va_S (zh_A G) s.heap s.heap [] := va_S.rf
  have hl : lv_has ls 2 [(0, .ref x0), (1, .int x1)] := hl
  have hown : s.vm.findClass R_Draft = some m.cls := hown
  unfold f_Draft_addNeed at hm
  refine lv_aload_n hx hb d_Draft_addNeed_0 rfl (lv_at hl 0 rfl) ?_
  replace hm := zb1_s hm
  obtain ⟨v2, h1, hm⟩ := hm
  refine zr_get (ci := 0) (C := R_Draft) (T := F_Draft) (N := 4) hx hb hts in_Draft hown hk hX rfl 2 (by decide) (hts _ tW375) rfl (zgi_v h1) d_Draft_addNeed_1 ?_
  refine lv_iconst (v := 4) hx hb d_Draft_addNeed_4 (by decide) ?_
  refine lv_icmp_lt (tgt := 10) hx hb d_Draft_addNeed_5 rfl (fun h3 => ?_) (fun h3 => ?_)
  · replace hm := zi_t h3 hm
    refine lv_aload_n hx hb d_Draft_addNeed_10 rfl (lv_at hl 0 rfl) ?_
    replace hm := zb1_s hm
    obtain ⟨a5, h4, hm⟩ := hm
    refine zr_get (ci := 0) (C := R_Draft) (T := F_Draft) (N := 4) hx hb hts in_Draft hown hk hX rfl 0 (by decide) (hts _ tW4) rfl (zgr_v h4) d_Draft_addNeed_11 ?_
    refine lv_aload_n hx hb d_Draft_addNeed_14 rfl (lv_at hl 0 rfl) ?_
    replace hm := zb1_s hm
    obtain ⟨v7, h6, hm⟩ := hm
    refine zr_get (ci := 0) (C := R_Draft) (T := F_Draft) (N := 4) hx hb hts in_Draft hown hk hX rfl 2 (by decide) (hts _ tW375) rfl (zgi_v h6) d_Draft_addNeed_15 ?_
    refine lv_iload_n hx hb d_Draft_addNeed_18 rfl (lv_at hl 1 rfl) ?_
    replace hm := zb1_s hm
    obtain ⟨X8, h9, hm⟩ := hm
    refine zr_iastore hx hb hk hX hS h9 d_Draft_addNeed_19 (fun H locs hX hS => ?_)
    refine lv_aload_n hx hb d_Draft_addNeed_20 rfl (lv_at hl 0 rfl) ?_
    refine lv_dup hx hb d_Draft_addNeed_21 rfl ?_
    replace hm := zb1_s hm
    obtain ⟨v11, h10, hm⟩ := hm
    refine zr_get (ci := 0) (C := R_Draft) (T := F_Draft) (N := 4) hx hb hts in_Draft hown hk hX rfl 2 (by decide) (hts _ tW375) rfl (zgi_v h10) d_Draft_addNeed_22 ?_
    refine lv_iconst (v := 1) hx hb d_Draft_addNeed_25 (by decide) ?_
    refine lv_iadd hx hb d_Draft_addNeed_26 ?_
    replace hm := zb1_s hm
    obtain ⟨X12, h13, hm⟩ := hm
    refine zr_put (ci := 0) (C := R_Draft) (T := F_Draft) (N := 4) (ty := .int) (v := .int (v11 + 1)) hx hb hts in_Draft t_Draft t_Draft_ok n_Draft hown hk hX hS rfl 2 (by decide) (hts _ tW375) rfl rfl (by decide +kernel) rfl rfl h13 d_Draft_addNeed_27 (fun H locs hX hS => ?_)
    refine lv_iconst (v := 1) hx hb d_Draft_addNeed_30 (by decide) ?_
    cases hm
    exact W.zret hx hb hr (by decide) (fun t ht hW => zh_end hk hX hS ht hW) hS.2.2 d_Draft_addNeed_31
  · replace hm := zi_f h3 hm
    refine lv_iconst (v := 0) hx hb d_Draft_addNeed_8 (by decide) ?_
    cases hm
    exact W.zret hx hb hr (by decide) (fun t ht hW => zh_end hk hX hS ht hW) hS.2.2 d_Draft_addNeed_9
