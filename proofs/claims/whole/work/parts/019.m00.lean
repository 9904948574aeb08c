set_option maxHeartbeats 4000000 in
set_option maxRecDepth 100000 in
theorem c_ZoneNodes_within (l : Launch) (G : zh_G) (N : Nat) (X : zh_T) (x0 : Int32) (x1 : Int32) (x2 : Int32) (r : Int32) (hm : f_ZoneNodes_within N X x0 x1 x2 = some r) : zM l G y_ZoneNodes_within w_ZoneNodes_within 0 0 X [.int x0, .int x1, .int x2] (some (.int r)) X 0 0 := by
  refine zr_ofW (by decide) (by exact Nat.le_of_ble_eq_true rfl) ?_
  intro p e s m args below meth c ls hx hb hml hr hts hown hin hlocks hk hX hl
  have hS : va_S (zh_A G) s.heap s.heap [] := va_S.rf
  have hl : lv_has ls 3 [(0, .int x0), (1, .int x1), (2, .int x2)] := hl
  have hown : s.vm.findClass R_ZoneNodes = some m.cls := hown
  unfold f_ZoneNodes_within at hm
  refine lv_iload_n hx hb d_ZoneNodes_within_0 rfl (lv_at hl 0 rfl) ?_
  refine lv_iload_n hx hb d_ZoneNodes_within_1 rfl (lv_at hl 1 rfl) ?_
  refine lv_icmp_lt (tgt := 14) hx hb d_ZoneNodes_within_2 rfl (fun h1 => ?_) (fun h1 => ?_)
  · replace hm := zi_t h1 hm
    refine lv_iconst (v := 0) hx hb d_ZoneNodes_within_14 (by decide) ?_
    cases hm
    exact W.zret hx hb hr (by decide) (fun t ht hW => zh_end hk hX hS ht hW) hS.2.2 d_ZoneNodes_within_15
  · replace hm := zi_f h1 hm
    refine lv_iload_n hx hb d_ZoneNodes_within_5 rfl (lv_at hl 0 rfl) ?_
    refine lv_iload_n hx hb d_ZoneNodes_within_6 rfl (lv_at hl 2 rfl) ?_
    refine lv_icmp_gt (tgt := 14) hx hb d_ZoneNodes_within_7 rfl (fun h2 => ?_) (fun h2 => ?_)
    · replace hm := zi_t h2 hm
      refine lv_iconst (v := 0) hx hb d_ZoneNodes_within_14 (by decide) ?_
      cases hm
      exact W.zret hx hb hr (by decide) (fun t ht hW => zh_end hk hX hS ht hW) hS.2.2 d_ZoneNodes_within_15
    · replace hm := zi_f h2 hm
      refine lv_iconst (v := 1) hx hb d_ZoneNodes_within_10 (by decide) ?_
      refine lv_goto (tgt := 15) hx hb d_ZoneNodes_within_11 rfl ?_
      cases hm
      exact W.zret hx hb hr (by decide) (fun t ht hW => zh_end hk hX hS ht hW) hS.2.2 d_ZoneNodes_within_15
set_option maxHeartbeats 4000000 in
set_option maxRecDepth 100000 in
theorem c_Draft_init (l : Launch) (G : zh_G) (N : Nat) (X : zh_T) (x0 : Nat) (r : Unit) (X' : zh_T) (hm : f_Draft_init N X x0 = some (r, X')) : zM l G y_Draft_init w_Draft_init 1 21 X [.ref x0] none X' 2 8 := by
  refine zr_ofW (by decide) (by exact Nat.le_of_ble_eq_true rfl) ?_
  intro p e s m args below meth c ls hx hb hml hr hts hown hin hlocks hk hX hl
  have hS : va_S (zh_A G) s.heap s.heap [] := va_S.rf
  have hl : lv_has ls 1 [(0, .ref x0)] := hl
  have hown : s.vm.findClass R_Draft = some m.cls := hown
  unfold f_Draft_init at hm
  refine lv_aload_n hx hb d_Draft_init_0 rfl (lv_at hl 0 rfl) ?_
  refine W.objInit hx hb hown (hts _ tW0) (hts _ tW1) (hts _ tW2) rfl (by rw [hml]; exact hl.1) rfl d_Draft_init_1 (Nat.le_of_ble_eq_true rfl) (Nat.le_of_ble_eq_true rfl) ?_
  refine W.eq (g2 := F0 m 4 ls []) rfl ?_
  refine lv_aload_n hx hb d_Draft_init_4 rfl (lv_at hl 0 rfl) ?_
  refine lv_iconst (v := 4) hx hb d_Draft_init_5 (by decide) ?_
  replace hm := zb2_s hm
  obtain ⟨a1, X2, h3, hm⟩ := hm
  refine zr_newai (n := 4) (N' := 4) hx hb (hts _ tW3) hk hX hS h3 (by decide) rfl (by decide) (Nat.le_of_ble_eq_true rfl) (Nat.le_of_ble_eq_true rfl) d_Draft_init_6 (fun H hX hS => ?_)
  replace hm := zb1_s hm
  obtain ⟨X4, h5, hm⟩ := hm
  refine zr_putF (ci := 0) (C := R_Draft) (T := F_Draft) (N := 4) (ty := (.array .int)) (v := .ref a1) hx hb hts in_Draft t_Draft t_Draft_ok n_Draft hown hk hX hS rfl 0 (by decide) (hts _ tW4) rfl rfl hin rfl (by decide +kernel) rfl rfl h5 d_Draft_init_8 (fun H locs hX hS => ?_)
  refine lv_aload_n hx hb d_Draft_init_11 rfl (lv_at hl 0 rfl) ?_
  refine lv_iconst (v := 4) hx hb d_Draft_init_12 (by decide) ?_
  replace hm := zb2_s hm
  obtain ⟨a6, X7, h8, hm⟩ := hm
  refine zr_newai (n := 4) (N' := 4) hx hb (hts _ tW3) hk hX hS h8 (by decide) rfl (by decide) (Nat.le_of_ble_eq_true rfl) (Nat.le_of_ble_eq_true rfl) d_Draft_init_13 (fun H hX hS => ?_)
  replace hm := zb1_s hm
  obtain ⟨X9, h10, hm⟩ := hm
  refine zr_putF (ci := 0) (C := R_Draft) (T := F_Draft) (N := 4) (ty := (.array .int)) (v := .ref a6) hx hb hts in_Draft t_Draft t_Draft_ok n_Draft hown hk hX hS rfl 1 (by decide) (hts _ tW5) rfl rfl hin rfl (by decide +kernel) rfl rfl h10 d_Draft_init_15 (fun H locs hX hS => ?_)
  cases hm
  refine W.widen (k := 2) (n := 8) (Nat.le_of_ble_eq_true rfl) (Nat.le_of_ble_eq_true rfl) ?_
  exact W.vret hx hb hr (fun t ht hW => zh_end hk hX hS ht hW) hS.2.2 d_Draft_init_18
set_option maxHeartbeats 4000000 in
set_option maxRecDepth 100000 in
theorem c_Records_init (l : Launch) (G : zh_G) (N : Nat) (X : zh_T) (x0 : Nat) (r : Unit) (X' : zh_T) (hm : f_Records_init N X x0 = some (r, X')) : zM l G y_Records_init w_Records_init 1 21 X [.ref x0] none X' 1 32 := by
  refine zr_ofW (by decide) (by exact Nat.le_of_ble_eq_true rfl) ?_
  intro p e s m args below meth c ls hx hb hml hr hts hown hin hlocks hk hX hl
  have hS : va_S (zh_A G) s.heap s.heap [] := va_S.rf
  have hl : lv_has ls 1 [(0, .ref x0)] := hl
  have hown : s.vm.findClass R_Records = some m.cls := hown
  unfold f_Records_init at hm
  refine lv_aload_n hx hb d_Records_init_0 rfl (lv_at hl 0 rfl) ?_
  refine W.objInit hx hb hown (hts _ tW6) (hts _ tW1) (hts _ tW2) rfl (by rw [hml]; exact hl.1) rfl d_Records_init_1 (Nat.le_of_ble_eq_true rfl) (Nat.le_of_ble_eq_true rfl) ?_
  refine W.eq (g2 := F0 m 4 ls []) rfl ?_
  refine lv_aload_n hx hb d_Records_init_4 rfl (lv_at hl 0 rfl) ?_
  refine lv_bipush (v := 32) hx hb d_Records_init_5 (by decide) ?_
  replace hm := zb2_s hm
  obtain ⟨a1, X2, h3, hm⟩ := hm
  refine zr_newai (n := 32) (N' := 32) hx hb (hts _ tW3) hk hX hS h3 (by decide) rfl (by decide) (Nat.le_of_ble_eq_true rfl) (Nat.le_of_ble_eq_true rfl) d_Records_init_7 (fun H hX hS => ?_)
  replace hm := zb1_s hm
  obtain ⟨X4, h5, hm⟩ := hm
  refine zr_putF (ci := 5) (C := R_Records) (T := F_Records) (N := 1) (ty := (.array .int)) (v := .ref a1) hx hb hts in_Records t_Records t_Records_ok n_Records hown hk hX hS rfl 0 (by decide) (hts _ tW7) rfl rfl hin rfl (by decide +kernel) rfl rfl h5 d_Records_init_9 (fun H locs hX hS => ?_)
  cases hm
  refine W.widen (k := 1) (n := 32) (Nat.le_of_ble_eq_true rfl) (Nat.le_of_ble_eq_true rfl) ?_
  exact W.vret hx hb hr (fun t ht hW => zh_end hk hX hS ht hW) hS.2.2 d_Records_init_12
set_option maxHeartbeats 4000000 in
set_option maxRecDepth 100000 in
theorem c_Entry_init (l : Launch) (G : zh_G) (N : Nat) (X : zh_T) (x0 : Nat) (r : Unit) (X' : zh_T) (hm : f_Entry_init N X x0 = some (r, X')) : zM l G y_Entry_init w_Entry_init 2 41 X [.ref x0] none X' 4 66 := by
  refine zr_ofW (by decide) (by exact Nat.le_of_ble_eq_true rfl) ?_
  intro p e s m args below meth c ls hx hb hml hr hts hown hin hlocks hk hX hl
  have hS : va_S (zh_A G) s.heap s.heap [] := va_S.rf
  have hl : lv_has ls 1 [(0, .ref x0)] := hl
  have hown : s.vm.findClass R_Entry = some m.cls := hown
  unfold f_Entry_init at hm
  refine lv_aload_n hx hb d_Entry_init_0 rfl (lv_at hl 0 rfl) ?_
  refine W.objInit hx hb hown (hts _ tW8) (hts _ tW1) (hts _ tW2) rfl (by rw [hml]; exact hl.1) rfl d_Entry_init_1 (Nat.le_of_ble_eq_true rfl) (Nat.le_of_ble_eq_true rfl) ?_
  refine W.eq (g2 := F0 m 4 ls []) rfl ?_
  refine lv_aload_n hx hb d_Entry_init_4 rfl (lv_at hl 0 rfl) ?_
  replace hm := zb2_s hm
  obtain ⟨a1, X2, h3, hm⟩ := hm
  refine zr_new (ci := 5) (C := R_Records) (T := F_Records) (N := 1) hx hb hts in_Records t_Records t_Records_ok hown (hts _ tW9) (hts _ tW10) (hts _ tW11) hk hX hS rfl h3 zf_Records (Nat.le_of_ble_eq_true rfl) (Nat.le_of_ble_eq_true rfl) d_Entry_init_5 (fun H hX hS => ?_)
  refine lv_dup hx hb d_Entry_init_8 rfl ?_
  replace hm := zb2_s hm
  obtain ⟨v5, X6, h4, hm⟩ := hm
  refine zr_callv (zr_runIN (As := []) (rest := [.ref a1, .ref x0]) (n := 0) hx hb hml hown hts hk hX (c_Records_init l G N X2 a1 v5 X6 h4) (nM0 hk) tW12 (hts _ tW11) (hts _ tW13) (by decide +kernel) ⟨Nat.le_of_ble_eq_true rfl, Nat.le_of_ble_eq_true rfl⟩ rfl rfl hl.1 rfl (lv_room (Nat.le_of_ble_eq_true rfl)) d_Entry_init_9 ⟨(Nat.le_of_ble_eq_true rfl), (Nat.le_of_ble_eq_true rfl)⟩) hS (fun H locs hX hS => ?_)
  replace hm := zb1_s hm
  obtain ⟨X7, h8, hm⟩ := hm
  refine zr_putF (ci := 1) (C := R_Entry) (T := F_Entry) (N := 4) (ty := (.object "ZoneNodes$Records")) (v := .ref a1) hx hb hts in_Entry t_Entry t_Entry_ok n_Entry hown hk hX hS rfl 0 (by decide) (hts _ tW14) rfl rfl hin rfl (by decide +kernel) rfl rfl h8 d_Entry_init_12 (fun H locs hX hS => ?_)
  refine lv_aload_n hx hb d_Entry_init_15 rfl (lv_at hl 0 rfl) ?_
  replace hm := zb2_s hm
  obtain ⟨a9, X10, h11, hm⟩ := hm
  refine zr_new (ci := 5) (C := R_Records) (T := F_Records) (N := 1) hx hb hts in_Records t_Records t_Records_ok hown (hts _ tW9) (hts _ tW10) (hts _ tW11) hk hX hS rfl h11 zf_Records (Nat.le_of_ble_eq_true rfl) (Nat.le_of_ble_eq_true rfl) d_Entry_init_16 (fun H hX hS => ?_)
  refine lv_dup hx hb d_Entry_init_19 rfl ?_
  replace hm := zb2_s hm
  obtain ⟨v13, X14, h12, hm⟩ := hm
  refine zr_callv (zr_runIN (As := []) (rest := [.ref a9, .ref x0]) (n := 0) hx hb hml hown hts hk hX (c_Records_init l G N X10 a9 v13 X14 h12) (nM0 hk) tW12 (hts _ tW11) (hts _ tW13) (by decide +kernel) ⟨Nat.le_of_ble_eq_true rfl, Nat.le_of_ble_eq_true rfl⟩ rfl rfl hl.1 rfl (lv_room (Nat.le_of_ble_eq_true rfl)) d_Entry_init_20 ⟨(Nat.le_of_ble_eq_true rfl), (Nat.le_of_ble_eq_true rfl)⟩) hS (fun H locs hX hS => ?_)
  replace hm := zb1_s hm
  obtain ⟨X15, h16, hm⟩ := hm
  refine zr_putF (ci := 1) (C := R_Entry) (T := F_Entry) (N := 4) (ty := (.object "ZoneNodes$Records")) (v := .ref a9) hx hb hts in_Entry t_Entry t_Entry_ok n_Entry hown hk hX hS rfl 1 (by decide) (hts _ tW15) rfl rfl hin rfl (by decide +kernel) rfl rfl h16 d_Entry_init_23 (fun H locs hX hS => ?_)
  cases hm
  refine W.widen (k := 4) (n := 66) (Nat.le_of_ble_eq_true rfl) (Nat.le_of_ble_eq_true rfl) ?_
  exact W.vret hx hb hr (fun t ht hW => zh_end hk hX hS ht hW) hS.2.2 d_Entry_init_26
set_option maxHeartbeats 4000000 in
set_option maxRecDepth 100000 in
theorem c_Journal_init (l : Launch) (G : zh_G) (N : Nat) (X : zh_T) (x0 : Nat) (r : Unit) (X' : zh_T) (hm : f_Journal_init N X x0 = some (r, X')) : zM l G y_Journal_init w_Journal_init 3 61 X [.ref x0] none X' 31 425 := by
  refine zr_ofW (by decide) (by exact Nat.le_of_ble_eq_true rfl) ?_
  intro p e s m args below meth c ls hx hb hml hr hts hown hin hlocks hk hX hl
  have hS : va_S (zh_A G) s.heap s.heap [] := va_S.rf
  have hl : lv_has ls 2 [(0, .ref x0)] := hl
  have hown : s.vm.findClass R_Journal = some m.cls := hown
  unfold f_Journal_init at hm
  have hL14 : ∀ (n : Nat) (X : zh_T) (w0 : Nat) (w1 : Int32) (v : Unit) (X1 : zh_T) (H : Heap) (locs : List Loc) (ls : Array Slot), L_Journal_init_14 N w0 n X w1 = some (v, X1) → zh_w G X H → va_S (zh_A G) s.heap H locs → lv_has ls 2 [(0, .ref w0), (1, .int w1)] → ∀ (cells slots ce se : Nat), cells + 5 * n ≤ ce → slots + 70 * n ≤ se → ce ≤ 31 → se ≤ 425 → (∀ (H : Heap) (locs : List Loc) (ls : Array Slot), zh_w G X1 H → va_S (zh_A G) s.heap H locs → lv_has ls 2 [] → W p l e { frames := 3, cells := 31, slots := 425, locals := 61 } s m args below meth c H locs ce se (MQ below (zh_Q G none X') args s 31 425 (zh_A G)) (F0 m 42 ls [])) → W p l e { frames := 3, cells := 31, slots := 425, locals := 61 } s m args below meth c H locs cells slots (MQ below (zh_Q G none X') args s 31 425 (zh_A G)) (F0 m 14 ls []) := by
    intro n
    induction n with
    | zero =>
      intro X w0 w1 v X1 H locs ls hm hX hS hl cells slots ce se hc1 hc2 hc3 hc4 hexit
      rw [L_Journal_init_14] at hm
      cases hm
    | succ n ih =>
      intro X w0 w1 v X1 H locs ls hm hX hS hl cells slots ce se hc1 hc2 hc3 hc4 hexit
      rw [L_Journal_init_14] at hm
      refine lv_iload_n hx hb d_Journal_init_14 rfl (lv_at hl 1 rfl) ?_
      refine lv_aload_n hx hb d_Journal_init_15 rfl (lv_at hl 0 rfl) ?_
      replace hm := zb1_s hm
      obtain ⟨a7, h6, hm⟩ := hm
      refine zr_get (ci := 2) (C := R_Journal) (T := F_Journal) (N := 2) hx hb hts in_Journal hown hk hX rfl 0 (by decide) (hts _ tW18) rfl (zgr_v h6) d_Journal_init_16 ?_
      replace hm := zb1_s hm
      obtain ⟨v8, h9, hm⟩ := hm
      refine zr_alen (t := 2) hx hb hk hX rfl h9 d_Journal_init_19 ?_
      refine lv_icmp_ge (tgt := 42) hx hb d_Journal_init_20 rfl (fun h10 => ?_) (fun h10 => ?_)
      · replace hm := zi_t h10 hm
        refine W.widen (k := ce) (n := se) (by omega) (by omega) ?_
        cases hm
        exact hexit _ _ _ hX hS (lv_sub hl [] rfl)
      · replace hm := zi_f h10 hm
        refine lv_aload_n hx hb d_Journal_init_23 rfl (lv_at hl 0 rfl) ?_
        replace hm := zb1_s hm
        obtain ⟨a12, h11, hm⟩ := hm
        refine zr_get (ci := 2) (C := R_Journal) (T := F_Journal) (N := 2) hx hb hts in_Journal hown hk hX rfl 0 (by decide) (hts _ tW18) rfl (zgr_v h11) d_Journal_init_24 ?_
        refine lv_iload_n hx hb d_Journal_init_27 rfl (lv_at hl 1 rfl) ?_
        replace hm := zb2_s hm
        obtain ⟨a13, X14, h15, hm⟩ := hm
        refine zr_new (ci := 1) (C := R_Entry) (T := F_Entry) (N := 4) hx hb hts in_Entry t_Entry t_Entry_ok hown (hts _ tW17) (hts _ tW19) (hts _ tW20) hk hX hS rfl h15 zf_Entry (by show _ ≤ 31; omega) (by show _ ≤ 425; omega) d_Journal_init_28 (fun H hX hS => ?_)
        refine lv_dup hx hb d_Journal_init_31 rfl ?_
        replace hm := zb2_s hm
        obtain ⟨v17, X18, h16, hm⟩ := hm
        refine zr_callv (zr_runIN (As := []) (rest := [.ref a13, .int w1, .ref a12]) (n := 0) hx hb hml hown hts hk hX (c_Entry_init l G N X14 a13 v17 X18 h16) (nM1 hk) tW21 (hts _ tW20) (hts _ tW22) (by decide +kernel) ⟨Nat.le_of_ble_eq_true rfl, Nat.le_of_ble_eq_true rfl⟩ rfl rfl hl.1 rfl (lv_room (Nat.le_of_ble_eq_true rfl)) d_Journal_init_32 ⟨(by show _ ≤ 31; omega), (by show _ ≤ 425; omega)⟩) hS (fun H locs hX hS => ?_)
        replace hm := zb1_s hm
        obtain ⟨X19, h20, hm⟩ := hm
        refine zr_aastore (t := 2) (ci := 1) hx hb hk hX hS rfl rfl h20 d_Journal_init_35 (fun H locs hX hS => ?_)
        refine lv_iinc (v := w1 + 1) (lv' := [(1, .int (w1 + 1)), (0, .ref w0)]) hx hb d_Journal_init_36 hl (k := 1) rfl (by rw [show Int32.ofInt 1 = 1 by decide]) (by decide) rfl (fun ls hl => ?_)
        refine lv_goto (tgt := 14) hx hb d_Journal_init_39 rfl ?_
        exact ih X19 w0 (w1 + 1) v X1 _ _ _ hm hX hS (lv_sub hl [1, 0] rfl) _ _ ce se (by omega) (by omega) hc3 hc4 hexit
  refine lv_aload_n hx hb d_Journal_init_0 rfl (lv_at hl 0 rfl) ?_
  refine W.objInit hx hb hown (hts _ tW16) (hts _ tW1) (hts _ tW2) rfl (by rw [hml]; exact hl.1) rfl d_Journal_init_1 (Nat.le_of_ble_eq_true rfl) (Nat.le_of_ble_eq_true rfl) ?_
  refine W.eq (g2 := F0 m 4 ls []) rfl ?_
  refine lv_aload_n hx hb d_Journal_init_4 rfl (lv_at hl 0 rfl) ?_
  refine lv_iconst (v := 5) hx hb d_Journal_init_5 (by decide) ?_
  replace hm := zb2_s hm
  obtain ⟨a1, X2, h3, hm⟩ := hm
  refine zr_newq (t := 2) (C := R_Entry) (n := 5) (N' := 5) hx hb hown (hts _ tW17) (hk.2.2.2 _ ao_2) hk hX hS rfl h3 (by decide) rfl (by decide) (Nat.le_of_ble_eq_true rfl) (Nat.le_of_ble_eq_true rfl) d_Journal_init_6 (fun H hX hS => ?_)
  replace hm := zb1_s hm
  obtain ⟨X4, h5, hm⟩ := hm
  refine zr_putF (ci := 2) (C := R_Journal) (T := F_Journal) (N := 2) (ty := (.array (.object "ZoneNodes$Entry"))) (v := .ref a1) hx hb hts in_Journal t_Journal t_Journal_ok n_Journal hown hk hX hS rfl 0 (by decide) (hts _ tW18) rfl rfl hin rfl (by decide +kernel) rfl rfl h5 d_Journal_init_9 (fun H locs hX hS => ?_)
  refine lv_iconst (v := 0) hx hb d_Journal_init_12 (by decide) ?_
  refine lv_istore_n (lv' := [(1, .int 0), (0, .ref x0)]) hx hb d_Journal_init_13 rfl hl (by decide) rfl (fun ls hl => ?_)
  replace hm := zb2_s hm
  obtain ⟨v21, X23, h22, hm⟩ := hm
  refine hL14 6 X4 x0 0 v21 X23 _ _ _ h22 hX hS (lv_sub hl [1, 0] rfl) _ _ (31) (425) (by omega) (by omega) (by omega) (by omega) (fun H locs ls hX hS hl => ?_)
  cases hm
  refine W.widen (k := 31) (n := 425) (Nat.le_of_ble_eq_true rfl) (Nat.le_of_ble_eq_true rfl) ?_
  exact W.vret hx hb hr (fun t ht hW => zh_end hk hX hS ht hW) hS.2.2 d_Journal_init_42
set_option maxHeartbeats 4000000 in
set_option maxRecDepth 100000 in
theorem c_Records_setValues (l : Launch) (G : zh_G) (N : Nat) (X : zh_T) (x0 : Nat) (x1 : Int32) (x2 : Int32) (x3 : Int32) (r : Unit) (X' : zh_T) (hm : f_Records_setValues N X x0 x1 x2 x3 = some (r, X')) : zM l G y_Records_setValues w_Records_setValues 0 0 X [.ref x0, .int x1, .int x2, .int x3] none X' 0 0 := by
  refine zr_ofW (by decide) (by exact Nat.le_of_ble_eq_true rfl) ?_
  intro p e s m args below meth c ls hx hb hml hr hts hown hin hlocks hk hX hl
  have hS : va_S (zh_A G) s.heap s.heap [] := va_S.rf
  have hl : lv_has ls 4 [(0, .ref x0), (1, .int x1), (2, .int x2), (3, .int x3)] := hl
  have hown : s.vm.findClass R_Records = some m.cls := hown
  unfold f_Records_setValues at hm
  refine lv_aload_n hx hb d_Records_setValues_0 rfl (lv_at hl 0 rfl) ?_
  replace hm := zb1_s hm
  obtain ⟨a2, h1, hm⟩ := hm
  refine zr_get (ci := 5) (C := R_Records) (T := F_Records) (N := 1) hx hb hts in_Records hown hk hX rfl 0 (by decide) (hts _ tW7) rfl (zgr_v h1) d_Records_setValues_1 ?_
  refine lv_iconst (v := 4) hx hb d_Records_setValues_4 (by decide) ?_
  refine lv_iload_n hx hb d_Records_setValues_5 rfl (lv_at hl 1 rfl) ?_
  refine lv_imul hx hb d_Records_setValues_6 ?_
  refine lv_iload_n hx hb d_Records_setValues_7 rfl (lv_at hl 2 rfl) ?_
  refine lv_iadd hx hb d_Records_setValues_8 ?_
  refine lv_iconst (v := 1) hx hb d_Records_setValues_9 (by decide) ?_
  refine lv_isub hx hb d_Records_setValues_10 ?_
  refine lv_iload_n hx hb d_Records_setValues_11 rfl (lv_at hl 3 rfl) ?_
  replace hm := zb1_s hm
  obtain ⟨X3, h4, hm⟩ := hm
  refine zr_iastore hx hb hk hX hS h4 d_Records_setValues_12 (fun H locs hX hS => ?_)
  cases hm
  exact W.vret hx hb hr (fun t ht hW => zh_end hk hX hS ht hW) hS.2.2 d_Records_setValues_13
set_option maxHeartbeats 4000000 in
set_option maxRecDepth 100000 in
theorem c_Records_valuesOf (l : Launch) (G : zh_G) (N : Nat) (X : zh_T) (x0 : Nat) (x1 : Int32) (x2 : Int32) (r : Int32) (hm : f_Records_valuesOf N X x0 x1 x2 = some r) : zM l G y_Records_valuesOf w_Records_valuesOf 0 0 X [.ref x0, .int x1, .int x2] (some (.int r)) X 0 0 := by
  refine zr_ofW (by decide) (by exact Nat.le_of_ble_eq_true rfl) ?_
  intro p e s m args below meth c ls hx hb hml hr hts hown hin hlocks hk hX hl
  have hS : va_S (zh_A G) s.heap s.heap [] := va_S.rf
  have hl : lv_has ls 3 [(0, .ref x0), (1, .int x1), (2, .int x2)] := hl
  have hown : s.vm.findClass R_Records = some m.cls := hown
  unfold f_Records_valuesOf at hm
  refine lv_aload_n hx hb d_Records_valuesOf_0 rfl (lv_at hl 0 rfl) ?_
  replace hm := zb1_s hm
  obtain ⟨a2, h1, hm⟩ := hm
  refine zr_get (ci := 5) (C := R_Records) (T := F_Records) (N := 1) hx hb hts in_Records hown hk hX rfl 0 (by decide) (hts _ tW7) rfl (zgr_v h1) d_Records_valuesOf_1 ?_
  refine lv_iconst (v := 4) hx hb d_Records_valuesOf_4 (by decide) ?_
  refine lv_iload_n hx hb d_Records_valuesOf_5 rfl (lv_at hl 1 rfl) ?_
  refine lv_imul hx hb d_Records_valuesOf_6 ?_
  refine lv_iload_n hx hb d_Records_valuesOf_7 rfl (lv_at hl 2 rfl) ?_
  refine lv_iadd hx hb d_Records_valuesOf_8 ?_
  refine lv_iconst (v := 1) hx hb d_Records_valuesOf_9 (by decide) ?_
  refine lv_isub hx hb d_Records_valuesOf_10 ?_
  replace hm := zb1_s hm
  obtain ⟨v3, h4, hm⟩ := hm
  refine zr_iaload hx hb hk hX h4 d_Records_valuesOf_11 ?_
  cases hm
  exact W.iret hx hb hr (fun t ht hW => zh_end hk hX hS ht hW) hS.2.2 d_Records_valuesOf_12
set_option maxHeartbeats 4000000 in
set_option maxRecDepth 100000 in
theorem c_Records_put (l : Launch) (G : zh_G) (N : Nat) (X : zh_T) (x0 : Nat) (x1 : Int32) (x2 : Int32) (x3 : Int32) (r : Unit) (X' : zh_T) (hm : f_Records_put N X x0 x1 x2 x3 = some (r, X')) : zM l G y_Records_put w_Records_put 1 23 X [.ref x0, .int x1, .int x2, .int x3] none X' 0 0 := by
  refine zr_ofW (by decide) (by exact Nat.le_of_ble_eq_true rfl) ?_
  intro p e s m args below meth c ls hx hb hml hr hts hown hin hlocks hk hX hl
  have hS : va_S (zh_A G) s.heap s.heap [] := va_S.rf
  have hl : lv_has ls 4 [(0, .ref x0), (1, .int x1), (2, .int x2), (3, .int x3)] := hl
  have hown : s.vm.findClass R_Records = some m.cls := hown
  unfold f_Records_put at hm
  refine lv_aload_n hx hb d_Records_put_0 rfl (lv_at hl 0 rfl) ?_
  refine lv_iload_n hx hb d_Records_put_1 rfl (lv_at hl 1 rfl) ?_
  refine lv_iload_n hx hb d_Records_put_2 rfl (lv_at hl 2 rfl) ?_
  refine lv_aload_n hx hb d_Records_put_3 rfl (lv_at hl 0 rfl) ?_
  refine lv_iload_n hx hb d_Records_put_4 rfl (lv_at hl 1 rfl) ?_
  refine lv_iload_n hx hb d_Records_put_5 rfl (lv_at hl 2 rfl) ?_
  replace hm := zb1_s hm
  obtain ⟨_, h2, hm⟩ := hm
  replace hm := zb1_s hm
  obtain ⟨v3, h1, hm⟩ := hm
  refine zr_calli (zr_runV (As := [.int x1, .int x2]) (rest := [.int x2, .int x1, .ref x0]) (n := 2) hx hb hml hown hts hk hX (c_Records_valuesOf l G N X x0 x1 x2 v3 h1) (hts _ tW23) tW24 (hts _ tW11) (hts _ tW25) (hts _ tW26) rfl h2 (by decide +kernel) ⟨Nat.le_of_ble_eq_true rfl, Nat.le_of_ble_eq_true rfl⟩ rfl rfl hl.1 rfl (lv_room (Nat.le_of_ble_eq_true rfl)) d_Records_put_6 ⟨(Nat.le_of_ble_eq_true rfl), (Nat.le_of_ble_eq_true rfl)⟩) hS (fun H locs hX hS => ?_)
  refine lv_iconst (v := 1) hx hb d_Records_put_9 (by decide) ?_
  refine lv_iload_n hx hb d_Records_put_10 rfl (lv_at hl 3 rfl) ?_
  refine lv_ishl hx hb d_Records_put_11 ?_
  refine lv_ior hx hb d_Records_put_12 ?_
  replace hm := zb1_s hm
  obtain ⟨_, h5, hm⟩ := hm
  replace hm := zb2_s hm
  obtain ⟨v6, X7, h4, hm⟩ := hm
  refine zr_callv (zr_runV (As := [.int x1, .int x2, .int (v3 ||| (1 <<< (x3 &&& 31)))]) (rest := []) (n := 3) hx hb hml hown hts hk hX (c_Records_setValues l G N X x0 x1 x2 (v3 ||| (1 <<< (x3 &&& 31))) v6 X7 h4) (hts _ tW27) tW28 (hts _ tW11) (hts _ tW29) (hts _ tW30) rfl h5 (by decide +kernel) ⟨Nat.le_of_ble_eq_true rfl, Nat.le_of_ble_eq_true rfl⟩ rfl rfl hl.1 rfl (lv_room (Nat.le_of_ble_eq_true rfl)) d_Records_put_13 ⟨(Nat.le_of_ble_eq_true rfl), (Nat.le_of_ble_eq_true rfl)⟩) hS (fun H locs hX hS => ?_)
  cases hm
  exact W.vret hx hb hr (fun t ht hW => zh_end hk hX hS ht hW) hS.2.2 d_Records_put_16
set_option maxHeartbeats 4000000 in
set_option maxRecDepth 100000 in
theorem c_Primary_init (l : Launch) (G : zh_G) (N : Nat) (X : zh_T) (x0 : Nat) (x1 : Int32) (r : Unit) (X' : zh_T) (hm : f_Primary_init N X x0 x1 = some (r, X')) : zM l G y_Primary_init w_Primary_init 4 82 X [.ref x0, .int x1] none X' 37 605 := by
  refine zr_ofW (by decide) (by exact Nat.le_of_ble_eq_true rfl) ?_
  intro p e s m args below meth c ls hx hb hml hr hts hown hin hlocks hk hX hl
  have hS : va_S (zh_A G) s.heap s.heap [] := va_S.rf
  have hl : lv_has ls 2 [(0, .ref x0), (1, .int x1)] := hl
  have hown : s.vm.findClass R_Primary = some m.cls := hown
  unfold f_Primary_init at hm
  refine lv_aload_n hx hb d_Primary_init_0 rfl (lv_at hl 0 rfl) ?_
  refine W.objInit hx hb hown (hts _ tW31) (hts _ tW1) (hts _ tW2) rfl (by rw [hml]; exact hl.1) rfl d_Primary_init_1 (Nat.le_of_ble_eq_true rfl) (Nat.le_of_ble_eq_true rfl) ?_
  refine W.eq (g2 := F0 m 4 ls []) rfl ?_
  refine lv_aload_n hx hb d_Primary_init_4 rfl (lv_at hl 0 rfl) ?_
  replace hm := zb2_s hm
  obtain ⟨a1, X2, h3, hm⟩ := hm
  refine zr_new (ci := 5) (C := R_Records) (T := F_Records) (N := 1) hx hb hts in_Records t_Records t_Records_ok hown (hts _ tW32) (hts _ tW10) (hts _ tW11) hk hX hS rfl h3 zf_Records (Nat.le_of_ble_eq_true rfl) (Nat.le_of_ble_eq_true rfl) d_Primary_init_5 (fun H hX hS => ?_)
  refine lv_dup hx hb d_Primary_init_8 rfl ?_
  replace hm := zb2_s hm
  obtain ⟨v5, X6, h4, hm⟩ := hm
  refine zr_callv (zr_runIN (As := []) (rest := [.ref a1, .ref x0]) (n := 0) hx hb hml hown hts hk hX (c_Records_init l G N X2 a1 v5 X6 h4) (nM2 hk) tW12 (hts _ tW11) (hts _ tW13) (by decide +kernel) ⟨Nat.le_of_ble_eq_true rfl, Nat.le_of_ble_eq_true rfl⟩ rfl rfl hl.1 rfl (lv_room (Nat.le_of_ble_eq_true rfl)) d_Primary_init_9 ⟨(Nat.le_of_ble_eq_true rfl), (Nat.le_of_ble_eq_true rfl)⟩) hS (fun H locs hX hS => ?_)
  replace hm := zb1_s hm
  obtain ⟨X7, h8, hm⟩ := hm
  refine zr_putF (ci := 4) (C := R_Primary) (T := F_Primary) (N := 9) (ty := (.object "ZoneNodes$Records")) (v := .ref a1) hx hb hts in_Primary t_Primary t_Primary_ok n_Primary hown hk hX hS rfl 0 (by decide) (hts _ tW33) rfl rfl hin rfl (by decide +kernel) rfl rfl h8 d_Primary_init_12 (fun H locs hX hS => ?_)
  refine lv_aload_n hx hb d_Primary_init_15 rfl (lv_at hl 0 rfl) ?_
  replace hm := zb2_s hm
  obtain ⟨a9, X10, h11, hm⟩ := hm
  refine zr_new (ci := 5) (C := R_Records) (T := F_Records) (N := 1) hx hb hts in_Records t_Records t_Records_ok hown (hts _ tW32) (hts _ tW10) (hts _ tW11) hk hX hS rfl h11 zf_Records (Nat.le_of_ble_eq_true rfl) (Nat.le_of_ble_eq_true rfl) d_Primary_init_16 (fun H hX hS => ?_)
  refine lv_dup hx hb d_Primary_init_19 rfl ?_
  replace hm := zb2_s hm
  obtain ⟨v13, X14, h12, hm⟩ := hm
  refine zr_callv (zr_runIN (As := []) (rest := [.ref a9, .ref x0]) (n := 0) hx hb hml hown hts hk hX (c_Records_init l G N X10 a9 v13 X14 h12) (nM2 hk) tW12 (hts _ tW11) (hts _ tW13) (by decide +kernel) ⟨Nat.le_of_ble_eq_true rfl, Nat.le_of_ble_eq_true rfl⟩ rfl rfl hl.1 rfl (lv_room (Nat.le_of_ble_eq_true rfl)) d_Primary_init_20 ⟨(Nat.le_of_ble_eq_true rfl), (Nat.le_of_ble_eq_true rfl)⟩) hS (fun H locs hX hS => ?_)
  replace hm := zb1_s hm
  obtain ⟨X15, h16, hm⟩ := hm
  refine zr_putF (ci := 4) (C := R_Primary) (T := F_Primary) (N := 9) (ty := (.object "ZoneNodes$Records")) (v := .ref a9) hx hb hts in_Primary t_Primary t_Primary_ok n_Primary hown hk hX hS rfl 1 (by decide) (hts _ tW34) rfl rfl hin rfl (by decide +kernel) rfl rfl h16 d_Primary_init_23 (fun H locs hX hS => ?_)
  refine lv_aload_n hx hb d_Primary_init_26 rfl (lv_at hl 0 rfl) ?_
  replace hm := zb2_s hm
  obtain ⟨a17, X18, h19, hm⟩ := hm
  refine zr_new (ci := 2) (C := R_Journal) (T := F_Journal) (N := 2) hx hb hts in_Journal t_Journal t_Journal_ok hown (hts _ tW35) (hts _ tW36) (hts _ tW37) hk hX hS rfl h19 zf_Journal (Nat.le_of_ble_eq_true rfl) (Nat.le_of_ble_eq_true rfl) d_Primary_init_27 (fun H hX hS => ?_)
  refine lv_dup hx hb d_Primary_init_30 rfl ?_
  replace hm := zb2_s hm
  obtain ⟨v21, X22, h20, hm⟩ := hm
  refine zr_callv (zr_runI (As := []) (rest := [.ref a17, .ref x0]) (n := 0) hx hb hml hown hts hk hX (c_Journal_init l G N X18 a17 v21 X22 h20) (hts _ tW38) tW39 (hts _ tW37) (hts _ tW40) (by decide +kernel) ⟨Nat.le_of_ble_eq_true rfl, Nat.le_of_ble_eq_true rfl⟩ rfl rfl hl.1 rfl (lv_room (Nat.le_of_ble_eq_true rfl)) d_Primary_init_31 ⟨(Nat.le_of_ble_eq_true rfl), (Nat.le_of_ble_eq_true rfl)⟩) hS (fun H locs hX hS => ?_)
  replace hm := zb1_s hm
  obtain ⟨X23, h24, hm⟩ := hm
  refine zr_putF (ci := 4) (C := R_Primary) (T := F_Primary) (N := 9) (ty := (.object "ZoneNodes$Journal")) (v := .ref a17) hx hb hts in_Primary t_Primary t_Primary_ok n_Primary hown hk hX hS rfl 2 (by decide) (hts _ tW41) rfl rfl hin rfl (by decide +kernel) rfl rfl h24 d_Primary_init_34 (fun H locs hX hS => ?_)
  refine lv_aload_n hx hb d_Primary_init_37 rfl (lv_at hl 0 rfl) ?_
  refine lv_bipush (v := 112) hx hb d_Primary_init_38 (by decide) ?_
  replace hm := zb2_s hm
  obtain ⟨a25, X26, h27, hm⟩ := hm
  refine zr_newai (n := 112) (N' := 112) hx hb (hts _ tW3) hk hX hS h27 (by decide) rfl (by decide) (Nat.le_of_ble_eq_true rfl) (Nat.le_of_ble_eq_true rfl) d_Primary_init_40 (fun H hX hS => ?_)
  replace hm := zb1_s hm
  obtain ⟨X28, h29, hm⟩ := hm
  refine zr_putF (ci := 4) (C := R_Primary) (T := F_Primary) (N := 9) (ty := (.array .int)) (v := .ref a25) hx hb hts in_Primary t_Primary t_Primary_ok n_Primary hown hk hX hS rfl 3 (by decide) (hts _ tW42) rfl rfl hin rfl (by decide +kernel) rfl rfl h29 d_Primary_init_42 (fun H locs hX hS => ?_)
  refine lv_aload_n hx hb d_Primary_init_45 rfl (lv_at hl 0 rfl) ?_
  refine lv_iconst (v := 1) hx hb d_Primary_init_46 (by decide) ?_
  replace hm := zb1_s hm
  obtain ⟨X30, h31, hm⟩ := hm
  refine zr_put (ci := 4) (C := R_Primary) (T := F_Primary) (N := 9) (ty := .boolean) (v := .int 1) hx hb hts in_Primary t_Primary t_Primary_ok n_Primary hown hk hX hS rfl 8 (by decide) (hts _ tW43) rfl rfl (by decide +kernel) (zpz_n h31) (zpz_f h31) (zpz_v h31) d_Primary_init_47 (fun H locs hX hS => ?_)
  refine lv_aload_n hx hb d_Primary_init_50 rfl (lv_at hl 0 rfl) ?_
  refine lv_iload_n hx hb d_Primary_init_51 rfl (lv_at hl 1 rfl) ?_
  replace hm := zb1_s hm
  obtain ⟨X32, h33, hm⟩ := hm
  refine zr_put (ci := 4) (C := R_Primary) (T := F_Primary) (N := 9) (ty := .int) (v := .int x1) hx hb hts in_Primary t_Primary t_Primary_ok n_Primary hown hk hX hS rfl 6 (by decide) (hts _ tW44) rfl rfl (by decide +kernel) rfl rfl h33 d_Primary_init_52 (fun H locs hX hS => ?_)
  refine lv_aload_n hx hb d_Primary_init_55 rfl (lv_at hl 0 rfl) ?_
  replace hm := zb1_s hm
  obtain ⟨a35, h34, hm⟩ := hm
  refine zr_get (ci := 4) (C := R_Primary) (T := F_Primary) (N := 9) hx hb hts in_Primary hown hk hX rfl 0 (by decide) (hts _ tW33) rfl (zgr_v h34) d_Primary_init_56 ?_
  refine lv_iconst (v := 0) hx hb d_Primary_init_59 (by decide) ?_
  refine lv_iconst (v := 3) hx hb d_Primary_init_60 (by decide) ?_
  refine lv_iconst (v := 1) hx hb d_Primary_init_61 (by decide) ?_
  replace hm := zb1_s hm
  obtain ⟨_, h37, hm⟩ := hm
  replace hm := zb2_s hm
  obtain ⟨v38, X39, h36, hm⟩ := hm
  refine zr_callv (zr_runV (As := [.int 0, .int 3, .int 1]) (rest := []) (n := 3) hx hb hml hown hts hk hX (c_Records_put l G N X32 a35 0 3 1 v38 X39 h36) (hts _ tW45) tW46 (hts _ tW11) (hts _ tW47) (hts _ tW48) rfl h37 (by decide +kernel) ⟨Nat.le_of_ble_eq_true rfl, Nat.le_of_ble_eq_true rfl⟩ rfl rfl hl.1 rfl (lv_room (Nat.le_of_ble_eq_true rfl)) d_Primary_init_62 ⟨(Nat.le_of_ble_eq_true rfl), (Nat.le_of_ble_eq_true rfl)⟩) hS (fun H locs hX hS => ?_)
  cases hm
  refine W.widen (k := 37) (n := 605) (Nat.le_of_ble_eq_true rfl) (Nat.le_of_ble_eq_true rfl) ?_
  exact W.vret hx hb hr (fun t ht hW => zh_end hk hX hS ht hW) hS.2.2 d_Primary_init_65
set_option maxHeartbeats 4000000 in
set_option maxRecDepth 100000 in
theorem c_Secondary_rest (l : Launch) (G : zh_G) (N : Nat) (X : zh_T) (x0 : Nat) (x1 : Int32) (r : Unit) (X' : zh_T) (hm : f_Secondary_rest N X x0 x1 = some (r, X')) : zM l G y_Secondary_rest w_Secondary_rest 0 0 X [.ref x0, .int x1] none X' 0 0 := by
  refine zr_ofW (by decide) (by exact Nat.le_of_ble_eq_true rfl) ?_
  intro p e s m args below meth c ls hx hb hml hr hts hown hin hlocks hk hX hl
  have hS : va_S (zh_A G) s.heap s.heap [] := va_S.rf
  have hl : lv_has ls 2 [(0, .ref x0), (1, .int x1)] := hl
  have hown : s.vm.findClass R_Secondary = some m.cls := hown
  unfold f_Secondary_rest at hm
  refine lv_aload_n hx hb d_Secondary_rest_0 rfl (lv_at hl 0 rfl) ?_
  refine lv_iconst (v := 0) hx hb d_Secondary_rest_1 (by decide) ?_
  replace hm := zb1_s hm
  obtain ⟨X1, h2, hm⟩ := hm
  refine zr_put (ci := 6) (C := R_Secondary) (T := F_Secondary) (N := 13) (ty := .int) (v := .int 0) hx hb hts in_Secondary t_Secondary t_Secondary_ok n_Secondary hown hk hX hS rfl 9 (by decide) (hts _ tW49) rfl rfl (by decide +kernel) rfl rfl h2 d_Secondary_rest_2 (fun H locs hX hS => ?_)
  refine lv_aload_n hx hb d_Secondary_rest_5 rfl (lv_at hl 0 rfl) ?_
  refine lv_iload_n hx hb d_Secondary_rest_6 rfl (lv_at hl 1 rfl) ?_
  replace hm := zb1_s hm
  obtain ⟨X3, h4, hm⟩ := hm
  refine zr_put (ci := 6) (C := R_Secondary) (T := F_Secondary) (N := 13) (ty := .int) (v := .int x1) hx hb hts in_Secondary t_Secondary t_Secondary_ok n_Secondary hown hk hX hS rfl 10 (by decide) (hts _ tW50) rfl rfl (by decide +kernel) rfl rfl h4 d_Secondary_rest_7 (fun H locs hX hS => ?_)
  cases hm
  exact W.vret hx hb hr (fun t ht hW => zh_end hk hX hS ht hW) hS.2.2 d_Secondary_rest_10
set_option maxHeartbeats 4000000 in
set_option maxRecDepth 100000 in
theorem c_Secondary_comeUp (l : Launch) (G : zh_G) (N : Nat) (X : zh_T) (x0 : Nat) (x1 : Int32) (r : Unit) (X' : zh_T) (hm : f_Secondary_comeUp N X x0 x1 = some (r, X')) : zM l G y_Secondary_comeUp w_Secondary_comeUp 1 21 X [.ref x0, .int x1] none X' 0 0 := by
  refine zr_ofW (by decide) (by exact Nat.le_of_ble_eq_true rfl) ?_
  intro p e s m args below meth c ls hx hb hml hr hts hown hin hlocks hk hX hl
  have hS : va_S (zh_A G) s.heap s.heap [] := va_S.rf
  have hl : lv_has ls 2 [(0, .ref x0), (1, .int x1)] := hl
  have hown : s.vm.findClass R_Secondary = some m.cls := hown
  unfold f_Secondary_comeUp at hm
  refine lv_aload_n hx hb d_Secondary_comeUp_0 rfl (lv_at hl 0 rfl) ?_
  refine lv_iconst (v := 1) hx hb d_Secondary_comeUp_1 (by decide) ?_
  replace hm := zb1_s hm
  obtain ⟨X1, h2, hm⟩ := hm
  refine zr_put (ci := 6) (C := R_Secondary) (T := F_Secondary) (N := 13) (ty := .boolean) (v := .int 1) hx hb hts in_Secondary t_Secondary t_Secondary_ok n_Secondary hown hk hX hS rfl 6 (by decide) (hts _ tW51) rfl rfl (by decide +kernel) (zpz_n h2) (zpz_f h2) (zpz_v h2) d_Secondary_comeUp_2 (fun H locs hX hS => ?_)
  refine lv_aload_n hx hb d_Secondary_comeUp_5 rfl (lv_at hl 0 rfl) ?_
  refine lv_iload_n hx hb d_Secondary_comeUp_6 rfl (lv_at hl 1 rfl) ?_
  refine lv_iconst (v := 1) hx hb d_Secondary_comeUp_7 (by decide) ?_
  refine lv_iadd hx hb d_Secondary_comeUp_8 ?_
  replace hm := zb1_s hm
  obtain ⟨_, h4, hm⟩ := hm
  replace hm := zb2_s hm
  obtain ⟨v5, X6, h3, hm⟩ := hm
  refine zr_callv (zr_runV (As := [.int (x1 + 1)]) (rest := []) (n := 1) hx hb hml hown hts hk hX (c_Secondary_rest l G N X1 x0 (x1 + 1) v5 X6 h3) (hts _ tW52) tW53 (hts _ tW54) (hts _ tW55) (hts _ tW56) rfl h4 (by decide +kernel) ⟨Nat.le_of_ble_eq_true rfl, Nat.le_of_ble_eq_true rfl⟩ rfl rfl hl.1 rfl (lv_room (Nat.le_of_ble_eq_true rfl)) d_Secondary_comeUp_9 ⟨(Nat.le_of_ble_eq_true rfl), (Nat.le_of_ble_eq_true rfl)⟩) hS (fun H locs hX hS => ?_)
  refine lv_aload_n hx hb d_Secondary_comeUp_12 rfl (lv_at hl 0 rfl) ?_
  refine lv_iload_n hx hb d_Secondary_comeUp_13 rfl (lv_at hl 1 rfl) ?_
  refine lv_aload_n hx hb d_Secondary_comeUp_14 rfl (lv_at hl 0 rfl) ?_
  replace hm := zb1_s hm
  obtain ⟨v8, h7, hm⟩ := hm
  refine zr_get (ci := 6) (C := R_Secondary) (T := F_Secondary) (N := 13) hx hb hts in_Secondary hown hk hX rfl 3 (by decide) (hts _ tW57) rfl (zgi_v h7) d_Secondary_comeUp_15 ?_
  refine lv_iadd hx hb d_Secondary_comeUp_18 ?_
  replace hm := zb1_s hm
  obtain ⟨X9, h10, hm⟩ := hm
  refine zr_put (ci := 6) (C := R_Secondary) (T := F_Secondary) (N := 13) (ty := .int) (v := .int (x1 + v8)) hx hb hts in_Secondary t_Secondary t_Secondary_ok n_Secondary hown hk hX hS rfl 12 (by decide) (hts _ tW58) rfl rfl (by decide +kernel) rfl rfl h10 d_Secondary_comeUp_19 (fun H locs hX hS => ?_)
  cases hm
  exact W.vret hx hb hr (fun t ht hW => zh_end hk hX hS ht hW) hS.2.2 d_Secondary_comeUp_22
set_option maxHeartbeats 4000000 in
set_option maxRecDepth 100000 in
theorem c_Secondary_init (l : Launch) (G : zh_G) (N : Nat) (X : zh_T) (x0 : Nat) (x1 : Int32) (x2 : Int32) (x3 : Int32) (x4 : Int32) (r : Unit) (X' : zh_T) (hm : f_Secondary_init N X x0 x1 x2 x3 x4 = some (r, X')) : zM l G y_Secondary_init w_Secondary_init 2 42 X [.ref x0, .int x1, .int x2, .int x3, .int x4] none X' 4 66 := by
  refine zr_ofW (by decide) (by exact Nat.le_of_ble_eq_true rfl) ?_
  intro p e s m args below meth c ls hx hb hml hr hts hown hin hlocks hk hX hl
  have hS : va_S (zh_A G) s.heap s.heap [] := va_S.rf
  have hl : lv_has ls 5 [(0, .ref x0), (1, .int x1), (2, .int x2), (3, .int x3), (4, .int x4)] := hl
  have hown : s.vm.findClass R_Secondary = some m.cls := hown
  unfold f_Secondary_init at hm
  refine lv_aload_n hx hb d_Secondary_init_0 rfl (lv_at hl 0 rfl) ?_
  refine W.objInit hx hb hown (hts _ tW59) (hts _ tW1) (hts _ tW2) rfl (by rw [hml]; exact hl.1) rfl d_Secondary_init_1 (Nat.le_of_ble_eq_true rfl) (Nat.le_of_ble_eq_true rfl) ?_
  refine W.eq (g2 := F0 m 4 ls []) rfl ?_
  refine lv_aload_n hx hb d_Secondary_init_4 rfl (lv_at hl 0 rfl) ?_
  replace hm := zb2_s hm
  obtain ⟨a1, X2, h3, hm⟩ := hm
  refine zr_new (ci := 5) (C := R_Records) (T := F_Records) (N := 1) hx hb hts in_Records t_Records t_Records_ok hown (hts _ tW60) (hts _ tW10) (hts _ tW11) hk hX hS rfl h3 zf_Records (Nat.le_of_ble_eq_true rfl) (Nat.le_of_ble_eq_true rfl) d_Secondary_init_5 (fun H hX hS => ?_)
  refine lv_dup hx hb d_Secondary_init_8 rfl ?_
  replace hm := zb2_s hm
  obtain ⟨v5, X6, h4, hm⟩ := hm
  refine zr_callv (zr_runIN (As := []) (rest := [.ref a1, .ref x0]) (n := 0) hx hb hml hown hts hk hX (c_Records_init l G N X2 a1 v5 X6 h4) (nM3 hk) tW12 (hts _ tW11) (hts _ tW13) (by decide +kernel) ⟨Nat.le_of_ble_eq_true rfl, Nat.le_of_ble_eq_true rfl⟩ rfl rfl hl.1 rfl (lv_room (Nat.le_of_ble_eq_true rfl)) d_Secondary_init_9 ⟨(Nat.le_of_ble_eq_true rfl), (Nat.le_of_ble_eq_true rfl)⟩) hS (fun H locs hX hS => ?_)
  replace hm := zb1_s hm
  obtain ⟨X7, h8, hm⟩ := hm
  refine zr_putF (ci := 6) (C := R_Secondary) (T := F_Secondary) (N := 13) (ty := (.object "ZoneNodes$Records")) (v := .ref a1) hx hb hts in_Secondary t_Secondary t_Secondary_ok n_Secondary hown hk hX hS rfl 4 (by decide) (hts _ tW61) rfl rfl hin rfl (by decide +kernel) rfl rfl h8 d_Secondary_init_12 (fun H locs hX hS => ?_)
  refine lv_aload_n hx hb d_Secondary_init_15 rfl (lv_at hl 0 rfl) ?_
  replace hm := zb2_s hm
  obtain ⟨a9, X10, h11, hm⟩ := hm
  refine zr_new (ci := 5) (C := R_Records) (T := F_Records) (N := 1) hx hb hts in_Records t_Records t_Records_ok hown (hts _ tW60) (hts _ tW10) (hts _ tW11) hk hX hS rfl h11 zf_Records (Nat.le_of_ble_eq_true rfl) (Nat.le_of_ble_eq_true rfl) d_Secondary_init_16 (fun H hX hS => ?_)
  refine lv_dup hx hb d_Secondary_init_19 rfl ?_
  replace hm := zb2_s hm
  obtain ⟨v13, X14, h12, hm⟩ := hm
  refine zr_callv (zr_runIN (As := []) (rest := [.ref a9, .ref x0]) (n := 0) hx hb hml hown hts hk hX (c_Records_init l G N X10 a9 v13 X14 h12) (nM3 hk) tW12 (hts _ tW11) (hts _ tW13) (by decide +kernel) ⟨Nat.le_of_ble_eq_true rfl, Nat.le_of_ble_eq_true rfl⟩ rfl rfl hl.1 rfl (lv_room (Nat.le_of_ble_eq_true rfl)) d_Secondary_init_20 ⟨(Nat.le_of_ble_eq_true rfl), (Nat.le_of_ble_eq_true rfl)⟩) hS (fun H locs hX hS => ?_)
  replace hm := zb1_s hm
  obtain ⟨X15, h16, hm⟩ := hm
  refine zr_putF (ci := 6) (C := R_Secondary) (T := F_Secondary) (N := 13) (ty := (.object "ZoneNodes$Records")) (v := .ref a9) hx hb hts in_Secondary t_Secondary t_Secondary_ok n_Secondary hown hk hX hS rfl 5 (by decide) (hts _ tW62) rfl rfl hin rfl (by decide +kernel) rfl rfl h16 d_Secondary_init_23 (fun H locs hX hS => ?_)
  refine lv_aload_n hx hb d_Secondary_init_26 rfl (lv_at hl 0 rfl) ?_
  refine lv_iload_n hx hb d_Secondary_init_27 rfl (lv_at hl 1 rfl) ?_
  replace hm := zb1_s hm
  obtain ⟨X17, h18, hm⟩ := hm
  refine zr_putF (ci := 6) (C := R_Secondary) (T := F_Secondary) (N := 13) (ty := .int) (v := .int x1) hx hb hts in_Secondary t_Secondary t_Secondary_ok n_Secondary hown hk hX hS rfl 0 (by decide) (hts _ tW63) rfl rfl hin rfl (by decide +kernel) rfl rfl h18 d_Secondary_init_28 (fun H locs hX hS => ?_)
  refine lv_aload_n hx hb d_Secondary_init_31 rfl (lv_at hl 0 rfl) ?_
  refine lv_iload_n hx hb d_Secondary_init_32 rfl (lv_at hl 2 rfl) ?_
  replace hm := zb1_s hm
  obtain ⟨X19, h20, hm⟩ := hm
  refine zr_putF (ci := 6) (C := R_Secondary) (T := F_Secondary) (N := 13) (ty := .int) (v := .int x2) hx hb hts in_Secondary t_Secondary t_Secondary_ok n_Secondary hown hk hX hS rfl 1 (by decide) (hts _ tW64) rfl rfl hin rfl (by decide +kernel) rfl rfl h20 d_Secondary_init_33 (fun H locs hX hS => ?_)
  refine lv_aload_n hx hb d_Secondary_init_36 rfl (lv_at hl 0 rfl) ?_
  refine lv_iload_n hx hb d_Secondary_init_37 rfl (lv_at hl 3 rfl) ?_
  replace hm := zb1_s hm
  obtain ⟨X21, h22, hm⟩ := hm
  refine zr_putF (ci := 6) (C := R_Secondary) (T := F_Secondary) (N := 13) (ty := .int) (v := .int x3) hx hb hts in_Secondary t_Secondary t_Secondary_ok n_Secondary hown hk hX hS rfl 2 (by decide) (hts _ tW65) rfl rfl hin rfl (by decide +kernel) rfl rfl h22 d_Secondary_init_38 (fun H locs hX hS => ?_)
  refine lv_aload_n hx hb d_Secondary_init_41 rfl (lv_at hl 0 rfl) ?_
  refine lv_iload hx hb d_Secondary_init_42 (lv_at hl 4 rfl) ?_
  replace hm := zb1_s hm
  obtain ⟨X23, h24, hm⟩ := hm
  refine zr_putF (ci := 6) (C := R_Secondary) (T := F_Secondary) (N := 13) (ty := .int) (v := .int x4) hx hb hts in_Secondary t_Secondary t_Secondary_ok n_Secondary hown hk hX hS rfl 3 (by decide) (hts _ tW57) rfl rfl hin rfl (by decide +kernel) rfl rfl h24 d_Secondary_init_44 (fun H locs hX hS => ?_)
  refine lv_aload_n hx hb d_Secondary_init_47 rfl (lv_at hl 0 rfl) ?_
  refine lv_iconst (v := 0) hx hb d_Secondary_init_48 (by decide) ?_
  replace hm := zb1_s hm
  obtain ⟨_, h26, hm⟩ := hm
  replace hm := zb2_s hm
  obtain ⟨v27, X28, h25, hm⟩ := hm
  refine zr_callv (zr_runV (As := [.int 0]) (rest := []) (n := 1) hx hb hml hown hts hk hX (c_Secondary_comeUp l G N X23 x0 0 v27 X28 h25) (hts _ tW66) tW67 (hts _ tW54) (hts _ tW68) (hts _ tW69) rfl h26 (by decide +kernel) ⟨Nat.le_of_ble_eq_true rfl, Nat.le_of_ble_eq_true rfl⟩ rfl rfl hl.1 rfl (lv_room (Nat.le_of_ble_eq_true rfl)) d_Secondary_init_49 ⟨(Nat.le_of_ble_eq_true rfl), (Nat.le_of_ble_eq_true rfl)⟩) hS (fun H locs hX hS => ?_)
  cases hm
  refine W.widen (k := 4) (n := 66) (Nat.le_of_ble_eq_true rfl) (Nat.le_of_ble_eq_true rfl) ?_
  exact W.vret hx hb hr (fun t ht hW => zh_end hk hX hS ht hW) hS.2.2 d_Secondary_init_52
set_option maxHeartbeats 4000000 in
set_option maxRecDepth 100000 in
theorem c_Message_init (l : Launch) (G : zh_G) (N : Nat) (X : zh_T) (x0 : Nat) (r : Unit) (X' : zh_T) (hm : f_Message_init N X x0 = some (r, X')) : zM l G y_Message_init w_Message_init 1 21 X [.ref x0] none X' 1 4 := by
  refine zr_ofW (by decide) (by exact Nat.le_of_ble_eq_true rfl) ?_
  intro p e s m args below meth c ls hx hb hml hr hts hown hin hlocks hk hX hl
  have hS : va_S (zh_A G) s.heap s.heap [] := va_S.rf
  have hl : lv_has ls 1 [(0, .ref x0)] := hl
  have hown : s.vm.findClass R_Message = some m.cls := hown
  unfold f_Message_init at hm
  refine lv_aload_n hx hb d_Message_init_0 rfl (lv_at hl 0 rfl) ?_
  refine W.objInit hx hb hown (hts _ tW70) (hts _ tW1) (hts _ tW2) rfl (by rw [hml]; exact hl.1) rfl d_Message_init_1 (Nat.le_of_ble_eq_true rfl) (Nat.le_of_ble_eq_true rfl) ?_
  refine W.eq (g2 := F0 m 4 ls []) rfl ?_
  refine lv_aload_n hx hb d_Message_init_4 rfl (lv_at hl 0 rfl) ?_
  refine lv_iconst (v := 4) hx hb d_Message_init_5 (by decide) ?_
  replace hm := zb2_s hm
  obtain ⟨a1, X2, h3, hm⟩ := hm
  refine zr_newai (n := 4) (N' := 4) hx hb (hts _ tW3) hk hX hS h3 (by decide) rfl (by decide) (Nat.le_of_ble_eq_true rfl) (Nat.le_of_ble_eq_true rfl) d_Message_init_6 (fun H hX hS => ?_)
  replace hm := zb1_s hm
  obtain ⟨X4, h5, hm⟩ := hm
  refine zr_putF (ci := 3) (C := R_Message) (T := F_Message) (N := 10) (ty := (.array .int)) (v := .ref a1) hx hb hts in_Message t_Message t_Message_ok n_Message hown hk hX hS rfl 0 (by decide) (hts _ tW71) rfl rfl hin rfl (by decide +kernel) rfl rfl h5 d_Message_init_8 (fun H locs hX hS => ?_)
  cases hm
  refine W.widen (k := 1) (n := 4) (Nat.le_of_ble_eq_true rfl) (Nat.le_of_ble_eq_true rfl) ?_
  exact W.vret hx hb hr (fun t ht hW => zh_end hk hX hS ht hW) hS.2.2 d_Message_init_11
set_option maxHeartbeats 4000000 in
set_option maxRecDepth 100000 in
theorem c_Wire_init (l : Launch) (G : zh_G) (N : Nat) (X : zh_T) (x0 : Nat) (r : Unit) (X' : zh_T) (hm : f_Wire_init N X x0 = some (r, X')) : zM l G y_Wire_init w_Wire_init 2 41 X [.ref x0] none X' 163 1214 := by
  refine zr_ofW (by decide) (by exact Nat.le_of_ble_eq_true rfl) ?_
  intro p e s m args below meth c ls hx hb hml hr hts hown hin hlocks hk hX hl
  have hS : va_S (zh_A G) s.heap s.heap [] := va_S.rf
  have hl : lv_has ls 2 [(0, .ref x0)] := hl
  have hown : s.vm.findClass R_Wire = some m.cls := hown
  unfold f_Wire_init at hm
  have hL15 : ∀ (n : Nat) (X : zh_T) (w0 : Nat) (w1 : Int32) (v : Unit) (X1 : zh_T) (H : Heap) (locs : List Loc) (ls : Array Slot), L_Wire_init_15 N w0 n X w1 = some (v, X1) → zh_w G X H → va_S (zh_A G) s.heap H locs → lv_has ls 2 [(0, .ref w0), (1, .int w1)] → ∀ (cells slots ce se : Nat), cells + 2 * n ≤ ce → slots + 14 * n ≤ se → ce ≤ 163 → se ≤ 1214 → (∀ (H : Heap) (locs : List Loc) (ls : Array Slot), zh_w G X1 H → va_S (zh_A G) s.heap H locs → lv_has ls 2 [] → W p l e { frames := 2, cells := 163, slots := 1214, locals := 41 } s m args below meth c H locs ce se (MQ below (zh_Q G none X') args s 163 1214 (zh_A G)) (F0 m 43 ls [])) → W p l e { frames := 2, cells := 163, slots := 1214, locals := 41 } s m args below meth c H locs cells slots (MQ below (zh_Q G none X') args s 163 1214 (zh_A G)) (F0 m 15 ls []) := by
    intro n
    induction n with
    | zero =>
      intro X w0 w1 v X1 H locs ls hm hX hS hl cells slots ce se hc1 hc2 hc3 hc4 hexit
      rw [L_Wire_init_15] at hm
      cases hm
    | succ n ih =>
      intro X w0 w1 v X1 H locs ls hm hX hS hl cells slots ce se hc1 hc2 hc3 hc4 hexit
      rw [L_Wire_init_15] at hm
      refine lv_iload_n hx hb d_Wire_init_15 rfl (lv_at hl 1 rfl) ?_
      refine lv_aload_n hx hb d_Wire_init_16 rfl (lv_at hl 0 rfl) ?_
      replace hm := zb1_s hm
      obtain ⟨a7, h6, hm⟩ := hm
      refine zr_get (ci := 7) (C := R_Wire) (T := F_Wire) (N := 2) hx hb hts in_Wire hown hk hX rfl 0 (by decide) (hts _ tW74) rfl (zgr_v h6) d_Wire_init_17 ?_
      replace hm := zb1_s hm
      obtain ⟨v8, h9, hm⟩ := hm
      refine zr_alen (t := 3) hx hb hk hX rfl h9 d_Wire_init_20 ?_
      refine lv_icmp_ge (tgt := 43) hx hb d_Wire_init_21 rfl (fun h10 => ?_) (fun h10 => ?_)
      · replace hm := zi_t h10 hm
        refine W.widen (k := ce) (n := se) (by omega) (by omega) ?_
        cases hm
        exact hexit _ _ _ hX hS (lv_sub hl [] rfl)
      · replace hm := zi_f h10 hm
        refine lv_aload_n hx hb d_Wire_init_24 rfl (lv_at hl 0 rfl) ?_
        replace hm := zb1_s hm
        obtain ⟨a12, h11, hm⟩ := hm
        refine zr_get (ci := 7) (C := R_Wire) (T := F_Wire) (N := 2) hx hb hts in_Wire hown hk hX rfl 0 (by decide) (hts _ tW74) rfl (zgr_v h11) d_Wire_init_25 ?_
        refine lv_iload_n hx hb d_Wire_init_28 rfl (lv_at hl 1 rfl) ?_
        replace hm := zb2_s hm
        obtain ⟨a13, X14, h15, hm⟩ := hm
        refine zr_new (ci := 3) (C := R_Message) (T := F_Message) (N := 10) hx hb hts in_Message t_Message t_Message_ok hown (hts _ tW73) (hts _ tW75) (hts _ tW76) hk hX hS rfl h15 zf_Message (by show _ ≤ 163; omega) (by show _ ≤ 1214; omega) d_Wire_init_29 (fun H hX hS => ?_)
        refine lv_dup hx hb d_Wire_init_32 rfl ?_
        replace hm := zb2_s hm
        obtain ⟨v17, X18, h16, hm⟩ := hm
        refine zr_callv (zr_runIN (As := []) (rest := [.ref a13, .int w1, .ref a12]) (n := 0) hx hb hml hown hts hk hX (c_Message_init l G N X14 a13 v17 X18 h16) (nM4 hk) tW77 (hts _ tW76) (hts _ tW78) (by decide +kernel) ⟨Nat.le_of_ble_eq_true rfl, Nat.le_of_ble_eq_true rfl⟩ rfl rfl hl.1 rfl (lv_room (Nat.le_of_ble_eq_true rfl)) d_Wire_init_33 ⟨(by show _ ≤ 163; omega), (by show _ ≤ 1214; omega)⟩) hS (fun H locs hX hS => ?_)
        replace hm := zb1_s hm
        obtain ⟨X19, h20, hm⟩ := hm
        refine zr_aastore (t := 3) (ci := 3) hx hb hk hX hS rfl rfl h20 d_Wire_init_36 (fun H locs hX hS => ?_)
        refine lv_iinc (v := w1 + 1) (lv' := [(1, .int (w1 + 1)), (0, .ref w0)]) hx hb d_Wire_init_37 hl (k := 1) rfl (by rw [show Int32.ofInt 1 = 1 by decide]) (by decide) rfl (fun ls hl => ?_)
        refine lv_goto (tgt := 15) hx hb d_Wire_init_40 rfl ?_
        exact ih X19 w0 (w1 + 1) v X1 _ _ _ hm hX hS (lv_sub hl [1, 0] rfl) _ _ ce se (by omega) (by omega) hc3 hc4 hexit
  refine lv_aload_n hx hb d_Wire_init_0 rfl (lv_at hl 0 rfl) ?_
  refine W.objInit hx hb hown (hts _ tW72) (hts _ tW1) (hts _ tW2) rfl (by rw [hml]; exact hl.1) rfl d_Wire_init_1 (Nat.le_of_ble_eq_true rfl) (Nat.le_of_ble_eq_true rfl) ?_
  refine W.eq (g2 := F0 m 4 ls []) rfl ?_
  refine lv_aload_n hx hb d_Wire_init_4 rfl (lv_at hl 0 rfl) ?_
  refine lv_bipush (v := 80) hx hb d_Wire_init_5 (by decide) ?_
  replace hm := zb2_s hm
  obtain ⟨a1, X2, h3, hm⟩ := hm
  refine zr_newq (t := 3) (C := R_Message) (n := 80) (N' := 80) hx hb hown (hts _ tW73) (hk.2.2.2 _ ao_3) hk hX hS rfl h3 (by decide) rfl (by decide) (Nat.le_of_ble_eq_true rfl) (Nat.le_of_ble_eq_true rfl) d_Wire_init_7 (fun H hX hS => ?_)
  replace hm := zb1_s hm
  obtain ⟨X4, h5, hm⟩ := hm
  refine zr_putF (ci := 7) (C := R_Wire) (T := F_Wire) (N := 2) (ty := (.array (.object "ZoneNodes$Message"))) (v := .ref a1) hx hb hts in_Wire t_Wire t_Wire_ok n_Wire hown hk hX hS rfl 0 (by decide) (hts _ tW74) rfl rfl hin rfl (by decide +kernel) rfl rfl h5 d_Wire_init_10 (fun H locs hX hS => ?_)
  refine lv_iconst (v := 0) hx hb d_Wire_init_13 (by decide) ?_
  refine lv_istore_n (lv' := [(1, .int 0), (0, .ref x0)]) hx hb d_Wire_init_14 rfl hl (by decide) rfl (fun ls hl => ?_)
  replace hm := zb2_s hm
  obtain ⟨v21, X23, h22, hm⟩ := hm
  refine hL15 81 X4 x0 0 v21 X23 _ _ _ h22 hX hS (lv_sub hl [1, 0] rfl) _ _ (163) (1214) (by omega) (by omega) (by omega) (by omega) (fun H locs ls hX hS hl => ?_)
  cases hm
  refine W.widen (k := 163) (n := 1214) (Nat.le_of_ble_eq_true rfl) (Nat.le_of_ble_eq_true rfl) ?_
  exact W.vret hx hb hr (fun t ht hW => zh_end hk hX hS ht hW) hS.2.2 d_Wire_init_43
set_option maxHeartbeats 4000000 in
set_option maxRecDepth 100000 in
theorem c_ZoneNodes_init (l : Launch) (G : zh_G) (N : Nat) (X : zh_T) (x0 : Nat) (x1 : Int32) (x2 : Int32) (x3 : Int32) (x4 : Int32) (r : Unit) (X' : zh_T) (hm : f_ZoneNodes_init N X x0 x1 x2 x3 x4 = some (r, X')) : zM l G y_ZoneNodes_init w_ZoneNodes_init 5 103 X [.ref x0, .int x1, .int x2, .int x3, .int x4] none X' 223 2087 := by
  refine zr_ofW (by decide) (by exact Nat.le_of_ble_eq_true rfl) ?_
  intro p e s m args below meth c ls hx hb hml hr hts hown hin hlocks hk hX hl
  have hS : va_S (zh_A G) s.heap s.heap [] := va_S.rf
  have hl : lv_has ls 9 [(0, .ref x0), (1, .int x1), (2, .int x2), (3, .int x3), (4, .int x4)] := hl
  have hown : s.vm.findClass R_ZoneNodes = some m.cls := hown
  unfold f_ZoneNodes_init at hm
  have hL120 : ∀ (n : Nat) (X : zh_T) (w0 : Nat) (w5 : Int32) (w6 : Int32) (w7 : Int32) (w8 : Int32) (v : Unit) (X1 : zh_T) (H : Heap) (locs : List Loc) (ls : Array Slot), L_ZoneNodes_init_120 N w0 w5 w6 w7 n X w8 = some (v, X1) → zh_w G X H → va_S (zh_A G) s.heap H locs → lv_has ls 9 [(0, .ref w0), (5, .int w5), (6, .int w6), (7, .int w7), (8, .int w8)] → ∀ (cells slots ce se : Nat), cells + 5 * n ≤ ce → slots + 79 * n ≤ se → ce ≤ 223 → se ≤ 2087 → (∀ (H : Heap) (locs : List Loc) (ls : Array Slot), zh_w G X1 H → va_S (zh_A G) s.heap H locs → lv_has ls 9 [] → W p l e { frames := 5, cells := 223, slots := 2087, locals := 103 } s m args below meth c H locs ce se (MQ below (zh_Q G none X') args s 223 2087 (zh_A G)) (F0 m 156 ls [])) → W p l e { frames := 5, cells := 223, slots := 2087, locals := 103 } s m args below meth c H locs cells slots (MQ below (zh_Q G none X') args s 223 2087 (zh_A G)) (F0 m 120 ls []) := by
    intro n
    induction n with
    | zero =>
      intro X w0 w5 w6 w7 w8 v X1 H locs ls hm hX hS hl cells slots ce se hc1 hc2 hc3 hc4 hexit
      rw [L_ZoneNodes_init_120] at hm
      cases hm
    | succ n ih =>
      intro X w0 w5 w6 w7 w8 v X1 H locs ls hm hX hS hl cells slots ce se hc1 hc2 hc3 hc4 hexit
      rw [L_ZoneNodes_init_120] at hm
      refine lv_iload hx hb d_ZoneNodes_init_120 (lv_at hl 4 rfl) ?_
      refine lv_iconst (v := 2) hx hb d_ZoneNodes_init_122 (by decide) ?_
      refine lv_icmp_ge (tgt := 156) hx hb d_ZoneNodes_init_123 rfl (fun h49 => ?_) (fun h49 => ?_)
      · replace hm := zi_t h49 hm
        refine W.widen (k := ce) (n := se) (by omega) (by omega) ?_
        cases hm
        exact hexit _ _ _ hX hS (lv_sub hl [] rfl)
      · replace hm := zi_f h49 hm
        refine lv_aload_n hx hb d_ZoneNodes_init_126 rfl (lv_at hl 0 rfl) ?_
        replace hm := zb1_s hm
        obtain ⟨a51, h50, hm⟩ := hm
        refine zr_get (ci := 8) (C := R_ZoneNodes) (T := F_ZoneNodes) (N := 7) hx hb hts in_ZoneNodes hown hk hX rfl 5 (by decide) (hts _ tW97) rfl (zgr_v h50) d_ZoneNodes_init_127 ?_
        refine lv_iload hx hb d_ZoneNodes_init_130 (lv_at hl 4 rfl) ?_
        replace hm := zb2_s hm
        obtain ⟨a52, X53, h54, hm⟩ := hm
        refine zr_new (ci := 6) (C := R_Secondary) (T := F_Secondary) (N := 13) hx hb hts in_Secondary t_Secondary t_Secondary_ok hown (hts _ tW96) (hts _ tW109) (hts _ tW54) hk hX hS rfl h54 zf_Secondary (by show _ ≤ 223; omega) (by show _ ≤ 2087; omega) d_ZoneNodes_init_132 (fun H hX hS => ?_)
        refine lv_dup hx hb d_ZoneNodes_init_135 rfl ?_
        refine lv_iload hx hb d_ZoneNodes_init_136 (lv_at hl 4 rfl) ?_
        refine lv_iconst (v := 1) hx hb d_ZoneNodes_init_138 (by decide) ?_
        refine lv_iadd hx hb d_ZoneNodes_init_139 ?_
        refine lv_iload hx hb d_ZoneNodes_init_140 (lv_at hl 1 rfl) ?_
        refine lv_iload hx hb d_ZoneNodes_init_142 (lv_at hl 2 rfl) ?_
        refine lv_iload hx hb d_ZoneNodes_init_144 (lv_at hl 3 rfl) ?_
        replace hm := zb2_s hm
        obtain ⟨v56, X57, h55, hm⟩ := hm
        refine zr_callv (zr_runI (As := [.int (w8 + 1), .int w5, .int w6, .int w7]) (rest := [.ref a52, .int w8, .ref a51]) (n := 4) hx hb hml hown hts hk hX (c_Secondary_init l G N X53 a52 (w8 + 1) w5 w6 w7 v56 X57 h55) (hts _ tW110) tW111 (hts _ tW54) (hts _ tW112) (by decide +kernel) ⟨Nat.le_of_ble_eq_true rfl, Nat.le_of_ble_eq_true rfl⟩ rfl rfl hl.1 rfl (lv_room (Nat.le_of_ble_eq_true rfl)) d_ZoneNodes_init_146 ⟨(by show _ ≤ 223; omega), (by show _ ≤ 2087; omega)⟩) hS (fun H locs hX hS => ?_)
        replace hm := zb1_s hm
        obtain ⟨X58, h59, hm⟩ := hm
        refine zr_aastore (t := 4) (ci := 6) hx hb hk hX hS rfl rfl h59 d_ZoneNodes_init_149 (fun H locs hX hS => ?_)
        refine lv_iinc (v := w8 + 1) (lv' := [(8, .int (w8 + 1)), (0, .ref w0), (5, .int w5), (6, .int w6), (7, .int w7)]) hx hb d_ZoneNodes_init_150 hl (k := 4) rfl (by rw [show Int32.ofInt 1 = 1 by decide]) (by decide) rfl (fun ls hl => ?_)
        refine lv_goto (tgt := 120) hx hb d_ZoneNodes_init_153 rfl ?_
        exact ih X58 w0 w5 w6 w7 (w8 + 1) v X1 _ _ _ hm hX hS (lv_sub hl [1, 2, 3, 4, 0] rfl) _ _ ce se (by omega) (by omega) hc3 hc4 hexit
  have hJ81 : ∀ (X : zh_T) (w0 : Nat) (w1 : Int32) (w4 : Int32) (w5 : Int32) (u0 : Int32) (H : Heap) (locs : List Loc) (ls : Array Slot), J_ZoneNodes_init_81 N X w0 w1 w4 w5 u0 = some (r, X') → zh_w G X H → va_S (zh_A G) s.heap H locs → lv_has ls 9 [(0, .ref w0), (1, .int w1), (4, .int w4), (5, .int w5)] → W p l e { frames := 5, cells := 223, slots := 2087, locals := 103 } s m args below meth c H locs 170 1236 (MQ below (zh_Q G none X') args s 223 2087 (zh_A G)) (F0 m 81 ls [.int u0]) := by
    intro X w0 w1 w4 w5 u0 H locs ls hm hX hS hl
    unfold J_ZoneNodes_init_81 at hm
    refine lv_istore (lv' := [(6, .int u0), (0, .ref w0), (1, .int w1), (4, .int w4), (5, .int w5)]) hx hb d_ZoneNodes_init_81 hl (by decide) rfl (fun ls hl => ?_)
    refine lv_iload hx hb d_ZoneNodes_init_83 (lv_at hl 3 rfl) ?_
    refine lv_bipush (v := 10) hx hb d_ZoneNodes_init_85 (by decide) ?_
    refine lv_sipush (v := 200) hx hb d_ZoneNodes_init_87 (by decide) ?_
    replace hm := zb1_s hm
    obtain ⟨v39, h38, hm⟩ := hm
    refine zr_calli (zr_runS (As := [.int w4, .int 10, .int 200]) (rest := []) (n := 3) hx hb hml hown hts hk hX (c_ZoneNodes_within l G N X w4 10 200 v39 h38) (hts _ tW98) tW99 (hts _ tW100) (hts _ tW101) (by decide +kernel) ⟨Nat.le_of_ble_eq_true rfl, Nat.le_of_ble_eq_true rfl⟩ rfl rfl hl.1 rfl (lv_room (Nat.le_of_ble_eq_true rfl)) d_ZoneNodes_init_90 ⟨(Nat.le_of_ble_eq_true rfl), (Nat.le_of_ble_eq_true rfl)⟩) hS (fun H locs hX hS => ?_)
    refine lv_if_eq (tgt := 101) hx hb d_ZoneNodes_init_93 rfl (fun h40 => ?_) (fun h40 => ?_)
    · replace hm := zi_t h40 hm
      refine lv_bipush (v := 60) hx hb d_ZoneNodes_init_101 (by decide) ?_
      refine lv_istore (lv' := [(7, .int 60), (6, .int u0), (0, .ref w0), (1, .int w1), (4, .int w4), (5, .int w5)]) hx hb d_ZoneNodes_init_103 hl (by decide) rfl (fun ls hl => ?_)
      refine lv_aload_n hx hb d_ZoneNodes_init_105 rfl (lv_at hl 2 rfl) ?_
      replace hm := zb2_s hm
      obtain ⟨a41, X42, h43, hm⟩ := hm
      refine zr_new (ci := 4) (C := R_Primary) (T := F_Primary) (N := 9) hx hb hts in_Primary t_Primary t_Primary_ok hown (hts _ tW102) (hts _ tW103) (hts _ tW104) hk hX hS rfl h43 zf_Primary (Nat.le_of_ble_eq_true rfl) (Nat.le_of_ble_eq_true rfl) d_ZoneNodes_init_106 (fun H hX hS => ?_)
      refine lv_dup hx hb d_ZoneNodes_init_109 rfl ?_
      refine lv_iload_n hx hb d_ZoneNodes_init_110 rfl (lv_at hl 3 rfl) ?_
      replace hm := zb2_s hm
      obtain ⟨v45, X46, h44, hm⟩ := hm
      refine zr_callv (zr_runI (As := [.int w1]) (rest := [.ref a41, .ref w0]) (n := 1) hx hb hml hown hts hk hX (c_Primary_init l G N X42 a41 w1 v45 X46 h44) (hts _ tW105) tW106 (hts _ tW104) (hts _ tW107) (by decide +kernel) ⟨Nat.le_of_ble_eq_true rfl, Nat.le_of_ble_eq_true rfl⟩ rfl rfl hl.1 rfl (lv_room (Nat.le_of_ble_eq_true rfl)) d_ZoneNodes_init_111 ⟨(Nat.le_of_ble_eq_true rfl), (Nat.le_of_ble_eq_true rfl)⟩) hS (fun H locs hX hS => ?_)
      replace hm := zb1_s hm
      obtain ⟨X47, h48, hm⟩ := hm
      refine zr_putF (ci := 8) (C := R_ZoneNodes) (T := F_ZoneNodes) (N := 7) (ty := (.object "ZoneNodes$Primary")) (v := .ref a41) hx hb hts in_ZoneNodes t_ZoneNodes t_ZoneNodes_ok n_ZoneNodes hown hk hX hS rfl 4 (by decide) (hts _ tW108) rfl rfl hin rfl (by decide +kernel) rfl rfl h48 d_ZoneNodes_init_114 (fun H locs hX hS => ?_)
      refine lv_iconst (v := 0) hx hb d_ZoneNodes_init_117 (by decide) ?_
      refine lv_istore (lv' := [(8, .int 0), (7, .int 60), (6, .int u0), (0, .ref w0), (1, .int w1), (4, .int w4), (5, .int w5)]) hx hb d_ZoneNodes_init_118 hl (by decide) rfl (fun ls hl => ?_)
      replace hm := zb2_s hm
      obtain ⟨v60, X62, h61, hm⟩ := hm
      refine hL120 3 X47 w0 w5 u0 60 0 v60 X62 _ _ _ h61 hX hS (lv_sub hl [3, 6, 2, 1, 0] rfl) _ _ (223) (2087) (by omega) (by omega) (by omega) (by omega) (fun H locs ls hX hS hl => ?_)
      cases hm
      refine W.widen (k := 223) (n := 2087) (Nat.le_of_ble_eq_true rfl) (Nat.le_of_ble_eq_true rfl) ?_
      exact W.vret hx hb hr (fun t ht hW => zh_end hk hX hS ht hW) hS.2.2 d_ZoneNodes_init_156
    · replace hm := zi_f h40 hm
      refine lv_iload hx hb d_ZoneNodes_init_96 (lv_at hl 3 rfl) ?_
      refine lv_goto (tgt := 103) hx hb d_ZoneNodes_init_98 rfl ?_
      refine lv_istore (lv' := [(7, .int w4), (6, .int u0), (0, .ref w0), (1, .int w1), (4, .int w4), (5, .int w5)]) hx hb d_ZoneNodes_init_103 hl (by decide) rfl (fun ls hl => ?_)
      refine lv_aload_n hx hb d_ZoneNodes_init_105 rfl (lv_at hl 2 rfl) ?_
      replace hm := zb2_s hm
      obtain ⟨a63, X64, h65, hm⟩ := hm
      refine zr_new (ci := 4) (C := R_Primary) (T := F_Primary) (N := 9) hx hb hts in_Primary t_Primary t_Primary_ok hown (hts _ tW102) (hts _ tW103) (hts _ tW104) hk hX hS rfl h65 zf_Primary (Nat.le_of_ble_eq_true rfl) (Nat.le_of_ble_eq_true rfl) d_ZoneNodes_init_106 (fun H hX hS => ?_)
      refine lv_dup hx hb d_ZoneNodes_init_109 rfl ?_
      refine lv_iload_n hx hb d_ZoneNodes_init_110 rfl (lv_at hl 3 rfl) ?_
      replace hm := zb2_s hm
      obtain ⟨v67, X68, h66, hm⟩ := hm
      refine zr_callv (zr_runI (As := [.int w1]) (rest := [.ref a63, .ref w0]) (n := 1) hx hb hml hown hts hk hX (c_Primary_init l G N X64 a63 w1 v67 X68 h66) (hts _ tW105) tW106 (hts _ tW104) (hts _ tW107) (by decide +kernel) ⟨Nat.le_of_ble_eq_true rfl, Nat.le_of_ble_eq_true rfl⟩ rfl rfl hl.1 rfl (lv_room (Nat.le_of_ble_eq_true rfl)) d_ZoneNodes_init_111 ⟨(Nat.le_of_ble_eq_true rfl), (Nat.le_of_ble_eq_true rfl)⟩) hS (fun H locs hX hS => ?_)
      replace hm := zb1_s hm
      obtain ⟨X69, h70, hm⟩ := hm
      refine zr_putF (ci := 8) (C := R_ZoneNodes) (T := F_ZoneNodes) (N := 7) (ty := (.object "ZoneNodes$Primary")) (v := .ref a63) hx hb hts in_ZoneNodes t_ZoneNodes t_ZoneNodes_ok n_ZoneNodes hown hk hX hS rfl 4 (by decide) (hts _ tW108) rfl rfl hin rfl (by decide +kernel) rfl rfl h70 d_ZoneNodes_init_114 (fun H locs hX hS => ?_)
      refine lv_iconst (v := 0) hx hb d_ZoneNodes_init_117 (by decide) ?_
      refine lv_istore (lv' := [(8, .int 0), (7, .int w4), (6, .int u0), (0, .ref w0), (1, .int w1), (4, .int w4), (5, .int w5)]) hx hb d_ZoneNodes_init_118 hl (by decide) rfl (fun ls hl => ?_)
      replace hm := zb2_s hm
      obtain ⟨v71, X73, h72, hm⟩ := hm
      refine hL120 3 X69 w0 w5 u0 w4 0 v71 X73 _ _ _ h72 hX hS (lv_sub hl [3, 6, 2, 1, 0] rfl) _ _ (223) (2087) (by omega) (by omega) (by omega) (by omega) (fun H locs ls hX hS hl => ?_)
      cases hm
      refine W.widen (k := 223) (n := 2087) (Nat.le_of_ble_eq_true rfl) (Nat.le_of_ble_eq_true rfl) ?_
      exact W.vret hx hb hr (fun t ht hW => zh_end hk hX hS ht hW) hS.2.2 d_ZoneNodes_init_156
  refine lv_aload_n hx hb d_ZoneNodes_init_0 rfl (lv_at hl 0 rfl) ?_
  refine W.objInit hx hb hown (hts _ tW79) (hts _ tW1) (hts _ tW2) rfl (by rw [hml]; exact hl.1) rfl d_ZoneNodes_init_1 (Nat.le_of_ble_eq_true rfl) (Nat.le_of_ble_eq_true rfl) ?_
  refine W.eq (g2 := F0 m 4 ls []) rfl ?_
  refine lv_aload_n hx hb d_ZoneNodes_init_4 rfl (lv_at hl 0 rfl) ?_
  refine lv_iconst (v := 3) hx hb d_ZoneNodes_init_5 (by decide) ?_
  replace hm := zb2_s hm
  obtain ⟨a1, X2, h3, hm⟩ := hm
  refine zr_newai (n := 3) (N' := 3) hx hb (hts _ tW3) hk hX hS h3 (by decide) rfl (by decide) (Nat.le_of_ble_eq_true rfl) (Nat.le_of_ble_eq_true rfl) d_ZoneNodes_init_6 (fun H hX hS => ?_)
  replace hm := zb1_s hm
  obtain ⟨X4, h5, hm⟩ := hm
  refine zr_putF (ci := 8) (C := R_ZoneNodes) (T := F_ZoneNodes) (N := 7) (ty := (.array .int)) (v := .ref a1) hx hb hts in_ZoneNodes t_ZoneNodes t_ZoneNodes_ok n_ZoneNodes hown hk hX hS rfl 0 (by decide) (hts _ tW80) rfl rfl hin rfl (by decide +kernel) rfl rfl h5 d_ZoneNodes_init_8 (fun H locs hX hS => ?_)
  refine lv_aload_n hx hb d_ZoneNodes_init_11 rfl (lv_at hl 0 rfl) ?_
  refine lv_iconst (v := 3) hx hb d_ZoneNodes_init_12 (by decide) ?_
  replace hm := zb2_s hm
  obtain ⟨a6, X7, h8, hm⟩ := hm
  refine zr_newaz (n := 3) (N' := 3) hx hb (hts _ tW81) hk hX hS h8 (by decide) rfl (by decide) (Nat.le_of_ble_eq_true rfl) (Nat.le_of_ble_eq_true rfl) d_ZoneNodes_init_13 (fun H hX hS => ?_)
  replace hm := zb1_s hm
  obtain ⟨X9, h10, hm⟩ := hm
  refine zr_putF (ci := 8) (C := R_ZoneNodes) (T := F_ZoneNodes) (N := 7) (ty := (.array .boolean)) (v := .ref a6) hx hb hts in_ZoneNodes t_ZoneNodes t_ZoneNodes_ok n_ZoneNodes hown hk hX hS rfl 1 (by decide) (hts _ tW82) rfl rfl hin rfl (by decide +kernel) rfl rfl h10 d_ZoneNodes_init_15 (fun H locs hX hS => ?_)
  refine lv_aload_n hx hb d_ZoneNodes_init_18 rfl (lv_at hl 0 rfl) ?_
  replace hm := zb2_s hm
  obtain ⟨a11, X12, h13, hm⟩ := hm
  refine zr_new (ci := 0) (C := R_Draft) (T := F_Draft) (N := 4) hx hb hts in_Draft t_Draft t_Draft_ok hown (hts _ tW83) (hts _ tW84) (hts _ tW85) hk hX hS rfl h13 zf_Draft (Nat.le_of_ble_eq_true rfl) (Nat.le_of_ble_eq_true rfl) d_ZoneNodes_init_19 (fun H hX hS => ?_)
  refine lv_dup hx hb d_ZoneNodes_init_22 rfl ?_
  replace hm := zb2_s hm
  obtain ⟨v15, X16, h14, hm⟩ := hm
  refine zr_callv (zr_runIN (As := []) (rest := [.ref a11, .ref x0]) (n := 0) hx hb hml hown hts hk hX (c_Draft_init l G N X12 a11 v15 X16 h14) (nM5 hk) tW86 (hts _ tW85) (hts _ tW87) (by decide +kernel) ⟨Nat.le_of_ble_eq_true rfl, Nat.le_of_ble_eq_true rfl⟩ rfl rfl hl.1 rfl (lv_room (Nat.le_of_ble_eq_true rfl)) d_ZoneNodes_init_23 ⟨(Nat.le_of_ble_eq_true rfl), (Nat.le_of_ble_eq_true rfl)⟩) hS (fun H locs hX hS => ?_)
  replace hm := zb1_s hm
  obtain ⟨X17, h18, hm⟩ := hm
  refine zr_putF (ci := 8) (C := R_ZoneNodes) (T := F_ZoneNodes) (N := 7) (ty := (.object "ZoneNodes$Draft")) (v := .ref a11) hx hb hts in_ZoneNodes t_ZoneNodes t_ZoneNodes_ok n_ZoneNodes hown hk hX hS rfl 2 (by decide) (hts _ tW88) rfl rfl hin rfl (by decide +kernel) rfl rfl h18 d_ZoneNodes_init_26 (fun H locs hX hS => ?_)
  refine lv_aload_n hx hb d_ZoneNodes_init_29 rfl (lv_at hl 0 rfl) ?_
  replace hm := zb2_s hm
  obtain ⟨a19, X20, h21, hm⟩ := hm
  refine zr_new (ci := 7) (C := R_Wire) (T := F_Wire) (N := 2) hx hb hts in_Wire t_Wire t_Wire_ok hown (hts _ tW89) (hts _ tW90) (hts _ tW91) hk hX hS rfl h21 zf_Wire (Nat.le_of_ble_eq_true rfl) (Nat.le_of_ble_eq_true rfl) d_ZoneNodes_init_30 (fun H hX hS => ?_)
  refine lv_dup hx hb d_ZoneNodes_init_33 rfl ?_
  replace hm := zb2_s hm
  obtain ⟨v23, X24, h22, hm⟩ := hm
  refine zr_callv (zr_runI (As := []) (rest := [.ref a19, .ref x0]) (n := 0) hx hb hml hown hts hk hX (c_Wire_init l G N X20 a19 v23 X24 h22) (hts _ tW92) tW93 (hts _ tW91) (hts _ tW94) (by decide +kernel) ⟨Nat.le_of_ble_eq_true rfl, Nat.le_of_ble_eq_true rfl⟩ rfl rfl hl.1 rfl (lv_room (Nat.le_of_ble_eq_true rfl)) d_ZoneNodes_init_34 ⟨(Nat.le_of_ble_eq_true rfl), (Nat.le_of_ble_eq_true rfl)⟩) hS (fun H locs hX hS => ?_)
  replace hm := zb1_s hm
  obtain ⟨X25, h26, hm⟩ := hm
  refine zr_putF (ci := 8) (C := R_ZoneNodes) (T := F_ZoneNodes) (N := 7) (ty := (.object "ZoneNodes$Wire")) (v := .ref a19) hx hb hts in_ZoneNodes t_ZoneNodes t_ZoneNodes_ok n_ZoneNodes hown hk hX hS rfl 3 (by decide) (hts _ tW95) rfl rfl hin rfl (by decide +kernel) rfl rfl h26 d_ZoneNodes_init_37 (fun H locs hX hS => ?_)
  refine lv_aload_n hx hb d_ZoneNodes_init_40 rfl (lv_at hl 0 rfl) ?_
  refine lv_iconst (v := 2) hx hb d_ZoneNodes_init_41 (by decide) ?_
  replace hm := zb2_s hm
  obtain ⟨a27, X28, h29, hm⟩ := hm
  refine zr_newq (t := 4) (C := R_Secondary) (n := 2) (N' := 2) hx hb hown (hts _ tW96) (hk.2.2.2 _ ao_4) hk hX hS rfl h29 (by decide) rfl (by decide) (Nat.le_of_ble_eq_true rfl) (Nat.le_of_ble_eq_true rfl) d_ZoneNodes_init_42 (fun H hX hS => ?_)
  replace hm := zb1_s hm
  obtain ⟨X30, h31, hm⟩ := hm
  refine zr_putF (ci := 8) (C := R_ZoneNodes) (T := F_ZoneNodes) (N := 7) (ty := (.array (.object "ZoneNodes$Secondary"))) (v := .ref a27) hx hb hts in_ZoneNodes t_ZoneNodes t_ZoneNodes_ok n_ZoneNodes hown hk hX hS rfl 5 (by decide) (hts _ tW97) rfl rfl hin rfl (by decide +kernel) rfl rfl h31 d_ZoneNodes_init_45 (fun H locs hX hS => ?_)
  refine lv_iload_n hx hb d_ZoneNodes_init_48 rfl (lv_at hl 2 rfl) ?_
  refine lv_iconst (v := 4) hx hb d_ZoneNodes_init_49 (by decide) ?_
  refine lv_bipush (v := 50) hx hb d_ZoneNodes_init_50 (by decide) ?_
  replace hm := zb1_s hm
  obtain ⟨v33, h32, hm⟩ := hm
  refine zr_calli (zr_runS (As := [.int x2, .int 4, .int 50]) (rest := []) (n := 3) hx hb hml hown hts hk hX (c_ZoneNodes_within l G N X30 x2 4 50 v33 h32) (hts _ tW98) tW99 (hts _ tW100) (hts _ tW101) (by decide +kernel) ⟨Nat.le_of_ble_eq_true rfl, Nat.le_of_ble_eq_true rfl⟩ rfl rfl hl.1 rfl (lv_room (Nat.le_of_ble_eq_true rfl)) d_ZoneNodes_init_52 ⟨(Nat.le_of_ble_eq_true rfl), (Nat.le_of_ble_eq_true rfl)⟩) hS (fun H locs hX hS => ?_)
  refine lv_if_eq (tgt := 62) hx hb d_ZoneNodes_init_55 rfl (fun h34 => ?_) (fun h34 => ?_)
  · replace hm := zi_t h34 hm
    refine lv_bipush (v := 10) hx hb d_ZoneNodes_init_62 (by decide) ?_
    refine lv_istore (lv' := [(5, .int 10), (0, .ref x0), (1, .int x1), (2, .int x2), (3, .int x3), (4, .int x4)]) hx hb d_ZoneNodes_init_64 hl (by decide) rfl (fun ls hl => ?_)
    refine lv_iload_n hx hb d_ZoneNodes_init_66 rfl (lv_at hl 4 rfl) ?_
    refine lv_iconst (v := 2) hx hb d_ZoneNodes_init_67 (by decide) ?_
    refine lv_bipush (v := 20) hx hb d_ZoneNodes_init_68 (by decide) ?_
    replace hm := zb1_s hm
    obtain ⟨v36, h35, hm⟩ := hm
    refine zr_calli (zr_runS (As := [.int x3, .int 2, .int 20]) (rest := []) (n := 3) hx hb hml hown hts hk hX (c_ZoneNodes_within l G N X30 x3 2 20 v36 h35) (hts _ tW98) tW99 (hts _ tW100) (hts _ tW101) (by decide +kernel) ⟨Nat.le_of_ble_eq_true rfl, Nat.le_of_ble_eq_true rfl⟩ rfl rfl hl.1 rfl (lv_room (Nat.le_of_ble_eq_true rfl)) d_ZoneNodes_init_70 ⟨(Nat.le_of_ble_eq_true rfl), (Nat.le_of_ble_eq_true rfl)⟩) hS (fun H locs hX hS => ?_)
    refine lv_if_eq (tgt := 80) hx hb d_ZoneNodes_init_73 rfl (fun h37 => ?_) (fun h37 => ?_)
    · replace hm := zi_t h37 hm
      refine lv_iconst (v := 4) hx hb d_ZoneNodes_init_80 (by decide) ?_
      exact hJ81 X30 x0 x1 x4 10 4 _ _ _ hm hX hS (lv_sub hl [1, 2, 5, 0] rfl)
    · replace hm := zi_f h37 hm
      refine lv_iload_n hx hb d_ZoneNodes_init_76 rfl (lv_at hl 4 rfl) ?_
      refine lv_goto (tgt := 81) hx hb d_ZoneNodes_init_77 rfl ?_
      exact hJ81 X30 x0 x1 x4 10 x3 _ _ _ hm hX hS (lv_sub hl [1, 2, 5, 0] rfl)
  · replace hm := zi_f h34 hm
    refine lv_iload_n hx hb d_ZoneNodes_init_58 rfl (lv_at hl 2 rfl) ?_
    refine lv_goto (tgt := 64) hx hb d_ZoneNodes_init_59 rfl ?_
    refine lv_istore (lv' := [(5, .int x2), (0, .ref x0), (1, .int x1), (2, .int x2), (3, .int x3), (4, .int x4)]) hx hb d_ZoneNodes_init_64 hl (by decide) rfl (fun ls hl => ?_)
    refine lv_iload_n hx hb d_ZoneNodes_init_66 rfl (lv_at hl 4 rfl) ?_
    refine lv_iconst (v := 2) hx hb d_ZoneNodes_init_67 (by decide) ?_
    refine lv_bipush (v := 20) hx hb d_ZoneNodes_init_68 (by decide) ?_
    replace hm := zb1_s hm
    obtain ⟨v75, h74, hm⟩ := hm
    refine zr_calli (zr_runS (As := [.int x3, .int 2, .int 20]) (rest := []) (n := 3) hx hb hml hown hts hk hX (c_ZoneNodes_within l G N X30 x3 2 20 v75 h74) (hts _ tW98) tW99 (hts _ tW100) (hts _ tW101) (by decide +kernel) ⟨Nat.le_of_ble_eq_true rfl, Nat.le_of_ble_eq_true rfl⟩ rfl rfl hl.1 rfl (lv_room (Nat.le_of_ble_eq_true rfl)) d_ZoneNodes_init_70 ⟨(Nat.le_of_ble_eq_true rfl), (Nat.le_of_ble_eq_true rfl)⟩) hS (fun H locs hX hS => ?_)
    refine lv_if_eq (tgt := 80) hx hb d_ZoneNodes_init_73 rfl (fun h76 => ?_) (fun h76 => ?_)
    · replace hm := zi_t h76 hm
      refine lv_iconst (v := 4) hx hb d_ZoneNodes_init_80 (by decide) ?_
      exact hJ81 X30 x0 x1 x4 x2 4 _ _ _ hm hX hS (lv_sub hl [1, 2, 5, 0] rfl)
    · replace hm := zi_f h76 hm
      refine lv_iload_n hx hb d_ZoneNodes_init_76 rfl (lv_at hl 4 rfl) ?_
      refine lv_goto (tgt := 81) hx hb d_ZoneNodes_init_77 rfl ?_
      exact hJ81 X30 x0 x1 x4 x2 x3 _ _ _ hm hX hS (lv_sub hl [1, 2, 5, 0] rfl)
set_option maxHeartbeats 4000000 in
set_option maxRecDepth 100000 in
theorem c_Wire_at (l : Launch) (G : zh_G) (N : Nat) (X : zh_T) (x0 : Nat) (x1 : Int32) (r : Option Nat) (hm : f_Wire_at N X x0 x1 = some r) : zM l G y_Wire_at w_Wire_at 1 22 X [.ref x0, .int x1] (some (va_rf r)) X 0 0 := by
  refine zr_ofW (by decide) (by exact Nat.le_of_ble_eq_true rfl) ?_
  intro p e s m args below meth c ls hx hb hml hr hts hown hin hlocks hk hX hl
  have hS : va_S (zh_A G) s.heap s.heap [] := va_S.rf
  have hl : lv_has ls 2 [(0, .ref x0), (1, .int x1)] := hl
  have hown : s.vm.findClass R_Wire = some m.cls := hown
  unfold f_Wire_at at hm
  refine lv_iload_n hx hb d_Wire_at_0 rfl (lv_at hl 1 rfl) ?_
  refine lv_iconst (v := 0) hx hb d_Wire_at_1 (by decide) ?_
  refine lv_aload_n hx hb d_Wire_at_2 rfl (lv_at hl 0 rfl) ?_
  replace hm := zb1_s hm
  obtain ⟨v2, h1, hm⟩ := hm
  refine zr_get (ci := 7) (C := R_Wire) (T := F_Wire) (N := 2) hx hb hts in_Wire hown hk hX rfl 1 (by decide) (hts _ tW113) rfl (zgi_v h1) d_Wire_at_3 ?_
  refine lv_iconst (v := 1) hx hb d_Wire_at_6 (by decide) ?_
  refine lv_isub hx hb d_Wire_at_7 ?_
  replace hm := zb1_s hm
  obtain ⟨v4, h3, hm⟩ := hm
  refine zr_calli (zr_runSN (As := [.int x1, .int 0, .int (v2 - 1)]) (rest := []) (n := 3) hx hb hml hown hts hk hX (c_ZoneNodes_within l G N X x1 0 (v2 - 1) v4 h3) (nM6 hk) tW99 (hts _ tW100) (hts _ tW101) (by decide +kernel) ⟨Nat.le_of_ble_eq_true rfl, Nat.le_of_ble_eq_true rfl⟩ rfl rfl hl.1 rfl (lv_room (Nat.le_of_ble_eq_true rfl)) d_Wire_at_8 ⟨(Nat.le_of_ble_eq_true rfl), (Nat.le_of_ble_eq_true rfl)⟩) hS (fun H locs hX hS => ?_)
  refine lv_if_eq (tgt := 23) hx hb d_Wire_at_11 rfl (fun h5 => ?_) (fun h5 => ?_)
  · replace hm := zi_t h5 hm
    refine lv_null hx hb d_Wire_at_23 ?_
    cases hm
    exact W.aret hx hb hr (Or.inl ⟨_, rfl⟩) (Or.inl rfl) (fun t ht hW => zh_end hk hX hS ht hW) hS.2.2 d_Wire_at_24
  · replace hm := zi_f h5 hm
    refine lv_aload_n hx hb d_Wire_at_14 rfl (lv_at hl 0 rfl) ?_
    replace hm := zb1_s hm
    obtain ⟨a7, h6, hm⟩ := hm
    refine zr_get (ci := 7) (C := R_Wire) (T := F_Wire) (N := 2) hx hb hts in_Wire hown hk hX rfl 0 (by decide) (hts _ tW74) rfl (zgr_v h6) d_Wire_at_15 ?_
    refine lv_iload_n hx hb d_Wire_at_18 rfl (lv_at hl 1 rfl) ?_
    replace hm := zb1_s hm
    obtain ⟨a9, h8, hm⟩ := hm
    refine zr_aaload (t := 3) (q := some a9) hx hb hk hX rfl (zar_v h8) d_Wire_at_19 ?_
    refine lv_goto (tgt := 24) hx hb d_Wire_at_20 rfl ?_
    cases hm
    exact W.aret hx hb hr (Or.inl ⟨_, rfl⟩) (Or.inr ⟨_, rfl⟩) (fun t ht hW => zh_end hk hX hS ht hW) hS.2.2 d_Wire_at_24
set_option maxHeartbeats 4000000 in
set_option maxRecDepth 100000 in
theorem c_ZoneNodes_alter (l : Launch) (G : zh_G) (N : Nat) (X : zh_T) (x0 : Nat) (x1 : Int32) (r : Int32) (X' : zh_T) (hm : f_ZoneNodes_alter N X x0 x1 = some (r, X')) : zM l G y_ZoneNodes_alter w_ZoneNodes_alter 2 43 X [.ref x0, .int x1] (some (.int r)) X' 0 0 := by
  refine zr_ofW (by decide) (by exact Nat.le_of_ble_eq_true rfl) ?_
  intro p e s m args below meth c ls hx hb hml hr hts hown hin hlocks hk hX hl
  have hS : va_S (zh_A G) s.heap s.heap [] := va_S.rf
  have hl : lv_has ls 3 [(0, .ref x0), (1, .int x1)] := hl
  have hown : s.vm.findClass R_ZoneNodes = some m.cls := hown
  unfold f_ZoneNodes_alter at hm
  refine lv_aload_n hx hb d_ZoneNodes_alter_0 rfl (lv_at hl 0 rfl) ?_
  replace hm := zb1_s hm
  obtain ⟨a2, h1, hm⟩ := hm
  refine zr_get (ci := 8) (C := R_ZoneNodes) (T := F_ZoneNodes) (N := 7) hx hb hts in_ZoneNodes hown hk hX rfl 3 (by decide) (hts _ tW95) rfl (zgr_v h1) d_ZoneNodes_alter_1 ?_
  refine lv_iload_n hx hb d_ZoneNodes_alter_4 rfl (lv_at hl 1 rfl) ?_
  replace hm := zb1_s hm
  obtain ⟨_, h4, hm⟩ := hm
  replace hm := zb1_s hm
  obtain ⟨q5, h3, hm⟩ := hm
  refine zr_callq (zr_runV (As := [.int x1]) (rest := []) (n := 1) hx hb hml hown hts hk hX (c_Wire_at l G N X a2 x1 q5 h3) (hts _ tW114) tW115 (hts _ tW91) (hts _ tW116) (hts _ tW117) rfl h4 (by decide +kernel) ⟨Nat.le_of_ble_eq_true rfl, Nat.le_of_ble_eq_true rfl⟩ rfl rfl hl.1 rfl (lv_room (Nat.le_of_ble_eq_true rfl)) d_ZoneNodes_alter_5 ⟨(Nat.le_of_ble_eq_true rfl), (Nat.le_of_ble_eq_true rfl)⟩) hS (fun H locs hX hS => ?_)
  refine zr_astore_nq (lv' := [(2, va_rf q5), (0, .ref x0), (1, .int x1)]) hx hb d_ZoneNodes_alter_8 rfl hl (by decide) rfl (fun ls hl => ?_)
  cases q5 with
  | none =>
    replace hm := zbo_n hm
    refine lv_aload_nN hx hb d_ZoneNodes_alter_9 rfl (lv_at hl 0 rfl) ?_
    refine lv_ifnullN (tgt := 28) hx hb d_ZoneNodes_alter_10 rfl ?_
    refine lv_iconst (v := 0) hx hb d_ZoneNodes_alter_28 (by decide) ?_
    cases hm
    exact W.zret hx hb hr (by decide) (fun t ht hW => zh_end hk hX hS ht hW) hS.2.2 d_ZoneNodes_alter_29
  | some a6 =>
    replace hm := zbo_s hm
    refine lv_aload_n hx hb d_ZoneNodes_alter_9 rfl (lv_at hl 0 rfl) ?_
    refine lv_ifnull hx hb d_ZoneNodes_alter_10 ?_
    refine lv_aload_n hx hb d_ZoneNodes_alter_13 rfl (lv_at hl 0 rfl) ?_
    replace hm := zb1_s hm
    obtain ⟨v8, h7, hm⟩ := hm
    refine zr_getN (ci := 3) (C := R_Message) (T := F_Message) (N := 10) hx hb hts in_Message hown hk hX rfl 1 (by decide) rfl rfl (nF0 hk) rfl (zgi_v h7) d_ZoneNodes_alter_14 ?_
    refine lv_iconst (v := 5) hx hb d_ZoneNodes_alter_17 (by decide) ?_
    refine lv_icmp_ne (tgt := 28) hx hb d_ZoneNodes_alter_18 rfl (fun h9 => ?_) (fun h9 => ?_)
    · replace hm := zi_f h9 hm
      refine lv_iconst (v := 0) hx hb d_ZoneNodes_alter_28 (by decide) ?_
      cases hm
      exact W.zret hx hb hr (by decide) (fun t ht hW => zh_end hk hX hS ht hW) hS.2.2 d_ZoneNodes_alter_29
    · replace hm := zi_t h9 hm
      refine lv_aload_n hx hb d_ZoneNodes_alter_21 rfl (lv_at hl 0 rfl) ?_
      replace hm := zb1_s hm
      obtain ⟨v11, h10, hm⟩ := hm
      refine zr_getN (ci := 3) (C := R_Message) (T := F_Message) (N := 10) hx hb hts in_Message hown hk hX rfl 9 (by decide) rfl rfl (nF1 hk) rfl (zgi_v h10) d_ZoneNodes_alter_22 ?_
      refine lv_if_eq (tgt := 30) hx hb d_ZoneNodes_alter_25 rfl (fun h12 => ?_) (fun h12 => ?_)
      · replace hm := zi_t h12 hm
        refine lv_aload_n hx hb d_ZoneNodes_alter_30 rfl (lv_at hl 0 rfl) ?_
        refine lv_iconst (v := 1) hx hb d_ZoneNodes_alter_31 (by decide) ?_
        replace hm := zb1_s hm
        obtain ⟨X13, h14, hm⟩ := hm
        refine zr_putN (ci := 3) (C := R_Message) (T := F_Message) (N := 10) (ty := .boolean) (v := .int 1) hx hb hts in_Message t_Message t_Message_ok n_Message hown hk hX hS rfl 9 (by decide) rfl rfl (nF1 hk) rfl rfl (by decide +kernel) (zpz_n h14) (zpz_f h14) (zpz_v h14) d_ZoneNodes_alter_32 (fun H locs hX hS => ?_)
        refine lv_iconst (v := 1) hx hb d_ZoneNodes_alter_35 (by decide) ?_
        cases hm
        exact W.zret hx hb hr (by decide) (fun t ht hW => zh_end hk hX hS ht hW) hS.2.2 d_ZoneNodes_alter_36
      · replace hm := zi_f h12 hm
        refine lv_iconst (v := 0) hx hb d_ZoneNodes_alter_28 (by decide) ?_
        cases hm
        exact W.zret hx hb hr (by decide) (fun t ht hW => zh_end hk hX hS ht hW) hS.2.2 d_ZoneNodes_alter_29
set_option maxHeartbeats 4000000 in
set_option maxRecDepth 100000 in
theorem c_ZoneNodes_arm (l : Launch) (G : zh_G) (N : Nat) (X : zh_T) (x0 : Nat) (x1 : Int32) (r : Int32) (X' : zh_T) (hm : f_ZoneNodes_arm N X x0 x1 = some (r, X')) : zM l G y_ZoneNodes_arm w_ZoneNodes_arm 1 22 X [.ref x0, .int x1] (some (.int r)) X' 0 0 := by
  refine zr_ofW (by decide) (by exact Nat.le_of_ble_eq_true rfl) ?_
  intro p e s m args below meth c ls hx hb hml hr hts hown hin hlocks hk hX hl
  have hS : va_S (zh_A G) s.heap s.heap [] := va_S.rf
  have hl : lv_has ls 2 [(0, .ref x0), (1, .int x1)] := hl
  have hown : s.vm.findClass R_ZoneNodes = some m.cls := hown
  unfold f_ZoneNodes_arm at hm
  refine lv_iload_n hx hb d_ZoneNodes_arm_0 rfl (lv_at hl 1 rfl) ?_
  refine lv_iconst (v := 0) hx hb d_ZoneNodes_arm_1 (by decide) ?_
  refine lv_iconst (v := 3) hx hb d_ZoneNodes_arm_2 (by decide) ?_
  replace hm := zb1_s hm
  obtain ⟨v2, h1, hm⟩ := hm
  refine zr_calli (zr_runS (As := [.int x1, .int 0, .int 3]) (rest := []) (n := 3) hx hb hml hown hts hk hX (c_ZoneNodes_within l G N X x1 0 3 v2 h1) (hts _ tW98) tW99 (hts _ tW100) (hts _ tW101) (by decide +kernel) ⟨Nat.le_of_ble_eq_true rfl, Nat.le_of_ble_eq_true rfl⟩ rfl rfl hl.1 rfl (lv_room (Nat.le_of_ble_eq_true rfl)) d_ZoneNodes_arm_3 ⟨(Nat.le_of_ble_eq_true rfl), (Nat.le_of_ble_eq_true rfl)⟩) hS (fun H locs hX hS => ?_)
  refine lv_if_eq (tgt := 19) hx hb d_ZoneNodes_arm_6 rfl (fun h3 => ?_) (fun h3 => ?_)
  · replace hm := zi_t h3 hm
    refine lv_iconst (v := 0) hx hb d_ZoneNodes_arm_19 (by decide) ?_
    cases hm
    exact W.zret hx hb hr (by decide) (fun t ht hW => zh_end hk hX hS ht hW) hS.2.2 d_ZoneNodes_arm_20
  · replace hm := zi_f h3 hm
    refine lv_aload_n hx hb d_ZoneNodes_arm_9 rfl (lv_at hl 0 rfl) ?_
    replace hm := zb1_s hm
    obtain ⟨a5, h4, hm⟩ := hm
    refine zr_get (ci := 8) (C := R_ZoneNodes) (T := F_ZoneNodes) (N := 7) hx hb hts in_ZoneNodes hown hk hX rfl 4 (by decide) (hts _ tW108) rfl (zgr_v h4) d_ZoneNodes_arm_10 ?_
    replace hm := zb1_s hm
    obtain ⟨v7, h6, hm⟩ := hm
    refine zr_getN (ci := 4) (C := R_Primary) (T := F_Primary) (N := 9) hx hb hts in_Primary hown hk hX rfl 8 (by decide) rfl rfl (nF2 hk) rfl (zgi_v h6) d_ZoneNodes_arm_13 ?_
    refine lv_if_ne (tgt := 21) hx hb d_ZoneNodes_arm_16 rfl (fun h8 => ?_) (fun h8 => ?_)
    · replace hm := zi_f h8 hm
      refine lv_aload_n hx hb d_ZoneNodes_arm_21 rfl (lv_at hl 0 rfl) ?_
      replace hm := zb1_s hm
      obtain ⟨a10, h9, hm⟩ := hm
      refine zr_get (ci := 8) (C := R_ZoneNodes) (T := F_ZoneNodes) (N := 7) hx hb hts in_ZoneNodes hown hk hX rfl 4 (by decide) (hts _ tW108) rfl (zgr_v h9) d_ZoneNodes_arm_22 ?_
      refine lv_iload_n hx hb d_ZoneNodes_arm_25 rfl (lv_at hl 1 rfl) ?_
      replace hm := zb1_s hm
      obtain ⟨X11, h12, hm⟩ := hm
      refine zr_putN (ci := 4) (C := R_Primary) (T := F_Primary) (N := 9) (ty := .int) (v := .int x1) hx hb hts in_Primary t_Primary t_Primary_ok n_Primary hown hk hX hS rfl 7 (by decide) rfl rfl (nF3 hk) rfl rfl (by decide +kernel) rfl rfl h12 d_ZoneNodes_arm_26 (fun H locs hX hS => ?_)
      refine lv_iconst (v := 1) hx hb d_ZoneNodes_arm_29 (by decide) ?_
      cases hm
      exact W.zret hx hb hr (by decide) (fun t ht hW => zh_end hk hX hS ht hW) hS.2.2 d_ZoneNodes_arm_30
    · replace hm := zi_t h8 hm
      refine lv_iconst (v := 0) hx hb d_ZoneNodes_arm_19 (by decide) ?_
      cases hm
      exact W.zret hx hb hr (by decide) (fun t ht hW => zh_end hk hX hS ht hW) hS.2.2 d_ZoneNodes_arm_20
set_option maxHeartbeats 4000000 in
set_option maxRecDepth 100000 in
theorem c_Journal_leadsTo (l : Launch) (G : zh_G) (N : Nat) (X : zh_T) (x0 : Nat) (x1 : Int32) (x2 : Int32) (r : Int32) (hm : f_Journal_leadsTo N X x0 x1 x2 = some r) : zM l G y_Journal_leadsTo w_Journal_leadsTo 0 0 X [.ref x0, .int x1, .int x2] (some (.int r)) X 0 0 := by
  refine zr_ofW (by decide) (by exact Nat.le_of_ble_eq_true rfl) ?_
  intro p e s m args below meth c ls hx hb hml hr hts hown hin hlocks hk hX hl
  have hS : va_S (zh_A G) s.heap s.heap [] := va_S.rf
  have hl : lv_has ls 5 [(0, .ref x0), (1, .int x1), (2, .int x2)] := hl
  have hown : s.vm.findClass R_Journal = some m.cls := hown
  unfold f_Journal_leadsTo at hm
  have hL13 : ∀ (n : Nat) (X : zh_T) (w0 : Nat) (w2 : Int32) (w3 : Int32) (w4 : Int32) (o : (Int32 ⊕ Int32)) (H : Heap) (locs : List Loc) (ls : Array Slot), L_Journal_leadsTo_13 N X w0 w2 n w3 w4 = some o → zh_w G X H → va_S (zh_A G) s.heap H locs → lv_has ls 5 [(0, .ref w0), (2, .int w2), (3, .int w3), (4, .int w4)] → (∀ r0 : Int32, o = Sum.inl r0 → r0 = r) → (∀ v : Int32, o = Sum.inr v → ∀ (H : Heap) (locs : List Loc) (ls : Array Slot), zh_w G X H → va_S (zh_A G) s.heap H locs → lv_has ls 5 [(2, .int w2), (3, .int v)] → W p l e { frames := 0, cells := 0, slots := 0, locals := 0 } s m args below meth c H locs 0 0 (MQ below (zh_Q G (some (.int r)) X) args s 0 0 (zh_A G)) (F0 m 47 ls [])) → W p l e { frames := 0, cells := 0, slots := 0, locals := 0 } s m args below meth c H locs 0 0 (MQ below (zh_Q G (some (.int r)) X) args s 0 0 (zh_A G)) (F0 m 13 ls []) := by
    intro n
    induction n with
    | zero =>
      intro X w0 w2 w3 w4 o H locs ls hm hX hS hl hret hexit
      rw [L_Journal_leadsTo_13] at hm
      cases hm
    | succ n ih =>
      intro X w0 w2 w3 w4 o H locs ls hm hX hS hl hret hexit
      rw [L_Journal_leadsTo_13] at hm
      refine lv_iload hx hb d_Journal_leadsTo_13 (lv_at hl 3 rfl) ?_
      refine lv_aload_n hx hb d_Journal_leadsTo_15 rfl (lv_at hl 0 rfl) ?_
      replace hm := zb1_s hm
      obtain ⟨v8, h7, hm⟩ := hm
      refine zr_get (ci := 2) (C := R_Journal) (T := F_Journal) (N := 2) hx hb hts in_Journal hown hk hX rfl 1 (by decide) (hts _ tW118) rfl (zgi_v h7) d_Journal_leadsTo_16 ?_
      refine lv_icmp_ge (tgt := 47) hx hb d_Journal_leadsTo_19 rfl (fun h9 => ?_) (fun h9 => ?_)
      · replace hm := zi_t h9 hm
        exact hexit _ (Option.some.inj hm).symm _ _ _ hX hS (lv_sub hl [1, 2] rfl)
      · replace hm := zi_f h9 hm
        refine lv_aload_n hx hb d_Journal_leadsTo_22 rfl (lv_at hl 0 rfl) ?_
        replace hm := zb1_s hm
        obtain ⟨a11, h10, hm⟩ := hm
        refine zr_get (ci := 2) (C := R_Journal) (T := F_Journal) (N := 2) hx hb hts in_Journal hown hk hX rfl 0 (by decide) (hts _ tW18) rfl (zgr_v h10) d_Journal_leadsTo_23 ?_
        refine lv_iload hx hb d_Journal_leadsTo_26 (lv_at hl 3 rfl) ?_
        replace hm := zb1_s hm
        obtain ⟨a13, h12, hm⟩ := hm
        refine zr_aaload (t := 2) (q := some a13) hx hb hk hX rfl (zar_v h12) d_Journal_leadsTo_28 ?_
        replace hm := zb1_s hm
        obtain ⟨v15, h14, hm⟩ := hm
        refine zr_getN (ci := 1) (C := R_Entry) (T := F_Entry) (N := 4) hx hb hts in_Entry hown hk hX rfl 2 (by decide) rfl rfl (nF4 hk) rfl (zgi_v h14) d_Journal_leadsTo_29 ?_
        refine lv_iload_n hx hb d_Journal_leadsTo_32 rfl (lv_at hl 2 rfl) ?_
        refine lv_icmp_eq (tgt := 38) hx hb d_Journal_leadsTo_33 rfl (fun h16 => ?_) (fun h16 => ?_)
        · replace hm := zi_t h16 hm
          refine lv_iinc (v := w3 + 1) (lv' := [(3, .int (w3 + 1)), (0, .ref w0), (2, .int w2), (4, .int w4)]) hx hb d_Journal_leadsTo_38 hl (k := 2) rfl (by rw [show Int32.ofInt 1 = 1 by decide]) (by decide) rfl (fun ls hl => ?_)
          refine lv_iinc (v := w4 + 1) (lv' := [(4, .int (w4 + 1)), (3, .int (w3 + 1)), (0, .ref w0), (2, .int w2)]) hx hb d_Journal_leadsTo_41 hl (k := 3) rfl (by rw [show Int32.ofInt 1 = 1 by decide]) (by decide) rfl (fun ls hl => ?_)
          refine lv_goto (tgt := 13) hx hb d_Journal_leadsTo_44 rfl ?_
          exact ih X w0 w2 (w3 + 1) (w4 + 1) o _ _ _ hm hX hS (lv_sub hl [2, 3, 1, 0] rfl) hret hexit
        · replace hm := zi_f h16 hm
          refine lv_iconst (v := 0) hx hb d_Journal_leadsTo_36 (by decide) ?_
          obtain rfl := hret _ (Option.some.inj hm).symm
          exact W.zret hx hb hr (by decide) (fun t ht hW => zh_end hk hX hS ht hW) hS.2.2 d_Journal_leadsTo_37
  refine lv_aload_n hx hb d_Journal_leadsTo_0 rfl (lv_at hl 0 rfl) ?_
  replace hm := zb1_s hm
  obtain ⟨a2, h1, hm⟩ := hm
  refine zr_get (ci := 2) (C := R_Journal) (T := F_Journal) (N := 2) hx hb hts in_Journal hown hk hX rfl 0 (by decide) (hts _ tW18) rfl (zgr_v h1) d_Journal_leadsTo_1 ?_
  refine lv_iload_n hx hb d_Journal_leadsTo_4 rfl (lv_at hl 1 rfl) ?_
  replace hm := zb1_s hm
  obtain ⟨a4, h3, hm⟩ := hm
  refine zr_aaload (t := 2) (q := some a4) hx hb hk hX rfl (zar_v h3) d_Journal_leadsTo_5 ?_
  replace hm := zb1_s hm
  obtain ⟨v6, h5, hm⟩ := hm
  refine zr_getN (ci := 1) (C := R_Entry) (T := F_Entry) (N := 4) hx hb hts in_Entry hown hk hX rfl 2 (by decide) rfl rfl (nF4 hk) rfl (zgi_v h5) d_Journal_leadsTo_6 ?_
  refine lv_istore_n (lv' := [(3, .int v6), (0, .ref x0), (1, .int x1), (2, .int x2)]) hx hb d_Journal_leadsTo_9 rfl hl (by decide) rfl (fun ls hl => ?_)
  refine lv_iload_n hx hb d_Journal_leadsTo_10 rfl (lv_at hl 2 rfl) ?_
  refine lv_istore (lv' := [(4, .int x1), (3, .int v6), (0, .ref x0), (1, .int x1), (2, .int x2)]) hx hb d_Journal_leadsTo_11 hl (by decide) rfl (fun ls hl => ?_)
  replace hm := zbs_s hm
  obtain ⟨o20, h18, hm⟩ := hm
  refine hL13 N X x0 x2 v6 x1 o20 _ _ _ h18 hX hS (lv_sub hl [2, 4, 1, 0] rfl) (fun r0 e0 => ?_) (fun v17 e0 H locs ls hX hS hl => ?_)
  · subst e0
    replace hm := zs_l hm
    exact Option.some.inj hm
  · subst e0
    replace hm := zs_r hm
    refine lv_iload_n hx hb d_Journal_leadsTo_47 rfl (lv_at hl 1 rfl) ?_
    refine lv_iload_n hx hb d_Journal_leadsTo_48 rfl (lv_at hl 0 rfl) ?_
    refine lv_icmp_ne (tgt := 56) hx hb d_Journal_leadsTo_49 rfl (fun h19 => ?_) (fun h19 => ?_)
    · replace hm := zi_f h19 hm
      refine lv_iconst (v := 0) hx hb d_Journal_leadsTo_56 (by decide) ?_
      cases hm
      exact W.zret hx hb hr (by decide) (fun t ht hW => zh_end hk hX hS ht hW) hS.2.2 d_Journal_leadsTo_57
    · replace hm := zi_t h19 hm
      refine lv_iconst (v := 1) hx hb d_Journal_leadsTo_52 (by decide) ?_
      refine lv_goto (tgt := 57) hx hb d_Journal_leadsTo_53 rfl ?_
      cases hm
      exact W.zret hx hb hr (by decide) (fun t ht hW => zh_end hk hX hS ht hW) hS.2.2 d_Journal_leadsTo_57
