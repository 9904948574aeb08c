set_option maxHeartbeats 4000000 in
set_option maxRecDepth 100000 in
theorem c_Records_contains (l : Launch) (G : zh_G) (N : Nat) (X : zh_T) (x0 : Nat) (x1 : Int32) (x2 : Int32) (x3 : Int32) (r : Int32) (hm : f_Records_contains N X x0 x1 x2 x3 = some r) : zM l G y_Records_contains w_Records_contains 1 22 X [.ref x0, .int x1, .int x2, .int x3] (some (.int r)) X 0 0 := by
  refine zr_ofW (by decide) (by exact Nat.le_of_ble_eq_true rfl) ?_
  intro p e s m args below meth c ls hx hb hml hr hts hown hin hlocks hk hX hl
  have hS : va_S (zh_A G) s.heap s.heap [] := va_S.rf
  have hl : lv_has ls 4 [(0, .ref x0), (1, .int x1), (2, .int x2), (3, .int x3)] := hl
  have hown : s.vm.findClass R_Records = some m.cls := hown
  unfold f_Records_contains at hm
  refine lv_aload_n hx hb d_Records_contains_0 rfl (lv_at hl 0 rfl) ?_
  refine lv_iload_n hx hb d_Records_contains_1 rfl (lv_at hl 1 rfl) ?_
  refine lv_iload_n hx hb d_Records_contains_2 rfl (lv_at hl 2 rfl) ?_
  replace hm := zb1_s hm
  obtain ⟨_, h2, hm⟩ := hm
  replace hm := zb1_s hm
  obtain ⟨v3, h1, hm⟩ := hm
  refine zr_calli (zr_runV (As := [.int x1, .int x2]) (rest := []) (n := 2) hx hb hml hown hts hk hX (c_Records_valuesOf l G N X x0 x1 x2 v3 h1) (hts _ tW23) tW24 (hts _ tW11) (hts _ tW25) (hts _ tW26) rfl h2 (by decide +kernel) ⟨Nat.le_of_ble_eq_true rfl, Nat.le_of_ble_eq_true rfl⟩ rfl rfl hl.1 rfl (lv_room (Nat.le_of_ble_eq_true rfl)) d_Records_contains_3 ⟨(Nat.le_of_ble_eq_true rfl), (Nat.le_of_ble_eq_true rfl)⟩) hS (fun H locs hX hS => ?_)
  refine lv_iload_n hx hb d_Records_contains_6 rfl (lv_at hl 3 rfl) ?_
  refine lv_ishr hx hb d_Records_contains_7 ?_
  refine lv_iconst (v := 1) hx hb d_Records_contains_8 (by decide) ?_
  refine lv_iand hx hb d_Records_contains_9 ?_
  refine lv_iconst (v := 1) hx hb d_Records_contains_10 (by decide) ?_
  refine lv_icmp_ne (tgt := 18) hx hb d_Records_contains_11 rfl (fun h4 => ?_) (fun h4 => ?_)
  · replace hm := zi_f h4 hm
    refine lv_iconst (v := 0) hx hb d_Records_contains_18 (by decide) ?_
    cases hm
    exact W.zret hx hb hr (by decide) (fun t ht hW => zh_end hk hX hS ht hW) hS.2.2 d_Records_contains_19
  · replace hm := zi_t h4 hm
    refine lv_iconst (v := 1) hx hb d_Records_contains_14 (by decide) ?_
    refine lv_goto (tgt := 19) hx hb d_Records_contains_15 rfl ?_
    cases hm
    exact W.zret hx hb hr (by decide) (fun t ht hW => zh_end hk hX hS ht hW) hS.2.2 d_Records_contains_19
set_option maxHeartbeats 4000000 in
set_option maxRecDepth 100000 in
theorem c_ZoneNodes_has (l : Launch) (G : zh_G) (N : Nat) (X : zh_T) (x0 : Nat) (x1 : Int32) (x2 : Int32) (x3 : Int32) (x4 : Int32) (r : Int32) (hm : f_ZoneNodes_has N X x0 x1 x2 x3 x4 = some r) : zM l G y_ZoneNodes_has w_ZoneNodes_has 3 63 X [.ref x0, .int x1, .int x2, .int x3, .int x4] (some (.int r)) X 0 0 := by
  refine zr_ofW (by decide) (by exact Nat.le_of_ble_eq_true rfl) ?_
  intro p e s m args below meth c ls hx hb hml hr hts hown hin hlocks hk hX hl
  have hS : va_S (zh_A G) s.heap s.heap [] := va_S.rf
  have hl : lv_has ls 6 [(0, .ref x0), (1, .int x1), (2, .int x2), (3, .int x3), (4, .int x4)] := hl
  have hown : s.vm.findClass R_ZoneNodes = some m.cls := hown
  unfold f_ZoneNodes_has at hm
  refine lv_aload_n hx hb d_ZoneNodes_has_0 rfl (lv_at hl 0 rfl) ?_
  refine lv_iload_n hx hb d_ZoneNodes_has_1 rfl (lv_at hl 1 rfl) ?_
  replace hm := zb1_s hm
  obtain ⟨_, h2, hm⟩ := hm
  replace hm := zb1_s hm
  obtain ⟨q3, h1, hm⟩ := hm
  refine zr_callq (zr_runV (As := [.int x1]) (rest := []) (n := 1) hx hb hml hown hts hk hX (c_ZoneNodes_recordsOf l G N X x0 x1 q3 h1) (hts _ tW274) tW275 (hts _ tW100) (hts _ tW276) (hts _ tW277) rfl h2 (by decide +kernel) ⟨Nat.le_of_ble_eq_true rfl, Nat.le_of_ble_eq_true rfl⟩ rfl rfl hl.1 rfl (lv_room (Nat.le_of_ble_eq_true rfl)) d_ZoneNodes_has_2 ⟨(Nat.le_of_ble_eq_true rfl), (Nat.le_of_ble_eq_true rfl)⟩) hS (fun H locs hX hS => ?_)
  refine zr_astoreq (lv' := [(5, va_rf q3), (0, .ref x0), (1, .int x1), (2, .int x2), (3, .int x3), (4, .int x4)]) hx hb d_ZoneNodes_has_5 hl (by decide) rfl (fun ls hl => ?_)
  cases q3 with
  | none =>
    replace hm := zbo_n hm
    refine lv_aloadN hx hb d_ZoneNodes_has_7 (lv_at hl 0 rfl) ?_
    refine lv_ifnullN (tgt := 38) hx hb d_ZoneNodes_has_9 rfl ?_
    refine lv_iconst (v := 0) hx hb d_ZoneNodes_has_38 (by decide) ?_
    cases hm
    exact W.zret hx hb hr (by decide) (fun t ht hW => zh_end hk hX hS ht hW) hS.2.2 d_ZoneNodes_has_39
  | some a4 =>
    replace hm := zbo_s hm
    refine lv_aload hx hb d_ZoneNodes_has_7 (lv_at hl 0 rfl) ?_
    refine lv_ifnull hx hb d_ZoneNodes_has_9 ?_
    refine lv_iload_n hx hb d_ZoneNodes_has_12 rfl (lv_at hl 3 rfl) ?_
    refine lv_iload_n hx hb d_ZoneNodes_has_13 rfl (lv_at hl 4 rfl) ?_
    refine lv_iload hx hb d_ZoneNodes_has_14 (lv_at hl 5 rfl) ?_
    replace hm := zb1_s hm
    obtain ⟨v6, h5, hm⟩ := hm
    refine zr_calli (zr_runS (As := [.int x2, .int x3, .int x4]) (rest := []) (n := 3) hx hb hml hown hts hk hX (c_ZoneNodes_isRecord l G N X x2 x3 x4 v6 h5) (hts _ tW241) tW242 (hts _ tW100) (hts _ tW243) (by decide +kernel) ⟨Nat.le_of_ble_eq_true rfl, Nat.le_of_ble_eq_true rfl⟩ rfl rfl hl.1 rfl (lv_room (Nat.le_of_ble_eq_true rfl)) d_ZoneNodes_has_16 ⟨(Nat.le_of_ble_eq_true rfl), (Nat.le_of_ble_eq_true rfl)⟩) hS (fun H locs hX hS => ?_)
    refine lv_if_eq (tgt := 38) hx hb d_ZoneNodes_has_19 rfl (fun h7 => ?_) (fun h7 => ?_)
    · replace hm := zi_t h7 hm
      refine lv_iconst (v := 0) hx hb d_ZoneNodes_has_38 (by decide) ?_
      cases hm
      exact W.zret hx hb hr (by decide) (fun t ht hW => zh_end hk hX hS ht hW) hS.2.2 d_ZoneNodes_has_39
    · replace hm := zi_f h7 hm
      refine lv_aload hx hb d_ZoneNodes_has_22 (lv_at hl 0 rfl) ?_
      refine lv_iload_n hx hb d_ZoneNodes_has_24 rfl (lv_at hl 3 rfl) ?_
      refine lv_iload_n hx hb d_ZoneNodes_has_25 rfl (lv_at hl 4 rfl) ?_
      refine lv_iload hx hb d_ZoneNodes_has_26 (lv_at hl 5 rfl) ?_
      replace hm := zb1_s hm
      obtain ⟨_, h9, hm⟩ := hm
      replace hm := zb1_s hm
      obtain ⟨v10, h8, hm⟩ := hm
      refine zr_calli (zr_runV (As := [.int x2, .int x3, .int x4]) (rest := []) (n := 3) hx hb hml hown hts hk hX (c_Records_contains l G N X a4 x2 x3 x4 v10 h8) (hts _ tW278) tW279 (hts _ tW11) (hts _ tW280) (hts _ tW281) rfl h9 (by decide +kernel) ⟨Nat.le_of_ble_eq_true rfl, Nat.le_of_ble_eq_true rfl⟩ rfl rfl hl.1 rfl (lv_room (Nat.le_of_ble_eq_true rfl)) d_ZoneNodes_has_28 ⟨(Nat.le_of_ble_eq_true rfl), (Nat.le_of_ble_eq_true rfl)⟩) hS (fun H locs hX hS => ?_)
      refine lv_if_eq (tgt := 38) hx hb d_ZoneNodes_has_31 rfl (fun h11 => ?_) (fun h11 => ?_)
      · replace hm := zi_t h11 hm
        refine lv_iconst (v := 0) hx hb d_ZoneNodes_has_38 (by decide) ?_
        cases hm
        exact W.zret hx hb hr (by decide) (fun t ht hW => zh_end hk hX hS ht hW) hS.2.2 d_ZoneNodes_has_39
      · replace hm := zi_f h11 hm
        refine lv_iconst (v := 1) hx hb d_ZoneNodes_has_34 (by decide) ?_
        refine lv_goto (tgt := 39) hx hb d_ZoneNodes_has_35 rfl ?_
        cases hm
        exact W.zret hx hb hr (by decide) (fun t ht hW => zh_end hk hX hS ht hW) hS.2.2 d_ZoneNodes_has_39
set_option maxHeartbeats 4000000 in
set_option maxRecDepth 100000 in
theorem c_ZoneNodes_journal (l : Launch) (G : zh_G) (N : Nat) (X : zh_T) (x0 : Nat) (r : Int32) (hm : f_ZoneNodes_journal N X x0 = some r) : zM l G y_ZoneNodes_journal w_ZoneNodes_journal 0 0 X [.ref x0] (some (.int r)) X 0 0 := by
  refine zr_ofW (by decide) (by exact Nat.le_of_ble_eq_true rfl) ?_
  intro p e s m args below meth c ls hx hb hml hr hts hown hin hlocks hk hX hl
  have hS : va_S (zh_A G) s.heap s.heap [] := va_S.rf
  have hl : lv_has ls 1 [(0, .ref x0)] := hl
  have hown : s.vm.findClass R_ZoneNodes = some m.cls := hown
  unfold f_ZoneNodes_journal at hm
  refine lv_aload_n hx hb d_ZoneNodes_journal_0 rfl (lv_at hl 0 rfl) ?_
  replace hm := zb1_s hm
  obtain ⟨a2, h1, hm⟩ := hm
  refine zr_get (ci := 8) (C := R_ZoneNodes) (T := F_ZoneNodes) (N := 7) hx hb hts in_ZoneNodes hown hk hX rfl 4 (by decide) (hts _ tW108) rfl (zgr_v h1) d_ZoneNodes_journal_1 ?_
  replace hm := zb1_s hm
  obtain ⟨a4, h3, hm⟩ := hm
  refine zr_getN (ci := 4) (C := R_Primary) (T := F_Primary) (N := 9) hx hb hts in_Primary hown hk hX rfl 2 (by decide) rfl rfl (nF38 hk) rfl (zgr_v h3) d_ZoneNodes_journal_4 ?_
  replace hm := zb1_s hm
  obtain ⟨v6, h5, hm⟩ := hm
  refine zr_getN (ci := 2) (C := R_Journal) (T := F_Journal) (N := 2) hx hb hts in_Journal hown hk hX rfl 1 (by decide) rfl rfl (nF39 hk) rfl (zgi_v h5) d_ZoneNodes_journal_7 ?_
  cases hm
  exact W.iret hx hb hr (fun t ht hW => zh_end hk hX hS ht hW) hS.2.2 d_ZoneNodes_journal_10
set_option maxHeartbeats 4000000 in
set_option maxRecDepth 100000 in
theorem c_ZoneNodes_key (l : Launch) (G : zh_G) (N : Nat) (X : zh_T) (x0 : Nat) (x1 : Int32) (x2 : Int32) (r : Int32) (X' : zh_T) (hm : f_ZoneNodes_key N X x0 x1 x2 = some (r, X')) : zM l G y_ZoneNodes_key w_ZoneNodes_key 1 22 X [.ref x0, .int x1, .int x2] (some (.int r)) X' 0 0 := by
  refine zr_ofW (by decide) (by exact Nat.le_of_ble_eq_true rfl) ?_
  intro p e s m args below meth c ls hx hb hml hr hts hown hin hlocks hk hX hl
  have hS : va_S (zh_A G) s.heap s.heap [] := va_S.rf
  have hl : lv_has ls 3 [(0, .ref x0), (1, .int x1), (2, .int x2)] := hl
  have hown : s.vm.findClass R_ZoneNodes = some m.cls := hown
  unfold f_ZoneNodes_key at hm
  refine lv_iload_n hx hb d_ZoneNodes_key_0 rfl (lv_at hl 1 rfl) ?_
  refine lv_iconst (v := 0) hx hb d_ZoneNodes_key_1 (by decide) ?_
  refine lv_iconst (v := 2) hx hb d_ZoneNodes_key_2 (by decide) ?_
  replace hm := zb1_s hm
  obtain ⟨v2, h1, hm⟩ := hm
  refine zr_calli (zr_runS (As := [.int x1, .int 0, .int 2]) (rest := []) (n := 3) hx hb hml hown hts hk hX (c_ZoneNodes_within l G N X x1 0 2 v2 h1) (hts _ tW98) tW99 (hts _ tW100) (hts _ tW101) (by decide +kernel) ⟨Nat.le_of_ble_eq_true rfl, Nat.le_of_ble_eq_true rfl⟩ rfl rfl hl.1 rfl (lv_room (Nat.le_of_ble_eq_true rfl)) d_ZoneNodes_key_3 ⟨(Nat.le_of_ble_eq_true rfl), (Nat.le_of_ble_eq_true rfl)⟩) hS (fun H locs hX hS => ?_)
  refine lv_if_ne (tgt := 11) hx hb d_ZoneNodes_key_6 rfl (fun h3 => ?_) (fun h3 => ?_)
  · replace hm := zi_f h3 hm
    refine lv_aload_n hx hb d_ZoneNodes_key_11 rfl (lv_at hl 0 rfl) ?_
    replace hm := zb1_s hm
    obtain ⟨a5, h4, hm⟩ := hm
    refine zr_get (ci := 8) (C := R_ZoneNodes) (T := F_ZoneNodes) (N := 7) hx hb hts in_ZoneNodes hown hk hX rfl 0 (by decide) (hts _ tW80) rfl (zgr_v h4) d_ZoneNodes_key_12 ?_
    refine lv_iload_n hx hb d_ZoneNodes_key_15 rfl (lv_at hl 1 rfl) ?_
    refine lv_iload_n hx hb d_ZoneNodes_key_16 rfl (lv_at hl 2 rfl) ?_
    replace hm := zb1_s hm
    obtain ⟨X6, h7, hm⟩ := hm
    refine zr_iastore hx hb hk hX hS h7 d_ZoneNodes_key_17 (fun H locs hX hS => ?_)
    refine lv_aload_n hx hb d_ZoneNodes_key_18 rfl (lv_at hl 0 rfl) ?_
    replace hm := zb1_s hm
    obtain ⟨a9, h8, hm⟩ := hm
    refine zr_get (ci := 8) (C := R_ZoneNodes) (T := F_ZoneNodes) (N := 7) hx hb hts in_ZoneNodes hown hk hX rfl 1 (by decide) (hts _ tW82) rfl (zgr_v h8) d_ZoneNodes_key_19 ?_
    refine lv_iload_n hx hb d_ZoneNodes_key_22 rfl (lv_at hl 1 rfl) ?_
    refine lv_iconst (v := 1) hx hb d_ZoneNodes_key_23 (by decide) ?_
    replace hm := zb1_s hm
    obtain ⟨X10, h11, hm⟩ := hm
    refine zr_bastore hx hb hk hX hS h11 d_ZoneNodes_key_24 (fun H locs hX hS => ?_)
    refine lv_iconst (v := 1) hx hb d_ZoneNodes_key_25 (by decide) ?_
    cases hm
    exact W.zret hx hb hr (by decide) (fun t ht hW => zh_end hk hX hS ht hW) hS.2.2 d_ZoneNodes_key_26
  · replace hm := zi_t h3 hm
    refine lv_iconst (v := 0) hx hb d_ZoneNodes_key_9 (by decide) ?_
    cases hm
    exact W.zret hx hb hr (by decide) (fun t ht hW => zh_end hk hX hS ht hW) hS.2.2 d_ZoneNodes_key_10
set_option maxHeartbeats 4000000 in
set_option maxRecDepth 100000 in
theorem c_ZoneNodes_knowsKey (l : Launch) (G : zh_G) (N : Nat) (X : zh_T) (x0 : Nat) (x1 : Int32) (r : Int32) (hm : f_ZoneNodes_knowsKey N X x0 x1 = some r) : zM l G y_ZoneNodes_knowsKey w_ZoneNodes_knowsKey 1 22 X [.ref x0, .int x1] (some (.int r)) X 0 0 := by
  refine zr_ofW (by decide) (by exact Nat.le_of_ble_eq_true rfl) ?_
  intro p e s m args below meth c ls hx hb hml hr hts hown hin hlocks hk hX hl
  have hS : va_S (zh_A G) s.heap s.heap [] := va_S.rf
  have hl : lv_has ls 2 [(0, .ref x0), (1, .int x1)] := hl
  have hown : s.vm.findClass R_ZoneNodes = some m.cls := hown
  unfold f_ZoneNodes_knowsKey at hm
  refine lv_iload_n hx hb d_ZoneNodes_knowsKey_0 rfl (lv_at hl 1 rfl) ?_
  refine lv_iconst (v := 0) hx hb d_ZoneNodes_knowsKey_1 (by decide) ?_
  refine lv_iconst (v := 2) hx hb d_ZoneNodes_knowsKey_2 (by decide) ?_
  replace hm := zb1_s hm
  obtain ⟨v2, h1, hm⟩ := hm
  refine zr_calli (zr_runS (As := [.int x1, .int 0, .int 2]) (rest := []) (n := 3) hx hb hml hown hts hk hX (c_ZoneNodes_within l G N X x1 0 2 v2 h1) (hts _ tW98) tW99 (hts _ tW100) (hts _ tW101) (by decide +kernel) ⟨Nat.le_of_ble_eq_true rfl, Nat.le_of_ble_eq_true rfl⟩ rfl rfl hl.1 rfl (lv_room (Nat.le_of_ble_eq_true rfl)) d_ZoneNodes_knowsKey_3 ⟨(Nat.le_of_ble_eq_true rfl), (Nat.le_of_ble_eq_true rfl)⟩) hS (fun H locs hX hS => ?_)
  refine lv_if_eq (tgt := 22) hx hb d_ZoneNodes_knowsKey_6 rfl (fun h3 => ?_) (fun h3 => ?_)
  · replace hm := zi_t h3 hm
    refine lv_iconst (v := 0) hx hb d_ZoneNodes_knowsKey_22 (by decide) ?_
    cases hm
    exact W.zret hx hb hr (by decide) (fun t ht hW => zh_end hk hX hS ht hW) hS.2.2 d_ZoneNodes_knowsKey_23
  · replace hm := zi_f h3 hm
    refine lv_aload_n hx hb d_ZoneNodes_knowsKey_9 rfl (lv_at hl 0 rfl) ?_
    replace hm := zb1_s hm
    obtain ⟨a5, h4, hm⟩ := hm
    refine zr_get (ci := 8) (C := R_ZoneNodes) (T := F_ZoneNodes) (N := 7) hx hb hts in_ZoneNodes hown hk hX rfl 1 (by decide) (hts _ tW82) rfl (zgr_v h4) d_ZoneNodes_knowsKey_10 ?_
    refine lv_iload_n hx hb d_ZoneNodes_knowsKey_13 rfl (lv_at hl 1 rfl) ?_
    replace hm := zb1_s hm
    obtain ⟨v6, h7, hm⟩ := hm
    refine zr_baload hx hb hk hX h7 d_ZoneNodes_knowsKey_14 ?_
    refine lv_if_eq (tgt := 22) hx hb d_ZoneNodes_knowsKey_15 rfl (fun h8 => ?_) (fun h8 => ?_)
    · replace hm := zi_t h8 hm
      refine lv_iconst (v := 0) hx hb d_ZoneNodes_knowsKey_22 (by decide) ?_
      cases hm
      exact W.zret hx hb hr (by decide) (fun t ht hW => zh_end hk hX hS ht hW) hS.2.2 d_ZoneNodes_knowsKey_23
    · replace hm := zi_f h8 hm
      refine lv_iconst (v := 1) hx hb d_ZoneNodes_knowsKey_18 (by decide) ?_
      refine lv_goto (tgt := 23) hx hb d_ZoneNodes_knowsKey_19 rfl ?_
      cases hm
      exact W.zret hx hb hr (by decide) (fun t ht hW => zh_end hk hX hS ht hW) hS.2.2 d_ZoneNodes_knowsKey_23
set_option maxHeartbeats 4000000 in
set_option maxRecDepth 100000 in
theorem c_Records_aliasOf (l : Launch) (G : zh_G) (N : Nat) (X : zh_T) (x0 : Nat) (x1 : Int32) (r : Int32) (hm : f_Records_aliasOf N X x0 x1 = some r) : zM l G y_Records_aliasOf w_Records_aliasOf 2 45 X [.ref x0, .int x1] (some (.int r)) X 0 0 := by
  refine zr_ofW (by decide) (by exact Nat.le_of_ble_eq_true rfl) ?_
  intro p e s m args below meth c ls hx hb hml hr hts hown hin hlocks hk hX hl
  have hS : va_S (zh_A G) s.heap s.heap [] := va_S.rf
  have hl : lv_has ls 3 [(0, .ref x0), (1, .int x1)] := hl
  have hown : s.vm.findClass R_Records = some m.cls := hown
  unfold f_Records_aliasOf at hm
  have hL2 : ∀ (n : Nat) (X : zh_T) (w0 : Nat) (w1 : Int32) (w2 : Int32) (o : (Int32 ⊕ Unit)) (H : Heap) (locs : List Loc) (ls : Array Slot), L_Records_aliasOf_2 N X w0 w1 n w2 = some o → zh_w G X H → va_S (zh_A G) s.heap H locs → lv_has ls 3 [(0, .ref w0), (1, .int w1), (2, .int w2)] → (∀ r0 : Int32, o = Sum.inl r0 → r0 = r) → (∀ v : Unit, o = Sum.inr v → ∀ (H : Heap) (locs : List Loc) (ls : Array Slot), zh_w G X H → va_S (zh_A G) s.heap H locs → lv_has ls 3 [] → W p l e { frames := 2, cells := 0, slots := 0, locals := 45 } s m args below meth c H locs 0 0 (MQ below (zh_Q G (some (.int r)) X) args s 0 0 (zh_A G)) (F0 m 26 ls [])) → W p l e { frames := 2, cells := 0, slots := 0, locals := 45 } s m args below meth c H locs 0 0 (MQ below (zh_Q G (some (.int r)) X) args s 0 0 (zh_A G)) (F0 m 2 ls []) := by
    intro n
    induction n with
    | zero =>
      intro X w0 w1 w2 o H locs ls hm hX hS hl hret hexit
      rw [L_Records_aliasOf_2] at hm
      cases hm
    | succ n ih =>
      intro X w0 w1 w2 o H locs ls hm hX hS hl hret hexit
      rw [L_Records_aliasOf_2] at hm
      refine lv_iload_n hx hb d_Records_aliasOf_2 rfl (lv_at hl 2 rfl) ?_
      refine lv_bipush (v := 8) hx hb d_Records_aliasOf_3 (by decide) ?_
      refine lv_icmp_ge (tgt := 26) hx hb d_Records_aliasOf_5 rfl (fun h1 => ?_) (fun h1 => ?_)
      · replace hm := zi_t h1 hm
        exact hexit _ (Option.some.inj hm).symm _ _ _ hX hS (lv_sub hl [] rfl)
      · replace hm := zi_f h1 hm
        refine lv_aload_n hx hb d_Records_aliasOf_8 rfl (lv_at hl 0 rfl) ?_
        refine lv_iload_n hx hb d_Records_aliasOf_9 rfl (lv_at hl 1 rfl) ?_
        refine lv_iconst (v := 2) hx hb d_Records_aliasOf_10 (by decide) ?_
        refine lv_iload_n hx hb d_Records_aliasOf_11 rfl (lv_at hl 2 rfl) ?_
        replace hm := zb1_s hm
        obtain ⟨_, h3, hm⟩ := hm
        replace hm := zb1_s hm
        obtain ⟨v4, h2, hm⟩ := hm
        refine zr_calli (zr_runV (As := [.int w1, .int 2, .int w2]) (rest := []) (n := 3) hx hb hml hown hts hk hX (c_Records_contains l G N X w0 w1 2 w2 v4 h2) (hts _ tW282) tW279 (hts _ tW11) (hts _ tW280) (hts _ tW281) rfl h3 (by decide +kernel) ⟨Nat.le_of_ble_eq_true rfl, Nat.le_of_ble_eq_true rfl⟩ rfl rfl hl.1 rfl (lv_room (Nat.le_of_ble_eq_true rfl)) d_Records_aliasOf_12 ⟨(Nat.le_of_ble_eq_true rfl), (Nat.le_of_ble_eq_true rfl)⟩) hS (fun H locs hX hS => ?_)
        refine lv_if_eq (tgt := 20) hx hb d_Records_aliasOf_15 rfl (fun h5 => ?_) (fun h5 => ?_)
        · replace hm := zi_t h5 hm
          refine lv_iinc (v := w2 + 1) (lv' := [(2, .int (w2 + 1)), (0, .ref w0), (1, .int w1)]) hx hb d_Records_aliasOf_20 hl (k := 2) rfl (by rw [show Int32.ofInt 1 = 1 by decide]) (by decide) rfl (fun ls hl => ?_)
          refine lv_goto (tgt := 2) hx hb d_Records_aliasOf_23 rfl ?_
          exact ih X w0 w1 (w2 + 1) o _ _ _ hm hX hS (lv_sub hl [1, 2, 0] rfl) hret hexit
        · replace hm := zi_f h5 hm
          refine lv_iload_n hx hb d_Records_aliasOf_18 rfl (lv_at hl 2 rfl) ?_
          obtain rfl := hret _ (Option.some.inj hm).symm
          exact W.iret hx hb hr (fun t ht hW => zh_end hk hX hS ht hW) hS.2.2 d_Records_aliasOf_19
  refine lv_iconst (v := 0) hx hb d_Records_aliasOf_0 (by decide) ?_
  refine lv_istore_n (lv' := [(2, .int 0), (0, .ref x0), (1, .int x1)]) hx hb d_Records_aliasOf_1 rfl hl (by decide) rfl (fun ls hl => ?_)
  replace hm := zbs_s hm
  obtain ⟨o8, h7, hm⟩ := hm
  refine hL2 N X x0 x1 0 o8 _ _ _ h7 hX hS (lv_sub hl [1, 2, 0] rfl) (fun r0 e0 => ?_) (fun v6 e0 H locs ls hX hS hl => ?_)
  · subst e0
    replace hm := zs_l hm
    exact Option.some.inj hm
  · subst e0
    replace hm := zs_r hm
    refine lv_iconst (v := (-1)) hx hb d_Records_aliasOf_26 (by decide) ?_
    cases hm
    exact W.iret hx hb hr (fun t ht hW => zh_end hk hX hS ht hW) hS.2.2 d_Records_aliasOf_27
set_option maxHeartbeats 4000000 in
set_option maxRecDepth 100000 in
theorem c_Records_hasOtherThanAlias (l : Launch) (G : zh_G) (N : Nat) (X : zh_T) (x0 : Nat) (x1 : Int32) (r : Int32) (hm : f_Records_hasOtherThanAlias N X x0 x1 = some r) : zM l G y_Records_hasOtherThanAlias w_Records_hasOtherThanAlias 1 22 X [.ref x0, .int x1] (some (.int r)) X 0 0 := by
  refine zr_ofW (by decide) (by exact Nat.le_of_ble_eq_true rfl) ?_
  intro p e s m args below meth c ls hx hb hml hr hts hown hin hlocks hk hX hl
  have hS : va_S (zh_A G) s.heap s.heap [] := va_S.rf
  have hl : lv_has ls 3 [(0, .ref x0), (1, .int x1)] := hl
  have hown : s.vm.findClass R_Records = some m.cls := hown
  unfold f_Records_hasOtherThanAlias at hm
  have hL2 : ∀ (n : Nat) (X : zh_T) (w0 : Nat) (w1 : Int32) (w2 : Int32) (o : (Int32 ⊕ Unit)) (H : Heap) (locs : List Loc) (ls : Array Slot), L_Records_hasOtherThanAlias_2 N X w0 w1 n w2 = some o → zh_w G X H → va_S (zh_A G) s.heap H locs → lv_has ls 3 [(0, .ref w0), (1, .int w1), (2, .int w2)] → (∀ r0 : Int32, o = Sum.inl r0 → r0 = r) → (∀ v : Unit, o = Sum.inr v → ∀ (H : Heap) (locs : List Loc) (ls : Array Slot), zh_w G X H → va_S (zh_A G) s.heap H locs → lv_has ls 3 [] → W p l e { frames := 1, cells := 0, slots := 0, locals := 22 } s m args below meth c H locs 0 0 (MQ below (zh_Q G (some (.int r)) X) args s 0 0 (zh_A G)) (F0 m 29 ls [])) → W p l e { frames := 1, cells := 0, slots := 0, locals := 22 } s m args below meth c H locs 0 0 (MQ below (zh_Q G (some (.int r)) X) args s 0 0 (zh_A G)) (F0 m 2 ls []) := by
    intro n
    induction n with
    | zero =>
      intro X w0 w1 w2 o H locs ls hm hX hS hl hret hexit
      rw [L_Records_hasOtherThanAlias_2] at hm
      cases hm
    | succ n ih =>
      intro X w0 w1 w2 o H locs ls hm hX hS hl hret hexit
      rw [L_Records_hasOtherThanAlias_2] at hm
      refine lv_iload_n hx hb d_Records_hasOtherThanAlias_2 rfl (lv_at hl 2 rfl) ?_
      refine lv_iconst (v := 4) hx hb d_Records_hasOtherThanAlias_3 (by decide) ?_
      refine lv_icmp_gt (tgt := 29) hx hb d_Records_hasOtherThanAlias_4 rfl (fun h1 => ?_) (fun h1 => ?_)
      · replace hm := zi_t h1 hm
        exact hexit _ (Option.some.inj hm).symm _ _ _ hX hS (lv_sub hl [] rfl)
      · replace hm := zi_f h1 hm
        refine lv_iload_n hx hb d_Records_hasOtherThanAlias_7 rfl (lv_at hl 2 rfl) ?_
        refine lv_iconst (v := 2) hx hb d_Records_hasOtherThanAlias_8 (by decide) ?_
        refine lv_icmp_eq (tgt := 23) hx hb d_Records_hasOtherThanAlias_9 rfl (fun h2 => ?_) (fun h2 => ?_)
        · replace hm := zi_t h2 hm
          refine lv_iinc (v := w2 + 1) (lv' := [(2, .int (w2 + 1)), (0, .ref w0), (1, .int w1)]) hx hb d_Records_hasOtherThanAlias_23 hl (k := 2) rfl (by rw [show Int32.ofInt 1 = 1 by decide]) (by decide) rfl (fun ls hl => ?_)
          refine lv_goto (tgt := 2) hx hb d_Records_hasOtherThanAlias_26 rfl ?_
          exact ih X w0 w1 (w2 + 1) o _ _ _ hm hX hS (lv_sub hl [1, 2, 0] rfl) hret hexit
        · replace hm := zi_f h2 hm
          refine lv_aload_n hx hb d_Records_hasOtherThanAlias_12 rfl (lv_at hl 0 rfl) ?_
          refine lv_iload_n hx hb d_Records_hasOtherThanAlias_13 rfl (lv_at hl 1 rfl) ?_
          refine lv_iload_n hx hb d_Records_hasOtherThanAlias_14 rfl (lv_at hl 2 rfl) ?_
          replace hm := zb1_s hm
          obtain ⟨_, h4, hm⟩ := hm
          replace hm := zb1_s hm
          obtain ⟨v5, h3, hm⟩ := hm
          refine zr_calli (zr_runV (As := [.int w1, .int w2]) (rest := []) (n := 2) hx hb hml hown hts hk hX (c_Records_valuesOf l G N X w0 w1 w2 v5 h3) (hts _ tW23) tW24 (hts _ tW11) (hts _ tW25) (hts _ tW26) rfl h4 (by decide +kernel) ⟨Nat.le_of_ble_eq_true rfl, Nat.le_of_ble_eq_true rfl⟩ rfl rfl hl.1 rfl (lv_room (Nat.le_of_ble_eq_true rfl)) d_Records_hasOtherThanAlias_15 ⟨(Nat.le_of_ble_eq_true rfl), (Nat.le_of_ble_eq_true rfl)⟩) hS (fun H locs hX hS => ?_)
          refine lv_if_eq (tgt := 23) hx hb d_Records_hasOtherThanAlias_18 rfl (fun h6 => ?_) (fun h6 => ?_)
          · replace hm := zi_t h6 hm
            refine lv_iinc (v := w2 + 1) (lv' := [(2, .int (w2 + 1)), (0, .ref w0), (1, .int w1)]) hx hb d_Records_hasOtherThanAlias_23 hl (k := 2) rfl (by rw [show Int32.ofInt 1 = 1 by decide]) (by decide) rfl (fun ls hl => ?_)
            refine lv_goto (tgt := 2) hx hb d_Records_hasOtherThanAlias_26 rfl ?_
            exact ih X w0 w1 (w2 + 1) o _ _ _ hm hX hS (lv_sub hl [1, 2, 0] rfl) hret hexit
          · replace hm := zi_f h6 hm
            refine lv_iconst (v := 1) hx hb d_Records_hasOtherThanAlias_21 (by decide) ?_
            obtain rfl := hret _ (Option.some.inj hm).symm
            exact W.zret hx hb hr (by decide) (fun t ht hW => zh_end hk hX hS ht hW) hS.2.2 d_Records_hasOtherThanAlias_22
  refine lv_iconst (v := 1) hx hb d_Records_hasOtherThanAlias_0 (by decide) ?_
  refine lv_istore_n (lv' := [(2, .int 1), (0, .ref x0), (1, .int x1)]) hx hb d_Records_hasOtherThanAlias_1 rfl hl (by decide) rfl (fun ls hl => ?_)
  replace hm := zbs_s hm
  obtain ⟨o9, h8, hm⟩ := hm
  refine hL2 N X x0 x1 1 o9 _ _ _ h8 hX hS (lv_sub hl [1, 2, 0] rfl) (fun r0 e0 => ?_) (fun v7 e0 H locs ls hX hS hl => ?_)
  · subst e0
    replace hm := zs_l hm
    exact Option.some.inj hm
  · subst e0
    replace hm := zs_r hm
    refine lv_iconst (v := 0) hx hb d_Records_hasOtherThanAlias_29 (by decide) ?_
    cases hm
    exact W.zret hx hb hr (by decide) (fun t ht hW => zh_end hk hX hS ht hW) hS.2.2 d_Records_hasOtherThanAlias_30
set_option maxHeartbeats 4000000 in
set_option maxRecDepth 100000 in
theorem c_Records_isUsed (l : Launch) (G : zh_G) (N : Nat) (X : zh_T) (x0 : Nat) (x1 : Int32) (r : Int32) (hm : f_Records_isUsed N X x0 x1 = some r) : zM l G y_Records_isUsed w_Records_isUsed 2 44 X [.ref x0, .int x1] (some (.int r)) X 0 0 := by
  refine zr_ofW (by decide) (by exact Nat.le_of_ble_eq_true rfl) ?_
  intro p e s m args below meth c ls hx hb hml hr hts hown hin hlocks hk hX hl
  have hS : va_S (zh_A G) s.heap s.heap [] := va_S.rf
  have hl : lv_has ls 2 [(0, .ref x0), (1, .int x1)] := hl
  have hown : s.vm.findClass R_Records = some m.cls := hown
  unfold f_Records_isUsed at hm
  refine lv_aload_n hx hb d_Records_isUsed_0 rfl (lv_at hl 0 rfl) ?_
  refine lv_iload_n hx hb d_Records_isUsed_1 rfl (lv_at hl 1 rfl) ?_
  refine lv_iconst (v := 2) hx hb d_Records_isUsed_2 (by decide) ?_
  replace hm := zb1_s hm
  obtain ⟨_, h2, hm⟩ := hm
  replace hm := zb1_s hm
  obtain ⟨v3, h1, hm⟩ := hm
  refine zr_calli (zr_runV (As := [.int x1, .int 2]) (rest := []) (n := 2) hx hb hml hown hts hk hX (c_Records_valuesOf l G N X x0 x1 2 v3 h1) (hts _ tW23) tW24 (hts _ tW11) (hts _ tW25) (hts _ tW26) rfl h2 (by decide +kernel) ⟨Nat.le_of_ble_eq_true rfl, Nat.le_of_ble_eq_true rfl⟩ rfl rfl hl.1 rfl (lv_room (Nat.le_of_ble_eq_true rfl)) d_Records_isUsed_3 ⟨(Nat.le_of_ble_eq_true rfl), (Nat.le_of_ble_eq_true rfl)⟩) hS (fun H locs hX hS => ?_)
  refine lv_if_ne (tgt := 17) hx hb d_Records_isUsed_6 rfl (fun h4 => ?_) (fun h4 => ?_)
  · replace hm := zi_f h4 hm
    refine lv_iconst (v := 1) hx hb d_Records_isUsed_17 (by decide) ?_
    refine lv_goto (tgt := 22) hx hb d_Records_isUsed_18 rfl ?_
    cases hm
    exact W.zret hx hb hr (by decide) (fun t ht hW => zh_end hk hX hS ht hW) hS.2.2 d_Records_isUsed_22
  · replace hm := zi_t h4 hm
    refine lv_aload_n hx hb d_Records_isUsed_9 rfl (lv_at hl 0 rfl) ?_
    refine lv_iload_n hx hb d_Records_isUsed_10 rfl (lv_at hl 1 rfl) ?_
    replace hm := zb1_s hm
    obtain ⟨_, h6, hm⟩ := hm
    replace hm := zb1_s hm
    obtain ⟨v7, h5, hm⟩ := hm
    refine zr_calli (zr_runV (As := [.int x1]) (rest := []) (n := 1) hx hb hml hown hts hk hX (c_Records_hasOtherThanAlias l G N X x0 x1 v7 h5) (hts _ tW283) tW284 (hts _ tW11) (hts _ tW285) (hts _ tW286) rfl h6 (by decide +kernel) ⟨Nat.le_of_ble_eq_true rfl, Nat.le_of_ble_eq_true rfl⟩ rfl rfl hl.1 rfl (lv_room (Nat.le_of_ble_eq_true rfl)) d_Records_isUsed_11 ⟨(Nat.le_of_ble_eq_true rfl), (Nat.le_of_ble_eq_true rfl)⟩) hS (fun H locs hX hS => ?_)
    refine lv_if_eq (tgt := 21) hx hb d_Records_isUsed_14 rfl (fun h8 => ?_) (fun h8 => ?_)
    · replace hm := zi_t h8 hm
      refine lv_iconst (v := 0) hx hb d_Records_isUsed_21 (by decide) ?_
      cases hm
      exact W.zret hx hb hr (by decide) (fun t ht hW => zh_end hk hX hS ht hW) hS.2.2 d_Records_isUsed_22
    · replace hm := zi_f h8 hm
      refine lv_iconst (v := 1) hx hb d_Records_isUsed_17 (by decide) ?_
      refine lv_goto (tgt := 22) hx hb d_Records_isUsed_18 rfl ?_
      cases hm
      exact W.zret hx hb hr (by decide) (fun t ht hW => zh_end hk hX hS ht hW) hS.2.2 d_Records_isUsed_22
set_option maxHeartbeats 4000000 in
set_option maxRecDepth 100000 in
theorem c_Integer_bitCount (l : Launch) (G : zh_G) (N : Nat) (X : zh_T) (x0 : Int32) (r : Int32) (hm : f_Integer_bitCount N X x0 = some r) : zM l G y_Integer_bitCount w_Integer_bitCount 0 0 X [.int x0] (some (.int r)) X 0 0 := by
  refine zr_ofW (by decide) (by exact Nat.le_of_ble_eq_true rfl) ?_
  intro p e s m args below meth c ls hx hb hml hr hts hown hin hlocks hk hX hl
  have hS : va_S (zh_A G) s.heap s.heap [] := va_S.rf
  have hl : lv_has ls 1 [(0, .int x0)] := hl
  have hown : s.vm.findClass R_Integer = some m.cls := hown
  unfold f_Integer_bitCount at hm
  refine lv_iload_n hx hb d_Integer_bitCount_0 rfl (lv_at hl 0 rfl) ?_
  refine lv_iload_n hx hb d_Integer_bitCount_1 rfl (lv_at hl 0 rfl) ?_
  refine lv_iconst (v := 1) hx hb d_Integer_bitCount_2 (by decide) ?_
  refine lv_iushr (v := zi_ushr x0 1) hx hb d_Integer_bitCount_3 rfl ?_
  refine lv_ldcw (v := 1431655765) hx hb hown (hts _ tW287) d_Integer_bitCount_4 ?_
  refine lv_iand hx hb d_Integer_bitCount_7 ?_
  refine lv_isub hx hb d_Integer_bitCount_8 ?_
  refine lv_istore_n (lv' := [(0, .int (x0 - ((zi_ushr x0 1) &&& 1431655765)))]) hx hb d_Integer_bitCount_9 rfl hl (by decide) rfl (fun ls hl => ?_)
  refine lv_iload_n hx hb d_Integer_bitCount_10 rfl (lv_at hl 0 rfl) ?_
  refine lv_ldcw (v := 858993459) hx hb hown (hts _ tW288) d_Integer_bitCount_11 ?_
  refine lv_iand hx hb d_Integer_bitCount_14 ?_
  refine lv_iload_n hx hb d_Integer_bitCount_15 rfl (lv_at hl 0 rfl) ?_
  refine lv_iconst (v := 2) hx hb d_Integer_bitCount_16 (by decide) ?_
  refine lv_iushr (v := zi_ushr (x0 - ((zi_ushr x0 1) &&& 1431655765)) 2) hx hb d_Integer_bitCount_17 rfl ?_
  refine lv_ldcw (v := 858993459) hx hb hown (hts _ tW288) d_Integer_bitCount_18 ?_
  refine lv_iand hx hb d_Integer_bitCount_21 ?_
  refine lv_iadd hx hb d_Integer_bitCount_22 ?_
  refine lv_istore_n (lv' := [(0, .int (((x0 - ((zi_ushr x0 1) &&& 1431655765)) &&& 858993459) + ((zi_ushr (x0 - ((zi_ushr x0 1) &&& 1431655765)) 2) &&& 858993459)))]) hx hb d_Integer_bitCount_23 rfl hl (by decide) rfl (fun ls hl => ?_)
  refine lv_iload_n hx hb d_Integer_bitCount_24 rfl (lv_at hl 0 rfl) ?_
  refine lv_iload_n hx hb d_Integer_bitCount_25 rfl (lv_at hl 0 rfl) ?_
  refine lv_iconst (v := 4) hx hb d_Integer_bitCount_26 (by decide) ?_
  refine lv_iushr (v := zi_ushr (((x0 - ((zi_ushr x0 1) &&& 1431655765)) &&& 858993459) + ((zi_ushr (x0 - ((zi_ushr x0 1) &&& 1431655765)) 2) &&& 858993459)) 4) hx hb d_Integer_bitCount_27 rfl ?_
  refine lv_iadd hx hb d_Integer_bitCount_28 ?_
  refine lv_ldcw (v := 252645135) hx hb hown (hts _ tW289) d_Integer_bitCount_29 ?_
  refine lv_iand hx hb d_Integer_bitCount_32 ?_
  refine lv_istore_n (lv' := [(0, .int (((((x0 - ((zi_ushr x0 1) &&& 1431655765)) &&& 858993459) + ((zi_ushr (x0 - ((zi_ushr x0 1) &&& 1431655765)) 2) &&& 858993459)) + (zi_ushr (((x0 - ((zi_ushr x0 1) &&& 1431655765)) &&& 858993459) + ((zi_ushr (x0 - ((zi_ushr x0 1) &&& 1431655765)) 2) &&& 858993459)) 4)) &&& 252645135))]) hx hb d_Integer_bitCount_33 rfl hl (by decide) rfl (fun ls hl => ?_)
  refine lv_iload_n hx hb d_Integer_bitCount_34 rfl (lv_at hl 0 rfl) ?_
  refine lv_iload_n hx hb d_Integer_bitCount_35 rfl (lv_at hl 0 rfl) ?_
  refine lv_bipush (v := 8) hx hb d_Integer_bitCount_36 (by decide) ?_
  refine lv_iushr (v := zi_ushr (((((x0 - ((zi_ushr x0 1) &&& 1431655765)) &&& 858993459) + ((zi_ushr (x0 - ((zi_ushr x0 1) &&& 1431655765)) 2) &&& 858993459)) + (zi_ushr (((x0 - ((zi_ushr x0 1) &&& 1431655765)) &&& 858993459) + ((zi_ushr (x0 - ((zi_ushr x0 1) &&& 1431655765)) 2) &&& 858993459)) 4)) &&& 252645135) 8) hx hb d_Integer_bitCount_38 rfl ?_
  refine lv_iadd hx hb d_Integer_bitCount_39 ?_
  refine lv_istore_n (lv' := [(0, .int ((((((x0 - ((zi_ushr x0 1) &&& 1431655765)) &&& 858993459) + ((zi_ushr (x0 - ((zi_ushr x0 1) &&& 1431655765)) 2) &&& 858993459)) + (zi_ushr (((x0 - ((zi_ushr x0 1) &&& 1431655765)) &&& 858993459) + ((zi_ushr (x0 - ((zi_ushr x0 1) &&& 1431655765)) 2) &&& 858993459)) 4)) &&& 252645135) + (zi_ushr (((((x0 - ((zi_ushr x0 1) &&& 1431655765)) &&& 858993459) + ((zi_ushr (x0 - ((zi_ushr x0 1) &&& 1431655765)) 2) &&& 858993459)) + (zi_ushr (((x0 - ((zi_ushr x0 1) &&& 1431655765)) &&& 858993459) + ((zi_ushr (x0 - ((zi_ushr x0 1) &&& 1431655765)) 2) &&& 858993459)) 4)) &&& 252645135) 8)))]) hx hb d_Integer_bitCount_40 rfl hl (by decide) rfl (fun ls hl => ?_)
  refine lv_iload_n hx hb d_Integer_bitCount_41 rfl (lv_at hl 0 rfl) ?_
  refine lv_iload_n hx hb d_Integer_bitCount_42 rfl (lv_at hl 0 rfl) ?_
  refine lv_bipush (v := 16) hx hb d_Integer_bitCount_43 (by decide) ?_
  refine lv_iushr (v := zi_ushr ((((((x0 - ((zi_ushr x0 1) &&& 1431655765)) &&& 858993459) + ((zi_ushr (x0 - ((zi_ushr x0 1) &&& 1431655765)) 2) &&& 858993459)) + (zi_ushr (((x0 - ((zi_ushr x0 1) &&& 1431655765)) &&& 858993459) + ((zi_ushr (x0 - ((zi_ushr x0 1) &&& 1431655765)) 2) &&& 858993459)) 4)) &&& 252645135) + (zi_ushr (((((x0 - ((zi_ushr x0 1) &&& 1431655765)) &&& 858993459) + ((zi_ushr (x0 - ((zi_ushr x0 1) &&& 1431655765)) 2) &&& 858993459)) + (zi_ushr (((x0 - ((zi_ushr x0 1) &&& 1431655765)) &&& 858993459) + ((zi_ushr (x0 - ((zi_ushr x0 1) &&& 1431655765)) 2) &&& 858993459)) 4)) &&& 252645135) 8)) 16) hx hb d_Integer_bitCount_45 rfl ?_
  refine lv_iadd hx hb d_Integer_bitCount_46 ?_
  refine lv_istore_n (lv' := [(0, .int (((((((x0 - ((zi_ushr x0 1) &&& 1431655765)) &&& 858993459) + ((zi_ushr (x0 - ((zi_ushr x0 1) &&& 1431655765)) 2) &&& 858993459)) + (zi_ushr (((x0 - ((zi_ushr x0 1) &&& 1431655765)) &&& 858993459) + ((zi_ushr (x0 - ((zi_ushr x0 1) &&& 1431655765)) 2) &&& 858993459)) 4)) &&& 252645135) + (zi_ushr (((((x0 - ((zi_ushr x0 1) &&& 1431655765)) &&& 858993459) + ((zi_ushr (x0 - ((zi_ushr x0 1) &&& 1431655765)) 2) &&& 858993459)) + (zi_ushr (((x0 - ((zi_ushr x0 1) &&& 1431655765)) &&& 858993459) + ((zi_ushr (x0 - ((zi_ushr x0 1) &&& 1431655765)) 2) &&& 858993459)) 4)) &&& 252645135) 8)) + (zi_ushr ((((((x0 - ((zi_ushr x0 1) &&& 1431655765)) &&& 858993459) + ((zi_ushr (x0 - ((zi_ushr x0 1) &&& 1431655765)) 2) &&& 858993459)) + (zi_ushr (((x0 - ((zi_ushr x0 1) &&& 1431655765)) &&& 858993459) + ((zi_ushr (x0 - ((zi_ushr x0 1) &&& 1431655765)) 2) &&& 858993459)) 4)) &&& 252645135) + (zi_ushr (((((x0 - ((zi_ushr x0 1) &&& 1431655765)) &&& 858993459) + ((zi_ushr (x0 - ((zi_ushr x0 1) &&& 1431655765)) 2) &&& 858993459)) + (zi_ushr (((x0 - ((zi_ushr x0 1) &&& 1431655765)) &&& 858993459) + ((zi_ushr (x0 - ((zi_ushr x0 1) &&& 1431655765)) 2) &&& 858993459)) 4)) &&& 252645135) 8)) 16)))]) hx hb d_Integer_bitCount_47 rfl hl (by decide) rfl (fun ls hl => ?_)
  refine lv_iload_n hx hb d_Integer_bitCount_48 rfl (lv_at hl 0 rfl) ?_
  refine lv_bipush (v := 63) hx hb d_Integer_bitCount_49 (by decide) ?_
  refine lv_iand hx hb d_Integer_bitCount_51 ?_
  cases hm
  exact W.iret hx hb hr (fun t ht hW => zh_end hk hX hS ht hW) hS.2.2 d_Integer_bitCount_52
set_option maxHeartbeats 4000000 in
set_option maxRecDepth 100000 in
theorem c_ZoneNodes_lookUp (l : Launch) (G : zh_G) (N : Nat) (X : zh_T) (x0 : Nat) (x1 : Int32) (x2 : Int32) (r : Int32) (hm : f_ZoneNodes_lookUp N X x0 x1 x2 = some r) : zM l G y_ZoneNodes_lookUp w_ZoneNodes_lookUp 3 67 X [.ref x0, .int x1, .int x2] (some (.int r)) X 0 0 := by
  refine zr_ofW (by decide) (by exact Nat.le_of_ble_eq_true rfl) ?_
  intro p e s m args below meth c ls hx hb hml hr hts hown hin hlocks hk hX hl
  have hS : va_S (zh_A G) s.heap s.heap [] := va_S.rf
  have hl : lv_has ls 6 [(0, .ref x0), (1, .int x1), (2, .int x2)] := hl
  have hown : s.vm.findClass R_ZoneNodes = some m.cls := hown
  unfold f_ZoneNodes_lookUp at hm
  have hL5 : ∀ (n : Nat) (X : zh_T) (w0 : Nat) (w2 : Int32) (w3 : Int32) (w4 : Int32) (o : (Int32 ⊕ Unit)) (H : Heap) (locs : List Loc) (ls : Array Slot), L_ZoneNodes_lookUp_5 N X w0 w2 n w3 w4 = some o → zh_w G X H → va_S (zh_A G) s.heap H locs → lv_has ls 6 [(0, .ref w0), (2, .int w2), (3, .int w3), (4, .int w4)] → (∀ r0 : Int32, o = Sum.inl r0 → r0 = r) → (∀ v : Unit, o = Sum.inr v → ∀ (H : Heap) (locs : List Loc) (ls : Array Slot), zh_w G X H → va_S (zh_A G) s.heap H locs → lv_has ls 6 [] → W p l e { frames := 3, cells := 0, slots := 0, locals := 67 } s m args below meth c H locs 0 0 (MQ below (zh_Q G (some (.int r)) X) args s 0 0 (zh_A G)) (F0 m 66 ls [])) → W p l e { frames := 3, cells := 0, slots := 0, locals := 67 } s m args below meth c H locs 0 0 (MQ below (zh_Q G (some (.int r)) X) args s 0 0 (zh_A G)) (F0 m 5 ls []) := by
    intro n
    induction n with
    | zero =>
      intro X w0 w2 w3 w4 o H locs ls hm hX hS hl hret hexit
      rw [L_ZoneNodes_lookUp_5] at hm
      cases hm
    | succ n ih =>
      intro X w0 w2 w3 w4 o H locs ls hm hX hS hl hret hexit
      rw [L_ZoneNodes_lookUp_5] at hm
      refine lv_iload hx hb d_ZoneNodes_lookUp_5 (lv_at hl 3 rfl) ?_
      refine lv_bipush (v := 8) hx hb d_ZoneNodes_lookUp_7 (by decide) ?_
      refine lv_icmp_gt (tgt := 66) hx hb d_ZoneNodes_lookUp_9 rfl (fun h1 => ?_) (fun h1 => ?_)
      · replace hm := zi_t h1 hm
        exact hexit _ (Option.some.inj hm).symm _ _ _ hX hS (lv_sub hl [] rfl)
      · replace hm := zi_f h1 hm
        refine lv_iload_n hx hb d_ZoneNodes_lookUp_12 rfl (lv_at hl 1 rfl) ?_
        refine lv_iconst (v := 2) hx hb d_ZoneNodes_lookUp_13 (by decide) ?_
        refine lv_icmp_ne (tgt := 21) hx hb d_ZoneNodes_lookUp_14 rfl (fun h2 => ?_) (fun h2 => ?_)
        · replace hm := zi_f h2 hm
          refine lv_aload_n hx hb d_ZoneNodes_lookUp_21 rfl (lv_at hl 0 rfl) ?_
          refine lv_iload_n hx hb d_ZoneNodes_lookUp_22 rfl (lv_at hl 2 rfl) ?_
          replace hm := zb1_s hm
          obtain ⟨_, h4, hm⟩ := hm
          replace hm := zb1_s hm
          obtain ⟨v5, h3, hm⟩ := hm
          refine zr_calli (zr_runV (As := [.int w3]) (rest := []) (n := 1) hx hb hml hown hts hk hX (c_Records_aliasOf l G N X w0 w3 v5 h3) (hts _ tW290) tW291 (hts _ tW11) (hts _ tW292) (hts _ tW293) rfl h4 (by decide +kernel) ⟨Nat.le_of_ble_eq_true rfl, Nat.le_of_ble_eq_true rfl⟩ rfl rfl hl.1 rfl (lv_room (Nat.le_of_ble_eq_true rfl)) d_ZoneNodes_lookUp_23 ⟨(Nat.le_of_ble_eq_true rfl), (Nat.le_of_ble_eq_true rfl)⟩) hS (fun H locs hX hS => ?_)
          refine lv_istore (lv' := [(5, .int v5), (0, .ref w0), (2, .int w2), (3, .int w3), (4, .int w4)]) hx hb d_ZoneNodes_lookUp_26 hl (by decide) rfl (fun ls hl => ?_)
          refine lv_iload hx hb d_ZoneNodes_lookUp_28 (lv_at hl 0 rfl) ?_
          refine lv_if_ge (tgt := 57) hx hb d_ZoneNodes_lookUp_30 rfl (fun h6 => ?_) (fun h6 => ?_)
          · replace hm := zi_t h6 hm
            refine lv_iload hx hb d_ZoneNodes_lookUp_57 (lv_at hl 0 rfl) ?_
            refine lv_istore_n (lv' := [(3, .int v5), (5, .int v5), (0, .ref w0), (2, .int w2), (4, .int w4)]) hx hb d_ZoneNodes_lookUp_59 rfl hl (by decide) rfl (fun ls hl => ?_)
            refine lv_iinc (v := w4 + 1) (lv' := [(4, .int (w4 + 1)), (3, .int v5), (5, .int v5), (0, .ref w0), (2, .int w2)]) hx hb d_ZoneNodes_lookUp_60 hl (k := 4) rfl (by rw [show Int32.ofInt 1 = 1 by decide]) (by decide) rfl (fun ls hl => ?_)
            refine lv_goto (tgt := 5) hx hb d_ZoneNodes_lookUp_63 rfl ?_
            exact ih X w0 w2 v5 (w4 + 1) o _ _ _ hm hX hS (lv_sub hl [3, 4, 1, 0] rfl) hret hexit
          · replace hm := zi_f h6 hm
            refine lv_aload_n hx hb d_ZoneNodes_lookUp_33 rfl (lv_at hl 1 rfl) ?_
            refine lv_iload_n hx hb d_ZoneNodes_lookUp_34 rfl (lv_at hl 3 rfl) ?_
            replace hm := zb1_s hm
            obtain ⟨_, h8, hm⟩ := hm
            replace hm := zb1_s hm
            obtain ⟨v9, h7, hm⟩ := hm
            refine zr_calli (zr_runV (As := [.int w3]) (rest := []) (n := 1) hx hb hml hown hts hk hX (c_Records_isUsed l G N X w0 w3 v9 h7) (hts _ tW294) tW295 (hts _ tW11) (hts _ tW296) (hts _ tW297) rfl h8 (by decide +kernel) ⟨Nat.le_of_ble_eq_true rfl, Nat.le_of_ble_eq_true rfl⟩ rfl rfl hl.1 rfl (lv_room (Nat.le_of_ble_eq_true rfl)) d_ZoneNodes_lookUp_35 ⟨(Nat.le_of_ble_eq_true rfl), (Nat.le_of_ble_eq_true rfl)⟩) hS (fun H locs hX hS => ?_)
            refine lv_if_eq (tgt := 53) hx hb d_ZoneNodes_lookUp_38 rfl (fun h10 => ?_) (fun h10 => ?_)
            · replace hm := zi_t h10 hm
              refine lv_sipush (v := 300) hx hb d_ZoneNodes_lookUp_53 (by decide) ?_
              obtain rfl := hret _ (Option.some.inj hm).symm
              exact W.iret hx hb hr (fun t ht hW => zh_end hk hX hS ht hW) hS.2.2 d_ZoneNodes_lookUp_56
            · replace hm := zi_f h10 hm
              refine lv_aload_n hx hb d_ZoneNodes_lookUp_41 rfl (lv_at hl 1 rfl) ?_
              refine lv_iload_n hx hb d_ZoneNodes_lookUp_42 rfl (lv_at hl 3 rfl) ?_
              refine lv_iload_n hx hb d_ZoneNodes_lookUp_43 rfl (lv_at hl 2 rfl) ?_
              replace hm := zb1_s hm
              obtain ⟨_, h12, hm⟩ := hm
              replace hm := zb1_s hm
              obtain ⟨v13, h11, hm⟩ := hm
              refine zr_calli (zr_runV (As := [.int w3, .int w2]) (rest := []) (n := 2) hx hb hml hown hts hk hX (c_Records_valuesOf l G N X w0 w3 w2 v13 h11) (hts _ tW298) tW24 (hts _ tW11) (hts _ tW25) (hts _ tW26) rfl h12 (by decide +kernel) ⟨Nat.le_of_ble_eq_true rfl, Nat.le_of_ble_eq_true rfl⟩ rfl rfl hl.1 rfl (lv_room (Nat.le_of_ble_eq_true rfl)) d_ZoneNodes_lookUp_44 ⟨(Nat.le_of_ble_eq_true rfl), (Nat.le_of_ble_eq_true rfl)⟩) hS (fun H locs hX hS => ?_)
              replace hm := zb1_s hm
              obtain ⟨v15, h14, hm⟩ := hm
              refine zr_calli (zr_runS (As := [.int v13]) (rest := []) (n := 1) hx hb hml hown hts hk hX (c_Integer_bitCount l G N X v13 v15 h14) (hts _ tW299) tW300 (hts _ tW301) (hts _ tW302) (by decide +kernel) ⟨Nat.le_of_ble_eq_true rfl, Nat.le_of_ble_eq_true rfl⟩ rfl rfl hl.1 rfl (lv_room (Nat.le_of_ble_eq_true rfl)) d_ZoneNodes_lookUp_47 ⟨(Nat.le_of_ble_eq_true rfl), (Nat.le_of_ble_eq_true rfl)⟩) hS (fun H locs hX hS => ?_)
              refine lv_goto (tgt := 56) hx hb d_ZoneNodes_lookUp_50 rfl ?_
              obtain rfl := hret _ (Option.some.inj hm).symm
              exact W.iret hx hb hr (fun t ht hW => zh_end hk hX hS ht hW) hS.2.2 d_ZoneNodes_lookUp_56
        · replace hm := zi_t h2 hm
          refine lv_iconst (v := (-1)) hx hb d_ZoneNodes_lookUp_17 (by decide) ?_
          refine lv_goto (tgt := 26) hx hb d_ZoneNodes_lookUp_18 rfl ?_
          refine lv_istore (lv' := [(5, .int (-1)), (0, .ref w0), (2, .int w2), (3, .int w3), (4, .int w4)]) hx hb d_ZoneNodes_lookUp_26 hl (by decide) rfl (fun ls hl => ?_)
          refine lv_iload hx hb d_ZoneNodes_lookUp_28 (lv_at hl 0 rfl) ?_
          refine lv_if_ge (tgt := 57) hx hb d_ZoneNodes_lookUp_30 rfl (fun h => absurd h (by decide)) (fun _ => ?_)
          refine lv_aload_n hx hb d_ZoneNodes_lookUp_33 rfl (lv_at hl 1 rfl) ?_
          refine lv_iload_n hx hb d_ZoneNodes_lookUp_34 rfl (lv_at hl 3 rfl) ?_
          replace hm := zb1_s hm
          obtain ⟨_, h17, hm⟩ := hm
          replace hm := zb1_s hm
          obtain ⟨v18, h16, hm⟩ := hm
          refine zr_calli (zr_runV (As := [.int w3]) (rest := []) (n := 1) hx hb hml hown hts hk hX (c_Records_isUsed l G N X w0 w3 v18 h16) (hts _ tW294) tW295 (hts _ tW11) (hts _ tW296) (hts _ tW297) rfl h17 (by decide +kernel) ⟨Nat.le_of_ble_eq_true rfl, Nat.le_of_ble_eq_true rfl⟩ rfl rfl hl.1 rfl (lv_room (Nat.le_of_ble_eq_true rfl)) d_ZoneNodes_lookUp_35 ⟨(Nat.le_of_ble_eq_true rfl), (Nat.le_of_ble_eq_true rfl)⟩) hS (fun H locs hX hS => ?_)
          refine lv_if_eq (tgt := 53) hx hb d_ZoneNodes_lookUp_38 rfl (fun h19 => ?_) (fun h19 => ?_)
          · replace hm := zi_t h19 hm
            refine lv_sipush (v := 300) hx hb d_ZoneNodes_lookUp_53 (by decide) ?_
            obtain rfl := hret _ (Option.some.inj hm).symm
            exact W.iret hx hb hr (fun t ht hW => zh_end hk hX hS ht hW) hS.2.2 d_ZoneNodes_lookUp_56
          · replace hm := zi_f h19 hm
            refine lv_aload_n hx hb d_ZoneNodes_lookUp_41 rfl (lv_at hl 1 rfl) ?_
            refine lv_iload_n hx hb d_ZoneNodes_lookUp_42 rfl (lv_at hl 3 rfl) ?_
            refine lv_iload_n hx hb d_ZoneNodes_lookUp_43 rfl (lv_at hl 2 rfl) ?_
            replace hm := zb1_s hm
            obtain ⟨_, h21, hm⟩ := hm
            replace hm := zb1_s hm
            obtain ⟨v22, h20, hm⟩ := hm
            refine zr_calli (zr_runV (As := [.int w3, .int w2]) (rest := []) (n := 2) hx hb hml hown hts hk hX (c_Records_valuesOf l G N X w0 w3 w2 v22 h20) (hts _ tW298) tW24 (hts _ tW11) (hts _ tW25) (hts _ tW26) rfl h21 (by decide +kernel) ⟨Nat.le_of_ble_eq_true rfl, Nat.le_of_ble_eq_true rfl⟩ rfl rfl hl.1 rfl (lv_room (Nat.le_of_ble_eq_true rfl)) d_ZoneNodes_lookUp_44 ⟨(Nat.le_of_ble_eq_true rfl), (Nat.le_of_ble_eq_true rfl)⟩) hS (fun H locs hX hS => ?_)
            replace hm := zb1_s hm
            obtain ⟨v24, h23, hm⟩ := hm
            refine zr_calli (zr_runS (As := [.int v22]) (rest := []) (n := 1) hx hb hml hown hts hk hX (c_Integer_bitCount l G N X v22 v24 h23) (hts _ tW299) tW300 (hts _ tW301) (hts _ tW302) (by decide +kernel) ⟨Nat.le_of_ble_eq_true rfl, Nat.le_of_ble_eq_true rfl⟩ rfl rfl hl.1 rfl (lv_room (Nat.le_of_ble_eq_true rfl)) d_ZoneNodes_lookUp_47 ⟨(Nat.le_of_ble_eq_true rfl), (Nat.le_of_ble_eq_true rfl)⟩) hS (fun H locs hX hS => ?_)
            refine lv_goto (tgt := 56) hx hb d_ZoneNodes_lookUp_50 rfl ?_
            obtain rfl := hret _ (Option.some.inj hm).symm
            exact W.iret hx hb hr (fun t ht hW => zh_end hk hX hS ht hW) hS.2.2 d_ZoneNodes_lookUp_56
  refine lv_iload_n hx hb d_ZoneNodes_lookUp_0 rfl (lv_at hl 1 rfl) ?_
  refine lv_istore_n (lv' := [(3, .int x1), (0, .ref x0), (1, .int x1), (2, .int x2)]) hx hb d_ZoneNodes_lookUp_1 rfl hl (by decide) rfl (fun ls hl => ?_)
  refine lv_iconst (v := 0) hx hb d_ZoneNodes_lookUp_2 (by decide) ?_
  refine lv_istore (lv' := [(4, .int 0), (3, .int x1), (0, .ref x0), (1, .int x1), (2, .int x2)]) hx hb d_ZoneNodes_lookUp_3 hl (by decide) rfl (fun ls hl => ?_)
  replace hm := zbs_s hm
  obtain ⟨o27, h26, hm⟩ := hm
  refine hL5 N X x0 x2 x1 0 o27 _ _ _ h26 hX hS (lv_sub hl [2, 4, 1, 0] rfl) (fun r0 e0 => ?_) (fun v25 e0 H locs ls hX hS hl => ?_)
  · subst e0
    replace hm := zs_l hm
    exact Option.some.inj hm
  · subst e0
    replace hm := zs_r hm
    refine lv_sipush (v := 200) hx hb d_ZoneNodes_lookUp_66 (by decide) ?_
    cases hm
    exact W.iret hx hb hr (fun t ht hW => zh_end hk hX hS ht hW) hS.2.2 d_ZoneNodes_lookUp_69
set_option maxHeartbeats 4000000 in
set_option maxRecDepth 100000 in
theorem c_ZoneNodes_notifySecondaries (l : Launch) (G : zh_G) (N : Nat) (X : zh_T) (x0 : Nat) (r : Unit) (X' : zh_T) (hm : f_ZoneNodes_notifySecondaries N X x0 = some (r, X')) : zM l G y_ZoneNodes_notifySecondaries w_ZoneNodes_notifySecondaries 3 65 X [.ref x0] none X' 0 0 := by
  refine zr_ofW (by decide) (by exact Nat.le_of_ble_eq_true rfl) ?_
  intro p e s m args below meth c ls hx hb hml hr hts hown hin hlocks hk hX hl
  have hS : va_S (zh_A G) s.heap s.heap [] := va_S.rf
  have hl : lv_has ls 2 [(0, .ref x0)] := hl
  have hown : s.vm.findClass R_ZoneNodes = some m.cls := hown
  unfold f_ZoneNodes_notifySecondaries at hm
  have hL2 : ∀ (n : Nat) (X : zh_T) (w0 : Nat) (w1 : Int32) (v : Unit) (X1 : zh_T) (H : Heap) (locs : List Loc) (ls : Array Slot), L_ZoneNodes_notifySecondaries_2 N w0 n X w1 = some (v, X1) → zh_w G X H → va_S (zh_A G) s.heap H locs → lv_has ls 2 [(0, .ref w0), (1, .int w1)] → (∀ (H : Heap) (locs : List Loc) (ls : Array Slot), zh_w G X1 H → va_S (zh_A G) s.heap H locs → lv_has ls 2 [] → W p l e { frames := 3, cells := 0, slots := 0, locals := 65 } s m args below meth c H locs 0 0 (MQ below (zh_Q G none X') args s 0 0 (zh_A G)) (F0 m 29 ls [])) → W p l e { frames := 3, cells := 0, slots := 0, locals := 65 } s m args below meth c H locs 0 0 (MQ below (zh_Q G none X') args s 0 0 (zh_A G)) (F0 m 2 ls []) := by
    intro n
    induction n with
    | zero =>
      intro X w0 w1 v X1 H locs ls hm hX hS hl hexit
      rw [L_ZoneNodes_notifySecondaries_2] at hm
      cases hm
    | succ n ih =>
      intro X w0 w1 v X1 H locs ls hm hX hS hl hexit
      rw [L_ZoneNodes_notifySecondaries_2] at hm
      refine lv_iload_n hx hb d_ZoneNodes_notifySecondaries_2 rfl (lv_at hl 1 rfl) ?_
      refine lv_iconst (v := 2) hx hb d_ZoneNodes_notifySecondaries_3 (by decide) ?_
      refine lv_icmp_gt (tgt := 29) hx hb d_ZoneNodes_notifySecondaries_4 rfl (fun h1 => ?_) (fun h1 => ?_)
      · replace hm := zi_t h1 hm
        cases hm
        exact hexit _ _ _ hX hS (lv_sub hl [] rfl)
      · replace hm := zi_f h1 hm
        refine lv_aload_n hx hb d_ZoneNodes_notifySecondaries_7 rfl (lv_at hl 0 rfl) ?_
        replace hm := zb1_s hm
        obtain ⟨a3, h2, hm⟩ := hm
        refine zr_get (ci := 8) (C := R_ZoneNodes) (T := F_ZoneNodes) (N := 7) hx hb hts in_ZoneNodes hown hk hX rfl 3 (by decide) (hts _ tW95) rfl (zgr_v h2) d_ZoneNodes_notifySecondaries_8 ?_
        refine lv_iconst (v := 1) hx hb d_ZoneNodes_notifySecondaries_11 (by decide) ?_
        refine lv_iload_n hx hb d_ZoneNodes_notifySecondaries_12 rfl (lv_at hl 1 rfl) ?_
        refine lv_aload_n hx hb d_ZoneNodes_notifySecondaries_13 rfl (lv_at hl 0 rfl) ?_
        replace hm := zb1_s hm
        obtain ⟨a5, h4, hm⟩ := hm
        refine zr_get (ci := 8) (C := R_ZoneNodes) (T := F_ZoneNodes) (N := 7) hx hb hts in_ZoneNodes hown hk hX rfl 4 (by decide) (hts _ tW108) rfl (zgr_v h4) d_ZoneNodes_notifySecondaries_14 ?_
        replace hm := zb1_s hm
        obtain ⟨v7, h6, hm⟩ := hm
        refine zr_getN (ci := 4) (C := R_Primary) (T := F_Primary) (N := 9) hx hb hts in_Primary hown hk hX rfl 6 (by decide) rfl rfl (nF25 hk) rfl (zgi_v h6) d_ZoneNodes_notifySecondaries_17 ?_
        replace hm := zb1_s hm
        obtain ⟨_, h9, hm⟩ := hm
        replace hm := zb2_s hm
        obtain ⟨v10, X11, h8, hm⟩ := hm
        refine zr_callv (zr_runV (As := [.int 1, .int w1, .int v7]) (rest := []) (n := 3) hx hb hml hown hts hk hX (c_Wire_sendLossy l G N X a3 1 w1 v7 v10 X11 h8) (hts _ tW160) tW161 (hts _ tW91) (hts _ tW162) (hts _ tW163) rfl h9 (by decide +kernel) ⟨Nat.le_of_ble_eq_true rfl, Nat.le_of_ble_eq_true rfl⟩ rfl rfl hl.1 rfl (lv_room (Nat.le_of_ble_eq_true rfl)) d_ZoneNodes_notifySecondaries_20 ⟨(Nat.le_of_ble_eq_true rfl), (Nat.le_of_ble_eq_true rfl)⟩) hS (fun H locs hX hS => ?_)
        refine lv_iinc (v := w1 + 1) (lv' := [(1, .int (w1 + 1)), (0, .ref w0)]) hx hb d_ZoneNodes_notifySecondaries_23 hl (k := 1) rfl (by rw [show Int32.ofInt 1 = 1 by decide]) (by decide) rfl (fun ls hl => ?_)
        refine lv_goto (tgt := 2) hx hb d_ZoneNodes_notifySecondaries_26 rfl ?_
        exact ih X11 w0 (w1 + 1) v X1 _ _ _ hm hX hS (lv_sub hl [1, 0] rfl) hexit
  refine lv_iconst (v := 1) hx hb d_ZoneNodes_notifySecondaries_0 (by decide) ?_
  refine lv_istore_n (lv' := [(1, .int 1), (0, .ref x0)]) hx hb d_ZoneNodes_notifySecondaries_1 rfl hl (by decide) rfl (fun ls hl => ?_)
  replace hm := zb2_s hm
  obtain ⟨v12, X14, h13, hm⟩ := hm
  refine hL2 N X x0 1 v12 X14 _ _ _ h13 hX hS (lv_sub hl [1, 0] rfl) (fun H locs ls hX hS hl => ?_)
  cases hm
  exact W.vret hx hb hr (fun t ht hW => zh_end hk hX hS ht hW) hS.2.2 d_ZoneNodes_notifySecondaries_29
set_option maxHeartbeats 4000000 in
set_option maxRecDepth 100000 in
theorem c_Records_addIfAllowed (l : Launch) (G : zh_G) (N : Nat) (X : zh_T) (x0 : Nat) (x1 : Int32) (x2 : Int32) (x3 : Int32) (r : Unit) (X' : zh_T) (hm : f_Records_addIfAllowed N X x0 x1 x2 x3 = some (r, X')) : zM l G y_Records_addIfAllowed w_Records_addIfAllowed 2 46 X [.ref x0, .int x1, .int x2, .int x3] none X' 0 0 := by
  refine zr_ofW (by decide) (by exact Nat.le_of_ble_eq_true rfl) ?_
  intro p e s m args below meth c ls hx hb hml hr hts hown hin hlocks hk hX hl
  have hS : va_S (zh_A G) s.heap s.heap [] := va_S.rf
  have hl : lv_has ls 4 [(0, .ref x0), (1, .int x1), (2, .int x2), (3, .int x3)] := hl
  have hown : s.vm.findClass R_Records = some m.cls := hown
  unfold f_Records_addIfAllowed at hm
  refine lv_iload_n hx hb d_Records_addIfAllowed_0 rfl (lv_at hl 2 rfl) ?_
  refine lv_iconst (v := 2) hx hb d_Records_addIfAllowed_1 (by decide) ?_
  refine lv_icmp_eq (tgt := 24) hx hb d_Records_addIfAllowed_2 rfl (fun h1 => ?_) (fun h1 => ?_)
  · replace hm := zi_t h1 hm
    refine lv_iload_n hx hb d_Records_addIfAllowed_24 rfl (lv_at hl 1 rfl) ?_
    refine lv_if_eq (tgt := 45) hx hb d_Records_addIfAllowed_25 rfl (fun h2 => ?_) (fun h2 => ?_)
    · replace hm := zi_t h2 hm
      cases hm
      exact W.vret hx hb hr (fun t ht hW => zh_end hk hX hS ht hW) hS.2.2 d_Records_addIfAllowed_45
    · replace hm := zi_f h2 hm
      refine lv_aload_n hx hb d_Records_addIfAllowed_28 rfl (lv_at hl 0 rfl) ?_
      refine lv_iload_n hx hb d_Records_addIfAllowed_29 rfl (lv_at hl 1 rfl) ?_
      replace hm := zb1_s hm
      obtain ⟨_, h4, hm⟩ := hm
      replace hm := zb1_s hm
      obtain ⟨v5, h3, hm⟩ := hm
      refine zr_calli (zr_runV (As := [.int x1]) (rest := []) (n := 1) hx hb hml hown hts hk hX (c_Records_hasOtherThanAlias l G N X x0 x1 v5 h3) (hts _ tW283) tW284 (hts _ tW11) (hts _ tW285) (hts _ tW286) rfl h4 (by decide +kernel) ⟨Nat.le_of_ble_eq_true rfl, Nat.le_of_ble_eq_true rfl⟩ rfl rfl hl.1 rfl (lv_room (Nat.le_of_ble_eq_true rfl)) d_Records_addIfAllowed_30 ⟨(Nat.le_of_ble_eq_true rfl), (Nat.le_of_ble_eq_true rfl)⟩) hS (fun H locs hX hS => ?_)
      refine lv_if_ne (tgt := 45) hx hb d_Records_addIfAllowed_33 rfl (fun h6 => ?_) (fun h6 => ?_)
      · replace hm := zi_f h6 hm
        cases hm
        exact W.vret hx hb hr (fun t ht hW => zh_end hk hX hS ht hW) hS.2.2 d_Records_addIfAllowed_45
      · replace hm := zi_t h6 hm
        refine lv_aload_n hx hb d_Records_addIfAllowed_36 rfl (lv_at hl 0 rfl) ?_
        refine lv_iload_n hx hb d_Records_addIfAllowed_37 rfl (lv_at hl 1 rfl) ?_
        refine lv_iconst (v := 2) hx hb d_Records_addIfAllowed_38 (by decide) ?_
        refine lv_iconst (v := 1) hx hb d_Records_addIfAllowed_39 (by decide) ?_
        refine lv_iload_n hx hb d_Records_addIfAllowed_40 rfl (lv_at hl 3 rfl) ?_
        refine lv_ishl hx hb d_Records_addIfAllowed_41 ?_
        replace hm := zb1_s hm
        obtain ⟨_, h8, hm⟩ := hm
        replace hm := zb2_s hm
        obtain ⟨v9, X10, h7, hm⟩ := hm
        refine zr_callv (zr_runV (As := [.int x1, .int 2, .int (1 <<< (x3 &&& 31))]) (rest := []) (n := 3) hx hb hml hown hts hk hX (c_Records_setValues l G N X x0 x1 2 (1 <<< (x3 &&& 31)) v9 X10 h7) (hts _ tW27) tW28 (hts _ tW11) (hts _ tW29) (hts _ tW30) rfl h8 (by decide +kernel) ⟨Nat.le_of_ble_eq_true rfl, Nat.le_of_ble_eq_true rfl⟩ rfl rfl hl.1 rfl (lv_room (Nat.le_of_ble_eq_true rfl)) d_Records_addIfAllowed_42 ⟨(Nat.le_of_ble_eq_true rfl), (Nat.le_of_ble_eq_true rfl)⟩) hS (fun H locs hX hS => ?_)
        cases hm
        exact W.vret hx hb hr (fun t ht hW => zh_end hk hX hS ht hW) hS.2.2 d_Records_addIfAllowed_45
  · replace hm := zi_f h1 hm
    refine lv_aload_n hx hb d_Records_addIfAllowed_5 rfl (lv_at hl 0 rfl) ?_
    refine lv_iload_n hx hb d_Records_addIfAllowed_6 rfl (lv_at hl 1 rfl) ?_
    refine lv_iconst (v := 2) hx hb d_Records_addIfAllowed_7 (by decide) ?_
    replace hm := zb1_s hm
    obtain ⟨_, h12, hm⟩ := hm
    replace hm := zb1_s hm
    obtain ⟨v13, h11, hm⟩ := hm
    refine zr_calli (zr_runV (As := [.int x1, .int 2]) (rest := []) (n := 2) hx hb hml hown hts hk hX (c_Records_valuesOf l G N X x0 x1 2 v13 h11) (hts _ tW23) tW24 (hts _ tW11) (hts _ tW25) (hts _ tW26) rfl h12 (by decide +kernel) ⟨Nat.le_of_ble_eq_true rfl, Nat.le_of_ble_eq_true rfl⟩ rfl rfl hl.1 rfl (lv_room (Nat.le_of_ble_eq_true rfl)) d_Records_addIfAllowed_8 ⟨(Nat.le_of_ble_eq_true rfl), (Nat.le_of_ble_eq_true rfl)⟩) hS (fun H locs hX hS => ?_)
    refine lv_if_ne (tgt := 45) hx hb d_Records_addIfAllowed_11 rfl (fun h14 => ?_) (fun h14 => ?_)
    · replace hm := zi_f h14 hm
      cases hm
      exact W.vret hx hb hr (fun t ht hW => zh_end hk hX hS ht hW) hS.2.2 d_Records_addIfAllowed_45
    · replace hm := zi_t h14 hm
      refine lv_aload_n hx hb d_Records_addIfAllowed_14 rfl (lv_at hl 0 rfl) ?_
      refine lv_iload_n hx hb d_Records_addIfAllowed_15 rfl (lv_at hl 1 rfl) ?_
      refine lv_iload_n hx hb d_Records_addIfAllowed_16 rfl (lv_at hl 2 rfl) ?_
      refine lv_iload_n hx hb d_Records_addIfAllowed_17 rfl (lv_at hl 3 rfl) ?_
      replace hm := zb1_s hm
      obtain ⟨_, h16, hm⟩ := hm
      replace hm := zb2_s hm
      obtain ⟨v17, X18, h15, hm⟩ := hm
      refine zr_callv (zr_runV (As := [.int x1, .int x2, .int x3]) (rest := []) (n := 3) hx hb hml hown hts hk hX (c_Records_put l G N X x0 x1 x2 x3 v17 X18 h15) (hts _ tW194) tW46 (hts _ tW11) (hts _ tW47) (hts _ tW48) rfl h16 (by decide +kernel) ⟨Nat.le_of_ble_eq_true rfl, Nat.le_of_ble_eq_true rfl⟩ rfl rfl hl.1 rfl (lv_room (Nat.le_of_ble_eq_true rfl)) d_Records_addIfAllowed_18 ⟨(Nat.le_of_ble_eq_true rfl), (Nat.le_of_ble_eq_true rfl)⟩) hS (fun H locs hX hS => ?_)
      refine lv_goto (tgt := 45) hx hb d_Records_addIfAllowed_21 rfl ?_
      cases hm
      exact W.vret hx hb hr (fun t ht hW => zh_end hk hX hS ht hW) hS.2.2 d_Records_addIfAllowed_45
set_option maxHeartbeats 4000000 in
set_option maxRecDepth 100000 in
theorem c_Records_clearIfAllowed (l : Launch) (G : zh_G) (N : Nat) (X : zh_T) (x0 : Nat) (x1 : Int32) (x2 : Int32) (r : Unit) (X' : zh_T) (hm : f_Records_clearIfAllowed N X x0 x1 x2 = some (r, X')) : zM l G y_Records_clearIfAllowed w_Records_clearIfAllowed 1 23 X [.ref x0, .int x1, .int x2] none X' 0 0 := by
  refine zr_ofW (by decide) (by exact Nat.le_of_ble_eq_true rfl) ?_
  intro p e s m args below meth c ls hx hb hml hr hts hown hin hlocks hk hX hl
  have hS : va_S (zh_A G) s.heap s.heap [] := va_S.rf
  have hl : lv_has ls 3 [(0, .ref x0), (1, .int x1), (2, .int x2)] := hl
  have hown : s.vm.findClass R_Records = some m.cls := hown
  unfold f_Records_clearIfAllowed at hm
  refine lv_iload_n hx hb d_Records_clearIfAllowed_0 rfl (lv_at hl 1 rfl) ?_
  refine lv_if_ne (tgt := 9) hx hb d_Records_clearIfAllowed_1 rfl (fun h1 => ?_) (fun h1 => ?_)
  · replace hm := zi_f h1 hm
    refine lv_aload_n hx hb d_Records_clearIfAllowed_9 rfl (lv_at hl 0 rfl) ?_
    refine lv_iload_n hx hb d_Records_clearIfAllowed_10 rfl (lv_at hl 1 rfl) ?_
    refine lv_iload_n hx hb d_Records_clearIfAllowed_11 rfl (lv_at hl 2 rfl) ?_
    refine lv_iconst (v := 0) hx hb d_Records_clearIfAllowed_12 (by decide) ?_
    replace hm := zb1_s hm
    obtain ⟨_, h3, hm⟩ := hm
    replace hm := zb2_s hm
    obtain ⟨v4, X5, h2, hm⟩ := hm
    refine zr_callv (zr_runV (As := [.int x1, .int x2, .int 0]) (rest := []) (n := 3) hx hb hml hown hts hk hX (c_Records_setValues l G N X x0 x1 x2 0 v4 X5 h2) (hts _ tW27) tW28 (hts _ tW11) (hts _ tW29) (hts _ tW30) rfl h3 (by decide +kernel) ⟨Nat.le_of_ble_eq_true rfl, Nat.le_of_ble_eq_true rfl⟩ rfl rfl hl.1 rfl (lv_room (Nat.le_of_ble_eq_true rfl)) d_Records_clearIfAllowed_13 ⟨(Nat.le_of_ble_eq_true rfl), (Nat.le_of_ble_eq_true rfl)⟩) hS (fun H locs hX hS => ?_)
    cases hm
    exact W.vret hx hb hr (fun t ht hW => zh_end hk hX hS ht hW) hS.2.2 d_Records_clearIfAllowed_16
  · replace hm := zi_t h1 hm
    refine lv_iload_n hx hb d_Records_clearIfAllowed_4 rfl (lv_at hl 2 rfl) ?_
    refine lv_iconst (v := 3) hx hb d_Records_clearIfAllowed_5 (by decide) ?_
    refine lv_icmp_eq (tgt := 16) hx hb d_Records_clearIfAllowed_6 rfl (fun h6 => ?_) (fun h6 => ?_)
    · replace hm := zi_t h6 hm
      cases hm
      exact W.vret hx hb hr (fun t ht hW => zh_end hk hX hS ht hW) hS.2.2 d_Records_clearIfAllowed_16
    · replace hm := zi_f h6 hm
      refine lv_aload_n hx hb d_Records_clearIfAllowed_9 rfl (lv_at hl 0 rfl) ?_
      refine lv_iload_n hx hb d_Records_clearIfAllowed_10 rfl (lv_at hl 1 rfl) ?_
      refine lv_iload_n hx hb d_Records_clearIfAllowed_11 rfl (lv_at hl 2 rfl) ?_
      refine lv_iconst (v := 0) hx hb d_Records_clearIfAllowed_12 (by decide) ?_
      replace hm := zb1_s hm
      obtain ⟨_, h8, hm⟩ := hm
      replace hm := zb2_s hm
      obtain ⟨v9, X10, h7, hm⟩ := hm
      refine zr_callv (zr_runV (As := [.int x1, .int x2, .int 0]) (rest := []) (n := 3) hx hb hml hown hts hk hX (c_Records_setValues l G N X x0 x1 x2 0 v9 X10 h7) (hts _ tW27) tW28 (hts _ tW11) (hts _ tW29) (hts _ tW30) rfl h8 (by decide +kernel) ⟨Nat.le_of_ble_eq_true rfl, Nat.le_of_ble_eq_true rfl⟩ rfl rfl hl.1 rfl (lv_room (Nat.le_of_ble_eq_true rfl)) d_Records_clearIfAllowed_13 ⟨(Nat.le_of_ble_eq_true rfl), (Nat.le_of_ble_eq_true rfl)⟩) hS (fun H locs hX hS => ?_)
      cases hm
      exact W.vret hx hb hr (fun t ht hW => zh_end hk hX hS ht hW) hS.2.2 d_Records_clearIfAllowed_16
set_option maxHeartbeats 4000000 in
set_option maxRecDepth 100000 in
theorem c_Records_removeIfAllowed (l : Launch) (G : zh_G) (N : Nat) (X : zh_T) (x0 : Nat) (x1 : Int32) (x2 : Int32) (x3 : Int32) (r : Unit) (X' : zh_T) (hm : f_Records_removeIfAllowed N X x0 x1 x2 x3 = some (r, X')) : zM l G y_Records_removeIfAllowed w_Records_removeIfAllowed 2 46 X [.ref x0, .int x1, .int x2, .int x3] none X' 0 0 := by
  refine zr_ofW (by decide) (by exact Nat.le_of_ble_eq_true rfl) ?_
  intro p e s m args below meth c ls hx hb hml hr hts hown hin hlocks hk hX hl
  have hS : va_S (zh_A G) s.heap s.heap [] := va_S.rf
  have hl : lv_has ls 5 [(0, .ref x0), (1, .int x1), (2, .int x2), (3, .int x3)] := hl
  have hown : s.vm.findClass R_Records = some m.cls := hown
  unfold f_Records_removeIfAllowed at hm
  refine lv_aload_n hx hb d_Records_removeIfAllowed_0 rfl (lv_at hl 0 rfl) ?_
  refine lv_iload_n hx hb d_Records_removeIfAllowed_1 rfl (lv_at hl 1 rfl) ?_
  refine lv_iload_n hx hb d_Records_removeIfAllowed_2 rfl (lv_at hl 2 rfl) ?_
  replace hm := zb1_s hm
  obtain ⟨_, h2, hm⟩ := hm
  replace hm := zb1_s hm
  obtain ⟨v3, h1, hm⟩ := hm
  refine zr_calli (zr_runV (As := [.int x1, .int x2]) (rest := []) (n := 2) hx hb hml hown hts hk hX (c_Records_valuesOf l G N X x0 x1 x2 v3 h1) (hts _ tW23) tW24 (hts _ tW11) (hts _ tW25) (hts _ tW26) rfl h2 (by decide +kernel) ⟨Nat.le_of_ble_eq_true rfl, Nat.le_of_ble_eq_true rfl⟩ rfl rfl hl.1 rfl (lv_room (Nat.le_of_ble_eq_true rfl)) d_Records_removeIfAllowed_3 ⟨(Nat.le_of_ble_eq_true rfl), (Nat.le_of_ble_eq_true rfl)⟩) hS (fun H locs hX hS => ?_)
  refine lv_iconst (v := 1) hx hb d_Records_removeIfAllowed_6 (by decide) ?_
  refine lv_iload_n hx hb d_Records_removeIfAllowed_7 rfl (lv_at hl 3 rfl) ?_
  refine lv_ishl hx hb d_Records_removeIfAllowed_8 ?_
  refine lv_icmp_ne (tgt := 16) hx hb d_Records_removeIfAllowed_9 rfl (fun h4 => ?_) (fun h4 => ?_)
  · replace hm := zi_f h4 hm
    refine lv_iconst (v := 0) hx hb d_Records_removeIfAllowed_16 (by decide) ?_
    refine lv_istore (lv' := [(4, .int 0), (0, .ref x0), (1, .int x1), (2, .int x2), (3, .int x3)]) hx hb d_Records_removeIfAllowed_17 hl (by decide) rfl (fun ls hl => ?_)
    refine lv_iload_n hx hb d_Records_removeIfAllowed_19 rfl (lv_at hl 2 rfl) ?_
    refine lv_if_ne (tgt := 33) hx hb d_Records_removeIfAllowed_20 rfl (fun h5 => ?_) (fun h5 => ?_)
    · replace hm := zi_f h5 hm
      refine lv_aload_n hx hb d_Records_removeIfAllowed_33 rfl (lv_at hl 1 rfl) ?_
      refine lv_iload_n hx hb d_Records_removeIfAllowed_34 rfl (lv_at hl 2 rfl) ?_
      refine lv_iload_n hx hb d_Records_removeIfAllowed_35 rfl (lv_at hl 3 rfl) ?_
      refine lv_iload_n hx hb d_Records_removeIfAllowed_36 rfl (lv_at hl 4 rfl) ?_
      replace hm := zb1_s hm
      obtain ⟨_, h7, hm⟩ := hm
      replace hm := zb2_s hm
      obtain ⟨v8, X9, h6, hm⟩ := hm
      refine zr_callv (zr_runV (As := [.int x1, .int x2, .int x3]) (rest := []) (n := 3) hx hb hml hown hts hk hX (c_Records_takeAway l G N X x0 x1 x2 x3 v8 X9 h6) (hts _ tW195) tW196 (hts _ tW11) (hts _ tW197) (hts _ tW198) rfl h7 (by decide +kernel) ⟨Nat.le_of_ble_eq_true rfl, Nat.le_of_ble_eq_true rfl⟩ rfl rfl hl.1 rfl (lv_room (Nat.le_of_ble_eq_true rfl)) d_Records_removeIfAllowed_37 ⟨(Nat.le_of_ble_eq_true rfl), (Nat.le_of_ble_eq_true rfl)⟩) hS (fun H locs hX hS => ?_)
      cases hm
      exact W.vret hx hb hr (fun t ht hW => zh_end hk hX hS ht hW) hS.2.2 d_Records_removeIfAllowed_40
    · replace hm := zi_t h5 hm
      refine lv_iload_n hx hb d_Records_removeIfAllowed_23 rfl (lv_at hl 3 rfl) ?_
      refine lv_iconst (v := 3) hx hb d_Records_removeIfAllowed_24 (by decide) ?_
      refine lv_icmp_ne (tgt := 33) hx hb d_Records_removeIfAllowed_25 rfl (fun h10 => ?_) (fun h10 => ?_)
      · replace hm := zi_f h10 hm
        refine lv_aload_n hx hb d_Records_removeIfAllowed_33 rfl (lv_at hl 1 rfl) ?_
        refine lv_iload_n hx hb d_Records_removeIfAllowed_34 rfl (lv_at hl 2 rfl) ?_
        refine lv_iload_n hx hb d_Records_removeIfAllowed_35 rfl (lv_at hl 3 rfl) ?_
        refine lv_iload_n hx hb d_Records_removeIfAllowed_36 rfl (lv_at hl 4 rfl) ?_
        replace hm := zb1_s hm
        obtain ⟨_, h12, hm⟩ := hm
        replace hm := zb2_s hm
        obtain ⟨v13, X14, h11, hm⟩ := hm
        refine zr_callv (zr_runV (As := [.int x1, .int x2, .int x3]) (rest := []) (n := 3) hx hb hml hown hts hk hX (c_Records_takeAway l G N X x0 x1 x2 x3 v13 X14 h11) (hts _ tW195) tW196 (hts _ tW11) (hts _ tW197) (hts _ tW198) rfl h12 (by decide +kernel) ⟨Nat.le_of_ble_eq_true rfl, Nat.le_of_ble_eq_true rfl⟩ rfl rfl hl.1 rfl (lv_room (Nat.le_of_ble_eq_true rfl)) d_Records_removeIfAllowed_37 ⟨(Nat.le_of_ble_eq_true rfl), (Nat.le_of_ble_eq_true rfl)⟩) hS (fun H locs hX hS => ?_)
        cases hm
        exact W.vret hx hb hr (fun t ht hW => zh_end hk hX hS ht hW) hS.2.2 d_Records_removeIfAllowed_40
      · replace hm := zi_t h10 hm
        refine lv_iload hx hb d_Records_removeIfAllowed_28 (lv_at hl 0 rfl) ?_
        refine lv_if_ne (tgt := 40) hx hb d_Records_removeIfAllowed_30 rfl (fun h => absurd h (by decide)) (fun _ => ?_)
        refine lv_aload_n hx hb d_Records_removeIfAllowed_33 rfl (lv_at hl 1 rfl) ?_
        refine lv_iload_n hx hb d_Records_removeIfAllowed_34 rfl (lv_at hl 2 rfl) ?_
        refine lv_iload_n hx hb d_Records_removeIfAllowed_35 rfl (lv_at hl 3 rfl) ?_
        refine lv_iload_n hx hb d_Records_removeIfAllowed_36 rfl (lv_at hl 4 rfl) ?_
        replace hm := zb1_s hm
        obtain ⟨_, h16, hm⟩ := hm
        replace hm := zb2_s hm
        obtain ⟨v17, X18, h15, hm⟩ := hm
        refine zr_callv (zr_runV (As := [.int x1, .int x2, .int x3]) (rest := []) (n := 3) hx hb hml hown hts hk hX (c_Records_takeAway l G N X x0 x1 x2 x3 v17 X18 h15) (hts _ tW195) tW196 (hts _ tW11) (hts _ tW197) (hts _ tW198) rfl h16 (by decide +kernel) ⟨Nat.le_of_ble_eq_true rfl, Nat.le_of_ble_eq_true rfl⟩ rfl rfl hl.1 rfl (lv_room (Nat.le_of_ble_eq_true rfl)) d_Records_removeIfAllowed_37 ⟨(Nat.le_of_ble_eq_true rfl), (Nat.le_of_ble_eq_true rfl)⟩) hS (fun H locs hX hS => ?_)
        cases hm
        exact W.vret hx hb hr (fun t ht hW => zh_end hk hX hS ht hW) hS.2.2 d_Records_removeIfAllowed_40
  · replace hm := zi_t h4 hm
    refine lv_iconst (v := 1) hx hb d_Records_removeIfAllowed_12 (by decide) ?_
    refine lv_goto (tgt := 17) hx hb d_Records_removeIfAllowed_13 rfl ?_
    refine lv_istore (lv' := [(4, .int 1), (0, .ref x0), (1, .int x1), (2, .int x2), (3, .int x3)]) hx hb d_Records_removeIfAllowed_17 hl (by decide) rfl (fun ls hl => ?_)
    refine lv_iload_n hx hb d_Records_removeIfAllowed_19 rfl (lv_at hl 2 rfl) ?_
    refine lv_if_ne (tgt := 33) hx hb d_Records_removeIfAllowed_20 rfl (fun h19 => ?_) (fun h19 => ?_)
    · replace hm := zi_f h19 hm
      refine lv_aload_n hx hb d_Records_removeIfAllowed_33 rfl (lv_at hl 1 rfl) ?_
      refine lv_iload_n hx hb d_Records_removeIfAllowed_34 rfl (lv_at hl 2 rfl) ?_
      refine lv_iload_n hx hb d_Records_removeIfAllowed_35 rfl (lv_at hl 3 rfl) ?_
      refine lv_iload_n hx hb d_Records_removeIfAllowed_36 rfl (lv_at hl 4 rfl) ?_
      replace hm := zb1_s hm
      obtain ⟨_, h21, hm⟩ := hm
      replace hm := zb2_s hm
      obtain ⟨v22, X23, h20, hm⟩ := hm
      refine zr_callv (zr_runV (As := [.int x1, .int x2, .int x3]) (rest := []) (n := 3) hx hb hml hown hts hk hX (c_Records_takeAway l G N X x0 x1 x2 x3 v22 X23 h20) (hts _ tW195) tW196 (hts _ tW11) (hts _ tW197) (hts _ tW198) rfl h21 (by decide +kernel) ⟨Nat.le_of_ble_eq_true rfl, Nat.le_of_ble_eq_true rfl⟩ rfl rfl hl.1 rfl (lv_room (Nat.le_of_ble_eq_true rfl)) d_Records_removeIfAllowed_37 ⟨(Nat.le_of_ble_eq_true rfl), (Nat.le_of_ble_eq_true rfl)⟩) hS (fun H locs hX hS => ?_)
      cases hm
      exact W.vret hx hb hr (fun t ht hW => zh_end hk hX hS ht hW) hS.2.2 d_Records_removeIfAllowed_40
    · replace hm := zi_t h19 hm
      refine lv_iload_n hx hb d_Records_removeIfAllowed_23 rfl (lv_at hl 3 rfl) ?_
      refine lv_iconst (v := 3) hx hb d_Records_removeIfAllowed_24 (by decide) ?_
      refine lv_icmp_ne (tgt := 33) hx hb d_Records_removeIfAllowed_25 rfl (fun h24 => ?_) (fun h24 => ?_)
      · replace hm := zi_f h24 hm
        refine lv_aload_n hx hb d_Records_removeIfAllowed_33 rfl (lv_at hl 1 rfl) ?_
        refine lv_iload_n hx hb d_Records_removeIfAllowed_34 rfl (lv_at hl 2 rfl) ?_
        refine lv_iload_n hx hb d_Records_removeIfAllowed_35 rfl (lv_at hl 3 rfl) ?_
        refine lv_iload_n hx hb d_Records_removeIfAllowed_36 rfl (lv_at hl 4 rfl) ?_
        replace hm := zb1_s hm
        obtain ⟨_, h26, hm⟩ := hm
        replace hm := zb2_s hm
        obtain ⟨v27, X28, h25, hm⟩ := hm
        refine zr_callv (zr_runV (As := [.int x1, .int x2, .int x3]) (rest := []) (n := 3) hx hb hml hown hts hk hX (c_Records_takeAway l G N X x0 x1 x2 x3 v27 X28 h25) (hts _ tW195) tW196 (hts _ tW11) (hts _ tW197) (hts _ tW198) rfl h26 (by decide +kernel) ⟨Nat.le_of_ble_eq_true rfl, Nat.le_of_ble_eq_true rfl⟩ rfl rfl hl.1 rfl (lv_room (Nat.le_of_ble_eq_true rfl)) d_Records_removeIfAllowed_37 ⟨(Nat.le_of_ble_eq_true rfl), (Nat.le_of_ble_eq_true rfl)⟩) hS (fun H locs hX hS => ?_)
        cases hm
        exact W.vret hx hb hr (fun t ht hW => zh_end hk hX hS ht hW) hS.2.2 d_Records_removeIfAllowed_40
      · replace hm := zi_t h24 hm
        refine lv_iload hx hb d_Records_removeIfAllowed_28 (lv_at hl 0 rfl) ?_
        refine lv_if_ne (tgt := 40) hx hb d_Records_removeIfAllowed_30 rfl (fun _ => ?_) (fun h => absurd h (by decide))
        cases hm
        exact W.vret hx hb hr (fun t ht hW => zh_end hk hX hS ht hW) hS.2.2 d_Records_removeIfAllowed_40
set_option maxHeartbeats 4000000 in
set_option maxRecDepth 100000 in
theorem c_Records_makeChange (l : Launch) (G : zh_G) (N : Nat) (X : zh_T) (x0 : Nat) (x1 : Int32) (r : Unit) (X' : zh_T) (hm : f_Records_makeChange N X x0 x1 = some (r, X')) : zM l G y_Records_makeChange w_Records_makeChange 3 70 X [.ref x0, .int x1] none X' 0 0 := by
  refine zr_ofW (by decide) (by exact Nat.le_of_ble_eq_true rfl) ?_
  intro p e s m args below meth c ls hx hb hml hr hts hown hin hlocks hk hX hl
  have hS : va_S (zh_A G) s.heap s.heap [] := va_S.rf
  have hl : lv_has ls 6 [(0, .ref x0), (1, .int x1)] := hl
  have hown : s.vm.findClass R_Records = some m.cls := hown
  unfold f_Records_makeChange at hm
  have hL71 : ∀ (n : Nat) (X : zh_T) (w0 : Nat) (w2 : Int32) (w5 : Int32) (v : Unit) (X1 : zh_T) (H : Heap) (locs : List Loc) (ls : Array Slot), L_Records_makeChange_71 N w0 w2 n X w5 = some (v, X1) → zh_w G X H → va_S (zh_A G) s.heap H locs → lv_has ls 6 [(0, .ref w0), (2, .int w2), (5, .int w5)] → (∀ (H : Heap) (locs : List Loc) (ls : Array Slot), zh_w G X1 H → va_S (zh_A G) s.heap H locs → lv_has ls 6 [] → W p l e { frames := 3, cells := 0, slots := 0, locals := 70 } s m args below meth c H locs 0 0 (MQ below (zh_Q G none X') args s 0 0 (zh_A G)) (F0 m 90 ls [])) → W p l e { frames := 3, cells := 0, slots := 0, locals := 70 } s m args below meth c H locs 0 0 (MQ below (zh_Q G none X') args s 0 0 (zh_A G)) (F0 m 71 ls []) := by
    intro n
    induction n with
    | zero =>
      intro X w0 w2 w5 v X1 H locs ls hm hX hS hl hexit
      rw [L_Records_makeChange_71] at hm
      cases hm
    | succ n ih =>
      intro X w0 w2 w5 v X1 H locs ls hm hX hS hl hexit
      rw [L_Records_makeChange_71] at hm
      refine lv_iload hx hb d_Records_makeChange_71 (lv_at hl 2 rfl) ?_
      refine lv_iconst (v := 4) hx hb d_Records_makeChange_73 (by decide) ?_
      refine lv_icmp_gt (tgt := 90) hx hb d_Records_makeChange_74 rfl (fun h20 => ?_) (fun h20 => ?_)
      · replace hm := zi_t h20 hm
        cases hm
        exact hexit _ _ _ hX hS (lv_sub hl [] rfl)
      · replace hm := zi_f h20 hm
        refine lv_aload_n hx hb d_Records_makeChange_77 rfl (lv_at hl 0 rfl) ?_
        refine lv_iload_n hx hb d_Records_makeChange_78 rfl (lv_at hl 1 rfl) ?_
        refine lv_iload hx hb d_Records_makeChange_79 (lv_at hl 2 rfl) ?_
        replace hm := zb1_s hm
        obtain ⟨_, h22, hm⟩ := hm
        replace hm := zb2_s hm
        obtain ⟨v23, X24, h21, hm⟩ := hm
        refine zr_callv (zr_runV (As := [.int w2, .int w5]) (rest := []) (n := 2) hx hb hml hown hts hk hX (c_Records_clearIfAllowed l G N X w0 w2 w5 v23 X24 h21) (hts _ tW307) tW308 (hts _ tW11) (hts _ tW309) (hts _ tW310) rfl h22 (by decide +kernel) ⟨Nat.le_of_ble_eq_true rfl, Nat.le_of_ble_eq_true rfl⟩ rfl rfl hl.1 rfl (lv_room (Nat.le_of_ble_eq_true rfl)) d_Records_makeChange_81 ⟨(Nat.le_of_ble_eq_true rfl), (Nat.le_of_ble_eq_true rfl)⟩) hS (fun H locs hX hS => ?_)
        refine lv_iinc (v := w5 + 1) (lv' := [(5, .int (w5 + 1)), (0, .ref w0), (2, .int w2)]) hx hb d_Records_makeChange_84 hl (k := 2) rfl (by rw [show Int32.ofInt 1 = 1 by decide]) (by decide) rfl (fun ls hl => ?_)
        refine lv_goto (tgt := 71) hx hb d_Records_makeChange_87 rfl ?_
        exact ih X24 w0 w2 (w5 + 1) v X1 _ _ _ hm hX hS (lv_sub hl [1, 2, 0] rfl) hexit
  refine lv_iload_n hx hb d_Records_makeChange_0 rfl (lv_at hl 1 rfl) ?_
  replace hm := zb1_s hm
  obtain ⟨v2, h1, hm⟩ := hm
  refine zr_calli (zr_runSN (As := [.int x1]) (rest := []) (n := 1) hx hb hml hown hts hk hX (c_ZoneNodes_nameOf l G N X x1 v2 h1) (nM10 hk) tW188 (hts _ tW100) (hts _ tW189) (by decide +kernel) ⟨Nat.le_of_ble_eq_true rfl, Nat.le_of_ble_eq_true rfl⟩ rfl rfl hl.1 rfl (lv_room (Nat.le_of_ble_eq_true rfl)) d_Records_makeChange_1 ⟨(Nat.le_of_ble_eq_true rfl), (Nat.le_of_ble_eq_true rfl)⟩) hS (fun H locs hX hS => ?_)
  refine lv_istore_n (lv' := [(2, .int v2), (0, .ref x0), (1, .int x1)]) hx hb d_Records_makeChange_4 rfl hl (by decide) rfl (fun ls hl => ?_)
  refine lv_iload_n hx hb d_Records_makeChange_5 rfl (lv_at hl 2 rfl) ?_
  replace hm := zb1_s hm
  obtain ⟨v4, h3, hm⟩ := hm
  refine zr_calli (zr_runSN (As := [.int x1]) (rest := []) (n := 1) hx hb hml hown hts hk hX (c_ZoneNodes_typeOf l G N X x1 v4 h3) (nM11 hk) tW190 (hts _ tW100) (hts _ tW191) (by decide +kernel) ⟨Nat.le_of_ble_eq_true rfl, Nat.le_of_ble_eq_true rfl⟩ rfl rfl hl.1 rfl (lv_room (Nat.le_of_ble_eq_true rfl)) d_Records_makeChange_6 ⟨(Nat.le_of_ble_eq_true rfl), (Nat.le_of_ble_eq_true rfl)⟩) hS (fun H locs hX hS => ?_)
  refine lv_istore_n (lv' := [(3, .int v4), (2, .int v2), (0, .ref x0), (1, .int x1)]) hx hb d_Records_makeChange_9 rfl hl (by decide) rfl (fun ls hl => ?_)
  refine lv_iload_n hx hb d_Records_makeChange_10 rfl (lv_at hl 3 rfl) ?_
  replace hm := zb1_s hm
  obtain ⟨v6, h5, hm⟩ := hm
  refine zr_calli (zr_runSN (As := [.int x1]) (rest := []) (n := 1) hx hb hml hown hts hk hX (c_ZoneNodes_valueOf l G N X x1 v6 h5) (nM12 hk) tW192 (hts _ tW100) (hts _ tW193) (by decide +kernel) ⟨Nat.le_of_ble_eq_true rfl, Nat.le_of_ble_eq_true rfl⟩ rfl rfl hl.1 rfl (lv_room (Nat.le_of_ble_eq_true rfl)) d_Records_makeChange_11 ⟨(Nat.le_of_ble_eq_true rfl), (Nat.le_of_ble_eq_true rfl)⟩) hS (fun H locs hX hS => ?_)
  refine lv_istore (lv' := [(4, .int v6), (3, .int v4), (2, .int v2), (0, .ref x0), (1, .int x1)]) hx hb d_Records_makeChange_14 hl (by decide) rfl (fun ls hl => ?_)
  refine lv_iload_n hx hb d_Records_makeChange_16 rfl (lv_at hl 4 rfl) ?_
  replace hm := zb1_s hm
  obtain ⟨v8, h7, hm⟩ := hm
  refine zr_calli (zr_runSN (As := [.int x1]) (rest := []) (n := 1) hx hb hml hown hts hk hX (c_ZoneNodes_formOf l G N X x1 v8 h7) (nM9 hk) tW186 (hts _ tW100) (hts _ tW187) (by decide +kernel) ⟨Nat.le_of_ble_eq_true rfl, Nat.le_of_ble_eq_true rfl⟩ rfl rfl hl.1 rfl (lv_room (Nat.le_of_ble_eq_true rfl)) d_Records_makeChange_17 ⟨(Nat.le_of_ble_eq_true rfl), (Nat.le_of_ble_eq_true rfl)⟩) hS (fun H locs hX hS => ?_)
  rcases zi_or (c := v8 = 0) hm with ⟨h9, hm⟩ | ⟨h9, hm⟩
  · refine lv_tableIn (tgt := 48) hx hb d_Records_makeChange_20 (zsw_lo h9 (by decide)) (zsw_hi h9 (by decide)) (zsw_at h9 rfl) rfl ?_
    refine lv_aload_n hx hb d_Records_makeChange_48 rfl (lv_at hl 3 rfl) ?_
    refine lv_iload_n hx hb d_Records_makeChange_49 rfl (lv_at hl 2 rfl) ?_
    refine lv_iload_n hx hb d_Records_makeChange_50 rfl (lv_at hl 1 rfl) ?_
    refine lv_iload hx hb d_Records_makeChange_51 (lv_at hl 0 rfl) ?_
    replace hm := zb1_s hm
    obtain ⟨_, h11, hm⟩ := hm
    replace hm := zb2_s hm
    obtain ⟨v12, X13, h10, hm⟩ := hm
    refine zr_callv (zr_runV (As := [.int v2, .int v4, .int v6]) (rest := []) (n := 3) hx hb hml hown hts hk hX (c_Records_addIfAllowed l G N X x0 v2 v4 v6 v12 X13 h10) (hts _ tW303) tW304 (hts _ tW11) (hts _ tW305) (hts _ tW306) rfl h11 (by decide +kernel) ⟨Nat.le_of_ble_eq_true rfl, Nat.le_of_ble_eq_true rfl⟩ rfl rfl hl.1 rfl (lv_room (Nat.le_of_ble_eq_true rfl)) d_Records_makeChange_53 ⟨(Nat.le_of_ble_eq_true rfl), (Nat.le_of_ble_eq_true rfl)⟩) hS (fun H locs hX hS => ?_)
    refine lv_goto (tgt := 101) hx hb d_Records_makeChange_56 rfl ?_
    cases hm
    exact W.vret hx hb hr (fun t ht hW => zh_end hk hX hS ht hW) hS.2.2 d_Records_makeChange_101
  · rcases zi_or (c := v8 = 1) hm with ⟨h14, hm⟩ | ⟨h14, hm⟩
    · refine lv_tableIn (tgt := 59) hx hb d_Records_makeChange_20 (zsw_lo h14 (by decide)) (zsw_hi h14 (by decide)) (zsw_at h14 rfl) rfl ?_
      refine lv_aload_n hx hb d_Records_makeChange_59 rfl (lv_at hl 3 rfl) ?_
      refine lv_iload_n hx hb d_Records_makeChange_60 rfl (lv_at hl 2 rfl) ?_
      refine lv_iload_n hx hb d_Records_makeChange_61 rfl (lv_at hl 1 rfl) ?_
      replace hm := zb1_s hm
      obtain ⟨_, h16, hm⟩ := hm
      replace hm := zb2_s hm
      obtain ⟨v17, X18, h15, hm⟩ := hm
      refine zr_callv (zr_runV (As := [.int v2, .int v4]) (rest := []) (n := 2) hx hb hml hown hts hk hX (c_Records_clearIfAllowed l G N X x0 v2 v4 v17 X18 h15) (hts _ tW307) tW308 (hts _ tW11) (hts _ tW309) (hts _ tW310) rfl h16 (by decide +kernel) ⟨Nat.le_of_ble_eq_true rfl, Nat.le_of_ble_eq_true rfl⟩ rfl rfl hl.1 rfl (lv_room (Nat.le_of_ble_eq_true rfl)) d_Records_makeChange_62 ⟨(Nat.le_of_ble_eq_true rfl), (Nat.le_of_ble_eq_true rfl)⟩) hS (fun H locs hX hS => ?_)
      refine lv_goto (tgt := 101) hx hb d_Records_makeChange_65 rfl ?_
      cases hm
      exact W.vret hx hb hr (fun t ht hW => zh_end hk hX hS ht hW) hS.2.2 d_Records_makeChange_101
    · rcases zi_or (c := v8 = 2) hm with ⟨h19, hm⟩ | ⟨h19, hm⟩
      · refine lv_tableIn (tgt := 68) hx hb d_Records_makeChange_20 (zsw_lo h19 (by decide)) (zsw_hi h19 (by decide)) (zsw_at h19 rfl) rfl ?_
        refine lv_iconst (v := 1) hx hb d_Records_makeChange_68 (by decide) ?_
        refine lv_istore (lv' := [(5, .int 1), (4, .int v6), (3, .int v4), (2, .int v2), (0, .ref x0), (1, .int x1)]) hx hb d_Records_makeChange_69 hl (by decide) rfl (fun ls hl => ?_)
        replace hm := zb2_s hm
        obtain ⟨v25, X27, h26, hm⟩ := hm
        refine hL71 N X x0 v2 1 v25 X27 _ _ _ h26 hX hS (lv_sub hl [4, 3, 0] rfl) (fun H locs ls hX hS hl => ?_)
        refine lv_goto (tgt := 101) hx hb d_Records_makeChange_90 rfl ?_
        cases hm
        exact W.vret hx hb hr (fun t ht hW => zh_end hk hX hS ht hW) hS.2.2 d_Records_makeChange_101
      · refine lv_tableOut (tgt := 93) hx hb d_Records_makeChange_20 (by have q0 := lv_neT h9 (a := 0) (by decide); have q1 := lv_neT h14 (a := 1) (by decide); have q2 := lv_neT h19 (a := 2) (by decide); omega) rfl ?_
        refine lv_aload_n hx hb d_Records_makeChange_93 rfl (lv_at hl 3 rfl) ?_
        refine lv_iload_n hx hb d_Records_makeChange_94 rfl (lv_at hl 2 rfl) ?_
        refine lv_iload_n hx hb d_Records_makeChange_95 rfl (lv_at hl 1 rfl) ?_
        refine lv_iload hx hb d_Records_makeChange_96 (lv_at hl 0 rfl) ?_
        replace hm := zb1_s hm
        obtain ⟨_, h29, hm⟩ := hm
        replace hm := zb2_s hm
        obtain ⟨v30, X31, h28, hm⟩ := hm
        refine zr_callv (zr_runV (As := [.int v2, .int v4, .int v6]) (rest := []) (n := 3) hx hb hml hown hts hk hX (c_Records_removeIfAllowed l G N X x0 v2 v4 v6 v30 X31 h28) (hts _ tW311) tW312 (hts _ tW11) (hts _ tW313) (hts _ tW314) rfl h29 (by decide +kernel) ⟨Nat.le_of_ble_eq_true rfl, Nat.le_of_ble_eq_true rfl⟩ rfl rfl hl.1 rfl (lv_room (Nat.le_of_ble_eq_true rfl)) d_Records_makeChange_98 ⟨(Nat.le_of_ble_eq_true rfl), (Nat.le_of_ble_eq_true rfl)⟩) hS (fun H locs hX hS => ?_)
        cases hm
        exact W.vret hx hb hr (fun t ht hW => zh_end hk hX hS ht hW) hS.2.2 d_Records_makeChange_101
set_option maxHeartbeats 4000000 in
set_option maxRecDepth 100000 in
theorem c_Draft_changeRecords (l : Launch) (G : zh_G) (N : Nat) (X : zh_T) (x0 : Nat) (x1 : Nat) (r : Unit) (X' : zh_T) (hm : f_Draft_changeRecords N X x0 x1 = some (r, X')) : zM l G y_Draft_changeRecords w_Draft_changeRecords 4 95 X [.ref x0, .ref x1] none X' 0 0 := by
  refine zr_ofW (by decide) (by exact Nat.le_of_ble_eq_true rfl) ?_
  intro p e s m args below meth c ls hx hb hml hr hts hown hin hlocks hk hX hl
  have hS : va_S (zh_A G) s.heap s.heap [] := va_S.rf
  have hl : lv_has ls 3 [(0, .ref x0), (1, .ref x1)] := hl
  have hown : s.vm.findClass R_Draft = some m.cls := hown
  unfold f_Draft_changeRecords at hm
  have hL2 : ∀ (n : Nat) (X : zh_T) (w0 : Nat) (w1 : Nat) (w2 : Int32) (v : Unit) (X1 : zh_T) (H : Heap) (locs : List Loc) (ls : Array Slot), L_Draft_changeRecords_2 N w0 w1 n X w2 = some (v, X1) → zh_w G X H → va_S (zh_A G) s.heap H locs → lv_has ls 3 [(0, .ref w0), (1, .ref w1), (2, .int w2)] → (∀ (H : Heap) (locs : List Loc) (ls : Array Slot), zh_w G X1 H → va_S (zh_A G) s.heap H locs → lv_has ls 3 [] → W p l e { frames := 4, cells := 0, slots := 0, locals := 95 } s m args below meth c H locs 0 0 (MQ below (zh_Q G none X') args s 0 0 (zh_A G)) (F0 m 26 ls [])) → W p l e { frames := 4, cells := 0, slots := 0, locals := 95 } s m args below meth c H locs 0 0 (MQ below (zh_Q G none X') args s 0 0 (zh_A G)) (F0 m 2 ls []) := by
    intro n
    induction n with
    | zero =>
      intro X w0 w1 w2 v X1 H locs ls hm hX hS hl hexit
      rw [L_Draft_changeRecords_2] at hm
      cases hm
    | succ n ih =>
      intro X w0 w1 w2 v X1 H locs ls hm hX hS hl hexit
      rw [L_Draft_changeRecords_2] at hm
      refine lv_iload_n hx hb d_Draft_changeRecords_2 rfl (lv_at hl 2 rfl) ?_
      refine lv_aload_n hx hb d_Draft_changeRecords_3 rfl (lv_at hl 0 rfl) ?_
      replace hm := zb1_s hm
      obtain ⟨v2, h1, hm⟩ := hm
      refine zr_get (ci := 0) (C := R_Draft) (T := F_Draft) (N := 4) hx hb hts in_Draft hown hk hX rfl 3 (by decide) (hts _ tW240) rfl (zgi_v h1) d_Draft_changeRecords_4 ?_
      refine lv_icmp_ge (tgt := 26) hx hb d_Draft_changeRecords_7 rfl (fun h3 => ?_) (fun h3 => ?_)
      · replace hm := zi_t h3 hm
        cases hm
        exact hexit _ _ _ hX hS (lv_sub hl [] rfl)
      · replace hm := zi_f h3 hm
        refine lv_aload_n hx hb d_Draft_changeRecords_10 rfl (lv_at hl 1 rfl) ?_
        refine lv_aload_n hx hb d_Draft_changeRecords_11 rfl (lv_at hl 0 rfl) ?_
        replace hm := zb1_s hm
        obtain ⟨a5, h4, hm⟩ := hm
        refine zr_get (ci := 0) (C := R_Draft) (T := F_Draft) (N := 4) hx hb hts in_Draft hown hk hX rfl 1 (by decide) (hts _ tW5) rfl (zgr_v h4) d_Draft_changeRecords_12 ?_
        refine lv_iload_n hx hb d_Draft_changeRecords_15 rfl (lv_at hl 2 rfl) ?_
        replace hm := zb1_s hm
        obtain ⟨v6, h7, hm⟩ := hm
        refine zr_iaload hx hb hk hX h7 d_Draft_changeRecords_16 ?_
        replace hm := zb1_s hm
        obtain ⟨_, h9, hm⟩ := hm
        replace hm := zb2_s hm
        obtain ⟨v10, X11, h8, hm⟩ := hm
        refine zr_callv (zr_runV (As := [.int v6]) (rest := []) (n := 1) hx hb hml hown hts hk hX (c_Records_makeChange l G N X w1 v6 v10 X11 h8) (hts _ tW315) tW316 (hts _ tW11) (hts _ tW317) (hts _ tW318) rfl h9 (by decide +kernel) ⟨Nat.le_of_ble_eq_true rfl, Nat.le_of_ble_eq_true rfl⟩ rfl rfl hl.1 rfl (lv_room (Nat.le_of_ble_eq_true rfl)) d_Draft_changeRecords_17 ⟨(Nat.le_of_ble_eq_true rfl), (Nat.le_of_ble_eq_true rfl)⟩) hS (fun H locs hX hS => ?_)
        refine lv_iinc (v := w2 + 1) (lv' := [(2, .int (w2 + 1)), (0, .ref w0), (1, .ref w1)]) hx hb d_Draft_changeRecords_20 hl (k := 2) rfl (by rw [show Int32.ofInt 1 = 1 by decide]) (by decide) rfl (fun ls hl => ?_)
        refine lv_goto (tgt := 2) hx hb d_Draft_changeRecords_23 rfl ?_
        exact ih X11 w0 w1 (w2 + 1) v X1 _ _ _ hm hX hS (lv_sub hl [1, 2, 0] rfl) hexit
  refine lv_iconst (v := 0) hx hb d_Draft_changeRecords_0 (by decide) ?_
  refine lv_istore_n (lv' := [(2, .int 0), (0, .ref x0), (1, .ref x1)]) hx hb d_Draft_changeRecords_1 rfl hl (by decide) rfl (fun ls hl => ?_)
  replace hm := zb2_s hm
  obtain ⟨v12, X14, h13, hm⟩ := hm
  refine hL2 N X x0 x1 0 v12 X14 _ _ _ h13 hX hS (lv_sub hl [1, 2, 0] rfl) (fun H locs ls hX hS hl => ?_)
  cases hm
  exact W.vret hx hb hr (fun t ht hW => zh_end hk hX hS ht hW) hS.2.2 d_Draft_changeRecords_26
