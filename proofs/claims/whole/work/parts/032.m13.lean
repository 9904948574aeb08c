set_option maxHeartbeats 4000000 in
set_option maxRecDepth 100000 in
theorem c_ZoneNodesModel_exact (l : Launch) (G : zh_G) (N : Nat) (X : zh_T) (x0 : Nat) (x1 : Int32) (r : Int32) (hm : f_ZoneNodesModel_exact N X x0 x1 = some r) : zM l G y_ZoneNodesModel_exact w_ZoneNodesModel_exact 1 22 X [.ref x0, .int x1] (some (.int r)) X 0 0 := by
  refine zr_ofW (by decide) (by exact Nat.le_of_ble_eq_true rfl) ?_
  intro p e s m args below meth c ls hx hb hml hr hts hown hin hlocks hk hX hl
  have hS : va_S (zh_A G) s.heap s.heap [] := va_S.rf
  have hl : lv_has ls 8 [(0, .ref x0), (1, .int x1)] := hl
  have hown : s.vm.findClass R_ZoneNodesModel = some m.cls := hown
  unfold f_ZoneNodesModel_exact at hm
  have hL41 : ∀ (n : Nat) (X : zh_T) (w0 : Nat) (w2 : Int32) (w3 : Int32) (w4 : Int32) (w5 : Int32) (w6 : Int32) (w7 : Int32) (v : Int32) (H : Heap) (locs : List Loc) (ls : Array Slot), L_ZoneNodesModel_exact_41 N X w0 w2 w3 w4 w5 n w6 w7 = some v → zh_w G X H → va_S (zh_A G) s.heap H locs → lv_has ls 8 [(0, .ref w0), (2, .int w2), (3, .int w3), (4, .int w4), (5, .int w5), (6, .int w6), (7, .int w7)] → (∀ (H : Heap) (locs : List Loc) (ls : Array Slot), zh_w G X H → va_S (zh_A G) s.heap H locs → lv_has ls 8 [(0, .ref w0), (2, .int w2), (3, .int w3), (4, .int w4), (5, .int w5), (6, .int v)] → W p l e { frames := 1, cells := 0, slots := 0, locals := 22 } s m args below meth c H locs 0 0 (MQ below (zh_Q G (some (.int r)) X) args s 0 0 (zh_A G)) (F0 m 127 ls [])) → W p l e { frames := 1, cells := 0, slots := 0, locals := 22 } s m args below meth c H locs 0 0 (MQ below (zh_Q G (some (.int r)) X) args s 0 0 (zh_A G)) (F0 m 41 ls []) := by
    intro n
    induction n with
    | zero =>
      intro X w0 w2 w3 w4 w5 w6 w7 v H locs ls hm hX hS hl hexit
      rw [L_ZoneNodesModel_exact_41] at hm
      cases hm
    | succ n ih =>
      intro X w0 w2 w3 w4 w5 w6 w7 v H locs ls hm hX hS hl hexit
      rw [L_ZoneNodesModel_exact_41] at hm
      refine lv_iload hx hb d_ZoneNodesModel_exact_41 (lv_at hl 6 rfl) ?_
      refine lv_aload_n hx hb d_ZoneNodesModel_exact_43 rfl (lv_at hl 0 rfl) ?_
      replace hm := zb1_s hm
      obtain ⟨v11, h10, hm⟩ := hm
      refine zr_get (ci := 9) (C := R_ZoneNodesModel) (T := F_ZoneNodesModel) (N := 32) hx hb hts in_ZoneNodesModel hown hk hX rfl 14 (by decide) (hts _ tW538) rfl (zgi_v h10) d_ZoneNodesModel_exact_44 ?_
      refine lv_icmp_ge (tgt := 127) hx hb d_ZoneNodesModel_exact_47 rfl (fun h12 => ?_) (fun h12 => ?_)
      · replace hm := zi_t h12 hm
        cases hm
        exact hexit _ _ _ hX hS (lv_sub hl [0, 1, 2, 3, 4, 5] rfl)
      · replace hm := zi_f h12 hm
        refine lv_iload hx hb d_ZoneNodesModel_exact_50 (lv_at hl 5 rfl) ?_
        refine lv_if_ne (tgt := 114) hx hb d_ZoneNodesModel_exact_52 rfl (fun h13 => ?_) (fun h13 => ?_)
        · replace hm := zi_f h13 hm
          refine lv_iconst (v := 1) hx hb d_ZoneNodesModel_exact_114 (by decide) ?_
          refine lv_goto (tgt := 119) hx hb d_ZoneNodesModel_exact_115 rfl ?_
          refine lv_istore (lv' := [(6, .int 1), (0, .ref w0), (2, .int w2), (3, .int w3), (4, .int w4), (5, .int w5), (7, .int w7)]) hx hb d_ZoneNodesModel_exact_119 hl (by decide) rfl (fun ls hl => ?_)
          refine lv_iinc (v := w7 + 1) (lv' := [(7, .int (w7 + 1)), (6, .int 1), (0, .ref w0), (2, .int w2), (3, .int w3), (4, .int w4), (5, .int w5)]) hx hb d_ZoneNodesModel_exact_121 hl (k := 6) rfl (by rw [show Int32.ofInt 1 = 1 by decide]) (by decide) rfl (fun ls hl => ?_)
          refine lv_goto (tgt := 41) hx hb d_ZoneNodesModel_exact_124 rfl ?_
          exact ih X w0 w2 w3 w4 w5 1 (w7 + 1) v _ _ _ hm hX hS (lv_sub hl [2, 3, 4, 5, 6, 1, 0] rfl) hexit
        · replace hm := zi_t h13 hm
          refine lv_aload_n hx hb d_ZoneNodesModel_exact_55 rfl (lv_at hl 0 rfl) ?_
          replace hm := zb1_s hm
          obtain ⟨a15, h14, hm⟩ := hm
          refine zr_get (ci := 9) (C := R_ZoneNodesModel) (T := F_ZoneNodesModel) (N := 32) hx hb hts in_ZoneNodesModel hown hk hX rfl 16 (by decide) (hts _ tW451) rfl (zgr_v h14) d_ZoneNodesModel_exact_56 ?_
          refine lv_iconst (v := 4) hx hb d_ZoneNodesModel_exact_59 (by decide) ?_
          refine lv_iload hx hb d_ZoneNodesModel_exact_60 (lv_at hl 6 rfl) ?_
          refine lv_imul hx hb d_ZoneNodesModel_exact_62 ?_
          replace hm := zb1_s hm
          obtain ⟨v16, h17, hm⟩ := hm
          refine zr_iaload hx hb hk hX h17 d_ZoneNodesModel_exact_63 ?_
          refine lv_iconst (v := 3) hx hb d_ZoneNodesModel_exact_64 (by decide) ?_
          refine lv_icmp_ne (tgt := 118) hx hb d_ZoneNodesModel_exact_65 rfl (fun h18 => ?_) (fun h18 => ?_)
          · replace hm := zi_f h18 hm
            refine lv_iconst (v := 0) hx hb d_ZoneNodesModel_exact_118 (by decide) ?_
            refine lv_istore (lv' := [(6, .int 0), (0, .ref w0), (2, .int w2), (3, .int w3), (4, .int w4), (5, .int w5), (7, .int w7)]) hx hb d_ZoneNodesModel_exact_119 hl (by decide) rfl (fun ls hl => ?_)
            refine lv_iinc (v := w7 + 1) (lv' := [(7, .int (w7 + 1)), (6, .int 0), (0, .ref w0), (2, .int w2), (3, .int w3), (4, .int w4), (5, .int w5)]) hx hb d_ZoneNodesModel_exact_121 hl (k := 6) rfl (by rw [show Int32.ofInt 1 = 1 by decide]) (by decide) rfl (fun ls hl => ?_)
            refine lv_goto (tgt := 41) hx hb d_ZoneNodesModel_exact_124 rfl ?_
            exact ih X w0 w2 w3 w4 w5 0 (w7 + 1) v _ _ _ hm hX hS (lv_sub hl [2, 3, 4, 5, 6, 1, 0] rfl) hexit
          · replace hm := zi_t h18 hm
            refine lv_aload_n hx hb d_ZoneNodesModel_exact_68 rfl (lv_at hl 0 rfl) ?_
            replace hm := zb1_s hm
            obtain ⟨a20, h19, hm⟩ := hm
            refine zr_get (ci := 9) (C := R_ZoneNodesModel) (T := F_ZoneNodesModel) (N := 32) hx hb hts in_ZoneNodesModel hown hk hX rfl 16 (by decide) (hts _ tW451) rfl (zgr_v h19) d_ZoneNodesModel_exact_69 ?_
            refine lv_iconst (v := 4) hx hb d_ZoneNodesModel_exact_72 (by decide) ?_
            refine lv_iload hx hb d_ZoneNodesModel_exact_73 (lv_at hl 6 rfl) ?_
            refine lv_imul hx hb d_ZoneNodesModel_exact_75 ?_
            refine lv_iconst (v := 1) hx hb d_ZoneNodesModel_exact_76 (by decide) ?_
            refine lv_iadd hx hb d_ZoneNodesModel_exact_77 ?_
            replace hm := zb1_s hm
            obtain ⟨v21, h22, hm⟩ := hm
            refine zr_iaload hx hb hk hX h22 d_ZoneNodesModel_exact_78 ?_
            refine lv_iload_n hx hb d_ZoneNodesModel_exact_79 rfl (lv_at hl 1 rfl) ?_
            refine lv_icmp_ne (tgt := 118) hx hb d_ZoneNodesModel_exact_80 rfl (fun h23 => ?_) (fun h23 => ?_)
            · replace hm := zi_f h23 hm
              refine lv_iconst (v := 0) hx hb d_ZoneNodesModel_exact_118 (by decide) ?_
              refine lv_istore (lv' := [(6, .int 0), (0, .ref w0), (2, .int w2), (3, .int w3), (4, .int w4), (5, .int w5), (7, .int w7)]) hx hb d_ZoneNodesModel_exact_119 hl (by decide) rfl (fun ls hl => ?_)
              refine lv_iinc (v := w7 + 1) (lv' := [(7, .int (w7 + 1)), (6, .int 0), (0, .ref w0), (2, .int w2), (3, .int w3), (4, .int w4), (5, .int w5)]) hx hb d_ZoneNodesModel_exact_121 hl (k := 6) rfl (by rw [show Int32.ofInt 1 = 1 by decide]) (by decide) rfl (fun ls hl => ?_)
              refine lv_goto (tgt := 41) hx hb d_ZoneNodesModel_exact_124 rfl ?_
              exact ih X w0 w2 w3 w4 w5 0 (w7 + 1) v _ _ _ hm hX hS (lv_sub hl [2, 3, 4, 5, 6, 1, 0] rfl) hexit
            · replace hm := zi_t h23 hm
              refine lv_aload_n hx hb d_ZoneNodesModel_exact_83 rfl (lv_at hl 0 rfl) ?_
              replace hm := zb1_s hm
              obtain ⟨a25, h24, hm⟩ := hm
              refine zr_get (ci := 9) (C := R_ZoneNodesModel) (T := F_ZoneNodesModel) (N := 32) hx hb hts in_ZoneNodesModel hown hk hX rfl 16 (by decide) (hts _ tW451) rfl (zgr_v h24) d_ZoneNodesModel_exact_84 ?_
              refine lv_iconst (v := 4) hx hb d_ZoneNodesModel_exact_87 (by decide) ?_
              refine lv_iload hx hb d_ZoneNodesModel_exact_88 (lv_at hl 6 rfl) ?_
              refine lv_imul hx hb d_ZoneNodesModel_exact_90 ?_
              refine lv_iconst (v := 2) hx hb d_ZoneNodesModel_exact_91 (by decide) ?_
              refine lv_iadd hx hb d_ZoneNodesModel_exact_92 ?_
              replace hm := zb1_s hm
              obtain ⟨v26, h27, hm⟩ := hm
              refine zr_iaload hx hb hk hX h27 d_ZoneNodesModel_exact_93 ?_
              refine lv_iload_n hx hb d_ZoneNodesModel_exact_94 rfl (lv_at hl 2 rfl) ?_
              refine lv_icmp_ne (tgt := 118) hx hb d_ZoneNodesModel_exact_95 rfl (fun h28 => ?_) (fun h28 => ?_)
              · replace hm := zi_f h28 hm
                refine lv_iconst (v := 0) hx hb d_ZoneNodesModel_exact_118 (by decide) ?_
                refine lv_istore (lv' := [(6, .int 0), (0, .ref w0), (2, .int w2), (3, .int w3), (4, .int w4), (5, .int w5), (7, .int w7)]) hx hb d_ZoneNodesModel_exact_119 hl (by decide) rfl (fun ls hl => ?_)
                refine lv_iinc (v := w7 + 1) (lv' := [(7, .int (w7 + 1)), (6, .int 0), (0, .ref w0), (2, .int w2), (3, .int w3), (4, .int w4), (5, .int w5)]) hx hb d_ZoneNodesModel_exact_121 hl (k := 6) rfl (by rw [show Int32.ofInt 1 = 1 by decide]) (by decide) rfl (fun ls hl => ?_)
                refine lv_goto (tgt := 41) hx hb d_ZoneNodesModel_exact_124 rfl ?_
                exact ih X w0 w2 w3 w4 w5 0 (w7 + 1) v _ _ _ hm hX hS (lv_sub hl [2, 3, 4, 5, 6, 1, 0] rfl) hexit
              · replace hm := zi_t h28 hm
                refine lv_aload_n hx hb d_ZoneNodesModel_exact_98 rfl (lv_at hl 0 rfl) ?_
                replace hm := zb1_s hm
                obtain ⟨a30, h29, hm⟩ := hm
                refine zr_get (ci := 9) (C := R_ZoneNodesModel) (T := F_ZoneNodesModel) (N := 32) hx hb hts in_ZoneNodesModel hown hk hX rfl 16 (by decide) (hts _ tW451) rfl (zgr_v h29) d_ZoneNodesModel_exact_99 ?_
                refine lv_iconst (v := 4) hx hb d_ZoneNodesModel_exact_102 (by decide) ?_
                refine lv_iload hx hb d_ZoneNodesModel_exact_103 (lv_at hl 6 rfl) ?_
                refine lv_imul hx hb d_ZoneNodesModel_exact_105 ?_
                refine lv_iconst (v := 3) hx hb d_ZoneNodesModel_exact_106 (by decide) ?_
                refine lv_iadd hx hb d_ZoneNodesModel_exact_107 ?_
                replace hm := zb1_s hm
                obtain ⟨v31, h32, hm⟩ := hm
                refine zr_iaload hx hb hk hX h32 d_ZoneNodesModel_exact_108 ?_
                refine lv_iload hx hb d_ZoneNodesModel_exact_109 (lv_at hl 4 rfl) ?_
                refine lv_icmp_ne (tgt := 118) hx hb d_ZoneNodesModel_exact_111 rfl (fun h33 => ?_) (fun h33 => ?_)
                · replace hm := zi_f h33 hm
                  refine lv_iconst (v := 0) hx hb d_ZoneNodesModel_exact_118 (by decide) ?_
                  refine lv_istore (lv' := [(6, .int 0), (0, .ref w0), (2, .int w2), (3, .int w3), (4, .int w4), (5, .int w5), (7, .int w7)]) hx hb d_ZoneNodesModel_exact_119 hl (by decide) rfl (fun ls hl => ?_)
                  refine lv_iinc (v := w7 + 1) (lv' := [(7, .int (w7 + 1)), (6, .int 0), (0, .ref w0), (2, .int w2), (3, .int w3), (4, .int w4), (5, .int w5)]) hx hb d_ZoneNodesModel_exact_121 hl (k := 6) rfl (by rw [show Int32.ofInt 1 = 1 by decide]) (by decide) rfl (fun ls hl => ?_)
                  refine lv_goto (tgt := 41) hx hb d_ZoneNodesModel_exact_124 rfl ?_
                  exact ih X w0 w2 w3 w4 w5 0 (w7 + 1) v _ _ _ hm hX hS (lv_sub hl [2, 3, 4, 5, 6, 1, 0] rfl) hexit
                · replace hm := zi_t h33 hm
                  refine lv_iconst (v := 1) hx hb d_ZoneNodesModel_exact_114 (by decide) ?_
                  refine lv_goto (tgt := 119) hx hb d_ZoneNodesModel_exact_115 rfl ?_
                  refine lv_istore (lv' := [(6, .int 1), (0, .ref w0), (2, .int w2), (3, .int w3), (4, .int w4), (5, .int w5), (7, .int w7)]) hx hb d_ZoneNodesModel_exact_119 hl (by decide) rfl (fun ls hl => ?_)
                  refine lv_iinc (v := w7 + 1) (lv' := [(7, .int (w7 + 1)), (6, .int 1), (0, .ref w0), (2, .int w2), (3, .int w3), (4, .int w4), (5, .int w5)]) hx hb d_ZoneNodesModel_exact_121 hl (k := 6) rfl (by rw [show Int32.ofInt 1 = 1 by decide]) (by decide) rfl (fun ls hl => ?_)
                  refine lv_goto (tgt := 41) hx hb d_ZoneNodesModel_exact_124 rfl ?_
                  exact ih X w0 w2 w3 w4 w5 1 (w7 + 1) v _ _ _ hm hX hS (lv_sub hl [2, 3, 4, 5, 6, 1, 0] rfl) hexit
  have hL28 : ∀ (n : Nat) (X : zh_T) (w0 : Nat) (w2 : Int32) (w3 : Int32) (w4 : Int32) (w5 : Int32) (v : Int32) (H : Heap) (locs : List Loc) (ls : Array Slot), L_ZoneNodesModel_exact_28 N X w0 w2 w3 n w4 w5 = some v → zh_w G X H → va_S (zh_A G) s.heap H locs → lv_has ls 8 [(0, .ref w0), (2, .int w2), (3, .int w3), (4, .int w4), (5, .int w5)] → (∀ (H : Heap) (locs : List Loc) (ls : Array Slot), zh_w G X H → va_S (zh_A G) s.heap H locs → lv_has ls 8 [(4, .int v)] → W p l e { frames := 1, cells := 0, slots := 0, locals := 22 } s m args below meth c H locs 0 0 (MQ below (zh_Q G (some (.int r)) X) args s 0 0 (zh_A G)) (F0 m 162 ls [])) → W p l e { frames := 1, cells := 0, slots := 0, locals := 22 } s m args below meth c H locs 0 0 (MQ below (zh_Q G (some (.int r)) X) args s 0 0 (zh_A G)) (F0 m 28 ls []) := by
    intro n
    induction n with
    | zero =>
      intro X w0 w2 w3 w4 w5 v H locs ls hm hX hS hl hexit
      rw [L_ZoneNodesModel_exact_28] at hm
      cases hm
    | succ n ih =>
      intro X w0 w2 w3 w4 w5 v H locs ls hm hX hS hl hexit
      rw [L_ZoneNodesModel_exact_28] at hm
      refine lv_iload hx hb d_ZoneNodesModel_exact_28 (lv_at hl 4 rfl) ?_
      refine lv_bipush (v := 8) hx hb d_ZoneNodesModel_exact_30 (by decide) ?_
      refine lv_icmp_ge (tgt := 162) hx hb d_ZoneNodesModel_exact_32 rfl (fun h9 => ?_) (fun h9 => ?_)
      · replace hm := zi_t h9 hm
        cases hm
        exact hexit _ _ _ hX hS (lv_sub hl [3] rfl)
      · replace hm := zi_f h9 hm
        refine lv_iconst (v := 0) hx hb d_ZoneNodesModel_exact_35 (by decide) ?_
        refine lv_istore (lv' := [(6, .int 0), (0, .ref w0), (2, .int w2), (3, .int w3), (4, .int w4), (5, .int w5)]) hx hb d_ZoneNodesModel_exact_36 hl (by decide) rfl (fun ls hl => ?_)
        refine lv_iconst (v := 0) hx hb d_ZoneNodesModel_exact_38 (by decide) ?_
        refine lv_istore (lv' := [(7, .int 0), (6, .int 0), (0, .ref w0), (2, .int w2), (3, .int w3), (4, .int w4), (5, .int w5)]) hx hb d_ZoneNodesModel_exact_39 hl (by decide) rfl (fun ls hl => ?_)
        replace hm := zb1_s hm
        obtain ⟨v34, h35, hm⟩ := hm
        refine hL41 N X w0 w2 w3 w4 w5 0 0 v34 _ _ _ h35 hX hS (lv_sub hl [2, 3, 4, 5, 6, 1, 0] rfl) (fun H locs ls hX hS hl => ?_)
        refine lv_iload hx hb d_ZoneNodesModel_exact_127 (lv_at hl 3 rfl) ?_
        refine lv_if_eq (tgt := 153) hx hb d_ZoneNodesModel_exact_129 rfl (fun h36 => ?_) (fun h36 => ?_)
        · replace hm := zi_t h36 hm
          refine lv_iconst (v := 0) hx hb d_ZoneNodesModel_exact_153 (by decide) ?_
          refine lv_istore (lv' := [(4, .int 0), (0, .ref w0), (2, .int w2), (3, .int w3), (5, .int w5), (6, .int v34)]) hx hb d_ZoneNodesModel_exact_154 hl (by decide) rfl (fun ls hl => ?_)
          refine lv_iinc (v := w5 + 1) (lv' := [(5, .int (w5 + 1)), (4, .int 0), (0, .ref w0), (2, .int w2), (3, .int w3), (6, .int v34)]) hx hb d_ZoneNodesModel_exact_156 hl (k := 4) rfl (by rw [show Int32.ofInt 1 = 1 by decide]) (by decide) rfl (fun ls hl => ?_)
          refine lv_goto (tgt := 28) hx hb d_ZoneNodesModel_exact_159 rfl ?_
          exact ih X w0 w2 w3 0 (w5 + 1) v _ _ _ hm hX hS (lv_sub hl [2, 3, 4, 1, 0] rfl) hexit
        · replace hm := zi_f h36 hm
          refine lv_iload hx hb d_ZoneNodesModel_exact_132 (lv_at hl 5 rfl) ?_
          refine lv_aload_n hx hb d_ZoneNodesModel_exact_134 rfl (lv_at hl 0 rfl) ?_
          replace hm := zb1_s hm
          obtain ⟨a38, h37, hm⟩ := hm
          refine zr_get (ci := 9) (C := R_ZoneNodesModel) (T := F_ZoneNodesModel) (N := 32) hx hb hts in_ZoneNodesModel hown hk hX rfl 7 (by decide) (hts _ tW446) rfl (zgr_v h37) d_ZoneNodesModel_exact_135 ?_
          refine lv_iload_n hx hb d_ZoneNodesModel_exact_138 rfl (lv_at hl 1 rfl) ?_
          refine lv_iload_n hx hb d_ZoneNodesModel_exact_139 rfl (lv_at hl 2 rfl) ?_
          refine lv_iload hx hb d_ZoneNodesModel_exact_140 (lv_at hl 4 rfl) ?_
          replace hm := zb1_s hm
          obtain ⟨v40, h39, hm⟩ := hm
          refine zr_calli (zr_runS (As := [.int w2, .int w3, .int w5]) (rest := [.ref a38, .int v34]) (n := 3) hx hb hml hown hts hk hX (c_ZoneNodesModel_place l G N X w2 w3 w5 v40 h39) (hts _ tW467) tW468 (hts _ tW469) (hts _ tW470) (by decide +kernel) ⟨Nat.le_of_ble_eq_true rfl, Nat.le_of_ble_eq_true rfl⟩ rfl rfl hl.1 rfl (lv_room (Nat.le_of_ble_eq_true rfl)) d_ZoneNodesModel_exact_142 ⟨(Nat.le_of_ble_eq_true rfl), (Nat.le_of_ble_eq_true rfl)⟩) hS (fun H locs hX hS => ?_)
          replace hm := zb1_s hm
          obtain ⟨v41, h42, hm⟩ := hm
          refine zr_baload hx hb hk hX h42 d_ZoneNodesModel_exact_145 ?_
          refine lv_icmp_ne (tgt := 153) hx hb d_ZoneNodesModel_exact_146 rfl (fun h43 => ?_) (fun h43 => ?_)
          · replace hm := zi_f h43 hm
            refine lv_iconst (v := 0) hx hb d_ZoneNodesModel_exact_153 (by decide) ?_
            refine lv_istore (lv' := [(4, .int 0), (0, .ref w0), (2, .int w2), (3, .int w3), (5, .int w5), (6, .int v34)]) hx hb d_ZoneNodesModel_exact_154 hl (by decide) rfl (fun ls hl => ?_)
            refine lv_iinc (v := w5 + 1) (lv' := [(5, .int (w5 + 1)), (4, .int 0), (0, .ref w0), (2, .int w2), (3, .int w3), (6, .int v34)]) hx hb d_ZoneNodesModel_exact_156 hl (k := 4) rfl (by rw [show Int32.ofInt 1 = 1 by decide]) (by decide) rfl (fun ls hl => ?_)
            refine lv_goto (tgt := 28) hx hb d_ZoneNodesModel_exact_159 rfl ?_
            exact ih X w0 w2 w3 0 (w5 + 1) v _ _ _ hm hX hS (lv_sub hl [2, 3, 4, 1, 0] rfl) hexit
          · replace hm := zi_t h43 hm
            refine lv_iconst (v := 1) hx hb d_ZoneNodesModel_exact_149 (by decide) ?_
            refine lv_goto (tgt := 154) hx hb d_ZoneNodesModel_exact_150 rfl ?_
            refine lv_istore (lv' := [(4, .int 1), (0, .ref w0), (2, .int w2), (3, .int w3), (5, .int w5), (6, .int v34)]) hx hb d_ZoneNodesModel_exact_154 hl (by decide) rfl (fun ls hl => ?_)
            refine lv_iinc (v := w5 + 1) (lv' := [(5, .int (w5 + 1)), (4, .int 1), (0, .ref w0), (2, .int w2), (3, .int w3), (6, .int v34)]) hx hb d_ZoneNodesModel_exact_156 hl (k := 4) rfl (by rw [show Int32.ofInt 1 = 1 by decide]) (by decide) rfl (fun ls hl => ?_)
            refine lv_goto (tgt := 28) hx hb d_ZoneNodesModel_exact_159 rfl ?_
            exact ih X w0 w2 w3 1 (w5 + 1) v _ _ _ hm hX hS (lv_sub hl [2, 3, 4, 1, 0] rfl) hexit
  refine lv_aload_n hx hb d_ZoneNodesModel_exact_0 rfl (lv_at hl 0 rfl) ?_
  replace hm := zb1_s hm
  obtain ⟨a2, h1, hm⟩ := hm
  refine zr_get (ci := 9) (C := R_ZoneNodesModel) (T := F_ZoneNodesModel) (N := 32) hx hb hts in_ZoneNodesModel hown hk hX rfl 16 (by decide) (hts _ tW451) rfl (zgr_v h1) d_ZoneNodesModel_exact_1 ?_
  refine lv_iconst (v := 4) hx hb d_ZoneNodesModel_exact_4 (by decide) ?_
  refine lv_iload_n hx hb d_ZoneNodesModel_exact_5 rfl (lv_at hl 1 rfl) ?_
  refine lv_imul hx hb d_ZoneNodesModel_exact_6 ?_
  refine lv_iconst (v := 1) hx hb d_ZoneNodesModel_exact_7 (by decide) ?_
  refine lv_iadd hx hb d_ZoneNodesModel_exact_8 ?_
  replace hm := zb1_s hm
  obtain ⟨v3, h4, hm⟩ := hm
  refine zr_iaload hx hb hk hX h4 d_ZoneNodesModel_exact_9 ?_
  refine lv_istore_n (lv' := [(2, .int v3), (0, .ref x0), (1, .int x1)]) hx hb d_ZoneNodesModel_exact_10 rfl hl (by decide) rfl (fun ls hl => ?_)
  refine lv_aload_n hx hb d_ZoneNodesModel_exact_11 rfl (lv_at hl 1 rfl) ?_
  replace hm := zb1_s hm
  obtain ⟨a6, h5, hm⟩ := hm
  refine zr_get (ci := 9) (C := R_ZoneNodesModel) (T := F_ZoneNodesModel) (N := 32) hx hb hts in_ZoneNodesModel hown hk hX rfl 16 (by decide) (hts _ tW451) rfl (zgr_v h5) d_ZoneNodesModel_exact_12 ?_
  refine lv_iconst (v := 4) hx hb d_ZoneNodesModel_exact_15 (by decide) ?_
  refine lv_iload_n hx hb d_ZoneNodesModel_exact_16 rfl (lv_at hl 2 rfl) ?_
  refine lv_imul hx hb d_ZoneNodesModel_exact_17 ?_
  refine lv_iconst (v := 2) hx hb d_ZoneNodesModel_exact_18 (by decide) ?_
  refine lv_iadd hx hb d_ZoneNodesModel_exact_19 ?_
  replace hm := zb1_s hm
  obtain ⟨v7, h8, hm⟩ := hm
  refine zr_iaload hx hb hk hX h8 d_ZoneNodesModel_exact_20 ?_
  refine lv_istore_n (lv' := [(3, .int v7), (2, .int v3), (0, .ref x0), (1, .int x1)]) hx hb d_ZoneNodesModel_exact_21 rfl hl (by decide) rfl (fun ls hl => ?_)
  refine lv_iconst (v := 1) hx hb d_ZoneNodesModel_exact_22 (by decide) ?_
  refine lv_istore (lv' := [(4, .int 1), (3, .int v7), (2, .int v3), (0, .ref x0), (1, .int x1)]) hx hb d_ZoneNodesModel_exact_23 hl (by decide) rfl (fun ls hl => ?_)
  refine lv_iconst (v := 0) hx hb d_ZoneNodesModel_exact_25 (by decide) ?_
  refine lv_istore (lv' := [(5, .int 0), (4, .int 1), (3, .int v7), (2, .int v3), (0, .ref x0), (1, .int x1)]) hx hb d_ZoneNodesModel_exact_26 hl (by decide) rfl (fun ls hl => ?_)
  replace hm := zb1_s hm
  obtain ⟨v44, h45, hm⟩ := hm
  refine hL28 N X x0 v3 v7 1 0 v44 _ _ _ h45 hX hS (lv_sub hl [4, 3, 2, 1, 0] rfl) (fun H locs ls hX hS hl => ?_)
  refine lv_iload hx hb d_ZoneNodesModel_exact_162 (lv_at hl 0 rfl) ?_
  replace hm := zb1_s hm
  obtain ⟨v46, h47, hm⟩ := hm
  obtain ⟨h47e, h47n⟩ := zbz_s h47
  subst h47e
  cases hm
  exact W.zret hx hb hr h47n (fun t ht hW => zh_end hk hX hS ht hW) hS.2.2 d_ZoneNodesModel_exact_164
set_option maxHeartbeats 4000000 in
set_option maxRecDepth 100000 in
theorem c_ZoneNodesModel_count (l : Launch) (G : zh_G) (N : Nat) (X : zh_T) (x0 : Nat) (x1 : Int32) (x2 : Int32) (r : Int32) (hm : f_ZoneNodesModel_count N X x0 x1 x2 = some r) : zM l G y_ZoneNodesModel_count w_ZoneNodesModel_count 0 0 X [.ref x0, .int x1, .int x2] (some (.int r)) X 0 0 := by
  refine zr_ofW (by decide) (by exact Nat.le_of_ble_eq_true rfl) ?_
  intro p e s m args below meth c ls hx hb hml hr hts hown hin hlocks hk hX hl
  have hS : va_S (zh_A G) s.heap s.heap [] := va_S.rf
  have hl : lv_has ls 5 [(0, .ref x0), (1, .int x1), (2, .int x2)] := hl
  have hown : s.vm.findClass R_ZoneNodesModel = some m.cls := hown
  unfold f_ZoneNodesModel_count at hm
  have hL8 : ∀ (n : Nat) (X : zh_T) (w0 : Nat) (w1 : Int32) (w2 : Int32) (w3 : Int32) (w4 : Int32) (v : Int32) (H : Heap) (locs : List Loc) (ls : Array Slot), L_ZoneNodesModel_count_8 N X w0 w1 w2 n w3 w4 = some v → zh_w G X H → va_S (zh_A G) s.heap H locs → lv_has ls 5 [(0, .ref w0), (1, .int w1), (2, .int w2), (3, .int w3), (4, .int w4)] → (∀ (H : Heap) (locs : List Loc) (ls : Array Slot), zh_w G X H → va_S (zh_A G) s.heap H locs → lv_has ls 5 [(3, .int v)] → W p l e { frames := 0, cells := 0, slots := 0, locals := 0 } s m args below meth c H locs 0 0 (MQ below (zh_Q G (some (.int r)) X) args s 0 0 (zh_A G)) (F0 m 64 ls [])) → W p l e { frames := 0, cells := 0, slots := 0, locals := 0 } s m args below meth c H locs 0 0 (MQ below (zh_Q G (some (.int r)) X) args s 0 0 (zh_A G)) (F0 m 8 ls []) := by
    intro n
    induction n with
    | zero =>
      intro X w0 w1 w2 w3 w4 v H locs ls hm hX hS hl hexit
      rw [L_ZoneNodesModel_count_8] at hm
      cases hm
    | succ n ih =>
      intro X w0 w1 w2 w3 w4 v H locs ls hm hX hS hl hexit
      rw [L_ZoneNodesModel_count_8] at hm
      refine lv_iload hx hb d_ZoneNodesModel_count_8 (lv_at hl 4 rfl) ?_
      refine lv_bipush (v := 32) hx hb d_ZoneNodesModel_count_10 (by decide) ?_
      refine lv_iload_n hx hb d_ZoneNodesModel_count_12 rfl (lv_at hl 1 rfl) ?_
      refine lv_imul hx hb d_ZoneNodesModel_count_13 ?_
      refine lv_bipush (v := 32) hx hb d_ZoneNodesModel_count_14 (by decide) ?_
      refine lv_iadd hx hb d_ZoneNodesModel_count_16 ?_
      refine lv_icmp_ge (tgt := 64) hx hb d_ZoneNodesModel_count_17 rfl (fun h1 => ?_) (fun h1 => ?_)
      · replace hm := zi_t h1 hm
        cases hm
        exact hexit _ _ _ hX hS (lv_sub hl [3] rfl)
      · replace hm := zi_f h1 hm
        refine lv_iload_n hx hb d_ZoneNodesModel_count_20 rfl (lv_at hl 3 rfl) ?_
        refine lv_aload_n hx hb d_ZoneNodesModel_count_21 rfl (lv_at hl 0 rfl) ?_
        replace hm := zb1_s hm
        obtain ⟨a3, h2, hm⟩ := hm
        refine zr_get (ci := 9) (C := R_ZoneNodesModel) (T := F_ZoneNodesModel) (N := 32) hx hb hts in_ZoneNodesModel hown hk hX rfl 7 (by decide) (hts _ tW446) rfl (zgr_v h2) d_ZoneNodesModel_count_22 ?_
        refine lv_iload hx hb d_ZoneNodesModel_count_25 (lv_at hl 4 rfl) ?_
        replace hm := zb1_s hm
        obtain ⟨v4, h5, hm⟩ := hm
        refine zr_baload hx hb hk hX h5 d_ZoneNodesModel_count_27 ?_
        refine lv_if_eq (tgt := 55) hx hb d_ZoneNodesModel_count_28 rfl (fun h6 => ?_) (fun h6 => ?_)
        · replace hm := zi_t h6 hm
          refine lv_iconst (v := 0) hx hb d_ZoneNodesModel_count_55 (by decide) ?_
          refine lv_iadd hx hb d_ZoneNodesModel_count_56 ?_
          refine lv_istore_n (lv' := [(3, .int (w3 + 0)), (0, .ref w0), (1, .int w1), (2, .int w2), (4, .int w4)]) hx hb d_ZoneNodesModel_count_57 rfl hl (by decide) rfl (fun ls hl => ?_)
          refine lv_iinc (v := w4 + 1) (lv' := [(4, .int (w4 + 1)), (3, .int (w3 + 0)), (0, .ref w0), (1, .int w1), (2, .int w2)]) hx hb d_ZoneNodesModel_count_58 hl (k := 4) rfl (by rw [show Int32.ofInt 1 = 1 by decide]) (by decide) rfl (fun ls hl => ?_)
          refine lv_goto (tgt := 8) hx hb d_ZoneNodesModel_count_61 rfl ?_
          exact ih X w0 w1 w2 (w3 + 0) (w4 + 1) v _ _ _ hm hX hS (lv_sub hl [2, 3, 4, 1, 0] rfl) hexit
        · replace hm := zi_f h6 hm
          refine lv_iload_n hx hb d_ZoneNodesModel_count_31 rfl (lv_at hl 2 rfl) ?_
          refine lv_if_eq (tgt := 51) hx hb d_ZoneNodesModel_count_32 rfl (fun h7 => ?_) (fun h7 => ?_)
          · replace hm := zi_t h7 hm
            refine lv_iconst (v := 1) hx hb d_ZoneNodesModel_count_51 (by decide) ?_
            refine lv_goto (tgt := 56) hx hb d_ZoneNodesModel_count_52 rfl ?_
            refine lv_iadd hx hb d_ZoneNodesModel_count_56 ?_
            refine lv_istore_n (lv' := [(3, .int (w3 + 1)), (0, .ref w0), (1, .int w1), (2, .int w2), (4, .int w4)]) hx hb d_ZoneNodesModel_count_57 rfl hl (by decide) rfl (fun ls hl => ?_)
            refine lv_iinc (v := w4 + 1) (lv' := [(4, .int (w4 + 1)), (3, .int (w3 + 1)), (0, .ref w0), (1, .int w1), (2, .int w2)]) hx hb d_ZoneNodesModel_count_58 hl (k := 4) rfl (by rw [show Int32.ofInt 1 = 1 by decide]) (by decide) rfl (fun ls hl => ?_)
            refine lv_goto (tgt := 8) hx hb d_ZoneNodesModel_count_61 rfl ?_
            exact ih X w0 w1 w2 (w3 + 1) (w4 + 1) v _ _ _ hm hX hS (lv_sub hl [2, 3, 4, 1, 0] rfl) hexit
          · replace hm := zi_f h7 hm
            refine lv_iload hx hb d_ZoneNodesModel_count_35 (lv_at hl 4 rfl) ?_
            refine lv_bipush (v := 32) hx hb d_ZoneNodesModel_count_37 (by decide) ?_
            refine lv_iload_n hx hb d_ZoneNodesModel_count_39 rfl (lv_at hl 1 rfl) ?_
            refine lv_imul hx hb d_ZoneNodesModel_count_40 ?_
            refine lv_isub hx hb d_ZoneNodesModel_count_41 ?_
            refine lv_bipush (v := 8) hx hb d_ZoneNodesModel_count_42 (by decide) ?_
            refine lv_idiv hx hb d_ZoneNodesModel_count_44 (by decide) ?_
            refine lv_iload_n hx hb d_ZoneNodesModel_count_45 rfl (lv_at hl 2 rfl) ?_
            refine lv_iconst (v := 1) hx hb d_ZoneNodesModel_count_46 (by decide) ?_
            refine lv_isub hx hb d_ZoneNodesModel_count_47 ?_
            refine lv_icmp_ne (tgt := 55) hx hb d_ZoneNodesModel_count_48 rfl (fun h8 => ?_) (fun h8 => ?_)
            · replace hm := zi_f h8 hm
              refine lv_iconst (v := 0) hx hb d_ZoneNodesModel_count_55 (by decide) ?_
              refine lv_iadd hx hb d_ZoneNodesModel_count_56 ?_
              refine lv_istore_n (lv' := [(3, .int (w3 + 0)), (0, .ref w0), (1, .int w1), (2, .int w2), (4, .int w4)]) hx hb d_ZoneNodesModel_count_57 rfl hl (by decide) rfl (fun ls hl => ?_)
              refine lv_iinc (v := w4 + 1) (lv' := [(4, .int (w4 + 1)), (3, .int (w3 + 0)), (0, .ref w0), (1, .int w1), (2, .int w2)]) hx hb d_ZoneNodesModel_count_58 hl (k := 4) rfl (by rw [show Int32.ofInt 1 = 1 by decide]) (by decide) rfl (fun ls hl => ?_)
              refine lv_goto (tgt := 8) hx hb d_ZoneNodesModel_count_61 rfl ?_
              exact ih X w0 w1 w2 (w3 + 0) (w4 + 1) v _ _ _ hm hX hS (lv_sub hl [2, 3, 4, 1, 0] rfl) hexit
            · replace hm := zi_t h8 hm
              refine lv_iconst (v := 1) hx hb d_ZoneNodesModel_count_51 (by decide) ?_
              refine lv_goto (tgt := 56) hx hb d_ZoneNodesModel_count_52 rfl ?_
              refine lv_iadd hx hb d_ZoneNodesModel_count_56 ?_
              refine lv_istore_n (lv' := [(3, .int (w3 + 1)), (0, .ref w0), (1, .int w1), (2, .int w2), (4, .int w4)]) hx hb d_ZoneNodesModel_count_57 rfl hl (by decide) rfl (fun ls hl => ?_)
              refine lv_iinc (v := w4 + 1) (lv' := [(4, .int (w4 + 1)), (3, .int (w3 + 1)), (0, .ref w0), (1, .int w1), (2, .int w2)]) hx hb d_ZoneNodesModel_count_58 hl (k := 4) rfl (by rw [show Int32.ofInt 1 = 1 by decide]) (by decide) rfl (fun ls hl => ?_)
              refine lv_goto (tgt := 8) hx hb d_ZoneNodesModel_count_61 rfl ?_
              exact ih X w0 w1 w2 (w3 + 1) (w4 + 1) v _ _ _ hm hX hS (lv_sub hl [2, 3, 4, 1, 0] rfl) hexit
  refine lv_iconst (v := 0) hx hb d_ZoneNodesModel_count_0 (by decide) ?_
  refine lv_istore_n (lv' := [(3, .int 0), (0, .ref x0), (1, .int x1), (2, .int x2)]) hx hb d_ZoneNodesModel_count_1 rfl hl (by decide) rfl (fun ls hl => ?_)
  refine lv_bipush (v := 32) hx hb d_ZoneNodesModel_count_2 (by decide) ?_
  refine lv_iload_n hx hb d_ZoneNodesModel_count_4 rfl (lv_at hl 2 rfl) ?_
  refine lv_imul hx hb d_ZoneNodesModel_count_5 ?_
  refine lv_istore (lv' := [(4, .int (32 * x1)), (3, .int 0), (0, .ref x0), (1, .int x1), (2, .int x2)]) hx hb d_ZoneNodesModel_count_6 hl (by decide) rfl (fun ls hl => ?_)
  replace hm := zb1_s hm
  obtain ⟨v9, h10, hm⟩ := hm
  refine hL8 N X x0 x1 x2 0 (32 * x1) v9 _ _ _ h10 hX hS (lv_sub hl [2, 3, 4, 1, 0] rfl) (fun H locs ls hX hS hl => ?_)
  refine lv_iload_n hx hb d_ZoneNodesModel_count_64 rfl (lv_at hl 0 rfl) ?_
  cases hm
  exact W.iret hx hb hr (fun t ht hW => zh_end hk hX hS ht hW) hS.2.2 d_ZoneNodesModel_count_65
set_option maxHeartbeats 4000000 in
set_option maxRecDepth 100000 in
theorem c_ZoneNodesModel_meets (l : Launch) (G : zh_G) (N : Nat) (X : zh_T) (x0 : Nat) (x1 : Int32) (r : Int32) (hm : f_ZoneNodesModel_meets N X x0 x1 = some r) : zM l G y_ZoneNodesModel_meets w_ZoneNodesModel_meets 1 24 X [.ref x0, .int x1] (some (.int r)) X 0 0 := by
  refine zr_ofW (by decide) (by exact Nat.le_of_ble_eq_true rfl) ?_
  intro p e s m args below meth c ls hx hb hml hr hts hown hin hlocks hk hX hl
  have hS : va_S (zh_A G) s.heap s.heap [] := va_S.rf
  have hl : lv_has ls 5 [(0, .ref x0), (1, .int x1)] := hl
  have hown : s.vm.findClass R_ZoneNodesModel = some m.cls := hown
  unfold f_ZoneNodesModel_meets at hm
  refine lv_aload_n hx hb d_ZoneNodesModel_meets_0 rfl (lv_at hl 0 rfl) ?_
  replace hm := zb1_s hm
  obtain ⟨a2, h1, hm⟩ := hm
  refine zr_get (ci := 9) (C := R_ZoneNodesModel) (T := F_ZoneNodesModel) (N := 32) hx hb hts in_ZoneNodesModel hown hk hX rfl 16 (by decide) (hts _ tW451) rfl (zgr_v h1) d_ZoneNodesModel_meets_1 ?_
  refine lv_iconst (v := 4) hx hb d_ZoneNodesModel_meets_4 (by decide) ?_
  refine lv_iload_n hx hb d_ZoneNodesModel_meets_5 rfl (lv_at hl 1 rfl) ?_
  refine lv_imul hx hb d_ZoneNodesModel_meets_6 ?_
  replace hm := zb1_s hm
  obtain ⟨v3, h4, hm⟩ := hm
  refine zr_iaload hx hb hk hX h4 d_ZoneNodesModel_meets_7 ?_
  refine lv_istore_n (lv' := [(2, .int v3), (0, .ref x0), (1, .int x1)]) hx hb d_ZoneNodesModel_meets_8 rfl hl (by decide) rfl (fun ls hl => ?_)
  refine lv_aload_n hx hb d_ZoneNodesModel_meets_9 rfl (lv_at hl 1 rfl) ?_
  refine lv_aload_n hx hb d_ZoneNodesModel_meets_10 rfl (lv_at hl 1 rfl) ?_
  replace hm := zb1_s hm
  obtain ⟨a6, h5, hm⟩ := hm
  refine zr_get (ci := 9) (C := R_ZoneNodesModel) (T := F_ZoneNodesModel) (N := 32) hx hb hts in_ZoneNodesModel hown hk hX rfl 16 (by decide) (hts _ tW451) rfl (zgr_v h5) d_ZoneNodesModel_meets_11 ?_
  refine lv_iconst (v := 4) hx hb d_ZoneNodesModel_meets_14 (by decide) ?_
  refine lv_iload_n hx hb d_ZoneNodesModel_meets_15 rfl (lv_at hl 2 rfl) ?_
  refine lv_imul hx hb d_ZoneNodesModel_meets_16 ?_
  refine lv_iconst (v := 1) hx hb d_ZoneNodesModel_meets_17 (by decide) ?_
  refine lv_iadd hx hb d_ZoneNodesModel_meets_18 ?_
  replace hm := zb1_s hm
  obtain ⟨v7, h8, hm⟩ := hm
  refine zr_iaload hx hb hk hX h8 d_ZoneNodesModel_meets_19 ?_
  refine lv_iconst (v := 0) hx hb d_ZoneNodesModel_meets_20 (by decide) ?_
  replace hm := zb1_s hm
  obtain ⟨_, h10, hm⟩ := hm
  replace hm := zb1_s hm
  obtain ⟨v11, h9, hm⟩ := hm
  refine zr_calli (zr_runV (As := [.int v7, .int 0]) (rest := []) (n := 2) hx hb hml hown hts hk hX (c_ZoneNodesModel_count l G N X x0 v7 0 v11 h9) (hts _ tW571) tW572 (hts _ tW469) (hts _ tW573) (hts _ tW574) rfl h10 (by decide +kernel) ⟨Nat.le_of_ble_eq_true rfl, Nat.le_of_ble_eq_true rfl⟩ rfl rfl hl.1 rfl (lv_room (Nat.le_of_ble_eq_true rfl)) d_ZoneNodesModel_meets_21 ⟨(Nat.le_of_ble_eq_true rfl), (Nat.le_of_ble_eq_true rfl)⟩) hS (fun H locs hX hS => ?_)
  refine lv_istore_n (lv' := [(3, .int v11), (2, .int v3), (0, .ref x0), (1, .int x1)]) hx hb d_ZoneNodesModel_meets_24 rfl hl (by decide) rfl (fun ls hl => ?_)
  refine lv_aload_n hx hb d_ZoneNodesModel_meets_25 rfl (lv_at hl 2 rfl) ?_
  refine lv_aload_n hx hb d_ZoneNodesModel_meets_26 rfl (lv_at hl 2 rfl) ?_
  replace hm := zb1_s hm
  obtain ⟨a13, h12, hm⟩ := hm
  refine zr_get (ci := 9) (C := R_ZoneNodesModel) (T := F_ZoneNodesModel) (N := 32) hx hb hts in_ZoneNodesModel hown hk hX rfl 16 (by decide) (hts _ tW451) rfl (zgr_v h12) d_ZoneNodesModel_meets_27 ?_
  refine lv_iconst (v := 4) hx hb d_ZoneNodesModel_meets_30 (by decide) ?_
  refine lv_iload_n hx hb d_ZoneNodesModel_meets_31 rfl (lv_at hl 3 rfl) ?_
  refine lv_imul hx hb d_ZoneNodesModel_meets_32 ?_
  refine lv_iconst (v := 1) hx hb d_ZoneNodesModel_meets_33 (by decide) ?_
  refine lv_iadd hx hb d_ZoneNodesModel_meets_34 ?_
  replace hm := zb1_s hm
  obtain ⟨v14, h15, hm⟩ := hm
  refine zr_iaload hx hb hk hX h15 d_ZoneNodesModel_meets_35 ?_
  refine lv_aload_n hx hb d_ZoneNodesModel_meets_36 rfl (lv_at hl 2 rfl) ?_
  replace hm := zb1_s hm
  obtain ⟨a17, h16, hm⟩ := hm
  refine zr_get (ci := 9) (C := R_ZoneNodesModel) (T := F_ZoneNodesModel) (N := 32) hx hb hts in_ZoneNodesModel hown hk hX rfl 16 (by decide) (hts _ tW451) rfl (zgr_v h16) d_ZoneNodesModel_meets_37 ?_
  refine lv_iconst (v := 4) hx hb d_ZoneNodesModel_meets_40 (by decide) ?_
  refine lv_iload_n hx hb d_ZoneNodesModel_meets_41 rfl (lv_at hl 3 rfl) ?_
  refine lv_imul hx hb d_ZoneNodesModel_meets_42 ?_
  refine lv_iconst (v := 2) hx hb d_ZoneNodesModel_meets_43 (by decide) ?_
  refine lv_iadd hx hb d_ZoneNodesModel_meets_44 ?_
  replace hm := zb1_s hm
  obtain ⟨v18, h19, hm⟩ := hm
  refine zr_iaload hx hb hk hX h19 d_ZoneNodesModel_meets_45 ?_
  replace hm := zb1_s hm
  obtain ⟨_, h21, hm⟩ := hm
  replace hm := zb1_s hm
  obtain ⟨v22, h20, hm⟩ := hm
  refine zr_calli (zr_runV (As := [.int v14, .int v18]) (rest := []) (n := 2) hx hb hml hown hts hk hX (c_ZoneNodesModel_count l G N X x0 v14 v18 v22 h20) (hts _ tW571) tW572 (hts _ tW469) (hts _ tW573) (hts _ tW574) rfl h21 (by decide +kernel) ⟨Nat.le_of_ble_eq_true rfl, Nat.le_of_ble_eq_true rfl⟩ rfl rfl hl.1 rfl (lv_room (Nat.le_of_ble_eq_true rfl)) d_ZoneNodesModel_meets_46 ⟨(Nat.le_of_ble_eq_true rfl), (Nat.le_of_ble_eq_true rfl)⟩) hS (fun H locs hX hS => ?_)
  refine lv_istore (lv' := [(4, .int v22), (3, .int v11), (2, .int v3), (0, .ref x0), (1, .int x1)]) hx hb d_ZoneNodesModel_meets_49 hl (by decide) rfl (fun ls hl => ?_)
  refine lv_iload_n hx hb d_ZoneNodesModel_meets_51 rfl (lv_at hl 2 rfl) ?_
  refine lv_if_ne (tgt := 67) hx hb d_ZoneNodesModel_meets_52 rfl (fun h23 => ?_) (fun h23 => ?_)
  · replace hm := zi_f h23 hm
    refine lv_iload_n hx hb d_ZoneNodesModel_meets_67 rfl (lv_at hl 2 rfl) ?_
    refine lv_iconst (v := 1) hx hb d_ZoneNodesModel_meets_68 (by decide) ?_
    refine lv_icmp_ne (tgt := 84) hx hb d_ZoneNodesModel_meets_69 rfl (fun h24 => ?_) (fun h24 => ?_)
    · replace hm := zi_f h24 hm
      refine lv_iload_n hx hb d_ZoneNodesModel_meets_84 rfl (lv_at hl 2 rfl) ?_
      refine lv_iconst (v := 2) hx hb d_ZoneNodesModel_meets_85 (by decide) ?_
      refine lv_icmp_ne (tgt := 102) hx hb d_ZoneNodesModel_meets_86 rfl (fun h25 => ?_) (fun h25 => ?_)
      · replace hm := zi_f h25 hm
        refine lv_iload_n hx hb d_ZoneNodesModel_meets_102 rfl (lv_at hl 2 rfl) ?_
        refine lv_iconst (v := 4) hx hb d_ZoneNodesModel_meets_103 (by decide) ?_
        refine lv_icmp_ne (tgt := 120) hx hb d_ZoneNodesModel_meets_104 rfl (fun h26 => ?_) (fun h26 => ?_)
        · replace hm := zi_f h26 hm
          refine lv_iconst (v := 1) hx hb d_ZoneNodesModel_meets_120 (by decide) ?_
          cases hm
          exact W.zret hx hb hr (by decide) (fun t ht hW => zh_end hk hX hS ht hW) hS.2.2 d_ZoneNodesModel_meets_121
        · replace hm := zi_t h26 hm
          refine lv_iload hx hb d_ZoneNodesModel_meets_107 (lv_at hl 0 rfl) ?_
          refine lv_if_ne (tgt := 116) hx hb d_ZoneNodesModel_meets_109 rfl (fun h27 => ?_) (fun h27 => ?_)
          · replace hm := zi_f h27 hm
            refine lv_iconst (v := 0) hx hb d_ZoneNodesModel_meets_116 (by decide) ?_
            refine lv_goto (tgt := 121) hx hb d_ZoneNodesModel_meets_117 rfl ?_
            cases hm
            exact W.zret hx hb hr (by decide) (fun t ht hW => zh_end hk hX hS ht hW) hS.2.2 d_ZoneNodesModel_meets_121
          · replace hm := zi_t h27 hm
            refine lv_iconst (v := 1) hx hb d_ZoneNodesModel_meets_112 (by decide) ?_
            refine lv_goto (tgt := 121) hx hb d_ZoneNodesModel_meets_113 rfl ?_
            cases hm
            exact W.zret hx hb hr (by decide) (fun t ht hW => zh_end hk hX hS ht hW) hS.2.2 d_ZoneNodesModel_meets_121
      · replace hm := zi_t h25 hm
        refine lv_iload hx hb d_ZoneNodesModel_meets_89 (lv_at hl 0 rfl) ?_
        refine lv_if_le (tgt := 98) hx hb d_ZoneNodesModel_meets_91 rfl (fun h28 => ?_) (fun h28 => ?_)
        · replace hm := zi_t h28 hm
          refine lv_iconst (v := 0) hx hb d_ZoneNodesModel_meets_98 (by decide) ?_
          refine lv_goto (tgt := 121) hx hb d_ZoneNodesModel_meets_99 rfl ?_
          cases hm
          exact W.zret hx hb hr (by decide) (fun t ht hW => zh_end hk hX hS ht hW) hS.2.2 d_ZoneNodesModel_meets_121
        · replace hm := zi_f h28 hm
          refine lv_iconst (v := 1) hx hb d_ZoneNodesModel_meets_94 (by decide) ?_
          refine lv_goto (tgt := 121) hx hb d_ZoneNodesModel_meets_95 rfl ?_
          cases hm
          exact W.zret hx hb hr (by decide) (fun t ht hW => zh_end hk hX hS ht hW) hS.2.2 d_ZoneNodesModel_meets_121
    · replace hm := zi_t h24 hm
      refine lv_iload_n hx hb d_ZoneNodesModel_meets_72 rfl (lv_at hl 1 rfl) ?_
      refine lv_if_ne (tgt := 80) hx hb d_ZoneNodesModel_meets_73 rfl (fun h29 => ?_) (fun h29 => ?_)
      · replace hm := zi_f h29 hm
        refine lv_iconst (v := 0) hx hb d_ZoneNodesModel_meets_80 (by decide) ?_
        refine lv_goto (tgt := 121) hx hb d_ZoneNodesModel_meets_81 rfl ?_
        cases hm
        exact W.zret hx hb hr (by decide) (fun t ht hW => zh_end hk hX hS ht hW) hS.2.2 d_ZoneNodesModel_meets_121
      · replace hm := zi_t h29 hm
        refine lv_iconst (v := 1) hx hb d_ZoneNodesModel_meets_76 (by decide) ?_
        refine lv_goto (tgt := 121) hx hb d_ZoneNodesModel_meets_77 rfl ?_
        cases hm
        exact W.zret hx hb hr (by decide) (fun t ht hW => zh_end hk hX hS ht hW) hS.2.2 d_ZoneNodesModel_meets_121
  · replace hm := zi_t h23 hm
    refine lv_iload_n hx hb d_ZoneNodesModel_meets_55 rfl (lv_at hl 1 rfl) ?_
    refine lv_if_le (tgt := 63) hx hb d_ZoneNodesModel_meets_56 rfl (fun h30 => ?_) (fun h30 => ?_)
    · replace hm := zi_t h30 hm
      refine lv_iconst (v := 0) hx hb d_ZoneNodesModel_meets_63 (by decide) ?_
      refine lv_goto (tgt := 121) hx hb d_ZoneNodesModel_meets_64 rfl ?_
      cases hm
      exact W.zret hx hb hr (by decide) (fun t ht hW => zh_end hk hX hS ht hW) hS.2.2 d_ZoneNodesModel_meets_121
    · replace hm := zi_f h30 hm
      refine lv_iconst (v := 1) hx hb d_ZoneNodesModel_meets_59 (by decide) ?_
      refine lv_goto (tgt := 121) hx hb d_ZoneNodesModel_meets_60 rfl ?_
      cases hm
      exact W.zret hx hb hr (by decide) (fun t ht hW => zh_end hk hX hS ht hW) hS.2.2 d_ZoneNodesModel_meets_121
set_option maxHeartbeats 4000000 in
set_option maxRecDepth 100000 in
theorem c_ZoneNodesModel_refusal (l : Launch) (G : zh_G) (N : Nat) (X : zh_T) (x0 : Nat) (x1 : Int32) (x2 : Int32) (x3 : Int32) (r : Int32) (hm : f_ZoneNodesModel_refusal N X x0 x1 x2 x3 = some r) : zM l G y_ZoneNodesModel_refusal w_ZoneNodesModel_refusal 2 49 X [.ref x0, .int x1, .int x2, .int x3] (some (.int r)) X 0 0 := by
  refine zr_ofW (by decide) (by exact Nat.le_of_ble_eq_true rfl) ?_
  intro p e s m args below meth c ls hx hb hml hr hts hown hin hlocks hk hX hl
  have hS : va_S (zh_A G) s.heap s.heap [] := va_S.rf
  have hl : lv_has ls 8 [(0, .ref x0), (1, .int x1), (2, .int x2), (3, .int x3)] := hl
  have hown : s.vm.findClass R_ZoneNodesModel = some m.cls := hown
  unfold f_ZoneNodesModel_refusal at hm
  have hL68 : ∀ (n : Nat) (X : zh_T) (w0 : Nat) (w6 : Int32) (o : (Int32 ⊕ Unit)) (H : Heap) (locs : List Loc) (ls : Array Slot), L_ZoneNodesModel_refusal_68 N X w0 n w6 = some o → zh_w G X H → va_S (zh_A G) s.heap H locs → lv_has ls 8 [(0, .ref w0), (6, .int w6)] → (∀ r0 : Int32, o = Sum.inl r0 → r0 = r) → (∀ v : Unit, o = Sum.inr v → ∀ (H : Heap) (locs : List Loc) (ls : Array Slot), zh_w G X H → va_S (zh_A G) s.heap H locs → lv_has ls 8 [(0, .ref w0)] → W p l e { frames := 2, cells := 0, slots := 0, locals := 49 } s m args below meth c H locs 0 0 (MQ below (zh_Q G (some (.int r)) X) args s 0 0 (zh_A G)) (F0 m 137 ls [])) → W p l e { frames := 2, cells := 0, slots := 0, locals := 49 } s m args below meth c H locs 0 0 (MQ below (zh_Q G (some (.int r)) X) args s 0 0 (zh_A G)) (F0 m 68 ls []) := by
    intro n
    induction n with
    | zero =>
      intro X w0 w6 o H locs ls hm hX hS hl hret hexit
      rw [L_ZoneNodesModel_refusal_68] at hm
      cases hm
    | succ n ih =>
      intro X w0 w6 o H locs ls hm hX hS hl hret hexit
      rw [L_ZoneNodesModel_refusal_68] at hm
      refine lv_iload hx hb d_ZoneNodesModel_refusal_68 (lv_at hl 1 rfl) ?_
      refine lv_aload_n hx hb d_ZoneNodesModel_refusal_70 rfl (lv_at hl 0 rfl) ?_
      replace hm := zb1_s hm
      obtain ⟨v17, h16, hm⟩ := hm
      refine zr_get (ci := 9) (C := R_ZoneNodesModel) (T := F_ZoneNodesModel) (N := 32) hx hb hts in_ZoneNodesModel hown hk hX rfl 14 (by decide) (hts _ tW538) rfl (zgi_v h16) d_ZoneNodesModel_refusal_71 ?_
      refine lv_icmp_ge (tgt := 137) hx hb d_ZoneNodesModel_refusal_74 rfl (fun h18 => ?_) (fun h18 => ?_)
      · replace hm := zi_t h18 hm
        exact hexit _ (Option.some.inj hm).symm _ _ _ hX hS (lv_sub hl [0] rfl)
      · replace hm := zi_f h18 hm
        refine lv_aload_n hx hb d_ZoneNodesModel_refusal_77 rfl (lv_at hl 0 rfl) ?_
        replace hm := zb1_s hm
        obtain ⟨a20, h19, hm⟩ := hm
        refine zr_get (ci := 9) (C := R_ZoneNodesModel) (T := F_ZoneNodesModel) (N := 32) hx hb hts in_ZoneNodesModel hown hk hX rfl 16 (by decide) (hts _ tW451) rfl (zgr_v h19) d_ZoneNodesModel_refusal_78 ?_
        refine lv_iconst (v := 4) hx hb d_ZoneNodesModel_refusal_81 (by decide) ?_
        refine lv_iload hx hb d_ZoneNodesModel_refusal_82 (lv_at hl 1 rfl) ?_
        refine lv_imul hx hb d_ZoneNodesModel_refusal_84 ?_
        replace hm := zb1_s hm
        obtain ⟨v21, h22, hm⟩ := hm
        refine zr_iaload hx hb hk hX h22 d_ZoneNodesModel_refusal_85 ?_
        refine lv_istore (lv' := [(7, .int v21), (0, .ref w0), (6, .int w6)]) hx hb d_ZoneNodesModel_refusal_86 hl (by decide) rfl (fun ls hl => ?_)
        refine lv_aload_n hx hb d_ZoneNodesModel_refusal_88 rfl (lv_at hl 1 rfl) ?_
        refine lv_iload hx hb d_ZoneNodesModel_refusal_89 (lv_at hl 2 rfl) ?_
        replace hm := zb1_s hm
        obtain ⟨_, h24, hm⟩ := hm
        replace hm := zb1_s hm
        obtain ⟨v25, h23, hm⟩ := hm
        refine zr_calli (zr_runV (As := [.int w6]) (rest := []) (n := 1) hx hb hml hown hts hk hX (c_ZoneNodesModel_meets l G N X w0 w6 v25 h23) (hts _ tW577) tW578 (hts _ tW469) (hts _ tW579) (hts _ tW580) rfl h24 (by decide +kernel) ⟨Nat.le_of_ble_eq_true rfl, Nat.le_of_ble_eq_true rfl⟩ rfl rfl hl.1 rfl (lv_room (Nat.le_of_ble_eq_true rfl)) d_ZoneNodesModel_refusal_91 ⟨(Nat.le_of_ble_eq_true rfl), (Nat.le_of_ble_eq_true rfl)⟩) hS (fun H locs hX hS => ?_)
        refine lv_if_ne (tgt := 131) hx hb d_ZoneNodesModel_refusal_94 rfl (fun h26 => ?_) (fun h26 => ?_)
        · replace hm := zi_f h26 hm
          refine lv_iinc (v := w6 + 1) (lv' := [(6, .int (w6 + 1)), (7, .int v21), (0, .ref w0)]) hx hb d_ZoneNodesModel_refusal_131 hl (k := 2) rfl (by rw [show Int32.ofInt 1 = 1 by decide]) (by decide) rfl (fun ls hl => ?_)
          refine lv_goto (tgt := 68) hx hb d_ZoneNodesModel_refusal_134 rfl ?_
          exact ih X w0 (w6 + 1) o _ _ _ hm hX hS (lv_sub hl [2, 0] rfl) hret hexit
        · replace hm := zi_t h26 hm
          refine lv_iload hx hb d_ZoneNodesModel_refusal_97 (lv_at hl 0 rfl) ?_
          refine lv_if_ne (tgt := 106) hx hb d_ZoneNodesModel_refusal_99 rfl (fun h27 => ?_) (fun h27 => ?_)
          · replace hm := zi_f h27 hm
            refine lv_iload hx hb d_ZoneNodesModel_refusal_106 (lv_at hl 0 rfl) ?_
            refine lv_iconst (v := 1) hx hb d_ZoneNodesModel_refusal_108 (by decide) ?_
            refine lv_icmp_ne (tgt := 117) hx hb d_ZoneNodesModel_refusal_109 rfl (fun h28 => ?_) (fun h28 => ?_)
            · replace hm := zi_f h28 hm
              refine lv_iload hx hb d_ZoneNodesModel_refusal_117 (lv_at hl 0 rfl) ?_
              refine lv_iconst (v := 2) hx hb d_ZoneNodesModel_refusal_119 (by decide) ?_
              refine lv_icmp_ne (tgt := 128) hx hb d_ZoneNodesModel_refusal_120 rfl (fun h29 => ?_) (fun h29 => ?_)
              · replace hm := zi_f h29 hm
                refine lv_bipush (v := 7) hx hb d_ZoneNodesModel_refusal_128 (by decide) ?_
                obtain rfl := hret _ (Option.some.inj hm).symm
                exact W.iret hx hb hr (fun t ht hW => zh_end hk hX hS ht hW) hS.2.2 d_ZoneNodesModel_refusal_130
              · replace hm := zi_t h29 hm
                refine lv_bipush (v := 8) hx hb d_ZoneNodesModel_refusal_123 (by decide) ?_
                refine lv_goto (tgt := 130) hx hb d_ZoneNodesModel_refusal_125 rfl ?_
                obtain rfl := hret _ (Option.some.inj hm).symm
                exact W.iret hx hb hr (fun t ht hW => zh_end hk hX hS ht hW) hS.2.2 d_ZoneNodesModel_refusal_130
            · replace hm := zi_t h28 hm
              refine lv_bipush (v := 6) hx hb d_ZoneNodesModel_refusal_112 (by decide) ?_
              refine lv_goto (tgt := 130) hx hb d_ZoneNodesModel_refusal_114 rfl ?_
              obtain rfl := hret _ (Option.some.inj hm).symm
              exact W.iret hx hb hr (fun t ht hW => zh_end hk hX hS ht hW) hS.2.2 d_ZoneNodesModel_refusal_130
          · replace hm := zi_t h27 hm
            refine lv_iconst (v := 3) hx hb d_ZoneNodesModel_refusal_102 (by decide) ?_
            refine lv_goto (tgt := 130) hx hb d_ZoneNodesModel_refusal_103 rfl ?_
            obtain rfl := hret _ (Option.some.inj hm).symm
            exact W.iret hx hb hr (fun t ht hW => zh_end hk hX hS ht hW) hS.2.2 d_ZoneNodesModel_refusal_130
  have hL140 : ∀ (n : Nat) (X : zh_T) (w0 : Nat) (w6 : Int32) (o : (Int32 ⊕ Unit)) (H : Heap) (locs : List Loc) (ls : Array Slot), L_ZoneNodesModel_refusal_140 N X w0 n w6 = some o → zh_w G X H → va_S (zh_A G) s.heap H locs → lv_has ls 8 [(0, .ref w0), (6, .int w6)] → (∀ r0 : Int32, o = Sum.inl r0 → r0 = r) → (∀ v : Unit, o = Sum.inr v → ∀ (H : Heap) (locs : List Loc) (ls : Array Slot), zh_w G X H → va_S (zh_A G) s.heap H locs → lv_has ls 8 [] → W p l e { frames := 2, cells := 0, slots := 0, locals := 49 } s m args below meth c H locs 0 0 (MQ below (zh_Q G (some (.int r)) X) args s 0 0 (zh_A G)) (F0 m 180 ls [])) → W p l e { frames := 2, cells := 0, slots := 0, locals := 49 } s m args below meth c H locs 0 0 (MQ below (zh_Q G (some (.int r)) X) args s 0 0 (zh_A G)) (F0 m 140 ls []) := by
    intro n
    induction n with
    | zero =>
      intro X w0 w6 o H locs ls hm hX hS hl hret hexit
      rw [L_ZoneNodesModel_refusal_140] at hm
      cases hm
    | succ n ih =>
      intro X w0 w6 o H locs ls hm hX hS hl hret hexit
      rw [L_ZoneNodesModel_refusal_140] at hm
      refine lv_iload hx hb d_ZoneNodesModel_refusal_140 (lv_at hl 1 rfl) ?_
      refine lv_aload_n hx hb d_ZoneNodesModel_refusal_142 rfl (lv_at hl 0 rfl) ?_
      replace hm := zb1_s hm
      obtain ⟨v33, h32, hm⟩ := hm
      refine zr_get (ci := 9) (C := R_ZoneNodesModel) (T := F_ZoneNodesModel) (N := 32) hx hb hts in_ZoneNodesModel hown hk hX rfl 14 (by decide) (hts _ tW538) rfl (zgi_v h32) d_ZoneNodesModel_refusal_143 ?_
      refine lv_icmp_ge (tgt := 180) hx hb d_ZoneNodesModel_refusal_146 rfl (fun h34 => ?_) (fun h34 => ?_)
      · replace hm := zi_t h34 hm
        exact hexit _ (Option.some.inj hm).symm _ _ _ hX hS (lv_sub hl [] rfl)
      · replace hm := zi_f h34 hm
        refine lv_aload_n hx hb d_ZoneNodesModel_refusal_149 rfl (lv_at hl 0 rfl) ?_
        replace hm := zb1_s hm
        obtain ⟨a36, h35, hm⟩ := hm
        refine zr_get (ci := 9) (C := R_ZoneNodesModel) (T := F_ZoneNodesModel) (N := 32) hx hb hts in_ZoneNodesModel hown hk hX rfl 16 (by decide) (hts _ tW451) rfl (zgr_v h35) d_ZoneNodesModel_refusal_150 ?_
        refine lv_iconst (v := 4) hx hb d_ZoneNodesModel_refusal_153 (by decide) ?_
        refine lv_iload hx hb d_ZoneNodesModel_refusal_154 (lv_at hl 1 rfl) ?_
        refine lv_imul hx hb d_ZoneNodesModel_refusal_156 ?_
        replace hm := zb1_s hm
        obtain ⟨v37, h38, hm⟩ := hm
        refine zr_iaload hx hb hk hX h38 d_ZoneNodesModel_refusal_157 ?_
        refine lv_iconst (v := 3) hx hb d_ZoneNodesModel_refusal_158 (by decide) ?_
        refine lv_icmp_ne (tgt := 174) hx hb d_ZoneNodesModel_refusal_159 rfl (fun h39 => ?_) (fun h39 => ?_)
        · replace hm := zi_f h39 hm
          refine lv_iinc (v := w6 + 1) (lv' := [(6, .int (w6 + 1)), (0, .ref w0)]) hx hb d_ZoneNodesModel_refusal_174 hl (k := 1) rfl (by rw [show Int32.ofInt 1 = 1 by decide]) (by decide) rfl (fun ls hl => ?_)
          refine lv_goto (tgt := 140) hx hb d_ZoneNodesModel_refusal_177 rfl ?_
          exact ih X w0 (w6 + 1) o _ _ _ hm hX hS (lv_sub hl [1, 0] rfl) hret hexit
        · replace hm := zi_t h39 hm
          refine lv_aload_n hx hb d_ZoneNodesModel_refusal_162 rfl (lv_at hl 0 rfl) ?_
          refine lv_iload hx hb d_ZoneNodesModel_refusal_163 (lv_at hl 1 rfl) ?_
          replace hm := zb1_s hm
          obtain ⟨_, h41, hm⟩ := hm
          replace hm := zb1_s hm
          obtain ⟨v42, h40, hm⟩ := hm
          refine zr_calli (zr_runV (As := [.int w6]) (rest := []) (n := 1) hx hb hml hown hts hk hX (c_ZoneNodesModel_exact l G N X w0 w6 v42 h40) (hts _ tW581) tW582 (hts _ tW469) (hts _ tW583) (hts _ tW584) rfl h41 (by decide +kernel) ⟨Nat.le_of_ble_eq_true rfl, Nat.le_of_ble_eq_true rfl⟩ rfl rfl hl.1 rfl (lv_room (Nat.le_of_ble_eq_true rfl)) d_ZoneNodesModel_refusal_165 ⟨(Nat.le_of_ble_eq_true rfl), (Nat.le_of_ble_eq_true rfl)⟩) hS (fun H locs hX hS => ?_)
          refine lv_if_ne (tgt := 174) hx hb d_ZoneNodesModel_refusal_168 rfl (fun h43 => ?_) (fun h43 => ?_)
          · replace hm := zi_f h43 hm
            refine lv_iinc (v := w6 + 1) (lv' := [(6, .int (w6 + 1)), (0, .ref w0)]) hx hb d_ZoneNodesModel_refusal_174 hl (k := 1) rfl (by rw [show Int32.ofInt 1 = 1 by decide]) (by decide) rfl (fun ls hl => ?_)
            refine lv_goto (tgt := 140) hx hb d_ZoneNodesModel_refusal_177 rfl ?_
            exact ih X w0 (w6 + 1) o _ _ _ hm hX hS (lv_sub hl [1, 0] rfl) hret hexit
          · replace hm := zi_t h43 hm
            refine lv_bipush (v := 8) hx hb d_ZoneNodesModel_refusal_171 (by decide) ?_
            obtain rfl := hret _ (Option.some.inj hm).symm
            exact W.iret hx hb hr (fun t ht hW => zh_end hk hX hS ht hW) hS.2.2 d_ZoneNodesModel_refusal_173
  refine lv_iload_n hx hb d_ZoneNodesModel_refusal_0 rfl (lv_at hl 1 rfl) ?_
  refine lv_if_lt (tgt := 18) hx hb d_ZoneNodesModel_refusal_1 rfl (fun h1 => ?_) (fun h1 => ?_)
  · replace hm := zi_t h1 hm
    refine lv_bipush (v := 17) hx hb d_ZoneNodesModel_refusal_18 (by decide) ?_
    cases hm
    exact W.iret hx hb hr (fun t ht hW => zh_end hk hX hS ht hW) hS.2.2 d_ZoneNodesModel_refusal_20
  · replace hm := zi_f h1 hm
    refine lv_iload_n hx hb d_ZoneNodesModel_refusal_4 rfl (lv_at hl 1 rfl) ?_
    refine lv_iconst (v := 2) hx hb d_ZoneNodesModel_refusal_5 (by decide) ?_
    refine lv_icmp_gt (tgt := 18) hx hb d_ZoneNodesModel_refusal_6 rfl (fun h2 => ?_) (fun h2 => ?_)
    · replace hm := zi_t h2 hm
      refine lv_bipush (v := 17) hx hb d_ZoneNodesModel_refusal_18 (by decide) ?_
      cases hm
      exact W.iret hx hb hr (fun t ht hW => zh_end hk hX hS ht hW) hS.2.2 d_ZoneNodesModel_refusal_20
    · replace hm := zi_f h2 hm
      refine lv_aload_n hx hb d_ZoneNodesModel_refusal_9 rfl (lv_at hl 0 rfl) ?_
      replace hm := zb1_s hm
      obtain ⟨a4, h3, hm⟩ := hm
      refine zr_get (ci := 9) (C := R_ZoneNodesModel) (T := F_ZoneNodesModel) (N := 32) hx hb hts in_ZoneNodesModel hown hk hX rfl 12 (by decide) (hts _ tW449) rfl (zgr_v h3) d_ZoneNodesModel_refusal_10 ?_
      refine lv_iload_n hx hb d_ZoneNodesModel_refusal_13 rfl (lv_at hl 1 rfl) ?_
      replace hm := zb1_s hm
      obtain ⟨v5, h6, hm⟩ := hm
      refine zr_baload hx hb hk hX h6 d_ZoneNodesModel_refusal_14 ?_
      refine lv_if_ne (tgt := 21) hx hb d_ZoneNodesModel_refusal_15 rfl (fun h7 => ?_) (fun h7 => ?_)
      · replace hm := zi_f h7 hm
        refine lv_iload_n hx hb d_ZoneNodesModel_refusal_21 rfl (lv_at hl 3 rfl) ?_
        refine lv_aload_n hx hb d_ZoneNodesModel_refusal_22 rfl (lv_at hl 0 rfl) ?_
        refine lv_iload_n hx hb d_ZoneNodesModel_refusal_23 rfl (lv_at hl 1 rfl) ?_
        refine lv_iload_n hx hb d_ZoneNodesModel_refusal_24 rfl (lv_at hl 2 rfl) ?_
        replace hm := zb1_s hm
        obtain ⟨_, h9, hm⟩ := hm
        replace hm := zb1_s hm
        obtain ⟨v10, h8, hm⟩ := hm
        refine zr_calli (zr_runV (As := [.int x1, .int x2]) (rest := [.int x3]) (n := 2) hx hb hml hown hts hk hX (c_ZoneNodesModel_sealed l G N X x0 x1 x2 v10 h8) (hts _ tW559) tW560 (hts _ tW469) (hts _ tW561) (hts _ tW562) rfl h9 (by decide +kernel) ⟨Nat.le_of_ble_eq_true rfl, Nat.le_of_ble_eq_true rfl⟩ rfl rfl hl.1 rfl (lv_room (Nat.le_of_ble_eq_true rfl)) d_ZoneNodesModel_refusal_25 ⟨(Nat.le_of_ble_eq_true rfl), (Nat.le_of_ble_eq_true rfl)⟩) hS (fun H locs hX hS => ?_)
        refine lv_icmp_eq (tgt := 34) hx hb d_ZoneNodesModel_refusal_28 rfl (fun h11 => ?_) (fun h11 => ?_)
        · replace hm := zi_t h11 hm
          refine lv_iload_n hx hb d_ZoneNodesModel_refusal_34 rfl (lv_at hl 2 rfl) ?_
          refine lv_i2l hx hb d_ZoneNodesModel_refusal_35 rfl ?_
          refine lv_aload_n hx hb d_ZoneNodesModel_refusal_36 rfl (lv_at hl 0 rfl) ?_
          replace hm := zb1_s hm
          obtain ⟨v13, h12, hm⟩ := hm
          refine zr_get (ci := 9) (C := R_ZoneNodesModel) (T := F_ZoneNodesModel) (N := 32) hx hb hts in_ZoneNodesModel hown hk hX rfl 3 (by decide) (hts _ tW441) rfl (zgi_v h12) d_ZoneNodesModel_refusal_37 ?_
          refine lv_i2l hx hb d_ZoneNodesModel_refusal_40 rfl ?_
          refine lv_lsub hx hb d_ZoneNodesModel_refusal_41 ?_
          refine lv_lstore (lv' := [(4, .long (x2.toInt64 - v13.toInt64)), (0, .ref x0), (1, .int x1), (2, .int x2), (3, .int x3)]) hx hb d_ZoneNodesModel_refusal_42 hl (by decide) rfl (fun ls hl => ?_)
          refine lv_lload hx hb d_ZoneNodesModel_refusal_44 (lv_at hl 0 rfl) ?_
          refine lv_ldc2 (v := 5) hx hb hown (hts _ tW575) d_ZoneNodesModel_refusal_46 ?_
          refine W.lcmp hx hb d_ZoneNodesModel_refusal_49 ?_
          refine lv_if_gt (tgt := 62) hx hb d_ZoneNodesModel_refusal_50 rfl (fun h14 => ?_) (fun h14 => ?_)
          · replace hm := zi_t h14 hm
            refine lv_bipush (v := 18) hx hb d_ZoneNodesModel_refusal_62 (by decide) ?_
            cases hm
            exact W.iret hx hb hr (fun t ht hW => zh_end hk hX hS ht hW) hS.2.2 d_ZoneNodesModel_refusal_64
          · replace hm := zi_f h14 hm
            refine lv_lload hx hb d_ZoneNodesModel_refusal_53 (lv_at hl 0 rfl) ?_
            refine lv_ldc2 (v := (-5)) hx hb hown (hts _ tW576) d_ZoneNodesModel_refusal_55 ?_
            refine W.lcmp hx hb d_ZoneNodesModel_refusal_58 ?_
            refine lv_if_ge (tgt := 65) hx hb d_ZoneNodesModel_refusal_59 rfl (fun h15 => ?_) (fun h15 => ?_)
            · replace hm := zi_t h15 hm
              refine lv_iconst (v := 0) hx hb d_ZoneNodesModel_refusal_65 (by decide) ?_
              refine lv_istore (lv' := [(6, .int 0), (4, .long (x2.toInt64 - v13.toInt64)), (0, .ref x0), (1, .int x1), (2, .int x2), (3, .int x3)]) hx hb d_ZoneNodesModel_refusal_66 hl (by decide) rfl (fun ls hl => ?_)
              replace hm := zbs_s hm
              obtain ⟨o47, h31, hm⟩ := hm
              refine hL68 N X x0 0 o47 _ _ _ h31 hX hS (lv_sub hl [2, 0] rfl) (fun r0 e0 => ?_) (fun v30 e0 H locs ls hX hS hl => ?_)
              · subst e0
                replace hm := zs_l hm
                exact Option.some.inj hm
              · subst e0
                replace hm := zs_r hm
                refine lv_iconst (v := 0) hx hb d_ZoneNodesModel_refusal_137 (by decide) ?_
                refine lv_istore (lv' := [(6, .int 0), (0, .ref x0)]) hx hb d_ZoneNodesModel_refusal_138 hl (by decide) rfl (fun ls hl => ?_)
                replace hm := zbs_s hm
                obtain ⟨o46, h45, hm⟩ := hm
                refine hL140 N X x0 0 o46 _ _ _ h45 hX hS (lv_sub hl [1, 0] rfl) (fun r0 e0 => ?_) (fun v44 e0 H locs ls hX hS hl => ?_)
                · subst e0
                  replace hm := zs_l hm
                  exact Option.some.inj hm
                · subst e0
                  replace hm := zs_r hm
                  refine lv_iconst (v := 0) hx hb d_ZoneNodesModel_refusal_180 (by decide) ?_
                  cases hm
                  exact W.iret hx hb hr (fun t ht hW => zh_end hk hX hS ht hW) hS.2.2 d_ZoneNodesModel_refusal_181
            · replace hm := zi_f h15 hm
              refine lv_bipush (v := 18) hx hb d_ZoneNodesModel_refusal_62 (by decide) ?_
              cases hm
              exact W.iret hx hb hr (fun t ht hW => zh_end hk hX hS ht hW) hS.2.2 d_ZoneNodesModel_refusal_64
        · replace hm := zi_f h11 hm
          refine lv_bipush (v := 16) hx hb d_ZoneNodesModel_refusal_31 (by decide) ?_
          cases hm
          exact W.iret hx hb hr (fun t ht hW => zh_end hk hX hS ht hW) hS.2.2 d_ZoneNodesModel_refusal_33
      · replace hm := zi_t h7 hm
        refine lv_bipush (v := 17) hx hb d_ZoneNodesModel_refusal_18 (by decide) ?_
        cases hm
        exact W.iret hx hb hr (fun t ht hW => zh_end hk hX hS ht hW) hS.2.2 d_ZoneNodesModel_refusal_20
set_option maxHeartbeats 4000000 in
set_option maxRecDepth 100000 in
theorem c_ZoneNodesModel_write (l : Launch) (G : zh_G) (N : Nat) (X : zh_T) (x0 : Nat) (r : Int32) (X' : zh_T) (hm : f_ZoneNodesModel_write N X x0 = some (r, X')) : zM l G y_ZoneNodesModel_write w_ZoneNodesModel_write 4 94 X [.ref x0] (some (.int r)) X' 0 0 := by
  refine zr_ofW (by decide) (by exact Nat.le_of_ble_eq_true rfl) ?_
  intro p e s m args below meth c ls hx hb hml hr hts hown hin hlocks hk hX hl
  have hS : va_S (zh_A G) s.heap s.heap [] := va_S.rf
  have hl : lv_has ls 2 [(0, .ref x0)] := hl
  have hown : s.vm.findClass R_ZoneNodesModel = some m.cls := hown
  unfold f_ZoneNodesModel_write at hm
  have hL45 : ∀ (n : Nat) (X : zh_T) (w0 : Nat) (w1 : Int32) (v : Unit) (X1 : zh_T) (H : Heap) (locs : List Loc) (ls : Array Slot), L_ZoneNodesModel_write_45 N w0 n X w1 = some (v, X1) → zh_w G X H → va_S (zh_A G) s.heap H locs → lv_has ls 2 [(0, .ref w0), (1, .int w1)] → (∀ (H : Heap) (locs : List Loc) (ls : Array Slot), zh_w G X1 H → va_S (zh_A G) s.heap H locs → lv_has ls 2 [(0, .ref w0)] → W p l e { frames := 4, cells := 0, slots := 0, locals := 94 } s m args below meth c H locs 0 0 (MQ below (zh_Q G (some (.int r)) X') args s 0 0 (zh_A G)) (F0 m 111 ls [])) → W p l e { frames := 4, cells := 0, slots := 0, locals := 94 } s m args below meth c H locs 0 0 (MQ below (zh_Q G (some (.int r)) X') args s 0 0 (zh_A G)) (F0 m 45 ls []) := by
    intro n
    induction n with
    | zero =>
      intro X w0 w1 v X1 H locs ls hm hX hS hl hexit
      rw [L_ZoneNodesModel_write_45] at hm
      cases hm
    | succ n ih =>
      intro X w0 w1 v X1 H locs ls hm hX hS hl hexit
      rw [L_ZoneNodesModel_write_45] at hm
      refine lv_iload_n hx hb d_ZoneNodesModel_write_45 rfl (lv_at hl 1 rfl) ?_
      refine lv_sipush (v := 256) hx hb d_ZoneNodesModel_write_46 (by decide) ?_
      refine lv_icmp_ge (tgt := 111) hx hb d_ZoneNodesModel_write_49 rfl (fun h57 => ?_) (fun h57 => ?_)
      · replace hm := zi_t h57 hm
        cases hm
        exact hexit _ _ _ hX hS (lv_sub hl [0] rfl)
      · replace hm := zi_f h57 hm
        refine lv_aload_n hx hb d_ZoneNodesModel_write_52 rfl (lv_at hl 0 rfl) ?_
        replace hm := zb1_s hm
        obtain ⟨a59, h58, hm⟩ := hm
        refine zr_get (ci := 9) (C := R_ZoneNodesModel) (T := F_ZoneNodesModel) (N := 32) hx hb hts in_ZoneNodesModel hown hk hX rfl 21 (by decide) (hts _ tW454) rfl (zgr_v h58) d_ZoneNodesModel_write_53 ?_
        refine lv_sipush (v := 256) hx hb d_ZoneNodesModel_write_56 (by decide) ?_
        refine lv_aload_n hx hb d_ZoneNodesModel_write_59 rfl (lv_at hl 0 rfl) ?_
        replace hm := zb1_s hm
        obtain ⟨v61, h60, hm⟩ := hm
        refine zr_get (ci := 9) (C := R_ZoneNodesModel) (T := F_ZoneNodesModel) (N := 32) hx hb hts in_ZoneNodesModel hown hk hX rfl 18 (by decide) (hts _ tW508) rfl (zgi_v h60) d_ZoneNodesModel_write_60 ?_
        refine lv_imul hx hb d_ZoneNodesModel_write_63 ?_
        refine lv_iload_n hx hb d_ZoneNodesModel_write_64 rfl (lv_at hl 1 rfl) ?_
        refine lv_iadd hx hb d_ZoneNodesModel_write_65 ?_
        refine lv_aload_n hx hb d_ZoneNodesModel_write_66 rfl (lv_at hl 0 rfl) ?_
        replace hm := zb1_s hm
        obtain ⟨a63, h62, hm⟩ := hm
        refine zr_get (ci := 9) (C := R_ZoneNodesModel) (T := F_ZoneNodesModel) (N := 32) hx hb hts in_ZoneNodesModel hown hk hX rfl 23 (by decide) (hts _ tW456) rfl (zgr_v h62) d_ZoneNodesModel_write_67 ?_
        refine lv_iload_n hx hb d_ZoneNodesModel_write_70 rfl (lv_at hl 1 rfl) ?_
        replace hm := zb1_s hm
        obtain ⟨v64, h65, hm⟩ := hm
        refine zr_baload hx hb hk hX h65 d_ZoneNodesModel_write_71 ?_
        replace hm := zb1_s hm
        obtain ⟨X66, h67, hm⟩ := hm
        refine zr_bastore hx hb hk hX hS h67 d_ZoneNodesModel_write_72 (fun H locs hX hS => ?_)
        refine lv_aload_n hx hb d_ZoneNodesModel_write_73 rfl (lv_at hl 0 rfl) ?_
        replace hm := zb1_s hm
        obtain ⟨a69, h68, hm⟩ := hm
        refine zr_get (ci := 9) (C := R_ZoneNodesModel) (T := F_ZoneNodesModel) (N := 32) hx hb hts in_ZoneNodesModel hown hk hX rfl 22 (by decide) (hts _ tW455) rfl (zgr_v h68) d_ZoneNodesModel_write_74 ?_
        refine lv_aload_n hx hb d_ZoneNodesModel_write_77 rfl (lv_at hl 0 rfl) ?_
        replace hm := zb1_s hm
        obtain ⟨v71, h70, hm⟩ := hm
        refine zr_get (ci := 9) (C := R_ZoneNodesModel) (T := F_ZoneNodesModel) (N := 32) hx hb hts in_ZoneNodesModel hown hk hX rfl 18 (by decide) (hts _ tW508) rfl (zgi_v h70) d_ZoneNodesModel_write_78 ?_
        refine lv_dup2_11 hx hb d_ZoneNodesModel_write_81 rfl rfl ?_
        replace hm := zb1_s hm
        obtain ⟨v72, h73, hm⟩ := hm
        refine zr_iaload hx hb hk hX h73 d_ZoneNodesModel_write_82 ?_
        refine lv_aload_n hx hb d_ZoneNodesModel_write_83 rfl (lv_at hl 0 rfl) ?_
        replace hm := zb1_s hm
        obtain ⟨a75, h74, hm⟩ := hm
        refine zr_get (ci := 9) (C := R_ZoneNodesModel) (T := F_ZoneNodesModel) (N := 32) hx hb hts in_ZoneNodesModel hown hk hX rfl 23 (by decide) (hts _ tW456) rfl (zgr_v h74) d_ZoneNodesModel_write_84 ?_
        refine lv_iload_n hx hb d_ZoneNodesModel_write_87 rfl (lv_at hl 1 rfl) ?_
        replace hm := zb1_s hm
        obtain ⟨v76, h77, hm⟩ := hm
        refine zr_baload hx hb hk hX h77 d_ZoneNodesModel_write_88 ?_
        refine lv_aload_n hx hb d_ZoneNodesModel_write_89 rfl (lv_at hl 0 rfl) ?_
        replace hm := zb1_s hm
        obtain ⟨a79, h78, hm⟩ := hm
        refine zr_get (ci := 9) (C := R_ZoneNodesModel) (T := F_ZoneNodesModel) (N := 32) hx hb hts in_ZoneNodesModel hown hk hX rfl 7 (by decide) (hts _ tW446) rfl (zgr_v h78) d_ZoneNodesModel_write_90 ?_
        refine lv_iload_n hx hb d_ZoneNodesModel_write_93 rfl (lv_at hl 1 rfl) ?_
        replace hm := zb1_s hm
        obtain ⟨v80, h81, hm⟩ := hm
        refine zr_baload hx hb hk hX h81 d_ZoneNodesModel_write_94 ?_
        refine lv_icmp_ne (tgt := 102) hx hb d_ZoneNodesModel_write_95 rfl (fun h82 => ?_) (fun h82 => ?_)
        · replace hm := zi_f h82 hm
          refine lv_iconst (v := 1) hx hb d_ZoneNodesModel_write_102 (by decide) ?_
          refine lv_iadd hx hb d_ZoneNodesModel_write_103 ?_
          replace hm := zb1_s hm
          obtain ⟨X83, h84, hm⟩ := hm
          refine zr_iastore hx hb hk hX hS h84 d_ZoneNodesModel_write_104 (fun H locs hX hS => ?_)
          refine lv_iinc (v := w1 + 1) (lv' := [(1, .int (w1 + 1)), (0, .ref w0)]) hx hb d_ZoneNodesModel_write_105 hl (k := 1) rfl (by rw [show Int32.ofInt 1 = 1 by decide]) (by decide) rfl (fun ls hl => ?_)
          refine lv_goto (tgt := 45) hx hb d_ZoneNodesModel_write_108 rfl ?_
          exact ih X83 w0 (w1 + 1) v X1 _ _ _ hm hX hS (lv_sub hl [1, 0] rfl) hexit
        · replace hm := zi_t h82 hm
          refine lv_iconst (v := 0) hx hb d_ZoneNodesModel_write_98 (by decide) ?_
          refine lv_goto (tgt := 103) hx hb d_ZoneNodesModel_write_99 rfl ?_
          refine lv_iadd hx hb d_ZoneNodesModel_write_103 ?_
          replace hm := zb1_s hm
          obtain ⟨X85, h86, hm⟩ := hm
          refine zr_iastore hx hb hk hX hS h86 d_ZoneNodesModel_write_104 (fun H locs hX hS => ?_)
          refine lv_iinc (v := w1 + 1) (lv' := [(1, .int (w1 + 1)), (0, .ref w0)]) hx hb d_ZoneNodesModel_write_105 hl (k := 1) rfl (by rw [show Int32.ofInt 1 = 1 by decide]) (by decide) rfl (fun ls hl => ?_)
          refine lv_goto (tgt := 45) hx hb d_ZoneNodesModel_write_108 rfl ?_
          exact ih X85 w0 (w1 + 1) v X1 _ _ _ hm hX hS (lv_sub hl [1, 0] rfl) hexit
  refine lv_aload_n hx hb d_ZoneNodesModel_write_0 rfl (lv_at hl 0 rfl) ?_
  replace hm := zb1_s hm
  obtain ⟨v2, h1, hm⟩ := hm
  refine zr_get (ci := 9) (C := R_ZoneNodesModel) (T := F_ZoneNodesModel) (N := 32) hx hb hts in_ZoneNodesModel hown hk hX rfl 17 (by decide) (hts _ tW480) rfl (zgi_v h1) d_ZoneNodesModel_write_1 ?_
  refine lv_iconst (v := 1) hx hb d_ZoneNodesModel_write_4 (by decide) ?_
  refine lv_icmp_eq (tgt := 121) hx hb d_ZoneNodesModel_write_5 rfl (fun h3 => ?_) (fun h3 => ?_)
  · replace hm := zi_t h3 hm
    refine lv_aload_n hx hb d_ZoneNodesModel_write_121 rfl (lv_at hl 0 rfl) ?_
    replace hm := zb1_s hm
    obtain ⟨v5, h4, hm⟩ := hm
    refine zr_get (ci := 9) (C := R_ZoneNodesModel) (T := F_ZoneNodesModel) (N := 32) hx hb hts in_ZoneNodesModel hown hk hX rfl 17 (by decide) (hts _ tW480) rfl (zgi_v h4) d_ZoneNodesModel_write_122 ?_
    refine lv_iconst (v := 1) hx hb d_ZoneNodesModel_write_125 (by decide) ?_
    refine lv_icmp_eq (tgt := 137) hx hb d_ZoneNodesModel_write_126 rfl (fun h6 => ?_) (fun h6 => ?_)
    · replace hm := zi_t h6 hm
      refine lv_aload_n hx hb d_ZoneNodesModel_write_137 rfl (lv_at hl 0 rfl) ?_
      refine lv_iconst (v := 0) hx hb d_ZoneNodesModel_write_138 (by decide) ?_
      replace hm := zb1_s hm
      obtain ⟨_, h8, hm⟩ := hm
      replace hm := zb2_s hm
      obtain ⟨v9, X10, h7, hm⟩ := hm
      refine zr_calli (zr_runV (As := [.int 0]) (rest := []) (n := 1) hx hb hml hown hts hk hX (c_ZoneNodesModel_crash l G N X x0 0 v9 X10 h7) (hts _ tW585) tW586 (hts _ tW469) (hts _ tW587) (hts _ tW588) rfl h8 (by decide +kernel) ⟨Nat.le_of_ble_eq_true rfl, Nat.le_of_ble_eq_true rfl⟩ rfl rfl hl.1 rfl (lv_room (Nat.le_of_ble_eq_true rfl)) d_ZoneNodesModel_write_139 ⟨(Nat.le_of_ble_eq_true rfl), (Nat.le_of_ble_eq_true rfl)⟩) hS (fun H locs hX hS => ?_)
      refine lv_pop hx hb d_ZoneNodesModel_write_142 rfl ?_
      refine lv_iconst (v := (-1)) hx hb d_ZoneNodesModel_write_143 (by decide) ?_
      cases hm
      exact W.iret hx hb hr (fun t ht hW => zh_end hk hX hS ht hW) hS.2.2 d_ZoneNodesModel_write_144
    · replace hm := zi_f h6 hm
      refine lv_aload_n hx hb d_ZoneNodesModel_write_129 rfl (lv_at hl 0 rfl) ?_
      replace hm := zb1_s hm
      obtain ⟨v12, h11, hm⟩ := hm
      refine zr_get (ci := 9) (C := R_ZoneNodesModel) (T := F_ZoneNodesModel) (N := 32) hx hb hts in_ZoneNodesModel hown hk hX rfl 17 (by decide) (hts _ tW480) rfl (zgi_v h11) d_ZoneNodesModel_write_130 ?_
      refine lv_iconst (v := 2) hx hb d_ZoneNodesModel_write_133 (by decide) ?_
      refine lv_icmp_ne (tgt := 145) hx hb d_ZoneNodesModel_write_134 rfl (fun h13 => ?_) (fun h13 => ?_)
      · replace hm := zi_f h13 hm
        refine lv_aload_n hx hb d_ZoneNodesModel_write_145 rfl (lv_at hl 0 rfl) ?_
        replace hm := zb1_s hm
        obtain ⟨a15, h14, hm⟩ := hm
        refine zr_get (ci := 9) (C := R_ZoneNodesModel) (T := F_ZoneNodesModel) (N := 32) hx hb hts in_ZoneNodesModel hown hk hX rfl 20 (by decide) (hts _ tW453) rfl (zgr_v h14) d_ZoneNodesModel_write_146 ?_
        refine lv_aload_n hx hb d_ZoneNodesModel_write_149 rfl (lv_at hl 0 rfl) ?_
        replace hm := zb1_s hm
        obtain ⟨v17, h16, hm⟩ := hm
        refine zr_get (ci := 9) (C := R_ZoneNodesModel) (T := F_ZoneNodesModel) (N := 32) hx hb hts in_ZoneNodesModel hown hk hX rfl 18 (by decide) (hts _ tW508) rfl (zgi_v h16) d_ZoneNodesModel_write_150 ?_
        refine lv_iconst (v := 1) hx hb d_ZoneNodesModel_write_153 (by decide) ?_
        refine lv_isub hx hb d_ZoneNodesModel_write_154 ?_
        refine lv_iconst (v := 1) hx hb d_ZoneNodesModel_write_155 (by decide) ?_
        replace hm := zb1_s hm
        obtain ⟨X18, h19, hm⟩ := hm
        refine zr_bastore hx hb hk hX hS h19 d_ZoneNodesModel_write_156 (fun H locs hX hS => ?_)
        refine lv_aload_n hx hb d_ZoneNodesModel_write_157 rfl (lv_at hl 0 rfl) ?_
        replace hm := zb1_s hm
        obtain ⟨v21, h20, hm⟩ := hm
        refine zr_get (ci := 9) (C := R_ZoneNodesModel) (T := F_ZoneNodesModel) (N := 32) hx hb hts in_ZoneNodesModel hown hk hX rfl 17 (by decide) (hts _ tW480) rfl (zgi_v h20) d_ZoneNodesModel_write_158 ?_
        refine lv_iconst (v := 3) hx hb d_ZoneNodesModel_write_161 (by decide) ?_
        refine lv_icmp_ne (tgt := 173) hx hb d_ZoneNodesModel_write_162 rfl (fun h22 => ?_) (fun h22 => ?_)
        · replace hm := zi_f h22 hm
          refine lv_aload_n hx hb d_ZoneNodesModel_write_173 rfl (lv_at hl 0 rfl) ?_
          replace hm := zb1_s hm
          obtain ⟨_, h24, hm⟩ := hm
          replace hm := zb2_s hm
          obtain ⟨v25, X26, h23, hm⟩ := hm
          refine zr_callv (zr_runV (As := []) (rest := []) (n := 0) hx hb hml hown hts hk hX (c_ZoneNodesModel_install l G N X18 x0 v25 X26 h23) (hts _ tW547) tW548 (hts _ tW469) (hts _ tW549) (hts _ tW550) rfl h24 (by decide +kernel) ⟨Nat.le_of_ble_eq_true rfl, Nat.le_of_ble_eq_true rfl⟩ rfl rfl hl.1 rfl (lv_room (Nat.le_of_ble_eq_true rfl)) d_ZoneNodesModel_write_174 ⟨(Nat.le_of_ble_eq_true rfl), (Nat.le_of_ble_eq_true rfl)⟩) hS (fun H locs hX hS => ?_)
          refine lv_iconst (v := 0) hx hb d_ZoneNodesModel_write_177 (by decide) ?_
          cases hm
          exact W.iret hx hb hr (fun t ht hW => zh_end hk hX hS ht hW) hS.2.2 d_ZoneNodesModel_write_178
        · replace hm := zi_t h22 hm
          refine lv_aload_n hx hb d_ZoneNodesModel_write_165 rfl (lv_at hl 0 rfl) ?_
          refine lv_iconst (v := 0) hx hb d_ZoneNodesModel_write_166 (by decide) ?_
          replace hm := zb1_s hm
          obtain ⟨_, h28, hm⟩ := hm
          replace hm := zb2_s hm
          obtain ⟨v29, X30, h27, hm⟩ := hm
          refine zr_calli (zr_runV (As := [.int 0]) (rest := []) (n := 1) hx hb hml hown hts hk hX (c_ZoneNodesModel_crash l G N X18 x0 0 v29 X30 h27) (hts _ tW585) tW586 (hts _ tW469) (hts _ tW587) (hts _ tW588) rfl h28 (by decide +kernel) ⟨Nat.le_of_ble_eq_true rfl, Nat.le_of_ble_eq_true rfl⟩ rfl rfl hl.1 rfl (lv_room (Nat.le_of_ble_eq_true rfl)) d_ZoneNodesModel_write_167 ⟨(Nat.le_of_ble_eq_true rfl), (Nat.le_of_ble_eq_true rfl)⟩) hS (fun H locs hX hS => ?_)
          refine lv_pop hx hb d_ZoneNodesModel_write_170 rfl ?_
          refine lv_iconst (v := (-1)) hx hb d_ZoneNodesModel_write_171 (by decide) ?_
          cases hm
          exact W.iret hx hb hr (fun t ht hW => zh_end hk hX hS ht hW) hS.2.2 d_ZoneNodesModel_write_172
      · replace hm := zi_t h13 hm
        refine lv_aload_n hx hb d_ZoneNodesModel_write_137 rfl (lv_at hl 0 rfl) ?_
        refine lv_iconst (v := 0) hx hb d_ZoneNodesModel_write_138 (by decide) ?_
        replace hm := zb1_s hm
        obtain ⟨_, h32, hm⟩ := hm
        replace hm := zb2_s hm
        obtain ⟨v33, X34, h31, hm⟩ := hm
        refine zr_calli (zr_runV (As := [.int 0]) (rest := []) (n := 1) hx hb hml hown hts hk hX (c_ZoneNodesModel_crash l G N X x0 0 v33 X34 h31) (hts _ tW585) tW586 (hts _ tW469) (hts _ tW587) (hts _ tW588) rfl h32 (by decide +kernel) ⟨Nat.le_of_ble_eq_true rfl, Nat.le_of_ble_eq_true rfl⟩ rfl rfl hl.1 rfl (lv_room (Nat.le_of_ble_eq_true rfl)) d_ZoneNodesModel_write_139 ⟨(Nat.le_of_ble_eq_true rfl), (Nat.le_of_ble_eq_true rfl)⟩) hS (fun H locs hX hS => ?_)
        refine lv_pop hx hb d_ZoneNodesModel_write_142 rfl ?_
        refine lv_iconst (v := (-1)) hx hb d_ZoneNodesModel_write_143 (by decide) ?_
        cases hm
        exact W.iret hx hb hr (fun t ht hW => zh_end hk hX hS ht hW) hS.2.2 d_ZoneNodesModel_write_144
  · replace hm := zi_f h3 hm
    refine lv_aload_n hx hb d_ZoneNodesModel_write_8 rfl (lv_at hl 0 rfl) ?_
    replace hm := zb1_s hm
    obtain ⟨a36, h35, hm⟩ := hm
    refine zr_get (ci := 9) (C := R_ZoneNodesModel) (T := F_ZoneNodesModel) (N := 32) hx hb hts in_ZoneNodesModel hown hk hX rfl 19 (by decide) (hts _ tW452) rfl (zgr_v h35) d_ZoneNodesModel_write_9 ?_
    refine lv_aload_n hx hb d_ZoneNodesModel_write_12 rfl (lv_at hl 0 rfl) ?_
    replace hm := zb1_s hm
    obtain ⟨v38, h37, hm⟩ := hm
    refine zr_get (ci := 9) (C := R_ZoneNodesModel) (T := F_ZoneNodesModel) (N := 32) hx hb hts in_ZoneNodesModel hown hk hX rfl 18 (by decide) (hts _ tW508) rfl (zgi_v h37) d_ZoneNodesModel_write_13 ?_
    refine lv_aload_n hx hb d_ZoneNodesModel_write_16 rfl (lv_at hl 0 rfl) ?_
    replace hm := zb1_s hm
    obtain ⟨a40, h39, hm⟩ := hm
    refine zr_get (ci := 9) (C := R_ZoneNodesModel) (T := F_ZoneNodesModel) (N := 32) hx hb hts in_ZoneNodesModel hown hk hX rfl 6 (by decide) (hts _ tW445) rfl (zgr_v h39) d_ZoneNodesModel_write_17 ?_
    refine lv_iconst (v := 0) hx hb d_ZoneNodesModel_write_20 (by decide) ?_
    replace hm := zb1_s hm
    obtain ⟨v41, h42, hm⟩ := hm
    refine zr_iaload hx hb hk hX h42 d_ZoneNodesModel_write_21 ?_
    replace hm := zb1_s hm
    obtain ⟨X43, h44, hm⟩ := hm
    refine zr_iastore hx hb hk hX hS h44 d_ZoneNodesModel_write_22 (fun H locs hX hS => ?_)
    refine lv_aload_n hx hb d_ZoneNodesModel_write_23 rfl (lv_at hl 0 rfl) ?_
    replace hm := zb1_s hm
    obtain ⟨a46, h45, hm⟩ := hm
    refine zr_get (ci := 9) (C := R_ZoneNodesModel) (T := F_ZoneNodesModel) (N := 32) hx hb hts in_ZoneNodesModel hown hk hX rfl 20 (by decide) (hts _ tW453) rfl (zgr_v h45) d_ZoneNodesModel_write_24 ?_
    refine lv_aload_n hx hb d_ZoneNodesModel_write_27 rfl (lv_at hl 0 rfl) ?_
    replace hm := zb1_s hm
    obtain ⟨v48, h47, hm⟩ := hm
    refine zr_get (ci := 9) (C := R_ZoneNodesModel) (T := F_ZoneNodesModel) (N := 32) hx hb hts in_ZoneNodesModel hown hk hX rfl 18 (by decide) (hts _ tW508) rfl (zgi_v h47) d_ZoneNodesModel_write_28 ?_
    refine lv_iconst (v := 0) hx hb d_ZoneNodesModel_write_31 (by decide) ?_
    replace hm := zb1_s hm
    obtain ⟨X49, h50, hm⟩ := hm
    refine zr_bastore hx hb hk hX hS h50 d_ZoneNodesModel_write_32 (fun H locs hX hS => ?_)
    refine lv_aload_n hx hb d_ZoneNodesModel_write_33 rfl (lv_at hl 0 rfl) ?_
    replace hm := zb1_s hm
    obtain ⟨a52, h51, hm⟩ := hm
    refine zr_get (ci := 9) (C := R_ZoneNodesModel) (T := F_ZoneNodesModel) (N := 32) hx hb hts in_ZoneNodesModel hown hk hX rfl 22 (by decide) (hts _ tW455) rfl (zgr_v h51) d_ZoneNodesModel_write_34 ?_
    refine lv_aload_n hx hb d_ZoneNodesModel_write_37 rfl (lv_at hl 0 rfl) ?_
    replace hm := zb1_s hm
    obtain ⟨v54, h53, hm⟩ := hm
    refine zr_get (ci := 9) (C := R_ZoneNodesModel) (T := F_ZoneNodesModel) (N := 32) hx hb hts in_ZoneNodesModel hown hk hX rfl 18 (by decide) (hts _ tW508) rfl (zgi_v h53) d_ZoneNodesModel_write_38 ?_
    refine lv_iconst (v := 0) hx hb d_ZoneNodesModel_write_41 (by decide) ?_
    replace hm := zb1_s hm
    obtain ⟨X55, h56, hm⟩ := hm
    refine zr_iastore hx hb hk hX hS h56 d_ZoneNodesModel_write_42 (fun H locs hX hS => ?_)
    refine lv_iconst (v := 0) hx hb d_ZoneNodesModel_write_43 (by decide) ?_
    refine lv_istore_n (lv' := [(1, .int 0), (0, .ref x0)]) hx hb d_ZoneNodesModel_write_44 rfl hl (by decide) rfl (fun ls hl => ?_)
    replace hm := zb2_s hm
    obtain ⟨v87, X89, h88, hm⟩ := hm
    refine hL45 N X55 x0 0 v87 X89 _ _ _ h88 hX hS (lv_sub hl [1, 0] rfl) (fun H locs ls hX hS hl => ?_)
    refine lv_aload_n hx hb d_ZoneNodesModel_write_111 rfl (lv_at hl 0 rfl) ?_
    refine lv_dup hx hb d_ZoneNodesModel_write_112 rfl ?_
    replace hm := zb1_s hm
    obtain ⟨v91, h90, hm⟩ := hm
    refine zr_get (ci := 9) (C := R_ZoneNodesModel) (T := F_ZoneNodesModel) (N := 32) hx hb hts in_ZoneNodesModel hown hk hX rfl 18 (by decide) (hts _ tW508) rfl (zgi_v h90) d_ZoneNodesModel_write_113 ?_
    refine lv_iconst (v := 1) hx hb d_ZoneNodesModel_write_116 (by decide) ?_
    refine lv_iadd hx hb d_ZoneNodesModel_write_117 ?_
    replace hm := zb1_s hm
    obtain ⟨X92, h93, hm⟩ := hm
    refine zr_put (ci := 9) (C := R_ZoneNodesModel) (T := F_ZoneNodesModel) (N := 32) (ty := .int) (v := .int (v91 + 1)) hx hb hts in_ZoneNodesModel t_ZoneNodesModel t_ZoneNodesModel_ok n_ZoneNodesModel hown hk hX hS rfl 18 (by decide) (hts _ tW508) rfl rfl (by decide +kernel) rfl rfl h93 d_ZoneNodesModel_write_118 (fun H locs hX hS => ?_)
    refine lv_aload_n hx hb d_ZoneNodesModel_write_121 rfl (lv_at hl 0 rfl) ?_
    replace hm := zb1_s hm
    obtain ⟨v95, h94, hm⟩ := hm
    refine zr_get (ci := 9) (C := R_ZoneNodesModel) (T := F_ZoneNodesModel) (N := 32) hx hb hts in_ZoneNodesModel hown hk hX rfl 17 (by decide) (hts _ tW480) rfl (zgi_v h94) d_ZoneNodesModel_write_122 ?_
    refine lv_iconst (v := 1) hx hb d_ZoneNodesModel_write_125 (by decide) ?_
    refine lv_icmp_eq (tgt := 137) hx hb d_ZoneNodesModel_write_126 rfl (fun h96 => ?_) (fun h96 => ?_)
    · replace hm := zi_t h96 hm
      refine lv_aload_n hx hb d_ZoneNodesModel_write_137 rfl (lv_at hl 0 rfl) ?_
      refine lv_iconst (v := 0) hx hb d_ZoneNodesModel_write_138 (by decide) ?_
      replace hm := zb1_s hm
      obtain ⟨_, h98, hm⟩ := hm
      replace hm := zb2_s hm
      obtain ⟨v99, X100, h97, hm⟩ := hm
      refine zr_calli (zr_runV (As := [.int 0]) (rest := []) (n := 1) hx hb hml hown hts hk hX (c_ZoneNodesModel_crash l G N X92 x0 0 v99 X100 h97) (hts _ tW585) tW586 (hts _ tW469) (hts _ tW587) (hts _ tW588) rfl h98 (by decide +kernel) ⟨Nat.le_of_ble_eq_true rfl, Nat.le_of_ble_eq_true rfl⟩ rfl rfl hl.1 rfl (lv_room (Nat.le_of_ble_eq_true rfl)) d_ZoneNodesModel_write_139 ⟨(Nat.le_of_ble_eq_true rfl), (Nat.le_of_ble_eq_true rfl)⟩) hS (fun H locs hX hS => ?_)
      refine lv_pop hx hb d_ZoneNodesModel_write_142 rfl ?_
      refine lv_iconst (v := (-1)) hx hb d_ZoneNodesModel_write_143 (by decide) ?_
      cases hm
      exact W.iret hx hb hr (fun t ht hW => zh_end hk hX hS ht hW) hS.2.2 d_ZoneNodesModel_write_144
    · replace hm := zi_f h96 hm
      refine lv_aload_n hx hb d_ZoneNodesModel_write_129 rfl (lv_at hl 0 rfl) ?_
      replace hm := zb1_s hm
      obtain ⟨v102, h101, hm⟩ := hm
      refine zr_get (ci := 9) (C := R_ZoneNodesModel) (T := F_ZoneNodesModel) (N := 32) hx hb hts in_ZoneNodesModel hown hk hX rfl 17 (by decide) (hts _ tW480) rfl (zgi_v h101) d_ZoneNodesModel_write_130 ?_
      refine lv_iconst (v := 2) hx hb d_ZoneNodesModel_write_133 (by decide) ?_
      refine lv_icmp_ne (tgt := 145) hx hb d_ZoneNodesModel_write_134 rfl (fun h103 => ?_) (fun h103 => ?_)
      · replace hm := zi_f h103 hm
        refine lv_aload_n hx hb d_ZoneNodesModel_write_145 rfl (lv_at hl 0 rfl) ?_
        replace hm := zb1_s hm
        obtain ⟨a105, h104, hm⟩ := hm
        refine zr_get (ci := 9) (C := R_ZoneNodesModel) (T := F_ZoneNodesModel) (N := 32) hx hb hts in_ZoneNodesModel hown hk hX rfl 20 (by decide) (hts _ tW453) rfl (zgr_v h104) d_ZoneNodesModel_write_146 ?_
        refine lv_aload_n hx hb d_ZoneNodesModel_write_149 rfl (lv_at hl 0 rfl) ?_
        replace hm := zb1_s hm
        obtain ⟨v107, h106, hm⟩ := hm
        refine zr_get (ci := 9) (C := R_ZoneNodesModel) (T := F_ZoneNodesModel) (N := 32) hx hb hts in_ZoneNodesModel hown hk hX rfl 18 (by decide) (hts _ tW508) rfl (zgi_v h106) d_ZoneNodesModel_write_150 ?_
        refine lv_iconst (v := 1) hx hb d_ZoneNodesModel_write_153 (by decide) ?_
        refine lv_isub hx hb d_ZoneNodesModel_write_154 ?_
        refine lv_iconst (v := 1) hx hb d_ZoneNodesModel_write_155 (by decide) ?_
        replace hm := zb1_s hm
        obtain ⟨X108, h109, hm⟩ := hm
        refine zr_bastore hx hb hk hX hS h109 d_ZoneNodesModel_write_156 (fun H locs hX hS => ?_)
        refine lv_aload_n hx hb d_ZoneNodesModel_write_157 rfl (lv_at hl 0 rfl) ?_
        replace hm := zb1_s hm
        obtain ⟨v111, h110, hm⟩ := hm
        refine zr_get (ci := 9) (C := R_ZoneNodesModel) (T := F_ZoneNodesModel) (N := 32) hx hb hts in_ZoneNodesModel hown hk hX rfl 17 (by decide) (hts _ tW480) rfl (zgi_v h110) d_ZoneNodesModel_write_158 ?_
        refine lv_iconst (v := 3) hx hb d_ZoneNodesModel_write_161 (by decide) ?_
        refine lv_icmp_ne (tgt := 173) hx hb d_ZoneNodesModel_write_162 rfl (fun h112 => ?_) (fun h112 => ?_)
        · replace hm := zi_f h112 hm
          refine lv_aload_n hx hb d_ZoneNodesModel_write_173 rfl (lv_at hl 0 rfl) ?_
          replace hm := zb1_s hm
          obtain ⟨_, h114, hm⟩ := hm
          replace hm := zb2_s hm
          obtain ⟨v115, X116, h113, hm⟩ := hm
          refine zr_callv (zr_runV (As := []) (rest := []) (n := 0) hx hb hml hown hts hk hX (c_ZoneNodesModel_install l G N X108 x0 v115 X116 h113) (hts _ tW547) tW548 (hts _ tW469) (hts _ tW549) (hts _ tW550) rfl h114 (by decide +kernel) ⟨Nat.le_of_ble_eq_true rfl, Nat.le_of_ble_eq_true rfl⟩ rfl rfl hl.1 rfl (lv_room (Nat.le_of_ble_eq_true rfl)) d_ZoneNodesModel_write_174 ⟨(Nat.le_of_ble_eq_true rfl), (Nat.le_of_ble_eq_true rfl)⟩) hS (fun H locs hX hS => ?_)
          refine lv_iconst (v := 0) hx hb d_ZoneNodesModel_write_177 (by decide) ?_
          cases hm
          exact W.iret hx hb hr (fun t ht hW => zh_end hk hX hS ht hW) hS.2.2 d_ZoneNodesModel_write_178
        · replace hm := zi_t h112 hm
          refine lv_aload_n hx hb d_ZoneNodesModel_write_165 rfl (lv_at hl 0 rfl) ?_
          refine lv_iconst (v := 0) hx hb d_ZoneNodesModel_write_166 (by decide) ?_
          replace hm := zb1_s hm
          obtain ⟨_, h118, hm⟩ := hm
          replace hm := zb2_s hm
          obtain ⟨v119, X120, h117, hm⟩ := hm
          refine zr_calli (zr_runV (As := [.int 0]) (rest := []) (n := 1) hx hb hml hown hts hk hX (c_ZoneNodesModel_crash l G N X108 x0 0 v119 X120 h117) (hts _ tW585) tW586 (hts _ tW469) (hts _ tW587) (hts _ tW588) rfl h118 (by decide +kernel) ⟨Nat.le_of_ble_eq_true rfl, Nat.le_of_ble_eq_true rfl⟩ rfl rfl hl.1 rfl (lv_room (Nat.le_of_ble_eq_true rfl)) d_ZoneNodesModel_write_167 ⟨(Nat.le_of_ble_eq_true rfl), (Nat.le_of_ble_eq_true rfl)⟩) hS (fun H locs hX hS => ?_)
          refine lv_pop hx hb d_ZoneNodesModel_write_170 rfl ?_
          refine lv_iconst (v := (-1)) hx hb d_ZoneNodesModel_write_171 (by decide) ?_
          cases hm
          exact W.iret hx hb hr (fun t ht hW => zh_end hk hX hS ht hW) hS.2.2 d_ZoneNodesModel_write_172
      · replace hm := zi_t h103 hm
        refine lv_aload_n hx hb d_ZoneNodesModel_write_137 rfl (lv_at hl 0 rfl) ?_
        refine lv_iconst (v := 0) hx hb d_ZoneNodesModel_write_138 (by decide) ?_
        replace hm := zb1_s hm
        obtain ⟨_, h122, hm⟩ := hm
        replace hm := zb2_s hm
        obtain ⟨v123, X124, h121, hm⟩ := hm
        refine zr_calli (zr_runV (As := [.int 0]) (rest := []) (n := 1) hx hb hml hown hts hk hX (c_ZoneNodesModel_crash l G N X92 x0 0 v123 X124 h121) (hts _ tW585) tW586 (hts _ tW469) (hts _ tW587) (hts _ tW588) rfl h122 (by decide +kernel) ⟨Nat.le_of_ble_eq_true rfl, Nat.le_of_ble_eq_true rfl⟩ rfl rfl hl.1 rfl (lv_room (Nat.le_of_ble_eq_true rfl)) d_ZoneNodesModel_write_139 ⟨(Nat.le_of_ble_eq_true rfl), (Nat.le_of_ble_eq_true rfl)⟩) hS (fun H locs hX hS => ?_)
        refine lv_pop hx hb d_ZoneNodesModel_write_142 rfl ?_
        refine lv_iconst (v := (-1)) hx hb d_ZoneNodesModel_write_143 (by decide) ?_
        cases hm
        exact W.iret hx hb hr (fun t ht hW => zh_end hk hX hS ht hW) hS.2.2 d_ZoneNodesModel_write_144
