set_option maxHeartbeats 4000000 in
theorem c_cell (l : Launch) (G : zh_G) (X : zh_T) {b L : Nat} {xs : Nat → Int32} (hbA : ¬ zh_A G b) (x1 r : Int32) (hm : f_cell xs L x1 = some r) : zMs l G y_ZoneNodesLaw_cell w_ZoneNodesLaw_cell 0 0 X b L xs [.ref b, .int x1] (some (.int r)) X 0 0 := by
  refine zr_ofWs (by decide) (by exact Nat.le_of_ble_eq_true rfl) ?_
  intro p e s m args below meth c ls hx hb hml hr hts hown hin hlocks hk hX hV hl
  have hbl : b < s.heap.size := by
    obtain ⟨scr, h1, -⟩ := hV
    exact (Array.getElem?_eq_some_iff.mp h1).1
  have hS : va_S (zh_A G) s.heap s.heap [] := va_S.rf
  have hl : lv_has ls 2 [(0, .ref b), (1, .int x1)] := hl
  unfold f_cell at hm
  refine lv_iload_n hx hb d_ZoneNodesLaw_cell_0 rfl (lv_at hl 1 rfl) ?_
  refine lv_aload_n hx hb d_ZoneNodesLaw_cell_1 rfl (lv_at hl 0 rfl) ?_
  refine va_slen hx hb hV hbl hbA hS d_ZoneNodesLaw_cell_2 ?_
  refine lv_icmp_ge (tgt := 12) hx hb d_ZoneNodesLaw_cell_3 rfl (fun h1 => ?_) (fun h1 => ?_)
  · replace hm := zi_t h1 hm
    refine lv_iconst (v := 0) hx hb d_ZoneNodesLaw_cell_12 (by decide) ?_
    cases hm
    exact W.iret hx hb hr (fun t ht hW => zh_end hk hX hS ht hW) hS.2.2 d_ZoneNodesLaw_cell_13
  · replace hm := zi_f h1 hm
    refine lv_aload_n hx hb d_ZoneNodesLaw_cell_6 rfl (lv_at hl 0 rfl) ?_
    refine lv_iload_n hx hb d_ZoneNodesLaw_cell_7 rfl (lv_at hl 1 rfl) ?_
    replace hm := zb1_s hm
    obtain ⟨v2, h3, hm⟩ := hm
    refine zr_sld hx hb hV hbl hbA hS h3 d_ZoneNodesLaw_cell_8 ?_
    refine lv_goto (tgt := 13) hx hb d_ZoneNodesLaw_cell_9 rfl ?_
    cases hm
    exact W.iret hx hb hr (fun t ht hW => zh_end hk hX hS ht hW) hS.2.2 d_ZoneNodesLaw_cell_13
set_option maxHeartbeats 8000000 in
set_option maxRecDepth 100000 in
theorem c_law {p : Program} {e : Env} {s : State} {m : MethodId} {below : List Frame} {meth : Method} {c : Code} (l : Launch) {b L : Nat} {xs : Nat → Int32} (G : zh_G) (N : Nat) (X X' : zh_T) (ls : Array Slot) (hm : f_law N xs L X = some (1, X')) (hx : p.tables.exec = Jvm.exec) (hb : c.code = b_ZoneNodesLaw_law) (hml : c.maxLocals = 4) (hr : meth.sig.returnType = ret) (hlocks : meth.locks = false) (hts : ∀ w ∈ TW, w.before #[Value.ref b] s = true) (hown : s.vm.findClass R_ZoneNodesLaw = some m.cls) (hk : zh_k G s) (hX : zh_w G X s.heap) (hV : va_X b L xs s s.heap) (hbl : b < s.heap.size) (hbA : ¬ zh_A G b) (hB : s.heap.size ≤ G.2.2) (hl : lv_has ls 4 [(0, .ref b)]) : W p l e room_1 s m #[Value.ref b] below meth c s.heap [] 0 0 (lw_Z below #[Value.ref b] s) (F0 m 0 ls []) := by
  have hS : va_S (zh_A G) s.heap s.heap [] := va_S.rf
  unfold f_law at hm
  have hL58 : ∀ (n : Nat) (X : zh_T) (w1 : Nat) (w2 : Nat) (w3 : Int32) (o : ((Int32 × zh_T) ⊕ (Unit × zh_T))) (H : Heap) (locs : List Loc) (ls : Array Slot), L_ZoneNodesLaw_law_58 N xs L w1 w2 n X w3 = some o → zh_w G X H → va_S (zh_A G) s.heap H locs → lv_has ls 4 [(0, .ref b), (1, .ref w1), (2, .ref w2), (3, .int w3)] → (∀ (r0 : Int32) (X0 : zh_T), o = Sum.inl (r0, X0) → r0 = 1) → (∀ (v : Unit) (X1 : zh_T), o = Sum.inr (v, X1) → ∀ (H : Heap) (locs : List Loc) (ls : Array Slot), zh_w G X1 H → va_S (zh_A G) s.heap H locs → lv_has ls 4 [] → W p l e room_1 s m #[Value.ref b] below meth c H locs 248 6200 (lw_Z below #[Value.ref b] s) (F0 m 764 ls [])) → W p l e room_1 s m #[Value.ref b] below meth c H locs 248 6200 (lw_Z below #[Value.ref b] s) (F0 m 58 ls []) := by
    intro n
    induction n with
    | zero =>
      intro X w1 w2 w3 o H locs ls hm hX hS hl hret hexit
      rw [L_ZoneNodesLaw_law_58] at hm
      cases hm
    | succ n ih =>
      intro X w1 w2 w3 o H locs ls hm hX hS hl hret hexit
      rw [L_ZoneNodesLaw_law_58] at hm
      refine lv_iload_n hx hb d_ZoneNodesLaw_law_58 rfl (lv_at hl 3 rfl) ?_
      refine lv_aload_n hx hb d_ZoneNodesLaw_law_59 rfl (lv_at hl 0 rfl) ?_
      refine va_slen hx hb hV hbl hbA hS d_ZoneNodesLaw_law_60 ?_
      refine lv_iconst (v := 5) hx hb d_ZoneNodesLaw_law_61 (by decide) ?_
      refine lv_isub hx hb d_ZoneNodesLaw_law_62 ?_
      refine lv_icmp_gt (tgt := 764) hx hb d_ZoneNodesLaw_law_63 rfl (fun h29 => ?_) (fun h29 => ?_)
      · replace hm := zi_t h29 hm
        exact hexit _ _ (Option.some.inj hm).symm _ _ _ hX hS (lv_sub hl [] rfl)
      · replace hm := zi_f h29 hm
        refine lv_aload_n hx hb d_ZoneNodesLaw_law_66 rfl (lv_at hl 0 rfl) ?_
        refine lv_iload_n hx hb d_ZoneNodesLaw_law_67 rfl (lv_at hl 3 rfl) ?_
        replace hm := zb1_s hm
        obtain ⟨v30, h31, hm⟩ := hm
        refine zr_sld hx hb hV hbl hbA hS h31 d_ZoneNodesLaw_law_68 ?_
        refine lv_bipush (v := 31) hx hb d_ZoneNodesLaw_law_69 (by decide) ?_
        refine lv_iand hx hb d_ZoneNodesLaw_law_71 ?_
        rcases zi_or (c := (v30 &&& 31) = 0) hm with ⟨h32, hm⟩ | ⟨h32, hm⟩
        · refine lv_tableIn (tgt := 168) hx hb d_ZoneNodesLaw_law_72 (zsw_lo h32 (by decide)) (zsw_hi h32 (by decide)) (zsw_at h32 rfl) rfl ?_
          refine lv_aload_n hx hb d_ZoneNodesLaw_law_168 rfl (lv_at hl 1 rfl) ?_
          refine lv_aload_n hx hb d_ZoneNodesLaw_law_169 rfl (lv_at hl 0 rfl) ?_
          refine lv_iload_n hx hb d_ZoneNodesLaw_law_170 rfl (lv_at hl 3 rfl) ?_
          refine lv_iconst (v := 1) hx hb d_ZoneNodesLaw_law_171 (by decide) ?_
          refine lv_iadd hx hb d_ZoneNodesLaw_law_172 ?_
          replace hm := zb1_s hm
          obtain ⟨v33, h34, hm⟩ := hm
          refine zr_sld hx hb hV hbl hbA hS h34 d_ZoneNodesLaw_law_173 ?_
          refine lv_aload_n hx hb d_ZoneNodesLaw_law_174 rfl (lv_at hl 0 rfl) ?_
          refine lv_iload_n hx hb d_ZoneNodesLaw_law_175 rfl (lv_at hl 3 rfl) ?_
          refine lv_iconst (v := 2) hx hb d_ZoneNodesLaw_law_176 (by decide) ?_
          refine lv_iadd hx hb d_ZoneNodesLaw_law_177 ?_
          replace hm := zb1_s hm
          obtain ⟨v35, h36, hm⟩ := hm
          refine zr_sld hx hb hV hbl hbA hS h36 d_ZoneNodesLaw_law_178 ?_
          replace hm := zb1_s hm
          obtain ⟨_, h38, hm⟩ := hm
          replace hm := zb2_s hm
          obtain ⟨v39, X40, h37, hm⟩ := hm
          refine zr_calli (zr_runV (As := [.int v33, .int v35]) (rest := []) (n := 2) hx hb hml hown hts hk hX (c_ZoneNodes_key l G N X w1 v33 v35 v39 X40 h37) (hts _ tW615) tW616 (hts _ tW100) (hts _ tW617) (hts _ tW618) rfl h38 (by decide +kernel) ⟨Nat.le_of_ble_eq_true rfl, Nat.le_of_ble_eq_true rfl⟩ rfl rfl hl.1 rfl (lv_room (Nat.le_of_ble_eq_true rfl)) d_ZoneNodesLaw_law_179 ⟨(Nat.le_of_ble_eq_true rfl), (Nat.le_of_ble_eq_true rfl)⟩) hS (fun H locs hX hS => ?_)
          refine lv_aload_n hx hb d_ZoneNodesLaw_law_182 rfl (lv_at hl 2 rfl) ?_
          refine lv_aload_n hx hb d_ZoneNodesLaw_law_183 rfl (lv_at hl 0 rfl) ?_
          refine lv_iload_n hx hb d_ZoneNodesLaw_law_184 rfl (lv_at hl 3 rfl) ?_
          refine lv_iconst (v := 1) hx hb d_ZoneNodesLaw_law_185 (by decide) ?_
          refine lv_iadd hx hb d_ZoneNodesLaw_law_186 ?_
          replace hm := zb1_s hm
          obtain ⟨v41, h42, hm⟩ := hm
          refine zr_sld hx hb hV hbl hbA hS h42 d_ZoneNodesLaw_law_187 ?_
          refine lv_aload_n hx hb d_ZoneNodesLaw_law_188 rfl (lv_at hl 0 rfl) ?_
          refine lv_iload_n hx hb d_ZoneNodesLaw_law_189 rfl (lv_at hl 3 rfl) ?_
          refine lv_iconst (v := 2) hx hb d_ZoneNodesLaw_law_190 (by decide) ?_
          refine lv_iadd hx hb d_ZoneNodesLaw_law_191 ?_
          replace hm := zb1_s hm
          obtain ⟨v43, h44, hm⟩ := hm
          refine zr_sld hx hb hV hbl hbA hS h44 d_ZoneNodesLaw_law_192 ?_
          replace hm := zb1_s hm
          obtain ⟨_, h46, hm⟩ := hm
          replace hm := zb2_s hm
          obtain ⟨v47, X48, h45, hm⟩ := hm
          refine zr_calli (zr_runV (As := [.int v41, .int v43]) (rest := [.int v39]) (n := 2) hx hb hml hown hts hk hX (c_ZoneNodesModel_key l G N X40 w2 v41 v43 v47 X48 h45) (hts _ tW619) tW620 (hts _ tW469) (hts _ tW621) (hts _ tW622) rfl h46 (by decide +kernel) ⟨Nat.le_of_ble_eq_true rfl, Nat.le_of_ble_eq_true rfl⟩ rfl rfl hl.1 rfl (lv_room (Nat.le_of_ble_eq_true rfl)) d_ZoneNodesLaw_law_193 ⟨(Nat.le_of_ble_eq_true rfl), (Nat.le_of_ble_eq_true rfl)⟩) hS (fun H locs hX hS => ?_)
          refine lv_icmp_eq (tgt := 758) hx hb d_ZoneNodesLaw_law_196 rfl (fun h49 => ?_) (fun h49 => ?_)
          · replace hm := zi_t h49 hm
            refine lv_iinc (v := w3 + 5) (lv' := [(3, .int (w3 + 5)), (0, .ref b), (1, .ref w1), (2, .ref w2)]) hx hb d_ZoneNodesLaw_law_758 hl (k := 3) rfl (by rw [show Int32.ofInt 5 = 5 by decide]) (by decide) rfl (fun ls hl => ?_)
            refine lv_goto (tgt := 58) hx hb d_ZoneNodesLaw_law_761 rfl ?_
            exact ih X48 w1 w2 (w3 + 5) o _ _ _ hm hX hS (lv_sub hl [1, 2, 3, 0] rfl) hret hexit
          · replace hm := zi_f h49 hm
            refine lv_iconst (v := 0) hx hb d_ZoneNodesLaw_law_199 (by decide) ?_
            exact absurd (hret _ _ (Option.some.inj hm).symm) (by decide)
        · rcases zi_or (c := (v30 &&& 31) = 1) hm with ⟨h50, hm⟩ | ⟨h50, hm⟩
          · refine lv_tableIn (tgt := 201) hx hb d_ZoneNodesLaw_law_72 (zsw_lo h50 (by decide)) (zsw_hi h50 (by decide)) (zsw_at h50 rfl) rfl ?_
            refine lv_aload_n hx hb d_ZoneNodesLaw_law_201 rfl (lv_at hl 1 rfl) ?_
            refine lv_aload_n hx hb d_ZoneNodesLaw_law_202 rfl (lv_at hl 0 rfl) ?_
            refine lv_iload_n hx hb d_ZoneNodesLaw_law_203 rfl (lv_at hl 3 rfl) ?_
            refine lv_iconst (v := 1) hx hb d_ZoneNodesLaw_law_204 (by decide) ?_
            refine lv_iadd hx hb d_ZoneNodesLaw_law_205 ?_
            replace hm := zb1_s hm
            obtain ⟨v51, h52, hm⟩ := hm
            refine zr_sld hx hb hV hbl hbA hS h52 d_ZoneNodesLaw_law_206 ?_
            refine lv_aload_n hx hb d_ZoneNodesLaw_law_207 rfl (lv_at hl 0 rfl) ?_
            refine lv_iload_n hx hb d_ZoneNodesLaw_law_208 rfl (lv_at hl 3 rfl) ?_
            refine lv_iconst (v := 2) hx hb d_ZoneNodesLaw_law_209 (by decide) ?_
            refine lv_iadd hx hb d_ZoneNodesLaw_law_210 ?_
            replace hm := zb1_s hm
            obtain ⟨v53, h54, hm⟩ := hm
            refine zr_sld hx hb hV hbl hbA hS h54 d_ZoneNodesLaw_law_211 ?_
            refine lv_aload_n hx hb d_ZoneNodesLaw_law_212 rfl (lv_at hl 0 rfl) ?_
            refine lv_iload_n hx hb d_ZoneNodesLaw_law_213 rfl (lv_at hl 3 rfl) ?_
            refine lv_iconst (v := 3) hx hb d_ZoneNodesLaw_law_214 (by decide) ?_
            refine lv_iadd hx hb d_ZoneNodesLaw_law_215 ?_
            replace hm := zb1_s hm
            obtain ⟨v55, h56, hm⟩ := hm
            refine zr_sld hx hb hV hbl hbA hS h56 d_ZoneNodesLaw_law_216 ?_
            refine lv_aload_n hx hb d_ZoneNodesLaw_law_217 rfl (lv_at hl 0 rfl) ?_
            refine lv_iload_n hx hb d_ZoneNodesLaw_law_218 rfl (lv_at hl 3 rfl) ?_
            refine lv_iconst (v := 4) hx hb d_ZoneNodesLaw_law_219 (by decide) ?_
            refine lv_iadd hx hb d_ZoneNodesLaw_law_220 ?_
            replace hm := zb1_s hm
            obtain ⟨v57, h58, hm⟩ := hm
            refine zr_sld hx hb hV hbl hbA hS h58 d_ZoneNodesLaw_law_221 ?_
            replace hm := zb1_s hm
            obtain ⟨_, h60, hm⟩ := hm
            replace hm := zb2_s hm
            obtain ⟨v61, X62, h59, hm⟩ := hm
            refine zr_calli (zr_runV (As := [.int v51, .int v53, .int v55, .int v57]) (rest := []) (n := 4) hx hb hml hown hts hk hX (c_ZoneNodes_need l G N X w1 v51 v53 v55 v57 v61 X62 h59) (hts _ tW623) tW624 (hts _ tW100) (hts _ tW625) (hts _ tW626) rfl h60 (by decide +kernel) ⟨Nat.le_of_ble_eq_true rfl, Nat.le_of_ble_eq_true rfl⟩ rfl rfl hl.1 rfl (lv_room (Nat.le_of_ble_eq_true rfl)) d_ZoneNodesLaw_law_222 ⟨(Nat.le_of_ble_eq_true rfl), (Nat.le_of_ble_eq_true rfl)⟩) hS (fun H locs hX hS => ?_)
            refine lv_aload_n hx hb d_ZoneNodesLaw_law_225 rfl (lv_at hl 2 rfl) ?_
            refine lv_aload_n hx hb d_ZoneNodesLaw_law_226 rfl (lv_at hl 0 rfl) ?_
            refine lv_iload_n hx hb d_ZoneNodesLaw_law_227 rfl (lv_at hl 3 rfl) ?_
            refine lv_iconst (v := 1) hx hb d_ZoneNodesLaw_law_228 (by decide) ?_
            refine lv_iadd hx hb d_ZoneNodesLaw_law_229 ?_
            replace hm := zb1_s hm
            obtain ⟨v63, h64, hm⟩ := hm
            refine zr_sld hx hb hV hbl hbA hS h64 d_ZoneNodesLaw_law_230 ?_
            refine lv_aload_n hx hb d_ZoneNodesLaw_law_231 rfl (lv_at hl 0 rfl) ?_
            refine lv_iload_n hx hb d_ZoneNodesLaw_law_232 rfl (lv_at hl 3 rfl) ?_
            refine lv_iconst (v := 2) hx hb d_ZoneNodesLaw_law_233 (by decide) ?_
            refine lv_iadd hx hb d_ZoneNodesLaw_law_234 ?_
            replace hm := zb1_s hm
            obtain ⟨v65, h66, hm⟩ := hm
            refine zr_sld hx hb hV hbl hbA hS h66 d_ZoneNodesLaw_law_235 ?_
            refine lv_aload_n hx hb d_ZoneNodesLaw_law_236 rfl (lv_at hl 0 rfl) ?_
            refine lv_iload_n hx hb d_ZoneNodesLaw_law_237 rfl (lv_at hl 3 rfl) ?_
            refine lv_iconst (v := 3) hx hb d_ZoneNodesLaw_law_238 (by decide) ?_
            refine lv_iadd hx hb d_ZoneNodesLaw_law_239 ?_
            replace hm := zb1_s hm
            obtain ⟨v67, h68, hm⟩ := hm
            refine zr_sld hx hb hV hbl hbA hS h68 d_ZoneNodesLaw_law_240 ?_
            refine lv_aload_n hx hb d_ZoneNodesLaw_law_241 rfl (lv_at hl 0 rfl) ?_
            refine lv_iload_n hx hb d_ZoneNodesLaw_law_242 rfl (lv_at hl 3 rfl) ?_
            refine lv_iconst (v := 4) hx hb d_ZoneNodesLaw_law_243 (by decide) ?_
            refine lv_iadd hx hb d_ZoneNodesLaw_law_244 ?_
            replace hm := zb1_s hm
            obtain ⟨v69, h70, hm⟩ := hm
            refine zr_sld hx hb hV hbl hbA hS h70 d_ZoneNodesLaw_law_245 ?_
            replace hm := zb1_s hm
            obtain ⟨_, h72, hm⟩ := hm
            replace hm := zb2_s hm
            obtain ⟨v73, X74, h71, hm⟩ := hm
            refine zr_calli (zr_runV (As := [.int v63, .int v65, .int v67, .int v69]) (rest := [.int v61]) (n := 4) hx hb hml hown hts hk hX (c_ZoneNodesModel_need l G N X62 w2 v63 v65 v67 v69 v73 X74 h71) (hts _ tW627) tW628 (hts _ tW469) (hts _ tW629) (hts _ tW630) rfl h72 (by decide +kernel) ⟨Nat.le_of_ble_eq_true rfl, Nat.le_of_ble_eq_true rfl⟩ rfl rfl hl.1 rfl (lv_room (Nat.le_of_ble_eq_true rfl)) d_ZoneNodesLaw_law_246 ⟨(Nat.le_of_ble_eq_true rfl), (Nat.le_of_ble_eq_true rfl)⟩) hS (fun H locs hX hS => ?_)
            refine lv_icmp_eq (tgt := 758) hx hb d_ZoneNodesLaw_law_249 rfl (fun h75 => ?_) (fun h75 => ?_)
            · replace hm := zi_t h75 hm
              refine lv_iinc (v := w3 + 5) (lv' := [(3, .int (w3 + 5)), (0, .ref b), (1, .ref w1), (2, .ref w2)]) hx hb d_ZoneNodesLaw_law_758 hl (k := 3) rfl (by rw [show Int32.ofInt 5 = 5 by decide]) (by decide) rfl (fun ls hl => ?_)
              refine lv_goto (tgt := 58) hx hb d_ZoneNodesLaw_law_761 rfl ?_
              exact ih X74 w1 w2 (w3 + 5) o _ _ _ hm hX hS (lv_sub hl [1, 2, 3, 0] rfl) hret hexit
            · replace hm := zi_f h75 hm
              refine lv_iconst (v := 0) hx hb d_ZoneNodesLaw_law_252 (by decide) ?_
              exact absurd (hret _ _ (Option.some.inj hm).symm) (by decide)
          · rcases zi_or (c := (v30 &&& 31) = 2) hm with ⟨h76, hm⟩ | ⟨h76, hm⟩
            · refine lv_tableIn (tgt := 254) hx hb d_ZoneNodesLaw_law_72 (zsw_lo h76 (by decide)) (zsw_hi h76 (by decide)) (zsw_at h76 rfl) rfl ?_
              refine lv_aload_n hx hb d_ZoneNodesLaw_law_254 rfl (lv_at hl 1 rfl) ?_
              refine lv_aload_n hx hb d_ZoneNodesLaw_law_255 rfl (lv_at hl 0 rfl) ?_
              refine lv_iload_n hx hb d_ZoneNodesLaw_law_256 rfl (lv_at hl 3 rfl) ?_
              refine lv_iconst (v := 1) hx hb d_ZoneNodesLaw_law_257 (by decide) ?_
              refine lv_iadd hx hb d_ZoneNodesLaw_law_258 ?_
              replace hm := zb1_s hm
              obtain ⟨v77, h78, hm⟩ := hm
              refine zr_sld hx hb hV hbl hbA hS h78 d_ZoneNodesLaw_law_259 ?_
              refine lv_aload_n hx hb d_ZoneNodesLaw_law_260 rfl (lv_at hl 0 rfl) ?_
              refine lv_iload_n hx hb d_ZoneNodesLaw_law_261 rfl (lv_at hl 3 rfl) ?_
              refine lv_iconst (v := 2) hx hb d_ZoneNodesLaw_law_262 (by decide) ?_
              refine lv_iadd hx hb d_ZoneNodesLaw_law_263 ?_
              replace hm := zb1_s hm
              obtain ⟨v79, h80, hm⟩ := hm
              refine zr_sld hx hb hV hbl hbA hS h80 d_ZoneNodesLaw_law_264 ?_
              refine lv_aload_n hx hb d_ZoneNodesLaw_law_265 rfl (lv_at hl 0 rfl) ?_
              refine lv_iload_n hx hb d_ZoneNodesLaw_law_266 rfl (lv_at hl 3 rfl) ?_
              refine lv_iconst (v := 3) hx hb d_ZoneNodesLaw_law_267 (by decide) ?_
              refine lv_iadd hx hb d_ZoneNodesLaw_law_268 ?_
              replace hm := zb1_s hm
              obtain ⟨v81, h82, hm⟩ := hm
              refine zr_sld hx hb hV hbl hbA hS h82 d_ZoneNodesLaw_law_269 ?_
              refine lv_aload_n hx hb d_ZoneNodesLaw_law_270 rfl (lv_at hl 0 rfl) ?_
              refine lv_iload_n hx hb d_ZoneNodesLaw_law_271 rfl (lv_at hl 3 rfl) ?_
              refine lv_iconst (v := 4) hx hb d_ZoneNodesLaw_law_272 (by decide) ?_
              refine lv_iadd hx hb d_ZoneNodesLaw_law_273 ?_
              replace hm := zb1_s hm
              obtain ⟨v83, h84, hm⟩ := hm
              refine zr_sld hx hb hV hbl hbA hS h84 d_ZoneNodesLaw_law_274 ?_
              replace hm := zb1_s hm
              obtain ⟨_, h86, hm⟩ := hm
              replace hm := zb2_s hm
              obtain ⟨v87, X88, h85, hm⟩ := hm
              refine zr_calli (zr_runV (As := [.int v77, .int v79, .int v81, .int v83]) (rest := []) (n := 4) hx hb hml hown hts hk hX (c_ZoneNodes_change l G N X w1 v77 v79 v81 v83 v87 X88 h85) (hts _ tW631) tW632 (hts _ tW100) (hts _ tW633) (hts _ tW634) rfl h86 (by decide +kernel) ⟨Nat.le_of_ble_eq_true rfl, Nat.le_of_ble_eq_true rfl⟩ rfl rfl hl.1 rfl (lv_room (Nat.le_of_ble_eq_true rfl)) d_ZoneNodesLaw_law_275 ⟨(Nat.le_of_ble_eq_true rfl), (Nat.le_of_ble_eq_true rfl)⟩) hS (fun H locs hX hS => ?_)
              refine lv_aload_n hx hb d_ZoneNodesLaw_law_278 rfl (lv_at hl 2 rfl) ?_
              refine lv_aload_n hx hb d_ZoneNodesLaw_law_279 rfl (lv_at hl 0 rfl) ?_
              refine lv_iload_n hx hb d_ZoneNodesLaw_law_280 rfl (lv_at hl 3 rfl) ?_
              refine lv_iconst (v := 1) hx hb d_ZoneNodesLaw_law_281 (by decide) ?_
              refine lv_iadd hx hb d_ZoneNodesLaw_law_282 ?_
              replace hm := zb1_s hm
              obtain ⟨v89, h90, hm⟩ := hm
              refine zr_sld hx hb hV hbl hbA hS h90 d_ZoneNodesLaw_law_283 ?_
              refine lv_aload_n hx hb d_ZoneNodesLaw_law_284 rfl (lv_at hl 0 rfl) ?_
              refine lv_iload_n hx hb d_ZoneNodesLaw_law_285 rfl (lv_at hl 3 rfl) ?_
              refine lv_iconst (v := 2) hx hb d_ZoneNodesLaw_law_286 (by decide) ?_
              refine lv_iadd hx hb d_ZoneNodesLaw_law_287 ?_
              replace hm := zb1_s hm
              obtain ⟨v91, h92, hm⟩ := hm
              refine zr_sld hx hb hV hbl hbA hS h92 d_ZoneNodesLaw_law_288 ?_
              refine lv_aload_n hx hb d_ZoneNodesLaw_law_289 rfl (lv_at hl 0 rfl) ?_
              refine lv_iload_n hx hb d_ZoneNodesLaw_law_290 rfl (lv_at hl 3 rfl) ?_
              refine lv_iconst (v := 3) hx hb d_ZoneNodesLaw_law_291 (by decide) ?_
              refine lv_iadd hx hb d_ZoneNodesLaw_law_292 ?_
              replace hm := zb1_s hm
              obtain ⟨v93, h94, hm⟩ := hm
              refine zr_sld hx hb hV hbl hbA hS h94 d_ZoneNodesLaw_law_293 ?_
              refine lv_aload_n hx hb d_ZoneNodesLaw_law_294 rfl (lv_at hl 0 rfl) ?_
              refine lv_iload_n hx hb d_ZoneNodesLaw_law_295 rfl (lv_at hl 3 rfl) ?_
              refine lv_iconst (v := 4) hx hb d_ZoneNodesLaw_law_296 (by decide) ?_
              refine lv_iadd hx hb d_ZoneNodesLaw_law_297 ?_
              replace hm := zb1_s hm
              obtain ⟨v95, h96, hm⟩ := hm
              refine zr_sld hx hb hV hbl hbA hS h96 d_ZoneNodesLaw_law_298 ?_
              replace hm := zb1_s hm
              obtain ⟨_, h98, hm⟩ := hm
              replace hm := zb2_s hm
              obtain ⟨v99, X100, h97, hm⟩ := hm
              refine zr_calli (zr_runV (As := [.int v89, .int v91, .int v93, .int v95]) (rest := [.int v87]) (n := 4) hx hb hml hown hts hk hX (c_ZoneNodesModel_change l G N X88 w2 v89 v91 v93 v95 v99 X100 h97) (hts _ tW635) tW636 (hts _ tW469) (hts _ tW637) (hts _ tW638) rfl h98 (by decide +kernel) ⟨Nat.le_of_ble_eq_true rfl, Nat.le_of_ble_eq_true rfl⟩ rfl rfl hl.1 rfl (lv_room (Nat.le_of_ble_eq_true rfl)) d_ZoneNodesLaw_law_299 ⟨(Nat.le_of_ble_eq_true rfl), (Nat.le_of_ble_eq_true rfl)⟩) hS (fun H locs hX hS => ?_)
              refine lv_icmp_eq (tgt := 758) hx hb d_ZoneNodesLaw_law_302 rfl (fun h101 => ?_) (fun h101 => ?_)
              · replace hm := zi_t h101 hm
                refine lv_iinc (v := w3 + 5) (lv' := [(3, .int (w3 + 5)), (0, .ref b), (1, .ref w1), (2, .ref w2)]) hx hb d_ZoneNodesLaw_law_758 hl (k := 3) rfl (by rw [show Int32.ofInt 5 = 5 by decide]) (by decide) rfl (fun ls hl => ?_)
                refine lv_goto (tgt := 58) hx hb d_ZoneNodesLaw_law_761 rfl ?_
                exact ih X100 w1 w2 (w3 + 5) o _ _ _ hm hX hS (lv_sub hl [1, 2, 3, 0] rfl) hret hexit
              · replace hm := zi_f h101 hm
                refine lv_iconst (v := 0) hx hb d_ZoneNodesLaw_law_305 (by decide) ?_
                exact absurd (hret _ _ (Option.some.inj hm).symm) (by decide)
            · rcases zi_or (c := (v30 &&& 31) = 3) hm with ⟨h102, hm⟩ | ⟨h102, hm⟩
              · refine lv_tableIn (tgt := 307) hx hb d_ZoneNodesLaw_law_72 (zsw_lo h102 (by decide)) (zsw_hi h102 (by decide)) (zsw_at h102 rfl) rfl ?_
                refine lv_aload_n hx hb d_ZoneNodesLaw_law_307 rfl (lv_at hl 1 rfl) ?_
                refine lv_aload_n hx hb d_ZoneNodesLaw_law_308 rfl (lv_at hl 0 rfl) ?_
                refine lv_iload_n hx hb d_ZoneNodesLaw_law_309 rfl (lv_at hl 3 rfl) ?_
                refine lv_iconst (v := 1) hx hb d_ZoneNodesLaw_law_310 (by decide) ?_
                refine lv_iadd hx hb d_ZoneNodesLaw_law_311 ?_
                replace hm := zb1_s hm
                obtain ⟨v103, h104, hm⟩ := hm
                refine zr_sld hx hb hV hbl hbA hS h104 d_ZoneNodesLaw_law_312 ?_
                refine lv_aload_n hx hb d_ZoneNodesLaw_law_313 rfl (lv_at hl 0 rfl) ?_
                refine lv_iload_n hx hb d_ZoneNodesLaw_law_314 rfl (lv_at hl 3 rfl) ?_
                refine lv_iconst (v := 2) hx hb d_ZoneNodesLaw_law_315 (by decide) ?_
                refine lv_iadd hx hb d_ZoneNodesLaw_law_316 ?_
                replace hm := zb1_s hm
                obtain ⟨v105, h106, hm⟩ := hm
                refine zr_sld hx hb hV hbl hbA hS h106 d_ZoneNodesLaw_law_317 ?_
                replace hm := zb1_s hm
                obtain ⟨_, h108, hm⟩ := hm
                replace hm := zb1_s hm
                obtain ⟨v109, h107, hm⟩ := hm
                refine zr_calli (zr_runV (As := [.int v103, .int v105]) (rest := []) (n := 2) hx hb hml hown hts hk hX (c_ZoneNodes_seal l G N X w1 v103 v105 v109 h107) (hts _ tW639) tW640 (hts _ tW100) (hts _ tW641) (hts _ tW642) rfl h108 (by decide +kernel) ⟨Nat.le_of_ble_eq_true rfl, Nat.le_of_ble_eq_true rfl⟩ rfl rfl hl.1 rfl (lv_room (Nat.le_of_ble_eq_true rfl)) d_ZoneNodesLaw_law_318 ⟨(Nat.le_of_ble_eq_true rfl), (Nat.le_of_ble_eq_true rfl)⟩) hS (fun H locs hX hS => ?_)
                refine lv_aload_n hx hb d_ZoneNodesLaw_law_321 rfl (lv_at hl 2 rfl) ?_
                refine lv_aload_n hx hb d_ZoneNodesLaw_law_322 rfl (lv_at hl 0 rfl) ?_
                refine lv_iload_n hx hb d_ZoneNodesLaw_law_323 rfl (lv_at hl 3 rfl) ?_
                refine lv_iconst (v := 1) hx hb d_ZoneNodesLaw_law_324 (by decide) ?_
                refine lv_iadd hx hb d_ZoneNodesLaw_law_325 ?_
                replace hm := zb1_s hm
                obtain ⟨v110, h111, hm⟩ := hm
                refine zr_sld hx hb hV hbl hbA hS h111 d_ZoneNodesLaw_law_326 ?_
                refine lv_aload_n hx hb d_ZoneNodesLaw_law_327 rfl (lv_at hl 0 rfl) ?_
                refine lv_iload_n hx hb d_ZoneNodesLaw_law_328 rfl (lv_at hl 3 rfl) ?_
                refine lv_iconst (v := 2) hx hb d_ZoneNodesLaw_law_329 (by decide) ?_
                refine lv_iadd hx hb d_ZoneNodesLaw_law_330 ?_
                replace hm := zb1_s hm
                obtain ⟨v112, h113, hm⟩ := hm
                refine zr_sld hx hb hV hbl hbA hS h113 d_ZoneNodesLaw_law_331 ?_
                replace hm := zb1_s hm
                obtain ⟨_, h115, hm⟩ := hm
                replace hm := zb1_s hm
                obtain ⟨v116, h114, hm⟩ := hm
                refine zr_calli (zr_runV (As := [.int v110, .int v112]) (rest := [.int v109]) (n := 2) hx hb hml hown hts hk hX (c_ZoneNodesModel_seal l G N X w2 v110 v112 v116 h114) (hts _ tW643) tW644 (hts _ tW469) (hts _ tW645) (hts _ tW646) rfl h115 (by decide +kernel) ⟨Nat.le_of_ble_eq_true rfl, Nat.le_of_ble_eq_true rfl⟩ rfl rfl hl.1 rfl (lv_room (Nat.le_of_ble_eq_true rfl)) d_ZoneNodesLaw_law_332 ⟨(Nat.le_of_ble_eq_true rfl), (Nat.le_of_ble_eq_true rfl)⟩) hS (fun H locs hX hS => ?_)
                refine lv_icmp_eq (tgt := 758) hx hb d_ZoneNodesLaw_law_335 rfl (fun h117 => ?_) (fun h117 => ?_)
                · replace hm := zi_t h117 hm
                  refine lv_iinc (v := w3 + 5) (lv' := [(3, .int (w3 + 5)), (0, .ref b), (1, .ref w1), (2, .ref w2)]) hx hb d_ZoneNodesLaw_law_758 hl (k := 3) rfl (by rw [show Int32.ofInt 5 = 5 by decide]) (by decide) rfl (fun ls hl => ?_)
                  refine lv_goto (tgt := 58) hx hb d_ZoneNodesLaw_law_761 rfl ?_
                  exact ih X w1 w2 (w3 + 5) o _ _ _ hm hX hS (lv_sub hl [1, 2, 3, 0] rfl) hret hexit
                · replace hm := zi_f h117 hm
                  refine lv_iconst (v := 0) hx hb d_ZoneNodesLaw_law_338 (by decide) ?_
                  exact absurd (hret _ _ (Option.some.inj hm).symm) (by decide)
              · rcases zi_or (c := (v30 &&& 31) = 4) hm with ⟨h118, hm⟩ | ⟨h118, hm⟩
                · refine lv_tableIn (tgt := 340) hx hb d_ZoneNodesLaw_law_72 (zsw_lo h118 (by decide)) (zsw_hi h118 (by decide)) (zsw_at h118 rfl) rfl ?_
                  refine lv_aload_n hx hb d_ZoneNodesLaw_law_340 rfl (lv_at hl 1 rfl) ?_
                  refine lv_aload_n hx hb d_ZoneNodesLaw_law_341 rfl (lv_at hl 0 rfl) ?_
                  refine lv_iload_n hx hb d_ZoneNodesLaw_law_342 rfl (lv_at hl 3 rfl) ?_
                  refine lv_iconst (v := 1) hx hb d_ZoneNodesLaw_law_343 (by decide) ?_
                  refine lv_iadd hx hb d_ZoneNodesLaw_law_344 ?_
                  replace hm := zb1_s hm
                  obtain ⟨v119, h120, hm⟩ := hm
                  refine zr_sld hx hb hV hbl hbA hS h120 d_ZoneNodesLaw_law_345 ?_
                  refine lv_aload_n hx hb d_ZoneNodesLaw_law_346 rfl (lv_at hl 0 rfl) ?_
                  refine lv_iload_n hx hb d_ZoneNodesLaw_law_347 rfl (lv_at hl 3 rfl) ?_
                  refine lv_iconst (v := 2) hx hb d_ZoneNodesLaw_law_348 (by decide) ?_
                  refine lv_iadd hx hb d_ZoneNodesLaw_law_349 ?_
                  replace hm := zb1_s hm
                  obtain ⟨v121, h122, hm⟩ := hm
                  refine zr_sld hx hb hV hbl hbA hS h122 d_ZoneNodesLaw_law_350 ?_
                  refine lv_aload_n hx hb d_ZoneNodesLaw_law_351 rfl (lv_at hl 0 rfl) ?_
                  refine lv_iload_n hx hb d_ZoneNodesLaw_law_352 rfl (lv_at hl 3 rfl) ?_
                  refine lv_iconst (v := 3) hx hb d_ZoneNodesLaw_law_353 (by decide) ?_
                  refine lv_iadd hx hb d_ZoneNodesLaw_law_354 ?_
                  replace hm := zb1_s hm
                  obtain ⟨v123, h124, hm⟩ := hm
                  refine zr_sld hx hb hV hbl hbA hS h124 d_ZoneNodesLaw_law_355 ?_
                  replace hm := zb1_s hm
                  obtain ⟨_, h126, hm⟩ := hm
                  replace hm := zb2_s hm
                  obtain ⟨v127, X128, h125, hm⟩ := hm
                  refine zr_calli (zr_runV (As := [.int v119, .int v121, .int v123]) (rest := []) (n := 3) hx hb hml hown hts hk hX (c_ZoneNodes_update l G N X w1 v119 v121 v123 v127 X128 h125) (hts _ tW647) tW648 (hts _ tW100) (hts _ tW649) (hts _ tW650) rfl h126 (by decide +kernel) ⟨Nat.le_of_ble_eq_true rfl, Nat.le_of_ble_eq_true rfl⟩ rfl rfl hl.1 rfl (lv_room (Nat.le_of_ble_eq_true rfl)) d_ZoneNodesLaw_law_356 ⟨(Nat.le_of_ble_eq_true rfl), (Nat.le_of_ble_eq_true rfl)⟩) hS (fun H locs hX hS => ?_)
                  refine lv_aload_n hx hb d_ZoneNodesLaw_law_359 rfl (lv_at hl 2 rfl) ?_
                  refine lv_aload_n hx hb d_ZoneNodesLaw_law_360 rfl (lv_at hl 0 rfl) ?_
                  refine lv_iload_n hx hb d_ZoneNodesLaw_law_361 rfl (lv_at hl 3 rfl) ?_
                  refine lv_iconst (v := 1) hx hb d_ZoneNodesLaw_law_362 (by decide) ?_
                  refine lv_iadd hx hb d_ZoneNodesLaw_law_363 ?_
                  replace hm := zb1_s hm
                  obtain ⟨v129, h130, hm⟩ := hm
                  refine zr_sld hx hb hV hbl hbA hS h130 d_ZoneNodesLaw_law_364 ?_
                  refine lv_aload_n hx hb d_ZoneNodesLaw_law_365 rfl (lv_at hl 0 rfl) ?_
                  refine lv_iload_n hx hb d_ZoneNodesLaw_law_366 rfl (lv_at hl 3 rfl) ?_
                  refine lv_iconst (v := 2) hx hb d_ZoneNodesLaw_law_367 (by decide) ?_
                  refine lv_iadd hx hb d_ZoneNodesLaw_law_368 ?_
                  replace hm := zb1_s hm
                  obtain ⟨v131, h132, hm⟩ := hm
                  refine zr_sld hx hb hV hbl hbA hS h132 d_ZoneNodesLaw_law_369 ?_
                  refine lv_aload_n hx hb d_ZoneNodesLaw_law_370 rfl (lv_at hl 0 rfl) ?_
                  refine lv_iload_n hx hb d_ZoneNodesLaw_law_371 rfl (lv_at hl 3 rfl) ?_
                  refine lv_iconst (v := 3) hx hb d_ZoneNodesLaw_law_372 (by decide) ?_
                  refine lv_iadd hx hb d_ZoneNodesLaw_law_373 ?_
                  replace hm := zb1_s hm
                  obtain ⟨v133, h134, hm⟩ := hm
                  refine zr_sld hx hb hV hbl hbA hS h134 d_ZoneNodesLaw_law_374 ?_
                  replace hm := zb1_s hm
                  obtain ⟨_, h136, hm⟩ := hm
                  replace hm := zb2_s hm
                  obtain ⟨v137, X138, h135, hm⟩ := hm
                  refine zr_calli (zr_runV (As := [.int v129, .int v131, .int v133]) (rest := [.int v127]) (n := 3) hx hb hml hown hts hk hX (c_ZoneNodesModel_update l G N X128 w2 v129 v131 v133 v137 X138 h135) (hts _ tW651) tW652 (hts _ tW469) (hts _ tW653) (hts _ tW654) rfl h136 (by decide +kernel) ⟨Nat.le_of_ble_eq_true rfl, Nat.le_of_ble_eq_true rfl⟩ rfl rfl hl.1 rfl (lv_room (Nat.le_of_ble_eq_true rfl)) d_ZoneNodesLaw_law_375 ⟨(Nat.le_of_ble_eq_true rfl), (Nat.le_of_ble_eq_true rfl)⟩) hS (fun H locs hX hS => ?_)
                  refine lv_icmp_eq (tgt := 758) hx hb d_ZoneNodesLaw_law_378 rfl (fun h139 => ?_) (fun h139 => ?_)
                  · replace hm := zi_t h139 hm
                    refine lv_iinc (v := w3 + 5) (lv' := [(3, .int (w3 + 5)), (0, .ref b), (1, .ref w1), (2, .ref w2)]) hx hb d_ZoneNodesLaw_law_758 hl (k := 3) rfl (by rw [show Int32.ofInt 5 = 5 by decide]) (by decide) rfl (fun ls hl => ?_)
                    refine lv_goto (tgt := 58) hx hb d_ZoneNodesLaw_law_761 rfl ?_
                    exact ih X138 w1 w2 (w3 + 5) o _ _ _ hm hX hS (lv_sub hl [1, 2, 3, 0] rfl) hret hexit
                  · replace hm := zi_f h139 hm
                    refine lv_iconst (v := 0) hx hb d_ZoneNodesLaw_law_381 (by decide) ?_
                    exact absurd (hret _ _ (Option.some.inj hm).symm) (by decide)
                · rcases zi_or (c := (v30 &&& 31) = 5) hm with ⟨h140, hm⟩ | ⟨h140, hm⟩
                  · refine lv_tableIn (tgt := 383) hx hb d_ZoneNodesLaw_law_72 (zsw_lo h140 (by decide)) (zsw_hi h140 (by decide)) (zsw_at h140 rfl) rfl ?_
                    refine lv_aload_n hx hb d_ZoneNodesLaw_law_383 rfl (lv_at hl 1 rfl) ?_
                    refine lv_aload_n hx hb d_ZoneNodesLaw_law_384 rfl (lv_at hl 0 rfl) ?_
                    refine lv_iload_n hx hb d_ZoneNodesLaw_law_385 rfl (lv_at hl 3 rfl) ?_
                    refine lv_iconst (v := 1) hx hb d_ZoneNodesLaw_law_386 (by decide) ?_
                    refine lv_iadd hx hb d_ZoneNodesLaw_law_387 ?_
                    replace hm := zb1_s hm
                    obtain ⟨v141, h142, hm⟩ := hm
                    refine zr_sld hx hb hV hbl hbA hS h142 d_ZoneNodesLaw_law_388 ?_
                    replace hm := zb1_s hm
                    obtain ⟨_, h144, hm⟩ := hm
                    replace hm := zb2_s hm
                    obtain ⟨v145, X146, h143, hm⟩ := hm
                    refine zr_calli (zr_runV (As := [.int v141]) (rest := []) (n := 1) hx hb hml hown hts hk hX (c_ZoneNodes_arm l G N X w1 v141 v145 X146 h143) (hts _ tW655) tW656 (hts _ tW100) (hts _ tW657) (hts _ tW658) rfl h144 (by decide +kernel) ⟨Nat.le_of_ble_eq_true rfl, Nat.le_of_ble_eq_true rfl⟩ rfl rfl hl.1 rfl (lv_room (Nat.le_of_ble_eq_true rfl)) d_ZoneNodesLaw_law_389 ⟨(Nat.le_of_ble_eq_true rfl), (Nat.le_of_ble_eq_true rfl)⟩) hS (fun H locs hX hS => ?_)
                    refine lv_aload_n hx hb d_ZoneNodesLaw_law_392 rfl (lv_at hl 2 rfl) ?_
                    refine lv_aload_n hx hb d_ZoneNodesLaw_law_393 rfl (lv_at hl 0 rfl) ?_
                    refine lv_iload_n hx hb d_ZoneNodesLaw_law_394 rfl (lv_at hl 3 rfl) ?_
                    refine lv_iconst (v := 1) hx hb d_ZoneNodesLaw_law_395 (by decide) ?_
                    refine lv_iadd hx hb d_ZoneNodesLaw_law_396 ?_
                    replace hm := zb1_s hm
                    obtain ⟨v147, h148, hm⟩ := hm
                    refine zr_sld hx hb hV hbl hbA hS h148 d_ZoneNodesLaw_law_397 ?_
                    replace hm := zb1_s hm
                    obtain ⟨_, h150, hm⟩ := hm
                    replace hm := zb2_s hm
                    obtain ⟨v151, X152, h149, hm⟩ := hm
                    refine zr_calli (zr_runV (As := [.int v147]) (rest := [.int v145]) (n := 1) hx hb hml hown hts hk hX (c_ZoneNodesModel_arm l G N X146 w2 v147 v151 X152 h149) (hts _ tW659) tW660 (hts _ tW469) (hts _ tW661) (hts _ tW662) rfl h150 (by decide +kernel) ⟨Nat.le_of_ble_eq_true rfl, Nat.le_of_ble_eq_true rfl⟩ rfl rfl hl.1 rfl (lv_room (Nat.le_of_ble_eq_true rfl)) d_ZoneNodesLaw_law_398 ⟨(Nat.le_of_ble_eq_true rfl), (Nat.le_of_ble_eq_true rfl)⟩) hS (fun H locs hX hS => ?_)
                    refine lv_icmp_eq (tgt := 758) hx hb d_ZoneNodesLaw_law_401 rfl (fun h153 => ?_) (fun h153 => ?_)
                    · replace hm := zi_t h153 hm
                      refine lv_iinc (v := w3 + 5) (lv' := [(3, .int (w3 + 5)), (0, .ref b), (1, .ref w1), (2, .ref w2)]) hx hb d_ZoneNodesLaw_law_758 hl (k := 3) rfl (by rw [show Int32.ofInt 5 = 5 by decide]) (by decide) rfl (fun ls hl => ?_)
                      refine lv_goto (tgt := 58) hx hb d_ZoneNodesLaw_law_761 rfl ?_
                      exact ih X152 w1 w2 (w3 + 5) o _ _ _ hm hX hS (lv_sub hl [1, 2, 3, 0] rfl) hret hexit
                    · replace hm := zi_f h153 hm
                      refine lv_iconst (v := 0) hx hb d_ZoneNodesLaw_law_404 (by decide) ?_
                      exact absurd (hret _ _ (Option.some.inj hm).symm) (by decide)
                  · rcases zi_or (c := (v30 &&& 31) = 6) hm with ⟨h154, hm⟩ | ⟨h154, hm⟩
                    · refine lv_tableIn (tgt := 406) hx hb d_ZoneNodesLaw_law_72 (zsw_lo h154 (by decide)) (zsw_hi h154 (by decide)) (zsw_at h154 rfl) rfl ?_
                      refine lv_aload_n hx hb d_ZoneNodesLaw_law_406 rfl (lv_at hl 1 rfl) ?_
                      refine lv_aload_n hx hb d_ZoneNodesLaw_law_407 rfl (lv_at hl 0 rfl) ?_
                      refine lv_iload_n hx hb d_ZoneNodesLaw_law_408 rfl (lv_at hl 3 rfl) ?_
                      refine lv_iconst (v := 1) hx hb d_ZoneNodesLaw_law_409 (by decide) ?_
                      refine lv_iadd hx hb d_ZoneNodesLaw_law_410 ?_
                      replace hm := zb1_s hm
                      obtain ⟨v155, h156, hm⟩ := hm
                      refine zr_sld hx hb hV hbl hbA hS h156 d_ZoneNodesLaw_law_411 ?_
                      replace hm := zb1_s hm
                      obtain ⟨_, h158, hm⟩ := hm
                      replace hm := zb2_s hm
                      obtain ⟨v159, X160, h157, hm⟩ := hm
                      refine zr_calli (zr_runV (As := [.int v155]) (rest := []) (n := 1) hx hb hml hown hts hk hX (c_ZoneNodes_tick l G N X w1 v155 v159 X160 h157) (hts _ tW663) tW664 (hts _ tW100) (hts _ tW665) (hts _ tW666) rfl h158 (by decide +kernel) ⟨Nat.le_of_ble_eq_true rfl, Nat.le_of_ble_eq_true rfl⟩ rfl rfl hl.1 rfl (lv_room (Nat.le_of_ble_eq_true rfl)) d_ZoneNodesLaw_law_412 ⟨(Nat.le_of_ble_eq_true rfl), (Nat.le_of_ble_eq_true rfl)⟩) hS (fun H locs hX hS => ?_)
                      refine lv_aload_n hx hb d_ZoneNodesLaw_law_415 rfl (lv_at hl 2 rfl) ?_
                      refine lv_aload_n hx hb d_ZoneNodesLaw_law_416 rfl (lv_at hl 0 rfl) ?_
                      refine lv_iload_n hx hb d_ZoneNodesLaw_law_417 rfl (lv_at hl 3 rfl) ?_
                      refine lv_iconst (v := 1) hx hb d_ZoneNodesLaw_law_418 (by decide) ?_
                      refine lv_iadd hx hb d_ZoneNodesLaw_law_419 ?_
                      replace hm := zb1_s hm
                      obtain ⟨v161, h162, hm⟩ := hm
                      refine zr_sld hx hb hV hbl hbA hS h162 d_ZoneNodesLaw_law_420 ?_
                      replace hm := zb1_s hm
                      obtain ⟨_, h164, hm⟩ := hm
                      replace hm := zb2_s hm
                      obtain ⟨v165, X166, h163, hm⟩ := hm
                      refine zr_calli (zr_runV (As := [.int v161]) (rest := [.int v159]) (n := 1) hx hb hml hown hts hk hX (c_ZoneNodesModel_tick l G N X160 w2 v161 v165 X166 h163) (hts _ tW667) tW668 (hts _ tW469) (hts _ tW669) (hts _ tW670) rfl h164 (by decide +kernel) ⟨Nat.le_of_ble_eq_true rfl, Nat.le_of_ble_eq_true rfl⟩ rfl rfl hl.1 rfl (lv_room (Nat.le_of_ble_eq_true rfl)) d_ZoneNodesLaw_law_421 ⟨(Nat.le_of_ble_eq_true rfl), (Nat.le_of_ble_eq_true rfl)⟩) hS (fun H locs hX hS => ?_)
                      refine lv_icmp_eq (tgt := 758) hx hb d_ZoneNodesLaw_law_424 rfl (fun h167 => ?_) (fun h167 => ?_)
                      · replace hm := zi_t h167 hm
                        refine lv_iinc (v := w3 + 5) (lv' := [(3, .int (w3 + 5)), (0, .ref b), (1, .ref w1), (2, .ref w2)]) hx hb d_ZoneNodesLaw_law_758 hl (k := 3) rfl (by rw [show Int32.ofInt 5 = 5 by decide]) (by decide) rfl (fun ls hl => ?_)
                        refine lv_goto (tgt := 58) hx hb d_ZoneNodesLaw_law_761 rfl ?_
                        exact ih X166 w1 w2 (w3 + 5) o _ _ _ hm hX hS (lv_sub hl [1, 2, 3, 0] rfl) hret hexit
                      · replace hm := zi_f h167 hm
                        refine lv_iconst (v := 0) hx hb d_ZoneNodesLaw_law_427 (by decide) ?_
                        exact absurd (hret _ _ (Option.some.inj hm).symm) (by decide)
                    · rcases zi_or (c := (v30 &&& 31) = 7) hm with ⟨h168, hm⟩ | ⟨h168, hm⟩
                      · refine lv_tableIn (tgt := 429) hx hb d_ZoneNodesLaw_law_72 (zsw_lo h168 (by decide)) (zsw_hi h168 (by decide)) (zsw_at h168 rfl) rfl ?_
                        refine lv_aload_n hx hb d_ZoneNodesLaw_law_429 rfl (lv_at hl 1 rfl) ?_
                        refine lv_aload_n hx hb d_ZoneNodesLaw_law_430 rfl (lv_at hl 0 rfl) ?_
                        refine lv_iload_n hx hb d_ZoneNodesLaw_law_431 rfl (lv_at hl 3 rfl) ?_
                        refine lv_iconst (v := 1) hx hb d_ZoneNodesLaw_law_432 (by decide) ?_
                        refine lv_iadd hx hb d_ZoneNodesLaw_law_433 ?_
                        replace hm := zb1_s hm
                        obtain ⟨v169, h170, hm⟩ := hm
                        refine zr_sld hx hb hV hbl hbA hS h170 d_ZoneNodesLaw_law_434 ?_
                        replace hm := zb1_s hm
                        obtain ⟨_, h172, hm⟩ := hm
                        replace hm := zb2_s hm
                        obtain ⟨v173, X174, h171, hm⟩ := hm
                        refine zr_calli (zr_runV (As := [.int v169]) (rest := []) (n := 1) hx hb hml hown hts hk hX (c_ZoneNodes_deliver l G N X w1 v169 v173 X174 h171) (hts _ tW671) tW672 (hts _ tW100) (hts _ tW673) (hts _ tW674) rfl h172 (by decide +kernel) ⟨Nat.le_of_ble_eq_true rfl, Nat.le_of_ble_eq_true rfl⟩ rfl rfl hl.1 rfl (lv_room (Nat.le_of_ble_eq_true rfl)) d_ZoneNodesLaw_law_435 ⟨(Nat.le_of_ble_eq_true rfl), (Nat.le_of_ble_eq_true rfl)⟩) hS (fun H locs hX hS => ?_)
                        refine lv_aload_n hx hb d_ZoneNodesLaw_law_438 rfl (lv_at hl 2 rfl) ?_
                        refine lv_aload_n hx hb d_ZoneNodesLaw_law_439 rfl (lv_at hl 0 rfl) ?_
                        refine lv_iload_n hx hb d_ZoneNodesLaw_law_440 rfl (lv_at hl 3 rfl) ?_
                        refine lv_iconst (v := 1) hx hb d_ZoneNodesLaw_law_441 (by decide) ?_
                        refine lv_iadd hx hb d_ZoneNodesLaw_law_442 ?_
                        replace hm := zb1_s hm
                        obtain ⟨v175, h176, hm⟩ := hm
                        refine zr_sld hx hb hV hbl hbA hS h176 d_ZoneNodesLaw_law_443 ?_
                        replace hm := zb1_s hm
                        obtain ⟨_, h178, hm⟩ := hm
                        replace hm := zb2_s hm
                        obtain ⟨v179, X180, h177, hm⟩ := hm
                        refine zr_calli (zr_runV (As := [.int v175]) (rest := [.int v173]) (n := 1) hx hb hml hown hts hk hX (c_ZoneNodesModel_deliver l G N X174 w2 v175 v179 X180 h177) (hts _ tW675) tW676 (hts _ tW469) (hts _ tW677) (hts _ tW678) rfl h178 (by decide +kernel) ⟨Nat.le_of_ble_eq_true rfl, Nat.le_of_ble_eq_true rfl⟩ rfl rfl hl.1 rfl (lv_room (Nat.le_of_ble_eq_true rfl)) d_ZoneNodesLaw_law_444 ⟨(Nat.le_of_ble_eq_true rfl), (Nat.le_of_ble_eq_true rfl)⟩) hS (fun H locs hX hS => ?_)
                        refine lv_icmp_eq (tgt := 758) hx hb d_ZoneNodesLaw_law_447 rfl (fun h181 => ?_) (fun h181 => ?_)
                        · replace hm := zi_t h181 hm
                          refine lv_iinc (v := w3 + 5) (lv' := [(3, .int (w3 + 5)), (0, .ref b), (1, .ref w1), (2, .ref w2)]) hx hb d_ZoneNodesLaw_law_758 hl (k := 3) rfl (by rw [show Int32.ofInt 5 = 5 by decide]) (by decide) rfl (fun ls hl => ?_)
                          refine lv_goto (tgt := 58) hx hb d_ZoneNodesLaw_law_761 rfl ?_
                          exact ih X180 w1 w2 (w3 + 5) o _ _ _ hm hX hS (lv_sub hl [1, 2, 3, 0] rfl) hret hexit
                        · replace hm := zi_f h181 hm
                          refine lv_iconst (v := 0) hx hb d_ZoneNodesLaw_law_450 (by decide) ?_
                          exact absurd (hret _ _ (Option.some.inj hm).symm) (by decide)
                      · rcases zi_or (c := (v30 &&& 31) = 8) hm with ⟨h182, hm⟩ | ⟨h182, hm⟩
                        · refine lv_tableIn (tgt := 452) hx hb d_ZoneNodesLaw_law_72 (zsw_lo h182 (by decide)) (zsw_hi h182 (by decide)) (zsw_at h182 rfl) rfl ?_
                          refine lv_aload_n hx hb d_ZoneNodesLaw_law_452 rfl (lv_at hl 1 rfl) ?_
                          refine lv_aload_n hx hb d_ZoneNodesLaw_law_453 rfl (lv_at hl 0 rfl) ?_
                          refine lv_iload_n hx hb d_ZoneNodesLaw_law_454 rfl (lv_at hl 3 rfl) ?_
                          refine lv_iconst (v := 1) hx hb d_ZoneNodesLaw_law_455 (by decide) ?_
                          refine lv_iadd hx hb d_ZoneNodesLaw_law_456 ?_
                          replace hm := zb1_s hm
                          obtain ⟨v183, h184, hm⟩ := hm
                          refine zr_sld hx hb hV hbl hbA hS h184 d_ZoneNodesLaw_law_457 ?_
                          replace hm := zb1_s hm
                          obtain ⟨_, h186, hm⟩ := hm
                          replace hm := zb2_s hm
                          obtain ⟨v187, X188, h185, hm⟩ := hm
                          refine zr_calli (zr_runV (As := [.int v183]) (rest := []) (n := 1) hx hb hml hown hts hk hX (c_ZoneNodes_drop l G N X w1 v183 v187 X188 h185) (hts _ tW679) tW680 (hts _ tW100) (hts _ tW681) (hts _ tW682) rfl h186 (by decide +kernel) ⟨Nat.le_of_ble_eq_true rfl, Nat.le_of_ble_eq_true rfl⟩ rfl rfl hl.1 rfl (lv_room (Nat.le_of_ble_eq_true rfl)) d_ZoneNodesLaw_law_458 ⟨(Nat.le_of_ble_eq_true rfl), (Nat.le_of_ble_eq_true rfl)⟩) hS (fun H locs hX hS => ?_)
                          refine lv_aload_n hx hb d_ZoneNodesLaw_law_461 rfl (lv_at hl 2 rfl) ?_
                          refine lv_aload_n hx hb d_ZoneNodesLaw_law_462 rfl (lv_at hl 0 rfl) ?_
                          refine lv_iload_n hx hb d_ZoneNodesLaw_law_463 rfl (lv_at hl 3 rfl) ?_
                          refine lv_iconst (v := 1) hx hb d_ZoneNodesLaw_law_464 (by decide) ?_
                          refine lv_iadd hx hb d_ZoneNodesLaw_law_465 ?_
                          replace hm := zb1_s hm
                          obtain ⟨v189, h190, hm⟩ := hm
                          refine zr_sld hx hb hV hbl hbA hS h190 d_ZoneNodesLaw_law_466 ?_
                          replace hm := zb1_s hm
                          obtain ⟨_, h192, hm⟩ := hm
                          replace hm := zb2_s hm
                          obtain ⟨v193, X194, h191, hm⟩ := hm
                          refine zr_calli (zr_runV (As := [.int v189]) (rest := [.int v187]) (n := 1) hx hb hml hown hts hk hX (c_ZoneNodesModel_drop l G N X188 w2 v189 v193 X194 h191) (hts _ tW683) tW684 (hts _ tW469) (hts _ tW685) (hts _ tW686) rfl h192 (by decide +kernel) ⟨Nat.le_of_ble_eq_true rfl, Nat.le_of_ble_eq_true rfl⟩ rfl rfl hl.1 rfl (lv_room (Nat.le_of_ble_eq_true rfl)) d_ZoneNodesLaw_law_467 ⟨(Nat.le_of_ble_eq_true rfl), (Nat.le_of_ble_eq_true rfl)⟩) hS (fun H locs hX hS => ?_)
                          refine lv_icmp_eq (tgt := 758) hx hb d_ZoneNodesLaw_law_470 rfl (fun h195 => ?_) (fun h195 => ?_)
                          · replace hm := zi_t h195 hm
                            refine lv_iinc (v := w3 + 5) (lv' := [(3, .int (w3 + 5)), (0, .ref b), (1, .ref w1), (2, .ref w2)]) hx hb d_ZoneNodesLaw_law_758 hl (k := 3) rfl (by rw [show Int32.ofInt 5 = 5 by decide]) (by decide) rfl (fun ls hl => ?_)
                            refine lv_goto (tgt := 58) hx hb d_ZoneNodesLaw_law_761 rfl ?_
                            exact ih X194 w1 w2 (w3 + 5) o _ _ _ hm hX hS (lv_sub hl [1, 2, 3, 0] rfl) hret hexit
                          · replace hm := zi_f h195 hm
                            refine lv_iconst (v := 0) hx hb d_ZoneNodesLaw_law_473 (by decide) ?_
                            exact absurd (hret _ _ (Option.some.inj hm).symm) (by decide)
                        · rcases zi_or (c := (v30 &&& 31) = 9) hm with ⟨h196, hm⟩ | ⟨h196, hm⟩
                          · refine lv_tableIn (tgt := 475) hx hb d_ZoneNodesLaw_law_72 (zsw_lo h196 (by decide)) (zsw_hi h196 (by decide)) (zsw_at h196 rfl) rfl ?_
                            refine lv_aload_n hx hb d_ZoneNodesLaw_law_475 rfl (lv_at hl 1 rfl) ?_
                            refine lv_aload_n hx hb d_ZoneNodesLaw_law_476 rfl (lv_at hl 0 rfl) ?_
                            refine lv_iload_n hx hb d_ZoneNodesLaw_law_477 rfl (lv_at hl 3 rfl) ?_
                            refine lv_iconst (v := 1) hx hb d_ZoneNodesLaw_law_478 (by decide) ?_
                            refine lv_iadd hx hb d_ZoneNodesLaw_law_479 ?_
                            replace hm := zb1_s hm
                            obtain ⟨v197, h198, hm⟩ := hm
                            refine zr_sld hx hb hV hbl hbA hS h198 d_ZoneNodesLaw_law_480 ?_
                            replace hm := zb1_s hm
                            obtain ⟨_, h200, hm⟩ := hm
                            replace hm := zb2_s hm
                            obtain ⟨v201, X202, h199, hm⟩ := hm
                            refine zr_calli (zr_runV (As := [.int v197]) (rest := []) (n := 1) hx hb hml hown hts hk hX (c_ZoneNodes_alter l G N X w1 v197 v201 X202 h199) (hts _ tW687) tW688 (hts _ tW100) (hts _ tW689) (hts _ tW690) rfl h200 (by decide +kernel) ⟨Nat.le_of_ble_eq_true rfl, Nat.le_of_ble_eq_true rfl⟩ rfl rfl hl.1 rfl (lv_room (Nat.le_of_ble_eq_true rfl)) d_ZoneNodesLaw_law_481 ⟨(Nat.le_of_ble_eq_true rfl), (Nat.le_of_ble_eq_true rfl)⟩) hS (fun H locs hX hS => ?_)
                            refine lv_aload_n hx hb d_ZoneNodesLaw_law_484 rfl (lv_at hl 2 rfl) ?_
                            refine lv_aload_n hx hb d_ZoneNodesLaw_law_485 rfl (lv_at hl 0 rfl) ?_
                            refine lv_iload_n hx hb d_ZoneNodesLaw_law_486 rfl (lv_at hl 3 rfl) ?_
                            refine lv_iconst (v := 1) hx hb d_ZoneNodesLaw_law_487 (by decide) ?_
                            refine lv_iadd hx hb d_ZoneNodesLaw_law_488 ?_
                            replace hm := zb1_s hm
                            obtain ⟨v203, h204, hm⟩ := hm
                            refine zr_sld hx hb hV hbl hbA hS h204 d_ZoneNodesLaw_law_489 ?_
                            replace hm := zb1_s hm
                            obtain ⟨_, h206, hm⟩ := hm
                            replace hm := zb2_s hm
                            obtain ⟨v207, X208, h205, hm⟩ := hm
                            refine zr_calli (zr_runV (As := [.int v203]) (rest := [.int v201]) (n := 1) hx hb hml hown hts hk hX (c_ZoneNodesModel_alter l G N X202 w2 v203 v207 X208 h205) (hts _ tW691) tW692 (hts _ tW469) (hts _ tW693) (hts _ tW694) rfl h206 (by decide +kernel) ⟨Nat.le_of_ble_eq_true rfl, Nat.le_of_ble_eq_true rfl⟩ rfl rfl hl.1 rfl (lv_room (Nat.le_of_ble_eq_true rfl)) d_ZoneNodesLaw_law_490 ⟨(Nat.le_of_ble_eq_true rfl), (Nat.le_of_ble_eq_true rfl)⟩) hS (fun H locs hX hS => ?_)
                            refine lv_icmp_eq (tgt := 758) hx hb d_ZoneNodesLaw_law_493 rfl (fun h209 => ?_) (fun h209 => ?_)
                            · replace hm := zi_t h209 hm
                              refine lv_iinc (v := w3 + 5) (lv' := [(3, .int (w3 + 5)), (0, .ref b), (1, .ref w1), (2, .ref w2)]) hx hb d_ZoneNodesLaw_law_758 hl (k := 3) rfl (by rw [show Int32.ofInt 5 = 5 by decide]) (by decide) rfl (fun ls hl => ?_)
                              refine lv_goto (tgt := 58) hx hb d_ZoneNodesLaw_law_761 rfl ?_
                              exact ih X208 w1 w2 (w3 + 5) o _ _ _ hm hX hS (lv_sub hl [1, 2, 3, 0] rfl) hret hexit
                            · replace hm := zi_f h209 hm
                              refine lv_iconst (v := 0) hx hb d_ZoneNodesLaw_law_496 (by decide) ?_
                              exact absurd (hret _ _ (Option.some.inj hm).symm) (by decide)
                          · rcases zi_or (c := (v30 &&& 31) = 10) hm with ⟨h210, hm⟩ | ⟨h210, hm⟩
                            · refine lv_tableIn (tgt := 498) hx hb d_ZoneNodesLaw_law_72 (zsw_lo h210 (by decide)) (zsw_hi h210 (by decide)) (zsw_at h210 rfl) rfl ?_
                              refine lv_aload_n hx hb d_ZoneNodesLaw_law_498 rfl (lv_at hl 1 rfl) ?_
                              refine lv_aload_n hx hb d_ZoneNodesLaw_law_499 rfl (lv_at hl 0 rfl) ?_
                              refine lv_iload_n hx hb d_ZoneNodesLaw_law_500 rfl (lv_at hl 3 rfl) ?_
                              refine lv_iconst (v := 1) hx hb d_ZoneNodesLaw_law_501 (by decide) ?_
                              refine lv_iadd hx hb d_ZoneNodesLaw_law_502 ?_
                              replace hm := zb1_s hm
                              obtain ⟨v211, h212, hm⟩ := hm
                              refine zr_sld hx hb hV hbl hbA hS h212 d_ZoneNodesLaw_law_503 ?_
                              replace hm := zb1_s hm
                              obtain ⟨_, h214, hm⟩ := hm
                              replace hm := zb2_s hm
                              obtain ⟨v215, X216, h213, hm⟩ := hm
                              refine zr_calli (zr_runV (As := [.int v211]) (rest := []) (n := 1) hx hb hml hown hts hk hX (c_ZoneNodes_crash l G N X w1 v211 v215 X216 h213) (hts _ tW695) tW696 (hts _ tW100) (hts _ tW697) (hts _ tW698) rfl h214 (by decide +kernel) ⟨Nat.le_of_ble_eq_true rfl, Nat.le_of_ble_eq_true rfl⟩ rfl rfl hl.1 rfl (lv_room (Nat.le_of_ble_eq_true rfl)) d_ZoneNodesLaw_law_504 ⟨(Nat.le_of_ble_eq_true rfl), (Nat.le_of_ble_eq_true rfl)⟩) hS (fun H locs hX hS => ?_)
                              refine lv_aload_n hx hb d_ZoneNodesLaw_law_507 rfl (lv_at hl 2 rfl) ?_
                              refine lv_aload_n hx hb d_ZoneNodesLaw_law_508 rfl (lv_at hl 0 rfl) ?_
                              refine lv_iload_n hx hb d_ZoneNodesLaw_law_509 rfl (lv_at hl 3 rfl) ?_
                              refine lv_iconst (v := 1) hx hb d_ZoneNodesLaw_law_510 (by decide) ?_
                              refine lv_iadd hx hb d_ZoneNodesLaw_law_511 ?_
                              replace hm := zb1_s hm
                              obtain ⟨v217, h218, hm⟩ := hm
                              refine zr_sld hx hb hV hbl hbA hS h218 d_ZoneNodesLaw_law_512 ?_
                              replace hm := zb1_s hm
                              obtain ⟨_, h220, hm⟩ := hm
                              replace hm := zb2_s hm
                              obtain ⟨v221, X222, h219, hm⟩ := hm
                              refine zr_calli (zr_runV (As := [.int v217]) (rest := [.int v215]) (n := 1) hx hb hml hown hts hk hX (c_ZoneNodesModel_crash l G N X216 w2 v217 v221 X222 h219) (hts _ tW699) tW586 (hts _ tW469) (hts _ tW587) (hts _ tW588) rfl h220 (by decide +kernel) ⟨Nat.le_of_ble_eq_true rfl, Nat.le_of_ble_eq_true rfl⟩ rfl rfl hl.1 rfl (lv_room (Nat.le_of_ble_eq_true rfl)) d_ZoneNodesLaw_law_513 ⟨(Nat.le_of_ble_eq_true rfl), (Nat.le_of_ble_eq_true rfl)⟩) hS (fun H locs hX hS => ?_)
                              refine lv_icmp_eq (tgt := 758) hx hb d_ZoneNodesLaw_law_516 rfl (fun h223 => ?_) (fun h223 => ?_)
                              · replace hm := zi_t h223 hm
                                refine lv_iinc (v := w3 + 5) (lv' := [(3, .int (w3 + 5)), (0, .ref b), (1, .ref w1), (2, .ref w2)]) hx hb d_ZoneNodesLaw_law_758 hl (k := 3) rfl (by rw [show Int32.ofInt 5 = 5 by decide]) (by decide) rfl (fun ls hl => ?_)
                                refine lv_goto (tgt := 58) hx hb d_ZoneNodesLaw_law_761 rfl ?_
                                exact ih X222 w1 w2 (w3 + 5) o _ _ _ hm hX hS (lv_sub hl [1, 2, 3, 0] rfl) hret hexit
                              · replace hm := zi_f h223 hm
                                refine lv_iconst (v := 0) hx hb d_ZoneNodesLaw_law_519 (by decide) ?_
                                exact absurd (hret _ _ (Option.some.inj hm).symm) (by decide)
                            · rcases zi_or (c := (v30 &&& 31) = 11) hm with ⟨h224, hm⟩ | ⟨h224, hm⟩
                              · refine lv_tableIn (tgt := 521) hx hb d_ZoneNodesLaw_law_72 (zsw_lo h224 (by decide)) (zsw_hi h224 (by decide)) (zsw_at h224 rfl) rfl ?_
                                refine lv_aload_n hx hb d_ZoneNodesLaw_law_521 rfl (lv_at hl 1 rfl) ?_
                                refine lv_aload_n hx hb d_ZoneNodesLaw_law_522 rfl (lv_at hl 0 rfl) ?_
                                refine lv_iload_n hx hb d_ZoneNodesLaw_law_523 rfl (lv_at hl 3 rfl) ?_
                                refine lv_iconst (v := 1) hx hb d_ZoneNodesLaw_law_524 (by decide) ?_
                                refine lv_iadd hx hb d_ZoneNodesLaw_law_525 ?_
                                replace hm := zb1_s hm
                                obtain ⟨v225, h226, hm⟩ := hm
                                refine zr_sld hx hb hV hbl hbA hS h226 d_ZoneNodesLaw_law_526 ?_
                                replace hm := zb1_s hm
                                obtain ⟨_, h228, hm⟩ := hm
                                replace hm := zb2_s hm
                                obtain ⟨v229, X230, h227, hm⟩ := hm
                                refine zr_calli (zr_runV (As := [.int v225]) (rest := []) (n := 1) hx hb hml hown hts hk hX (c_ZoneNodes_restart l G N X w1 v225 v229 X230 h227) (hts _ tW700) tW701 (hts _ tW100) (hts _ tW702) (hts _ tW703) rfl h228 (by decide +kernel) ⟨Nat.le_of_ble_eq_true rfl, Nat.le_of_ble_eq_true rfl⟩ rfl rfl hl.1 rfl (lv_room (Nat.le_of_ble_eq_true rfl)) d_ZoneNodesLaw_law_527 ⟨(Nat.le_of_ble_eq_true rfl), (Nat.le_of_ble_eq_true rfl)⟩) hS (fun H locs hX hS => ?_)
                                refine lv_aload_n hx hb d_ZoneNodesLaw_law_530 rfl (lv_at hl 2 rfl) ?_
                                refine lv_aload_n hx hb d_ZoneNodesLaw_law_531 rfl (lv_at hl 0 rfl) ?_
                                refine lv_iload_n hx hb d_ZoneNodesLaw_law_532 rfl (lv_at hl 3 rfl) ?_
                                refine lv_iconst (v := 1) hx hb d_ZoneNodesLaw_law_533 (by decide) ?_
                                refine lv_iadd hx hb d_ZoneNodesLaw_law_534 ?_
                                replace hm := zb1_s hm
                                obtain ⟨v231, h232, hm⟩ := hm
                                refine zr_sld hx hb hV hbl hbA hS h232 d_ZoneNodesLaw_law_535 ?_
                                replace hm := zb1_s hm
                                obtain ⟨_, h234, hm⟩ := hm
                                replace hm := zb2_s hm
                                obtain ⟨v235, X236, h233, hm⟩ := hm
                                refine zr_calli (zr_runV (As := [.int v231]) (rest := [.int v229]) (n := 1) hx hb hml hown hts hk hX (c_ZoneNodesModel_restart l G N X230 w2 v231 v235 X236 h233) (hts _ tW704) tW705 (hts _ tW469) (hts _ tW706) (hts _ tW707) rfl h234 (by decide +kernel) ⟨Nat.le_of_ble_eq_true rfl, Nat.le_of_ble_eq_true rfl⟩ rfl rfl hl.1 rfl (lv_room (Nat.le_of_ble_eq_true rfl)) d_ZoneNodesLaw_law_536 ⟨(Nat.le_of_ble_eq_true rfl), (Nat.le_of_ble_eq_true rfl)⟩) hS (fun H locs hX hS => ?_)
                                refine lv_icmp_eq (tgt := 758) hx hb d_ZoneNodesLaw_law_539 rfl (fun h237 => ?_) (fun h237 => ?_)
                                · replace hm := zi_t h237 hm
                                  refine lv_iinc (v := w3 + 5) (lv' := [(3, .int (w3 + 5)), (0, .ref b), (1, .ref w1), (2, .ref w2)]) hx hb d_ZoneNodesLaw_law_758 hl (k := 3) rfl (by rw [show Int32.ofInt 5 = 5 by decide]) (by decide) rfl (fun ls hl => ?_)
                                  refine lv_goto (tgt := 58) hx hb d_ZoneNodesLaw_law_761 rfl ?_
                                  exact ih X236 w1 w2 (w3 + 5) o _ _ _ hm hX hS (lv_sub hl [1, 2, 3, 0] rfl) hret hexit
                                · replace hm := zi_f h237 hm
                                  refine lv_iconst (v := 0) hx hb d_ZoneNodesLaw_law_542 (by decide) ?_
                                  exact absurd (hret _ _ (Option.some.inj hm).symm) (by decide)
                              · rcases zi_or (c := (v30 &&& 31) = 12) hm with ⟨h238, hm⟩ | ⟨h238, hm⟩
                                · refine lv_tableIn (tgt := 544) hx hb d_ZoneNodesLaw_law_72 (zsw_lo h238 (by decide)) (zsw_hi h238 (by decide)) (zsw_at h238 rfl) rfl ?_
                                  refine lv_aload_n hx hb d_ZoneNodesLaw_law_544 rfl (lv_at hl 1 rfl) ?_
                                  replace hm := zb1_s hm
                                  obtain ⟨_, h240, hm⟩ := hm
                                  replace hm := zb1_s hm
                                  obtain ⟨v241, h239, hm⟩ := hm
                                  refine zr_calli (zr_runV (As := []) (rest := []) (n := 0) hx hb hml hown hts hk hX (c_ZoneNodes_messages l G N X w1 v241 h239) (hts _ tW708) tW709 (hts _ tW100) (hts _ tW710) (hts _ tW711) rfl h240 (by decide +kernel) ⟨Nat.le_of_ble_eq_true rfl, Nat.le_of_ble_eq_true rfl⟩ rfl rfl hl.1 rfl (lv_room (Nat.le_of_ble_eq_true rfl)) d_ZoneNodesLaw_law_545 ⟨(Nat.le_of_ble_eq_true rfl), (Nat.le_of_ble_eq_true rfl)⟩) hS (fun H locs hX hS => ?_)
                                  refine lv_aload_n hx hb d_ZoneNodesLaw_law_548 rfl (lv_at hl 2 rfl) ?_
                                  replace hm := zb1_s hm
                                  obtain ⟨_, h243, hm⟩ := hm
                                  replace hm := zb1_s hm
                                  obtain ⟨v244, h242, hm⟩ := hm
                                  refine zr_calli (zr_runV (As := []) (rest := [.int v241]) (n := 0) hx hb hml hown hts hk hX (c_ZoneNodesModel_messages l G N X w2 v244 h242) (hts _ tW712) tW713 (hts _ tW469) (hts _ tW714) (hts _ tW715) rfl h243 (by decide +kernel) ⟨Nat.le_of_ble_eq_true rfl, Nat.le_of_ble_eq_true rfl⟩ rfl rfl hl.1 rfl (lv_room (Nat.le_of_ble_eq_true rfl)) d_ZoneNodesLaw_law_549 ⟨(Nat.le_of_ble_eq_true rfl), (Nat.le_of_ble_eq_true rfl)⟩) hS (fun H locs hX hS => ?_)
                                  refine lv_icmp_eq (tgt := 758) hx hb d_ZoneNodesLaw_law_552 rfl (fun h245 => ?_) (fun h245 => ?_)
                                  · replace hm := zi_t h245 hm
                                    refine lv_iinc (v := w3 + 5) (lv' := [(3, .int (w3 + 5)), (0, .ref b), (1, .ref w1), (2, .ref w2)]) hx hb d_ZoneNodesLaw_law_758 hl (k := 3) rfl (by rw [show Int32.ofInt 5 = 5 by decide]) (by decide) rfl (fun ls hl => ?_)
                                    refine lv_goto (tgt := 58) hx hb d_ZoneNodesLaw_law_761 rfl ?_
                                    exact ih X w1 w2 (w3 + 5) o _ _ _ hm hX hS (lv_sub hl [1, 2, 3, 0] rfl) hret hexit
                                  · replace hm := zi_f h245 hm
                                    refine lv_iconst (v := 0) hx hb d_ZoneNodesLaw_law_555 (by decide) ?_
                                    exact absurd (hret _ _ (Option.some.inj hm).symm) (by decide)
                                · rcases zi_or (c := (v30 &&& 31) = 13) hm with ⟨h246, hm⟩ | ⟨h246, hm⟩
                                  · refine lv_tableIn (tgt := 557) hx hb d_ZoneNodesLaw_law_72 (zsw_lo h246 (by decide)) (zsw_hi h246 (by decide)) (zsw_at h246 rfl) rfl ?_
                                    refine lv_aload_n hx hb d_ZoneNodesLaw_law_557 rfl (lv_at hl 1 rfl) ?_
                                    refine lv_aload_n hx hb d_ZoneNodesLaw_law_558 rfl (lv_at hl 0 rfl) ?_
                                    refine lv_iload_n hx hb d_ZoneNodesLaw_law_559 rfl (lv_at hl 3 rfl) ?_
                                    refine lv_iconst (v := 1) hx hb d_ZoneNodesLaw_law_560 (by decide) ?_
                                    refine lv_iadd hx hb d_ZoneNodesLaw_law_561 ?_
                                    replace hm := zb1_s hm
                                    obtain ⟨v247, h248, hm⟩ := hm
                                    refine zr_sld hx hb hV hbl hbA hS h248 d_ZoneNodesLaw_law_562 ?_
                                    replace hm := zb1_s hm
                                    obtain ⟨_, h250, hm⟩ := hm
                                    replace hm := zb1_s hm
                                    obtain ⟨v251, h249, hm⟩ := hm
                                    refine zr_calli (zr_runV (As := [.int v247]) (rest := []) (n := 1) hx hb hml hown hts hk hX (c_ZoneNodes_message l G N X w1 v247 v251 h249) (hts _ tW716) tW717 (hts _ tW100) (hts _ tW718) (hts _ tW719) rfl h250 (by decide +kernel) ⟨Nat.le_of_ble_eq_true rfl, Nat.le_of_ble_eq_true rfl⟩ rfl rfl hl.1 rfl (lv_room (Nat.le_of_ble_eq_true rfl)) d_ZoneNodesLaw_law_563 ⟨(Nat.le_of_ble_eq_true rfl), (Nat.le_of_ble_eq_true rfl)⟩) hS (fun H locs hX hS => ?_)
                                    refine lv_aload_n hx hb d_ZoneNodesLaw_law_566 rfl (lv_at hl 2 rfl) ?_
                                    refine lv_aload_n hx hb d_ZoneNodesLaw_law_567 rfl (lv_at hl 0 rfl) ?_
                                    refine lv_iload_n hx hb d_ZoneNodesLaw_law_568 rfl (lv_at hl 3 rfl) ?_
                                    refine lv_iconst (v := 1) hx hb d_ZoneNodesLaw_law_569 (by decide) ?_
                                    refine lv_iadd hx hb d_ZoneNodesLaw_law_570 ?_
                                    replace hm := zb1_s hm
                                    obtain ⟨v252, h253, hm⟩ := hm
                                    refine zr_sld hx hb hV hbl hbA hS h253 d_ZoneNodesLaw_law_571 ?_
                                    replace hm := zb1_s hm
                                    obtain ⟨_, h255, hm⟩ := hm
                                    replace hm := zb1_s hm
                                    obtain ⟨v256, h254, hm⟩ := hm
                                    refine zr_calli (zr_runV (As := [.int v252]) (rest := [.int v251]) (n := 1) hx hb hml hown hts hk hX (c_ZoneNodesModel_message l G N X w2 v252 v256 h254) (hts _ tW720) tW721 (hts _ tW469) (hts _ tW722) (hts _ tW723) rfl h255 (by decide +kernel) ⟨Nat.le_of_ble_eq_true rfl, Nat.le_of_ble_eq_true rfl⟩ rfl rfl hl.1 rfl (lv_room (Nat.le_of_ble_eq_true rfl)) d_ZoneNodesLaw_law_572 ⟨(Nat.le_of_ble_eq_true rfl), (Nat.le_of_ble_eq_true rfl)⟩) hS (fun H locs hX hS => ?_)
                                    refine lv_icmp_eq (tgt := 758) hx hb d_ZoneNodesLaw_law_575 rfl (fun h257 => ?_) (fun h257 => ?_)
                                    · replace hm := zi_t h257 hm
                                      refine lv_iinc (v := w3 + 5) (lv' := [(3, .int (w3 + 5)), (0, .ref b), (1, .ref w1), (2, .ref w2)]) hx hb d_ZoneNodesLaw_law_758 hl (k := 3) rfl (by rw [show Int32.ofInt 5 = 5 by decide]) (by decide) rfl (fun ls hl => ?_)
                                      refine lv_goto (tgt := 58) hx hb d_ZoneNodesLaw_law_761 rfl ?_
                                      exact ih X w1 w2 (w3 + 5) o _ _ _ hm hX hS (lv_sub hl [1, 2, 3, 0] rfl) hret hexit
                                    · replace hm := zi_f h257 hm
                                      refine lv_iconst (v := 0) hx hb d_ZoneNodesLaw_law_578 (by decide) ?_
                                      exact absurd (hret _ _ (Option.some.inj hm).symm) (by decide)
                                  · rcases zi_or (c := (v30 &&& 31) = 14) hm with ⟨h258, hm⟩ | ⟨h258, hm⟩
                                    · refine lv_tableIn (tgt := 580) hx hb d_ZoneNodesLaw_law_72 (zsw_lo h258 (by decide)) (zsw_hi h258 (by decide)) (zsw_at h258 rfl) rfl ?_
                                      refine lv_aload_n hx hb d_ZoneNodesLaw_law_580 rfl (lv_at hl 1 rfl) ?_
                                      refine lv_aload_n hx hb d_ZoneNodesLaw_law_581 rfl (lv_at hl 0 rfl) ?_
                                      refine lv_iload_n hx hb d_ZoneNodesLaw_law_582 rfl (lv_at hl 3 rfl) ?_
                                      refine lv_iconst (v := 1) hx hb d_ZoneNodesLaw_law_583 (by decide) ?_
                                      refine lv_iadd hx hb d_ZoneNodesLaw_law_584 ?_
                                      replace hm := zb1_s hm
                                      obtain ⟨v259, h260, hm⟩ := hm
                                      refine zr_sld hx hb hV hbl hbA hS h260 d_ZoneNodesLaw_law_585 ?_
                                      replace hm := zb1_s hm
                                      obtain ⟨_, h262, hm⟩ := hm
                                      replace hm := zb1_s hm
                                      obtain ⟨v263, h261, hm⟩ := hm
                                      refine zr_calli (zr_runV (As := [.int v259]) (rest := []) (n := 1) hx hb hml hown hts hk hX (c_ZoneNodes_serial l G N X w1 v259 v263 h261) (hts _ tW724) tW725 (hts _ tW100) (hts _ tW726) (hts _ tW727) rfl h262 (by decide +kernel) ⟨Nat.le_of_ble_eq_true rfl, Nat.le_of_ble_eq_true rfl⟩ rfl rfl hl.1 rfl (lv_room (Nat.le_of_ble_eq_true rfl)) d_ZoneNodesLaw_law_586 ⟨(Nat.le_of_ble_eq_true rfl), (Nat.le_of_ble_eq_true rfl)⟩) hS (fun H locs hX hS => ?_)
                                      refine lv_aload_n hx hb d_ZoneNodesLaw_law_589 rfl (lv_at hl 2 rfl) ?_
                                      refine lv_aload_n hx hb d_ZoneNodesLaw_law_590 rfl (lv_at hl 0 rfl) ?_
                                      refine lv_iload_n hx hb d_ZoneNodesLaw_law_591 rfl (lv_at hl 3 rfl) ?_
                                      refine lv_iconst (v := 1) hx hb d_ZoneNodesLaw_law_592 (by decide) ?_
                                      refine lv_iadd hx hb d_ZoneNodesLaw_law_593 ?_
                                      replace hm := zb1_s hm
                                      obtain ⟨v264, h265, hm⟩ := hm
                                      refine zr_sld hx hb hV hbl hbA hS h265 d_ZoneNodesLaw_law_594 ?_
                                      replace hm := zb1_s hm
                                      obtain ⟨_, h267, hm⟩ := hm
                                      replace hm := zb1_s hm
                                      obtain ⟨v268, h266, hm⟩ := hm
                                      refine zr_calli (zr_runV (As := [.int v264]) (rest := [.int v263]) (n := 1) hx hb hml hown hts hk hX (c_ZoneNodesModel_serial l G N X w2 v264 v268 h266) (hts _ tW728) tW729 (hts _ tW469) (hts _ tW730) (hts _ tW731) rfl h267 (by decide +kernel) ⟨Nat.le_of_ble_eq_true rfl, Nat.le_of_ble_eq_true rfl⟩ rfl rfl hl.1 rfl (lv_room (Nat.le_of_ble_eq_true rfl)) d_ZoneNodesLaw_law_595 ⟨(Nat.le_of_ble_eq_true rfl), (Nat.le_of_ble_eq_true rfl)⟩) hS (fun H locs hX hS => ?_)
                                      refine lv_icmp_eq (tgt := 758) hx hb d_ZoneNodesLaw_law_598 rfl (fun h269 => ?_) (fun h269 => ?_)
                                      · replace hm := zi_t h269 hm
                                        refine lv_iinc (v := w3 + 5) (lv' := [(3, .int (w3 + 5)), (0, .ref b), (1, .ref w1), (2, .ref w2)]) hx hb d_ZoneNodesLaw_law_758 hl (k := 3) rfl (by rw [show Int32.ofInt 5 = 5 by decide]) (by decide) rfl (fun ls hl => ?_)
                                        refine lv_goto (tgt := 58) hx hb d_ZoneNodesLaw_law_761 rfl ?_
                                        exact ih X w1 w2 (w3 + 5) o _ _ _ hm hX hS (lv_sub hl [1, 2, 3, 0] rfl) hret hexit
                                      · replace hm := zi_f h269 hm
                                        refine lv_iconst (v := 0) hx hb d_ZoneNodesLaw_law_601 (by decide) ?_
                                        exact absurd (hret _ _ (Option.some.inj hm).symm) (by decide)
                                    · rcases zi_or (c := (v30 &&& 31) = 15) hm with ⟨h270, hm⟩ | ⟨h270, hm⟩
                                      · refine lv_tableIn (tgt := 603) hx hb d_ZoneNodesLaw_law_72 (zsw_lo h270 (by decide)) (zsw_hi h270 (by decide)) (zsw_at h270 rfl) rfl ?_
                                        refine lv_aload_n hx hb d_ZoneNodesLaw_law_603 rfl (lv_at hl 1 rfl) ?_
                                        refine lv_aload_n hx hb d_ZoneNodesLaw_law_604 rfl (lv_at hl 0 rfl) ?_
                                        refine lv_iload_n hx hb d_ZoneNodesLaw_law_605 rfl (lv_at hl 3 rfl) ?_
                                        refine lv_iconst (v := 1) hx hb d_ZoneNodesLaw_law_606 (by decide) ?_
                                        refine lv_iadd hx hb d_ZoneNodesLaw_law_607 ?_
                                        replace hm := zb1_s hm
                                        obtain ⟨v271, h272, hm⟩ := hm
                                        refine zr_sld hx hb hV hbl hbA hS h272 d_ZoneNodesLaw_law_608 ?_
                                        replace hm := zb1_s hm
                                        obtain ⟨_, h274, hm⟩ := hm
                                        replace hm := zb1_s hm
                                        obtain ⟨v275, h273, hm⟩ := hm
                                        refine zr_calli (zr_runV (As := [.int v271]) (rest := []) (n := 1) hx hb hml hown hts hk hX (c_ZoneNodes_size l G N X w1 v271 v275 h273) (hts _ tW732) tW733 (hts _ tW100) (hts _ tW734) (hts _ tW735) rfl h274 (by decide +kernel) ⟨Nat.le_of_ble_eq_true rfl, Nat.le_of_ble_eq_true rfl⟩ rfl rfl hl.1 rfl (lv_room (Nat.le_of_ble_eq_true rfl)) d_ZoneNodesLaw_law_609 ⟨(Nat.le_of_ble_eq_true rfl), (Nat.le_of_ble_eq_true rfl)⟩) hS (fun H locs hX hS => ?_)
                                        refine lv_aload_n hx hb d_ZoneNodesLaw_law_612 rfl (lv_at hl 2 rfl) ?_
                                        refine lv_aload_n hx hb d_ZoneNodesLaw_law_613 rfl (lv_at hl 0 rfl) ?_
                                        refine lv_iload_n hx hb d_ZoneNodesLaw_law_614 rfl (lv_at hl 3 rfl) ?_
                                        refine lv_iconst (v := 1) hx hb d_ZoneNodesLaw_law_615 (by decide) ?_
                                        refine lv_iadd hx hb d_ZoneNodesLaw_law_616 ?_
                                        replace hm := zb1_s hm
                                        obtain ⟨v276, h277, hm⟩ := hm
                                        refine zr_sld hx hb hV hbl hbA hS h277 d_ZoneNodesLaw_law_617 ?_
                                        replace hm := zb1_s hm
                                        obtain ⟨_, h279, hm⟩ := hm
                                        replace hm := zb1_s hm
                                        obtain ⟨v280, h278, hm⟩ := hm
                                        refine zr_calli (zr_runV (As := [.int v276]) (rest := [.int v275]) (n := 1) hx hb hml hown hts hk hX (c_ZoneNodesModel_size l G N X w2 v276 v280 h278) (hts _ tW736) tW737 (hts _ tW469) (hts _ tW738) (hts _ tW739) rfl h279 (by decide +kernel) ⟨Nat.le_of_ble_eq_true rfl, Nat.le_of_ble_eq_true rfl⟩ rfl rfl hl.1 rfl (lv_room (Nat.le_of_ble_eq_true rfl)) d_ZoneNodesLaw_law_618 ⟨(Nat.le_of_ble_eq_true rfl), (Nat.le_of_ble_eq_true rfl)⟩) hS (fun H locs hX hS => ?_)
                                        refine lv_icmp_eq (tgt := 758) hx hb d_ZoneNodesLaw_law_621 rfl (fun h281 => ?_) (fun h281 => ?_)
                                        · replace hm := zi_t h281 hm
                                          refine lv_iinc (v := w3 + 5) (lv' := [(3, .int (w3 + 5)), (0, .ref b), (1, .ref w1), (2, .ref w2)]) hx hb d_ZoneNodesLaw_law_758 hl (k := 3) rfl (by rw [show Int32.ofInt 5 = 5 by decide]) (by decide) rfl (fun ls hl => ?_)
                                          refine lv_goto (tgt := 58) hx hb d_ZoneNodesLaw_law_761 rfl ?_
                                          exact ih X w1 w2 (w3 + 5) o _ _ _ hm hX hS (lv_sub hl [1, 2, 3, 0] rfl) hret hexit
                                        · replace hm := zi_f h281 hm
                                          refine lv_iconst (v := 0) hx hb d_ZoneNodesLaw_law_624 (by decide) ?_
                                          exact absurd (hret _ _ (Option.some.inj hm).symm) (by decide)
                                      · rcases zi_or (c := (v30 &&& 31) = 16) hm with ⟨h282, hm⟩ | ⟨h282, hm⟩
                                        · refine lv_tableIn (tgt := 626) hx hb d_ZoneNodesLaw_law_72 (zsw_lo h282 (by decide)) (zsw_hi h282 (by decide)) (zsw_at h282 rfl) rfl ?_
                                          refine lv_aload_n hx hb d_ZoneNodesLaw_law_626 rfl (lv_at hl 1 rfl) ?_
                                          refine lv_aload_n hx hb d_ZoneNodesLaw_law_627 rfl (lv_at hl 0 rfl) ?_
                                          refine lv_iload_n hx hb d_ZoneNodesLaw_law_628 rfl (lv_at hl 3 rfl) ?_
                                          refine lv_iconst (v := 1) hx hb d_ZoneNodesLaw_law_629 (by decide) ?_
                                          refine lv_iadd hx hb d_ZoneNodesLaw_law_630 ?_
                                          replace hm := zb1_s hm
                                          obtain ⟨v283, h284, hm⟩ := hm
                                          refine zr_sld hx hb hV hbl hbA hS h284 d_ZoneNodesLaw_law_631 ?_
                                          refine lv_aload_n hx hb d_ZoneNodesLaw_law_632 rfl (lv_at hl 0 rfl) ?_
                                          refine lv_iload_n hx hb d_ZoneNodesLaw_law_633 rfl (lv_at hl 3 rfl) ?_
                                          refine lv_iconst (v := 2) hx hb d_ZoneNodesLaw_law_634 (by decide) ?_
                                          refine lv_iadd hx hb d_ZoneNodesLaw_law_635 ?_
                                          replace hm := zb1_s hm
                                          obtain ⟨v285, h286, hm⟩ := hm
                                          refine zr_sld hx hb hV hbl hbA hS h286 d_ZoneNodesLaw_law_636 ?_
                                          refine lv_aload_n hx hb d_ZoneNodesLaw_law_637 rfl (lv_at hl 0 rfl) ?_
                                          refine lv_iload_n hx hb d_ZoneNodesLaw_law_638 rfl (lv_at hl 3 rfl) ?_
                                          refine lv_iconst (v := 3) hx hb d_ZoneNodesLaw_law_639 (by decide) ?_
                                          refine lv_iadd hx hb d_ZoneNodesLaw_law_640 ?_
                                          replace hm := zb1_s hm
                                          obtain ⟨v287, h288, hm⟩ := hm
                                          refine zr_sld hx hb hV hbl hbA hS h288 d_ZoneNodesLaw_law_641 ?_
                                          refine lv_aload_n hx hb d_ZoneNodesLaw_law_642 rfl (lv_at hl 0 rfl) ?_
                                          refine lv_iload_n hx hb d_ZoneNodesLaw_law_643 rfl (lv_at hl 3 rfl) ?_
                                          refine lv_iconst (v := 4) hx hb d_ZoneNodesLaw_law_644 (by decide) ?_
                                          refine lv_iadd hx hb d_ZoneNodesLaw_law_645 ?_
                                          replace hm := zb1_s hm
                                          obtain ⟨v289, h290, hm⟩ := hm
                                          refine zr_sld hx hb hV hbl hbA hS h290 d_ZoneNodesLaw_law_646 ?_
                                          replace hm := zb1_s hm
                                          obtain ⟨_, h292, hm⟩ := hm
                                          replace hm := zb1_s hm
                                          obtain ⟨v293, h291, hm⟩ := hm
                                          refine zr_calli (zr_runV (As := [.int v283, .int v285, .int v287, .int v289]) (rest := []) (n := 4) hx hb hml hown hts hk hX (c_ZoneNodes_has l G N X w1 v283 v285 v287 v289 v293 h291) (hts _ tW740) tW741 (hts _ tW100) (hts _ tW742) (hts _ tW743) rfl h292 (by decide +kernel) ⟨Nat.le_of_ble_eq_true rfl, Nat.le_of_ble_eq_true rfl⟩ rfl rfl hl.1 rfl (lv_room (Nat.le_of_ble_eq_true rfl)) d_ZoneNodesLaw_law_647 ⟨(Nat.le_of_ble_eq_true rfl), (Nat.le_of_ble_eq_true rfl)⟩) hS (fun H locs hX hS => ?_)
                                          refine lv_aload_n hx hb d_ZoneNodesLaw_law_650 rfl (lv_at hl 2 rfl) ?_
                                          refine lv_aload_n hx hb d_ZoneNodesLaw_law_651 rfl (lv_at hl 0 rfl) ?_
                                          refine lv_iload_n hx hb d_ZoneNodesLaw_law_652 rfl (lv_at hl 3 rfl) ?_
                                          refine lv_iconst (v := 1) hx hb d_ZoneNodesLaw_law_653 (by decide) ?_
                                          refine lv_iadd hx hb d_ZoneNodesLaw_law_654 ?_
                                          replace hm := zb1_s hm
                                          obtain ⟨v294, h295, hm⟩ := hm
                                          refine zr_sld hx hb hV hbl hbA hS h295 d_ZoneNodesLaw_law_655 ?_
                                          refine lv_aload_n hx hb d_ZoneNodesLaw_law_656 rfl (lv_at hl 0 rfl) ?_
                                          refine lv_iload_n hx hb d_ZoneNodesLaw_law_657 rfl (lv_at hl 3 rfl) ?_
                                          refine lv_iconst (v := 2) hx hb d_ZoneNodesLaw_law_658 (by decide) ?_
                                          refine lv_iadd hx hb d_ZoneNodesLaw_law_659 ?_
                                          replace hm := zb1_s hm
                                          obtain ⟨v296, h297, hm⟩ := hm
                                          refine zr_sld hx hb hV hbl hbA hS h297 d_ZoneNodesLaw_law_660 ?_
                                          refine lv_aload_n hx hb d_ZoneNodesLaw_law_661 rfl (lv_at hl 0 rfl) ?_
                                          refine lv_iload_n hx hb d_ZoneNodesLaw_law_662 rfl (lv_at hl 3 rfl) ?_
                                          refine lv_iconst (v := 3) hx hb d_ZoneNodesLaw_law_663 (by decide) ?_
                                          refine lv_iadd hx hb d_ZoneNodesLaw_law_664 ?_
                                          replace hm := zb1_s hm
                                          obtain ⟨v298, h299, hm⟩ := hm
                                          refine zr_sld hx hb hV hbl hbA hS h299 d_ZoneNodesLaw_law_665 ?_
                                          refine lv_aload_n hx hb d_ZoneNodesLaw_law_666 rfl (lv_at hl 0 rfl) ?_
                                          refine lv_iload_n hx hb d_ZoneNodesLaw_law_667 rfl (lv_at hl 3 rfl) ?_
                                          refine lv_iconst (v := 4) hx hb d_ZoneNodesLaw_law_668 (by decide) ?_
                                          refine lv_iadd hx hb d_ZoneNodesLaw_law_669 ?_
                                          replace hm := zb1_s hm
                                          obtain ⟨v300, h301, hm⟩ := hm
                                          refine zr_sld hx hb hV hbl hbA hS h301 d_ZoneNodesLaw_law_670 ?_
                                          replace hm := zb1_s hm
                                          obtain ⟨_, h303, hm⟩ := hm
                                          replace hm := zb1_s hm
                                          obtain ⟨v304, h302, hm⟩ := hm
                                          refine zr_calli (zr_runV (As := [.int v294, .int v296, .int v298, .int v300]) (rest := [.int v293]) (n := 4) hx hb hml hown hts hk hX (c_ZoneNodesModel_has l G N X w2 v294 v296 v298 v300 v304 h302) (hts _ tW744) tW745 (hts _ tW469) (hts _ tW746) (hts _ tW747) rfl h303 (by decide +kernel) ⟨Nat.le_of_ble_eq_true rfl, Nat.le_of_ble_eq_true rfl⟩ rfl rfl hl.1 rfl (lv_room (Nat.le_of_ble_eq_true rfl)) d_ZoneNodesLaw_law_671 ⟨(Nat.le_of_ble_eq_true rfl), (Nat.le_of_ble_eq_true rfl)⟩) hS (fun H locs hX hS => ?_)
                                          refine lv_icmp_eq (tgt := 758) hx hb d_ZoneNodesLaw_law_674 rfl (fun h305 => ?_) (fun h305 => ?_)
                                          · replace hm := zi_t h305 hm
                                            refine lv_iinc (v := w3 + 5) (lv' := [(3, .int (w3 + 5)), (0, .ref b), (1, .ref w1), (2, .ref w2)]) hx hb d_ZoneNodesLaw_law_758 hl (k := 3) rfl (by rw [show Int32.ofInt 5 = 5 by decide]) (by decide) rfl (fun ls hl => ?_)
                                            refine lv_goto (tgt := 58) hx hb d_ZoneNodesLaw_law_761 rfl ?_
                                            exact ih X w1 w2 (w3 + 5) o _ _ _ hm hX hS (lv_sub hl [1, 2, 3, 0] rfl) hret hexit
                                          · replace hm := zi_f h305 hm
                                            refine lv_iconst (v := 0) hx hb d_ZoneNodesLaw_law_677 (by decide) ?_
                                            exact absurd (hret _ _ (Option.some.inj hm).symm) (by decide)
                                        · rcases zi_or (c := (v30 &&& 31) = 17) hm with ⟨h306, hm⟩ | ⟨h306, hm⟩
                                          · refine lv_tableIn (tgt := 679) hx hb d_ZoneNodesLaw_law_72 (zsw_lo h306 (by decide)) (zsw_hi h306 (by decide)) (zsw_at h306 rfl) rfl ?_
                                            refine lv_aload_n hx hb d_ZoneNodesLaw_law_679 rfl (lv_at hl 1 rfl) ?_
                                            refine lv_aload_n hx hb d_ZoneNodesLaw_law_680 rfl (lv_at hl 0 rfl) ?_
                                            refine lv_iload_n hx hb d_ZoneNodesLaw_law_681 rfl (lv_at hl 3 rfl) ?_
                                            refine lv_iconst (v := 1) hx hb d_ZoneNodesLaw_law_682 (by decide) ?_
                                            refine lv_iadd hx hb d_ZoneNodesLaw_law_683 ?_
                                            replace hm := zb1_s hm
                                            obtain ⟨v307, h308, hm⟩ := hm
                                            refine zr_sld hx hb hV hbl hbA hS h308 d_ZoneNodesLaw_law_684 ?_
                                            refine lv_aload_n hx hb d_ZoneNodesLaw_law_685 rfl (lv_at hl 0 rfl) ?_
                                            refine lv_iload_n hx hb d_ZoneNodesLaw_law_686 rfl (lv_at hl 3 rfl) ?_
                                            refine lv_iconst (v := 2) hx hb d_ZoneNodesLaw_law_687 (by decide) ?_
                                            refine lv_iadd hx hb d_ZoneNodesLaw_law_688 ?_
                                            replace hm := zb1_s hm
                                            obtain ⟨v309, h310, hm⟩ := hm
                                            refine zr_sld hx hb hV hbl hbA hS h310 d_ZoneNodesLaw_law_689 ?_
                                            refine lv_aload_n hx hb d_ZoneNodesLaw_law_690 rfl (lv_at hl 0 rfl) ?_
                                            refine lv_iload_n hx hb d_ZoneNodesLaw_law_691 rfl (lv_at hl 3 rfl) ?_
                                            refine lv_iconst (v := 3) hx hb d_ZoneNodesLaw_law_692 (by decide) ?_
                                            refine lv_iadd hx hb d_ZoneNodesLaw_law_693 ?_
                                            replace hm := zb1_s hm
                                            obtain ⟨v311, h312, hm⟩ := hm
                                            refine zr_sld hx hb hV hbl hbA hS h312 d_ZoneNodesLaw_law_694 ?_
                                            replace hm := zb1_s hm
                                            obtain ⟨_, h314, hm⟩ := hm
                                            replace hm := zb1_s hm
                                            obtain ⟨v315, h313, hm⟩ := hm
                                            refine zr_calli (zr_runV (As := [.int v307, .int v309, .int v311]) (rest := []) (n := 3) hx hb hml hown hts hk hX (c_ZoneNodes_query l G N X w1 v307 v309 v311 v315 h313) (hts _ tW748) tW749 (hts _ tW100) (hts _ tW750) (hts _ tW751) rfl h314 (by decide +kernel) ⟨Nat.le_of_ble_eq_true rfl, Nat.le_of_ble_eq_true rfl⟩ rfl rfl hl.1 rfl (lv_room (Nat.le_of_ble_eq_true rfl)) d_ZoneNodesLaw_law_695 ⟨(Nat.le_of_ble_eq_true rfl), (Nat.le_of_ble_eq_true rfl)⟩) hS (fun H locs hX hS => ?_)
                                            refine lv_aload_n hx hb d_ZoneNodesLaw_law_698 rfl (lv_at hl 2 rfl) ?_
                                            refine lv_aload_n hx hb d_ZoneNodesLaw_law_699 rfl (lv_at hl 0 rfl) ?_
                                            refine lv_iload_n hx hb d_ZoneNodesLaw_law_700 rfl (lv_at hl 3 rfl) ?_
                                            refine lv_iconst (v := 1) hx hb d_ZoneNodesLaw_law_701 (by decide) ?_
                                            refine lv_iadd hx hb d_ZoneNodesLaw_law_702 ?_
                                            replace hm := zb1_s hm
                                            obtain ⟨v316, h317, hm⟩ := hm
                                            refine zr_sld hx hb hV hbl hbA hS h317 d_ZoneNodesLaw_law_703 ?_
                                            refine lv_aload_n hx hb d_ZoneNodesLaw_law_704 rfl (lv_at hl 0 rfl) ?_
                                            refine lv_iload_n hx hb d_ZoneNodesLaw_law_705 rfl (lv_at hl 3 rfl) ?_
                                            refine lv_iconst (v := 2) hx hb d_ZoneNodesLaw_law_706 (by decide) ?_
                                            refine lv_iadd hx hb d_ZoneNodesLaw_law_707 ?_
                                            replace hm := zb1_s hm
                                            obtain ⟨v318, h319, hm⟩ := hm
                                            refine zr_sld hx hb hV hbl hbA hS h319 d_ZoneNodesLaw_law_708 ?_
                                            refine lv_aload_n hx hb d_ZoneNodesLaw_law_709 rfl (lv_at hl 0 rfl) ?_
                                            refine lv_iload_n hx hb d_ZoneNodesLaw_law_710 rfl (lv_at hl 3 rfl) ?_
                                            refine lv_iconst (v := 3) hx hb d_ZoneNodesLaw_law_711 (by decide) ?_
                                            refine lv_iadd hx hb d_ZoneNodesLaw_law_712 ?_
                                            replace hm := zb1_s hm
                                            obtain ⟨v320, h321, hm⟩ := hm
                                            refine zr_sld hx hb hV hbl hbA hS h321 d_ZoneNodesLaw_law_713 ?_
                                            replace hm := zb1_s hm
                                            obtain ⟨_, h323, hm⟩ := hm
                                            replace hm := zb1_s hm
                                            obtain ⟨v324, h322, hm⟩ := hm
                                            refine zr_calli (zr_runV (As := [.int v316, .int v318, .int v320]) (rest := [.int v315]) (n := 3) hx hb hml hown hts hk hX (c_ZoneNodesModel_query l G N X w2 v316 v318 v320 v324 h322) (hts _ tW752) tW753 (hts _ tW469) (hts _ tW754) (hts _ tW755) rfl h323 (by decide +kernel) ⟨Nat.le_of_ble_eq_true rfl, Nat.le_of_ble_eq_true rfl⟩ rfl rfl hl.1 rfl (lv_room (Nat.le_of_ble_eq_true rfl)) d_ZoneNodesLaw_law_714 ⟨(Nat.le_of_ble_eq_true rfl), (Nat.le_of_ble_eq_true rfl)⟩) hS (fun H locs hX hS => ?_)
                                            refine lv_icmp_eq (tgt := 758) hx hb d_ZoneNodesLaw_law_717 rfl (fun h325 => ?_) (fun h325 => ?_)
                                            · replace hm := zi_t h325 hm
                                              refine lv_iinc (v := w3 + 5) (lv' := [(3, .int (w3 + 5)), (0, .ref b), (1, .ref w1), (2, .ref w2)]) hx hb d_ZoneNodesLaw_law_758 hl (k := 3) rfl (by rw [show Int32.ofInt 5 = 5 by decide]) (by decide) rfl (fun ls hl => ?_)
                                              refine lv_goto (tgt := 58) hx hb d_ZoneNodesLaw_law_761 rfl ?_
                                              exact ih X w1 w2 (w3 + 5) o _ _ _ hm hX hS (lv_sub hl [1, 2, 3, 0] rfl) hret hexit
                                            · replace hm := zi_f h325 hm
                                              refine lv_iconst (v := 0) hx hb d_ZoneNodesLaw_law_720 (by decide) ?_
                                              exact absurd (hret _ _ (Option.some.inj hm).symm) (by decide)
                                          · rcases zi_or (c := (v30 &&& 31) = 18) hm with ⟨h326, hm⟩ | ⟨h326, hm⟩
                                            · refine lv_tableIn (tgt := 722) hx hb d_ZoneNodesLaw_law_72 (zsw_lo h326 (by decide)) (zsw_hi h326 (by decide)) (zsw_at h326 rfl) rfl ?_
                                              refine lv_aload_n hx hb d_ZoneNodesLaw_law_722 rfl (lv_at hl 1 rfl) ?_
                                              refine lv_aload_n hx hb d_ZoneNodesLaw_law_723 rfl (lv_at hl 0 rfl) ?_
                                              refine lv_iload_n hx hb d_ZoneNodesLaw_law_724 rfl (lv_at hl 3 rfl) ?_
                                              refine lv_iconst (v := 1) hx hb d_ZoneNodesLaw_law_725 (by decide) ?_
                                              refine lv_iadd hx hb d_ZoneNodesLaw_law_726 ?_
                                              replace hm := zb1_s hm
                                              obtain ⟨v327, h328, hm⟩ := hm
                                              refine zr_sld hx hb hV hbl hbA hS h328 d_ZoneNodesLaw_law_727 ?_
                                              replace hm := zb1_s hm
                                              obtain ⟨_, h330, hm⟩ := hm
                                              replace hm := zb1_s hm
                                              obtain ⟨v331, h329, hm⟩ := hm
                                              refine zr_calli (zr_runV (As := [.int v327]) (rest := []) (n := 1) hx hb hml hown hts hk hX (c_ZoneNodes_state l G N X w1 v327 v331 h329) (hts _ tW756) tW757 (hts _ tW100) (hts _ tW758) (hts _ tW759) rfl h330 (by decide +kernel) ⟨Nat.le_of_ble_eq_true rfl, Nat.le_of_ble_eq_true rfl⟩ rfl rfl hl.1 rfl (lv_room (Nat.le_of_ble_eq_true rfl)) d_ZoneNodesLaw_law_728 ⟨(Nat.le_of_ble_eq_true rfl), (Nat.le_of_ble_eq_true rfl)⟩) hS (fun H locs hX hS => ?_)
                                              refine lv_aload_n hx hb d_ZoneNodesLaw_law_731 rfl (lv_at hl 2 rfl) ?_
                                              refine lv_aload_n hx hb d_ZoneNodesLaw_law_732 rfl (lv_at hl 0 rfl) ?_
                                              refine lv_iload_n hx hb d_ZoneNodesLaw_law_733 rfl (lv_at hl 3 rfl) ?_
                                              refine lv_iconst (v := 1) hx hb d_ZoneNodesLaw_law_734 (by decide) ?_
                                              refine lv_iadd hx hb d_ZoneNodesLaw_law_735 ?_
                                              replace hm := zb1_s hm
                                              obtain ⟨v332, h333, hm⟩ := hm
                                              refine zr_sld hx hb hV hbl hbA hS h333 d_ZoneNodesLaw_law_736 ?_
                                              replace hm := zb1_s hm
                                              obtain ⟨_, h335, hm⟩ := hm
                                              replace hm := zb1_s hm
                                              obtain ⟨v336, h334, hm⟩ := hm
                                              refine zr_calli (zr_runV (As := [.int v332]) (rest := [.int v331]) (n := 1) hx hb hml hown hts hk hX (c_ZoneNodesModel_state l G N X w2 v332 v336 h334) (hts _ tW760) tW761 (hts _ tW469) (hts _ tW762) (hts _ tW763) rfl h335 (by decide +kernel) ⟨Nat.le_of_ble_eq_true rfl, Nat.le_of_ble_eq_true rfl⟩ rfl rfl hl.1 rfl (lv_room (Nat.le_of_ble_eq_true rfl)) d_ZoneNodesLaw_law_737 ⟨(Nat.le_of_ble_eq_true rfl), (Nat.le_of_ble_eq_true rfl)⟩) hS (fun H locs hX hS => ?_)
                                              refine lv_icmp_eq (tgt := 758) hx hb d_ZoneNodesLaw_law_740 rfl (fun h337 => ?_) (fun h337 => ?_)
                                              · replace hm := zi_t h337 hm
                                                refine lv_iinc (v := w3 + 5) (lv' := [(3, .int (w3 + 5)), (0, .ref b), (1, .ref w1), (2, .ref w2)]) hx hb d_ZoneNodesLaw_law_758 hl (k := 3) rfl (by rw [show Int32.ofInt 5 = 5 by decide]) (by decide) rfl (fun ls hl => ?_)
                                                refine lv_goto (tgt := 58) hx hb d_ZoneNodesLaw_law_761 rfl ?_
                                                exact ih X w1 w2 (w3 + 5) o _ _ _ hm hX hS (lv_sub hl [1, 2, 3, 0] rfl) hret hexit
                                              · replace hm := zi_f h337 hm
                                                refine lv_iconst (v := 0) hx hb d_ZoneNodesLaw_law_743 (by decide) ?_
                                                exact absurd (hret _ _ (Option.some.inj hm).symm) (by decide)
                                            · rcases zi_or (c := (v30 &&& 31) = 19) hm with ⟨h338, hm⟩ | ⟨h338, hm⟩
                                              · refine lv_tableIn (tgt := 745) hx hb d_ZoneNodesLaw_law_72 (zsw_lo h338 (by decide)) (zsw_hi h338 (by decide)) (zsw_at h338 rfl) rfl ?_
                                                refine lv_aload_n hx hb d_ZoneNodesLaw_law_745 rfl (lv_at hl 1 rfl) ?_
                                                replace hm := zb1_s hm
                                                obtain ⟨_, h340, hm⟩ := hm
                                                replace hm := zb1_s hm
                                                obtain ⟨v341, h339, hm⟩ := hm
                                                refine zr_calli (zr_runV (As := []) (rest := []) (n := 0) hx hb hml hown hts hk hX (c_ZoneNodes_journal l G N X w1 v341 h339) (hts _ tW764) tW765 (hts _ tW100) (hts _ tW766) (hts _ tW767) rfl h340 (by decide +kernel) ⟨Nat.le_of_ble_eq_true rfl, Nat.le_of_ble_eq_true rfl⟩ rfl rfl hl.1 rfl (lv_room (Nat.le_of_ble_eq_true rfl)) d_ZoneNodesLaw_law_746 ⟨(Nat.le_of_ble_eq_true rfl), (Nat.le_of_ble_eq_true rfl)⟩) hS (fun H locs hX hS => ?_)
                                                refine lv_aload_n hx hb d_ZoneNodesLaw_law_749 rfl (lv_at hl 2 rfl) ?_
                                                replace hm := zb1_s hm
                                                obtain ⟨_, h343, hm⟩ := hm
                                                replace hm := zb1_s hm
                                                obtain ⟨v344, h342, hm⟩ := hm
                                                refine zr_calli (zr_runV (As := []) (rest := [.int v341]) (n := 0) hx hb hml hown hts hk hX (c_ZoneNodesModel_journal l G N X w2 v344 h342) (hts _ tW768) tW769 (hts _ tW469) (hts _ tW770) (hts _ tW771) rfl h343 (by decide +kernel) ⟨Nat.le_of_ble_eq_true rfl, Nat.le_of_ble_eq_true rfl⟩ rfl rfl hl.1 rfl (lv_room (Nat.le_of_ble_eq_true rfl)) d_ZoneNodesLaw_law_750 ⟨(Nat.le_of_ble_eq_true rfl), (Nat.le_of_ble_eq_true rfl)⟩) hS (fun H locs hX hS => ?_)
                                                refine lv_icmp_eq (tgt := 758) hx hb d_ZoneNodesLaw_law_753 rfl (fun h345 => ?_) (fun h345 => ?_)
                                                · replace hm := zi_t h345 hm
                                                  refine lv_iinc (v := w3 + 5) (lv' := [(3, .int (w3 + 5)), (0, .ref b), (1, .ref w1), (2, .ref w2)]) hx hb d_ZoneNodesLaw_law_758 hl (k := 3) rfl (by rw [show Int32.ofInt 5 = 5 by decide]) (by decide) rfl (fun ls hl => ?_)
                                                  refine lv_goto (tgt := 58) hx hb d_ZoneNodesLaw_law_761 rfl ?_
                                                  exact ih X w1 w2 (w3 + 5) o _ _ _ hm hX hS (lv_sub hl [1, 2, 3, 0] rfl) hret hexit
                                                · replace hm := zi_f h345 hm
                                                  refine lv_iconst (v := 0) hx hb d_ZoneNodesLaw_law_756 (by decide) ?_
                                                  exact absurd (hret _ _ (Option.some.inj hm).symm) (by decide)
                                              · refine lv_tableOut (tgt := 758) hx hb d_ZoneNodesLaw_law_72 (by have q0 := lv_neT h32 (a := 0) (by decide); have q1 := lv_neT h50 (a := 1) (by decide); have q2 := lv_neT h76 (a := 2) (by decide); have q3 := lv_neT h102 (a := 3) (by decide); have q4 := lv_neT h118 (a := 4) (by decide); have q5 := lv_neT h140 (a := 5) (by decide); have q6 := lv_neT h154 (a := 6) (by decide); have q7 := lv_neT h168 (a := 7) (by decide); have q8 := lv_neT h182 (a := 8) (by decide); have q9 := lv_neT h196 (a := 9) (by decide); have q10 := lv_neT h210 (a := 10) (by decide); have q11 := lv_neT h224 (a := 11) (by decide); have q12 := lv_neT h238 (a := 12) (by decide); have q13 := lv_neT h246 (a := 13) (by decide); have q14 := lv_neT h258 (a := 14) (by decide); have q15 := lv_neT h270 (a := 15) (by decide); have q16 := lv_neT h282 (a := 16) (by decide); have q17 := lv_neT h306 (a := 17) (by decide); have q18 := lv_neT h326 (a := 18) (by decide); have q19 := lv_neT h338 (a := 19) (by decide); omega) rfl ?_
                                                refine lv_iinc (v := w3 + 5) (lv' := [(3, .int (w3 + 5)), (0, .ref b), (1, .ref w1), (2, .ref w2)]) hx hb d_ZoneNodesLaw_law_758 hl (k := 3) rfl (by rw [show Int32.ofInt 5 = 5 by decide]) (by decide) rfl (fun ls hl => ?_)
                                                refine lv_goto (tgt := 58) hx hb d_ZoneNodesLaw_law_761 rfl ?_
                                                exact ih X w1 w2 (w3 + 5) o _ _ _ hm hX hS (lv_sub hl [1, 2, 3, 0] rfl) hret hexit
  replace hm := zb2_s hm
  obtain ⟨a1, X2, h3, hm⟩ := hm
  refine zr_new (ci := 8) (C := R_ZoneNodes) (T := F_ZoneNodes) (N := 7) hx hb hts in_ZoneNodes t_ZoneNodes t_ZoneNodes_ok hown (hts _ tW601) (hts _ tW602) (hts _ tW100) hk hX hS rfl h3 zf_ZoneNodes (Nat.le_of_ble_eq_true rfl) (Nat.le_of_ble_eq_true rfl) d_ZoneNodesLaw_law_0 (fun H hX hS => ?_)
  refine lv_dup hx hb d_ZoneNodesLaw_law_3 rfl ?_
  refine lv_aload_n hx hb d_ZoneNodesLaw_law_4 rfl (lv_at hl 0 rfl) ?_
  refine lv_iconst (v := 0) hx hb d_ZoneNodesLaw_law_5 (by decide) ?_
  replace hm := zb1_s hm
  obtain ⟨v4, h5, hm⟩ := hm
  refine zr_calli (zr_runSs (As := [.ref b, .int 0]) (rest := [.ref a1, .ref a1]) (n := 2) hx hb hml hown hts hk hX (hV.kept (hS.2.1 b hbl hbA)) (c_cell l G X2 hbA 0 v4 h5) (hts _ tW603) tW604 (hts _ tW605) (hts _ tW606) (by decide +kernel) ⟨Nat.le_of_ble_eq_true rfl, Nat.le_of_ble_eq_true rfl⟩ rfl rfl hl.1 rfl (lv_room (Nat.le_of_ble_eq_true rfl)) d_ZoneNodesLaw_law_6 ⟨(Nat.le_of_ble_eq_true rfl), (Nat.le_of_ble_eq_true rfl)⟩) hS (fun H locs hX hS => ?_)
  refine lv_aload_n hx hb d_ZoneNodesLaw_law_9 rfl (lv_at hl 0 rfl) ?_
  refine lv_iconst (v := 1) hx hb d_ZoneNodesLaw_law_10 (by decide) ?_
  replace hm := zb1_s hm
  obtain ⟨v6, h7, hm⟩ := hm
  refine zr_calli (zr_runSs (As := [.ref b, .int 1]) (rest := [.int v4, .ref a1, .ref a1]) (n := 2) hx hb hml hown hts hk hX (hV.kept (hS.2.1 b hbl hbA)) (c_cell l G X2 hbA 1 v6 h7) (hts _ tW603) tW604 (hts _ tW605) (hts _ tW606) (by decide +kernel) ⟨Nat.le_of_ble_eq_true rfl, Nat.le_of_ble_eq_true rfl⟩ rfl rfl hl.1 rfl (lv_room (Nat.le_of_ble_eq_true rfl)) d_ZoneNodesLaw_law_11 ⟨(Nat.le_of_ble_eq_true rfl), (Nat.le_of_ble_eq_true rfl)⟩) hS (fun H locs hX hS => ?_)
  refine lv_aload_n hx hb d_ZoneNodesLaw_law_14 rfl (lv_at hl 0 rfl) ?_
  refine lv_iconst (v := 2) hx hb d_ZoneNodesLaw_law_15 (by decide) ?_
  replace hm := zb1_s hm
  obtain ⟨v8, h9, hm⟩ := hm
  refine zr_calli (zr_runSs (As := [.ref b, .int 2]) (rest := [.int v6, .int v4, .ref a1, .ref a1]) (n := 2) hx hb hml hown hts hk hX (hV.kept (hS.2.1 b hbl hbA)) (c_cell l G X2 hbA 2 v8 h9) (hts _ tW603) tW604 (hts _ tW605) (hts _ tW606) (by decide +kernel) ⟨Nat.le_of_ble_eq_true rfl, Nat.le_of_ble_eq_true rfl⟩ rfl rfl hl.1 rfl (lv_room (Nat.le_of_ble_eq_true rfl)) d_ZoneNodesLaw_law_16 ⟨(Nat.le_of_ble_eq_true rfl), (Nat.le_of_ble_eq_true rfl)⟩) hS (fun H locs hX hS => ?_)
  refine lv_aload_n hx hb d_ZoneNodesLaw_law_19 rfl (lv_at hl 0 rfl) ?_
  refine lv_iconst (v := 3) hx hb d_ZoneNodesLaw_law_20 (by decide) ?_
  replace hm := zb1_s hm
  obtain ⟨v10, h11, hm⟩ := hm
  refine zr_calli (zr_runSs (As := [.ref b, .int 3]) (rest := [.int v8, .int v6, .int v4, .ref a1, .ref a1]) (n := 2) hx hb hml hown hts hk hX (hV.kept (hS.2.1 b hbl hbA)) (c_cell l G X2 hbA 3 v10 h11) (hts _ tW603) tW604 (hts _ tW605) (hts _ tW606) (by decide +kernel) ⟨Nat.le_of_ble_eq_true rfl, Nat.le_of_ble_eq_true rfl⟩ rfl rfl hl.1 rfl (lv_room (Nat.le_of_ble_eq_true rfl)) d_ZoneNodesLaw_law_21 ⟨(Nat.le_of_ble_eq_true rfl), (Nat.le_of_ble_eq_true rfl)⟩) hS (fun H locs hX hS => ?_)
  replace hm := zb2_s hm
  obtain ⟨v13, X14, h12, hm⟩ := hm
  refine zr_callv (zr_runI (As := [.int v4, .int v6, .int v8, .int v10]) (rest := [.ref a1]) (n := 4) hx hb hml hown hts hk hX (c_ZoneNodes_init l G N X2 a1 v4 v6 v8 v10 v13 X14 h12) (hts _ tW607) tW608 (hts _ tW100) (hts _ tW609) (by decide +kernel) ⟨Nat.le_of_ble_eq_true rfl, Nat.le_of_ble_eq_true rfl⟩ rfl rfl hl.1 rfl (lv_room (Nat.le_of_ble_eq_true rfl)) d_ZoneNodesLaw_law_24 ⟨(Nat.le_of_ble_eq_true rfl), (Nat.le_of_ble_eq_true rfl)⟩) hS (fun H locs hX hS => ?_)
  refine lv_astore_n (lv' := [(1, .ref a1), (0, .ref b)]) hx hb d_ZoneNodesLaw_law_27 rfl hl (by decide) rfl (fun ls hl => ?_)
  replace hm := zb2_s hm
  obtain ⟨a15, X16, h17, hm⟩ := hm
  refine zr_new (ci := 9) (C := R_ZoneNodesModel) (T := F_ZoneNodesModel) (N := 32) hx hb hts in_ZoneNodesModel t_ZoneNodesModel t_ZoneNodesModel_ok hown (hts _ tW610) (hts _ tW611) (hts _ tW469) hk hX hS rfl h17 zf_ZoneNodesModel (Nat.le_of_ble_eq_true rfl) (Nat.le_of_ble_eq_true rfl) d_ZoneNodesLaw_law_28 (fun H hX hS => ?_)
  refine lv_dup hx hb d_ZoneNodesLaw_law_31 rfl ?_
  refine lv_aload_n hx hb d_ZoneNodesLaw_law_32 rfl (lv_at hl 1 rfl) ?_
  refine lv_iconst (v := 0) hx hb d_ZoneNodesLaw_law_33 (by decide) ?_
  replace hm := zb1_s hm
  obtain ⟨v18, h19, hm⟩ := hm
  refine zr_calli (zr_runSs (As := [.ref b, .int 0]) (rest := [.ref a15, .ref a15]) (n := 2) hx hb hml hown hts hk hX (hV.kept (hS.2.1 b hbl hbA)) (c_cell l G X16 hbA 0 v18 h19) (hts _ tW603) tW604 (hts _ tW605) (hts _ tW606) (by decide +kernel) ⟨Nat.le_of_ble_eq_true rfl, Nat.le_of_ble_eq_true rfl⟩ rfl rfl hl.1 rfl (lv_room (Nat.le_of_ble_eq_true rfl)) d_ZoneNodesLaw_law_34 ⟨(Nat.le_of_ble_eq_true rfl), (Nat.le_of_ble_eq_true rfl)⟩) hS (fun H locs hX hS => ?_)
  refine lv_aload_n hx hb d_ZoneNodesLaw_law_37 rfl (lv_at hl 1 rfl) ?_
  refine lv_iconst (v := 1) hx hb d_ZoneNodesLaw_law_38 (by decide) ?_
  replace hm := zb1_s hm
  obtain ⟨v20, h21, hm⟩ := hm
  refine zr_calli (zr_runSs (As := [.ref b, .int 1]) (rest := [.int v18, .ref a15, .ref a15]) (n := 2) hx hb hml hown hts hk hX (hV.kept (hS.2.1 b hbl hbA)) (c_cell l G X16 hbA 1 v20 h21) (hts _ tW603) tW604 (hts _ tW605) (hts _ tW606) (by decide +kernel) ⟨Nat.le_of_ble_eq_true rfl, Nat.le_of_ble_eq_true rfl⟩ rfl rfl hl.1 rfl (lv_room (Nat.le_of_ble_eq_true rfl)) d_ZoneNodesLaw_law_39 ⟨(Nat.le_of_ble_eq_true rfl), (Nat.le_of_ble_eq_true rfl)⟩) hS (fun H locs hX hS => ?_)
  refine lv_aload_n hx hb d_ZoneNodesLaw_law_42 rfl (lv_at hl 1 rfl) ?_
  refine lv_iconst (v := 2) hx hb d_ZoneNodesLaw_law_43 (by decide) ?_
  replace hm := zb1_s hm
  obtain ⟨v22, h23, hm⟩ := hm
  refine zr_calli (zr_runSs (As := [.ref b, .int 2]) (rest := [.int v20, .int v18, .ref a15, .ref a15]) (n := 2) hx hb hml hown hts hk hX (hV.kept (hS.2.1 b hbl hbA)) (c_cell l G X16 hbA 2 v22 h23) (hts _ tW603) tW604 (hts _ tW605) (hts _ tW606) (by decide +kernel) ⟨Nat.le_of_ble_eq_true rfl, Nat.le_of_ble_eq_true rfl⟩ rfl rfl hl.1 rfl (lv_room (Nat.le_of_ble_eq_true rfl)) d_ZoneNodesLaw_law_44 ⟨(Nat.le_of_ble_eq_true rfl), (Nat.le_of_ble_eq_true rfl)⟩) hS (fun H locs hX hS => ?_)
  refine lv_aload_n hx hb d_ZoneNodesLaw_law_47 rfl (lv_at hl 1 rfl) ?_
  refine lv_iconst (v := 3) hx hb d_ZoneNodesLaw_law_48 (by decide) ?_
  replace hm := zb1_s hm
  obtain ⟨v24, h25, hm⟩ := hm
  refine zr_calli (zr_runSs (As := [.ref b, .int 3]) (rest := [.int v22, .int v20, .int v18, .ref a15, .ref a15]) (n := 2) hx hb hml hown hts hk hX (hV.kept (hS.2.1 b hbl hbA)) (c_cell l G X16 hbA 3 v24 h25) (hts _ tW603) tW604 (hts _ tW605) (hts _ tW606) (by decide +kernel) ⟨Nat.le_of_ble_eq_true rfl, Nat.le_of_ble_eq_true rfl⟩ rfl rfl hl.1 rfl (lv_room (Nat.le_of_ble_eq_true rfl)) d_ZoneNodesLaw_law_49 ⟨(Nat.le_of_ble_eq_true rfl), (Nat.le_of_ble_eq_true rfl)⟩) hS (fun H locs hX hS => ?_)
  replace hm := zb2_s hm
  obtain ⟨v27, X28, h26, hm⟩ := hm
  refine zr_callv (zr_runI (As := [.int v18, .int v20, .int v22, .int v24]) (rest := [.ref a15]) (n := 4) hx hb hml hown hts hk hX (c_ZoneNodesModel_init l G N X16 a15 v18 v20 v22 v24 v27 X28 h26) (hts _ tW612) tW613 (hts _ tW469) (hts _ tW614) (by decide +kernel) ⟨Nat.le_of_ble_eq_true rfl, Nat.le_of_ble_eq_true rfl⟩ rfl rfl hl.1 rfl (lv_room (Nat.le_of_ble_eq_true rfl)) d_ZoneNodesLaw_law_52 ⟨(Nat.le_of_ble_eq_true rfl), (Nat.le_of_ble_eq_true rfl)⟩) hS (fun H locs hX hS => ?_)
  refine lv_astore_n (lv' := [(2, .ref a15), (1, .ref a1), (0, .ref b)]) hx hb d_ZoneNodesLaw_law_55 rfl hl (by decide) rfl (fun ls hl => ?_)
  refine lv_iconst (v := 4) hx hb d_ZoneNodesLaw_law_56 (by decide) ?_
  refine lv_istore_n (lv' := [(3, .int 4), (2, .ref a15), (1, .ref a1), (0, .ref b)]) hx hb d_ZoneNodesLaw_law_57 rfl hl (by decide) rfl (fun ls hl => ?_)
  replace hm := zbt_s hm
  obtain ⟨o349, h347, hm⟩ := hm
  refine hL58 N X28 a1 a15 4 o349 _ _ _ h347 hX hS (lv_sub hl [3, 2, 1, 0] rfl) (fun r0 X0 e0 => ?_) (fun v346 X348 e0 H locs ls hX hS hl => ?_)
  · subst e0
    replace hm := zt_l hm
    exact (zs_p hm).1
  · subst e0
    replace hm := zt_r hm
    refine lv_iconst (v := 1) hx hb d_ZoneNodesLaw_law_764 (by decide) ?_
    cases hm
    refine va_forget (fun q hq => Nat.le_trans hB (hS.2.2 q hq)) (W.widen (k := 600000) (n := 7302250) (Nat.le_of_ble_eq_true rfl) (Nat.le_of_ble_eq_true rfl) ?_)
    exact lw_ret hx hb hr hlocks d_ZoneNodesLaw_law_765
