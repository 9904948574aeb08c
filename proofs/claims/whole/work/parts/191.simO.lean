/-! deliver: a FETCH at the primary -/
section ZSIMO
variable {A B : Nat} {X Y : zh_T} {M F I J G K : Nat → Nat → Int32} {w e : Nat → Nat} {R : Nat → Nat → Int32} {N n c jc pd : Nat} {s0 : Int32} {V : Nat → Nat → Bool}
theorem filter_all {α : Type} {p : α → Bool} : ∀ l : List α, (∀ x ∈ l, p x = true) → l.filter p = l
  | [], _ => rfl
  | x :: l, h => by
    rw [List.filter_cons_of_pos (h x List.mem_cons_self), filter_all l fun y hy => h y (List.mem_cons_of_mem _ hy)]
theorem filter_none {α : Type} {p : α → Bool} : ∀ l : List α, (∀ x ∈ l, p x = false) → l.filter p = []
  | [], _ => rfl
  | x :: l, h => by
    rw [List.filter_cons_of_neg (by rw [h x List.mem_cons_self]; decide), filter_none l fun y hy => h y (List.mem_cons_of_mem _ hy)]
theorem countP_none {α : Type} {p : α → Bool} (l : List α) (h : ∀ x ∈ l, p x = false) : l.countP p = 0 := by
  rw [List.countP_eq_length_filter, filter_none l h]
  rfl
theorem serial_inj {a b : Nat} (ha : a ≤ 60000) (hb : b ≤ 60000) (h : s0 + ni a = s0 + ni b) : a = b := (ni_inj (a := a) (b := b) (by omega) (by omega)).mp ((Int32.add_right_inj s0).mp h)
/-- the answer to secondary 1's FETCH is sent: L the items, wh whether they are the whole zone -/
theorem Sim_answer1 (h : SimX s0 V n c jc pd M F I J G K w e R) (hS : (mlist F I w c).filter (ofS 1) = []) (To : SimT s0 V n 2 (M 207) (M 209) (M 211) (R 1 0) (R 6 2) (R 5) ((mlist F I w c).filter (ofS 2)))
    (u0 : R 1 0 = 1) (u1 : M 202 6 = 1) (u9 : M 202 9 = 2) (u6 : R 6 1 = 2) (L : List (Nat × Nat)) (hL : L.length ≤ 112) (hok : ∀ x ∈ L, x.1 < 2 ∧ x.2 < 256) {wh : Int32} (hwh : wh = 0 ∨ wh = 1) (hw7 : wh = 0 → M 202 7 = 1)
    (hgo : sEq (appL L (if wh = 0 then cs (M 204) else fun _ => false)) (V n)) {has sr : Int32} (hit : f_ZoneNodesModel_itemsFor N (zR B Y R) B has sr = some (ni L.length)) (hN : 300 < N) :
    ∃ c' M' F' I' R', f_Wire_sendParts N (zC A X (itM (w0M M wh) 0 (L.map cdP)) F I J G K w e) (A + 6) (ni 1) (A + 169) = some ((), zC A X M' F' I' J G K w e) ∧ f_ZoneNodesModel_takeFetch N (zR B Y R) B (ni 1) has sr = some ((), zR B Y R') ∧ Sim s0 V n c' jc pd M' F' I' J G K w e R' := by
  have hX := h
  obtain ⟨hA, hD, hB, hP, hJ, hV, hS1, hS2, hM⟩ := h
  have hM' := hM
  obtain ⟨m1, m2, m3, m4, -⟩ := hM'
  have e1 := len_split (mlist F I w c) (rel2_sec _ _ (simM_rel hM))
  have e2 := hM.2.2.2.2.2.2
  have e3 := simT_len To
  have e4 : ([] : List zMsg).length = 0 := rfl
  rw [mlist_len, hS] at e1
  have h80 : c + (L.length + 3) / 4 ≤ 80 := by omega
  have hlm : (L.map cdP).length = L.length := List.length_map _
  have f4 : itM (w0M M wh) 0 (L.map cdP) 169 4 = ni L.length := by
    show ni (0 + (L.map cdP).length) = ni L.length
    rw [hlm, Nat.zero_add]
  have f5 : itM (w0M M wh) 0 (L.map cdP) 169 5 = wh := rfl
  obtain ⟨F', I', ps, s1, s2, s3, s4⟩ := s_sendParts (N := N) (A := A) (X := X) (F := F) (I := I) (J := J) (G := G) (K := K) (w := w) (e := e) (M := itM (w0M M wh) 0 (L.map cdP)) (n := L.length) (c := c) hL (ni 1) (by omega) m2 f4 (by rw [f5]; exact hwh) h80 m4
  have hsr : itM (w0M M wh) 0 (L.map cdP) 169 6 = R 3 0 := hP.2.2.2.2.1
  have hsn : R 3 0 = s0 + ni n := hP.2.2.2.2.2.1
  rw [f5, hsr] at s4
  have hsrc : itM (w0M M wh) 0 (L.map cdP) 201 = wr (M 201) 0 (L.map cdP) := rfl
  rw [hsrc] at s4
  obtain ⟨R', t1, t2, t3, t4⟩ := k_parts_L (N := N) (B := B) (Y := Y) (s := 1) (n := L.length) (by decide) hL ((L.length + 3) / 4) 0 N c (zu R 5 (cpR (R 5) (R 4) (256 * 1) 0 0 256)) m3 (by omega) (by omega) hB.2.2.2.2.2.1 hB.2.2.2.2.2.2 (by omega) (by omega) (by omega)
  refine ⟨c + (L.length + 3) / 4, _, F', I', R', s1, ?_, ?_⟩
  · unfold f_ZoneNodesModel_takeFetch
    have t1' : L_ZoneNodesModel_takeFetch_48 N B (ni 1) (ni L.length) N (zR B Y (zu R 5 (cpR (R 5) (R 4) (256 * 1) 0 0 256))) 0 = some ((), zR B Y R') := t1
    have cc : L_ZoneNodesModel_takeFetch_11 N B (ni 1) (ni L.length) N (zR B Y R) 0 = some ((), zR B Y (zu R 5 (cpR (R 5) (R 4) (256 * 1) 0 0 256))) := k_copy_coming (by decide) _ 256 0 N R hB.1 (by omega) (by omega)
    rw [rck, zb1_some, hit, zb1_some, cc, zb2_some, t1', zb2_some]
  · have hall := ps_all ps 0 s4
    have hfs : ps.filter (ofS 1) = ps := filter_all ps fun m hm => by
      unfold ofS onS
      rw [(hall m hm).1, (hall m hm).2]
      decide
    have hfo : ps.filter (ofS 2) = [] := filter_none ps fun m hm => by
      unfold ofS onS
      rw [(hall m hm).1, (hall m hm).2]
      decide
    have hcp : ps.countP (fun m => !onS m) = 0 := countP_none ps fun m hm => by
      unfold onS
      rw [(hall m hm).1]
      decide
    have hSM : SimM F' I' w (c + (L.length + 3) / 4) (upd (M 6) 1 (ni (c + (L.length + 3) / 4))) (R' 0 24) (rlist R' (c + (L.length + 3) / 4)) := by
      refine simM_of h80 (upd_eq _ _ _) t2 m4 ?_ ?_
      · rw [s3, t4]
        have hr := ps_rel (Or.inl rfl) ps 0 s4
        rw [s2] at hr
        exact rel2_app _ _ (simM_rel hM) hr
      · rw [s3, List.countP_append, hcp]
        exact e2
    obtain ⟨b1, b2, b3⟩ := hB
    have hb5 : b01 (cpR (R 5) (R 4) (256 * 1) 0 0 256) 768 := cpR_b01 b2 b1 (by decide)
    have h1 : SimX s0 V n c jc pd (itM (w0M M wh) 0 (L.map cdP)) F I J G K w e (zu R 5 (cpR (R 5) (R 4) (256 * 1) 0 0 256)) := ⟨hA, hD, ⟨b1, hb5, b3⟩, hP, hJ, hV, hS1, hS2, hM⟩
    have h2 := SimX_msgs (M1 := zu (itM (w0M M wh) 0 (L.map cdP)) 6 (upd (itM (w0M M wh) 0 (L.map cdP) 6) 1 (ni (c + (L.length + 3) / 4)))) h1 (fun j hj => zu_ne _ hj) t3 hSM
    have g1 : R' 1 = R 1 := t3.1 1 (by decide) (by decide)
    have g5 : R' 5 = cpR (R 5) (R 4) (256 * 1) 0 0 256 := t3.1 5 (by decide) (by decide)
    have g6 : R' 6 = R 6 := t3.1 6 (by decide) (by decide)
    have hTs : SimT s0 V n 1 (M 202) (M 204) (M 206) (R' 1 0) (R' 6 1) (R' 5) ((mlist F' I' w (c + (L.length + 3) / 4)).filter (ofS 1)) := by
      rw [s3, List.filter_append, hS, hfs, List.nil_append, g1, g5, g6]
      by_cases hps : ps = []
      · exact Or.inl hps
      · refine Or.inr ⟨u0, u1, u9, u6, Or.inr ⟨0, n, wh, by rw [s2]; omega, Nat.le_refl n, hwh, hw7, fun q hq => ?_, ?_⟩⟩
        · show decide (cpR (R 5) (R 4) (256 * 1) 0 0 256 (256 * 1 + q) = 1) = V n q
          rw [cpR_in _ _ hq, Nat.zero_add]
          exact hP.2.2.2.2.2.2.2.2.2.2 q hq
        · rw [if_pos rfl, ← hsn]
          refine parts_of (P := fun j => L.getD j (0, 0)) (fun j hj => ?_) ps 0 _ s4 hps ?_
          · have hg : L[j]? = some (L[j]'hj) := List.getElem?_eq_getElem hj
            have hd : L.getD j (0, 0) = L[j]'hj := by rw [List.getD_eq_getElem?_getD, hg]; rfl
            obtain ⟨z1, z2⟩ := hok _ (List.getElem_mem hj)
            rw [hd]
            refine ⟨z1, z2, ?_⟩
            have hw := wr_get (L.map cdP) (M 201) 0 j (cdP (L[j]'hj)) (by rw [List.getElem?_map, hg]; rfl)
            rw [Nat.zero_add] at hw
            exact hw
          · have ha := appI_L (fun j => L.getD j (0, 0)) L 0 (if wh = 0 then cs (M 204) else fun _ => false) (fun j x hx => by
              show L.getD (0 + j) (0, 0) = x
              rw [Nat.zero_add, List.getD_eq_getElem?_getD, hx]
              rfl)
            show sEq (appI (fun j => L.getD j (0, 0)) 0 L.length _) (V n)
            rw [ha]
            exact hgo
    have hTo : SimT s0 V n 2 (M 207) (M 209) (M 211) (R' 1 0) (R' 6 2) (R' 5) ((mlist F' I' w (c + (L.length + 3) / 4)).filter (ofS 2)) := by
      rw [s3, List.filter_append, hfo, List.append_nil, g1, g5, g6]
      rcases To with z | ⟨z1, z2, z3, z4, z⟩
      · exact Or.inl z
      · refine Or.inr ⟨z1, z2, z3, z4, ?_⟩
        rcases z with z | ⟨k0, b, wh', y1, y2, y3, y4, y5, y6⟩
        · exact Or.inl z
        · refine Or.inr ⟨k0, b, wh', y1, y2, y3, y4, fun q hq => ?_, y6⟩
          show decide (cpR (R 5) (R 4) (256 * 1) 0 0 256 (256 * 2 + q) = 1) = V b q
          rw [cpR_out _ _ (by omega)]
          exact y5 q hq
    exact SimX_to h2 hTs hTo
/-- a FETCH of secondary 1 arrives -/
theorem Sim_fetch1 (h : SimX s0 V n c jc pd M F I J G K w e R) (hS : (mlist F I w c).filter (ofS 1) = []) (To : SimT s0 V n 2 (M 207) (M 209) (M 211) (R 1 0) (R 6 2) (R 5) ((mlist F I w c).filter (ofS 2)))
    (u0 : R 1 0 = 1) (u1 : M 202 6 = 1) (u9 : M 202 9 = 2) (u6 : R 6 1 = 2) (hn : n ≤ 60000) (hN : 300 < N) :
    ∃ M1 c' M' F' I' R', f_Primary_workOutItems N (zC A X M F I J G K w e) (A + 169) (M 202 7) (M 202 8) = some ((), zC A X M1 F I J G K w e) ∧ f_Wire_sendParts N (zC A X M1 F I J G K w e) (A + 6) (ni 1) (A + 169) = some ((), zC A X M' F' I' J G K w e) ∧ f_ZoneNodesModel_takeFetch N (zR B Y R) B (ni 1) (M 202 7) (M 202 8) = some ((), zR B Y R') ∧ Sim s0 V n c' jc pd M' F' I' J G K w e R' := by
  have hX := h
  obtain ⟨hA, hD, hB, hP, hJ, hV, hS1, hS2, hM⟩ := h
  obtain ⟨j1, j2, j3, j4, j5, j6, j7, j8, j9⟩ := hJ
  obtain ⟨c0, c1, c2, c3, c4, c5, c6, c7, c8, c9, c10, c11, c12, c13⟩ := hS1
  have hpd : pd = 0 := j5 u0
  subst hpd
  rw [Nat.add_zero] at j3 j4 hV
  have hcl : cnt (cs (M 171)) 0 256 = cnt (V n) 0 256 := sEq.cnt hP.2.2.2.2.2.2.2.2.2.1 (by decide)
  have hrl : cnt (rb (R 4)) 0 256 = cnt (V n) 0 256 := cnt_congr 256 0 fun q _ hq => hP.2.2.2.2.2.2.2.2.2.2 q (by omega)
  have h24 := (hV.1 n (Nat.le_refl n)).1
  have hwl : (lstP (cs (M 171)) 0 0 256).length = cnt (V n) 0 256 := by
    rw [← List.length_map (f := cdP), lstP_map, lst_len, hcl]
  have whole : (M 202 7 = 0 ∨ ∀ j, j < jc → R 12 j ≠ M 202 8) → f_Primary_workOutItems N (zC A X M F I J G K w e) (A + 169) (M 202 7) (M 202 8) = some ((), zC A X (itM (w0M M 1) 0 ((lstP (cs (M 171)) 0 0 256).map cdP)) F I J G K w e) → ∃ M1 c' M' F' I' R', f_Primary_workOutItems N (zC A X M F I J G K w e) (A + 169) (M 202 7) (M 202 8) = some ((), zC A X M1 F I J G K w e) ∧ f_Wire_sendParts N (zC A X M1 F I J G K w e) (A + 6) (ni 1) (A + 169) = some ((), zC A X M' F' I' J G K w e) ∧ f_ZoneNodesModel_takeFetch N (zR B Y R) B (ni 1) (M 202 7) (M 202 8) = some ((), zR B Y R') ∧ Sim s0 V n c' jc 0 M' F' I' J G K w e R' := by
    intro hno hwo
    have hit : f_ZoneNodesModel_itemsFor N (zR B Y R) B (M 202 7) (M 202 8) = some (ni (lstP (cs (M 171)) 0 0 256).length) := by
      rw [hwl, ← hrl]
      exact k_itemsW j7 (by omega) hB.1 hno hN
    obtain ⟨c', M', F', I', R', z1, z2, z3⟩ := Sim_answer1 (N := N) (A := A) (X := X) (B := B) (Y := Y) hX hS To u0 u1 u9 u6 (lstP (cs (M 171)) 0 0 256) (by omega) (lstP_ok _ (by decide) 256 0 (by decide)) (wh := 1) (Or.inr rfl) (fun z => absurd z n10) (by
      rw [if_neg n10]
      intro q hq
      rw [appL_comes, decide_eq_true (Nat.zero_le q), decide_eq_true (show q < 0 + 256 by omega)]
      show (false || (cs (M 171) q && (true && true))) = V n q
      rw [hP.2.2.2.2.2.2.2.2.2.1 q hq]
      cases V n q <;> rfl) hit hN
    exact ⟨_, c', M', F', I', R', hwo, z1, z2, z3⟩
  rcases c7 with c7 | c7
  · have z7 : M 202 7 = 0 := c6.trans c7
    refine whole (Or.inl z7) ?_
    rw [z7, s_workW (c := jc) j6 (by omega) (by omega), lstP_map]
  · have z7 : M 202 7 = 1 := c6.trans c7
    obtain ⟨a, a1, a2, a3, a4⟩ := c13 c7
    have z8 : M 202 8 = s0 + ni a := c8.trans a2
    by_cases hin : n - jc ≤ a ∧ a < n
    · obtain ⟨i1, i2⟩ := hin
      obtain ⟨k, rfl⟩ : ∃ k, a = n - jc + k := ⟨a - (n - jc), by omega⟩
      have hk : k < jc := by omega
      have hJ2 : ∀ i, i < jc → J (e i) 2 = s0 + ni (n - jc) + ni i := by
        intro i hi
        have := (j9 i hi).1.1
        rw [Nat.add_zero] at this
        rw [this, Int32.add_assoc, ni_add]
      have h12 : ∀ i, i < jc → R 12 i = s0 + ni (n - jc + i) := by
        intro i hi
        have := (j9 i hi).1.2.1
        rw [Nat.add_zero] at this
        exact this
      have hE : ∀ j, k ≤ j → j < k + (jc - k) → (∀ q, q < 256 → cs (G (e j)) q = (V (n - jc + j) q && !V (n - jc + j + 1) q) ∧ cs (K (e j)) q = (V (n - jc + j + 1) q && !V (n - jc + j) q)) ∧ cnt (V (n - jc + j)) 0 256 ≤ 24 ∧ cnt (fun q => V (n - jc + j + 1) q && !V (n - jc + j) q) 0 256 ≤ 4 := by
        intro j h1 h2
        have := (j9 j (by omega)).1.2.2.2.2.2.2
        rw [Nat.add_zero] at this
        refine ⟨fun q hq => ⟨(this q hq).1, (this q hq).2.1⟩, (hV.1 _ (by omega)).1, hV.2 _ (by omega)⟩
      obtain ⟨l1, l2⟩ := dlstP_len (V := V) (G := G) (K := K) (e := e) (b := n - jc) (jc - k) k hE
      have l3 : (dlstP G K e k (jc - k)).length ≤ 112 := by omega
      have hit : f_ZoneNodesModel_itemsFor N (zR B Y R) B (M 202 7) (M 202 8) = some (ni (dlstP G K e k (jc - k)).length) := by
        rw [l1, z7, z8]
        refine k_itemsD (c := jc) j7 (by omega) n10 hk (h12 k hk) (fun j hj hjk q => hjk ?_) (fun j hj => ?_) hN
        · rw [h12 j hj] at q
          have := serial_inj (s0 := s0) (by omega) (by omega) q
          omega
        · have := (j9 j hj).1.2.2.2.2.2.1
          rw [Nat.add_zero] at this
          exact this
      obtain ⟨c', M', F', I', R', y1, y2, y3⟩ := Sim_answer1 (N := N) (A := A) (X := X) (B := B) (Y := Y) hX hS To u0 u1 u9 u6 (dlstP G K e k (jc - k)) l3 (dlstP_ok G K e (jc - k) k) (wh := 0) (Or.inl rfl) (fun _ => z7) (by
        rw [if_pos rfl]
        have ha := dlstP_app (V := V) (G := G) (K := K) (e := e) (b := n - jc) (jc - k) k (cs (M 204)) (fun j h1 h2 => (hE j h1 h2).1) a3
        rw [show n - jc + (k + (jc - k)) = n by omega] at ha
        exact ha) hit hN
      refine ⟨_, c', M', F', I', R', ?_, y1, y2, y3⟩
      rw [dlstP_map, z7, z8, ← ni_add, ← Int32.add_assoc]
      refine s_workD (c := jc) (k := k) (b0 := s0 + ni (n - jc)) j6 (by omega) j8 (by omega) n10 hJ2 ?_ hk ?_
      · rw [hP.2.2.2.2.1, hP.2.2.2.2.2.1, Int32.add_assoc, ni_add, show n - jc + jc = n by omega]
      · rw [← dlstP_map, List.length_map]
        exact l3
    · have hno : ∀ j, j < jc → s0 + ni (n - jc + j) ≠ M 202 8 := by
        intro j hj q
        rw [z8] at q
        have := serial_inj (s0 := s0) (by omega) (by omega) q
        omega
      refine whole (Or.inr fun j hj q => ?_) ?_
      · have := (j9 j hj).1.2.1
        rw [Nat.add_zero] at this
        rw [this] at q
        exact hno j hj q
      · rw [s_workO (c := jc) (b := M 202 7) j6 (by omega) j8 (by omega) (by omega) (by rw [z7]; exact n10) (fun i hi q => ?_), lstP_map]
        have := (j9 i hi).1.1
        rw [Nat.add_zero] at this
        rw [this] at q
        exact hno i hi q
/-- the answer to secondary 2's FETCH is sent: L the items, wh whether they are the whole zone -/
theorem Sim_answer2 (h : SimX s0 V n c jc pd M F I J G K w e R) (hS : (mlist F I w c).filter (ofS 2) = []) (To : SimT s0 V n 1 (M 202) (M 204) (M 206) (R 1 0) (R 6 1) (R 5) ((mlist F I w c).filter (ofS 1)))
    (u0 : R 1 0 = 1) (u1 : M 207 6 = 1) (u9 : M 207 9 = 2) (u6 : R 6 2 = 2) (L : List (Nat × Nat)) (hL : L.length ≤ 112) (hok : ∀ x ∈ L, x.1 < 2 ∧ x.2 < 256) {wh : Int32} (hwh : wh = 0 ∨ wh = 1) (hw7 : wh = 0 → M 207 7 = 1)
    (hgo : sEq (appL L (if wh = 0 then cs (M 209) else fun _ => false)) (V n)) {has sr : Int32} (hit : f_ZoneNodesModel_itemsFor N (zR B Y R) B has sr = some (ni L.length)) (hN : 300 < N) :
    ∃ c' M' F' I' R', f_Wire_sendParts N (zC A X (itM (w0M M wh) 0 (L.map cdP)) F I J G K w e) (A + 6) (ni 2) (A + 169) = some ((), zC A X M' F' I' J G K w e) ∧ f_ZoneNodesModel_takeFetch N (zR B Y R) B (ni 2) has sr = some ((), zR B Y R') ∧ Sim s0 V n c' jc pd M' F' I' J G K w e R' := by
  have hX := h
  obtain ⟨hA, hD, hB, hP, hJ, hV, hS1, hS2, hM⟩ := h
  have hM' := hM
  obtain ⟨m1, m2, m3, m4, -⟩ := hM'
  have e1 := len_split (mlist F I w c) (rel2_sec _ _ (simM_rel hM))
  have e2 := hM.2.2.2.2.2.2
  have e3 := simT_len To
  have e4 : ([] : List zMsg).length = 0 := rfl
  rw [mlist_len, hS] at e1
  have h80 : c + (L.length + 3) / 4 ≤ 80 := by omega
  have hlm : (L.map cdP).length = L.length := List.length_map _
  have f4 : itM (w0M M wh) 0 (L.map cdP) 169 4 = ni L.length := by
    show ni (0 + (L.map cdP).length) = ni L.length
    rw [hlm, Nat.zero_add]
  have f5 : itM (w0M M wh) 0 (L.map cdP) 169 5 = wh := rfl
  obtain ⟨F', I', ps, s1, s2, s3, s4⟩ := s_sendParts (N := N) (A := A) (X := X) (F := F) (I := I) (J := J) (G := G) (K := K) (w := w) (e := e) (M := itM (w0M M wh) 0 (L.map cdP)) (n := L.length) (c := c) hL (ni 2) (by omega) m2 f4 (by rw [f5]; exact hwh) h80 m4
  have hsr : itM (w0M M wh) 0 (L.map cdP) 169 6 = R 3 0 := hP.2.2.2.2.1
  have hsn : R 3 0 = s0 + ni n := hP.2.2.2.2.2.1
  rw [f5, hsr] at s4
  have hsrc : itM (w0M M wh) 0 (L.map cdP) 201 = wr (M 201) 0 (L.map cdP) := rfl
  rw [hsrc] at s4
  obtain ⟨R', t1, t2, t3, t4⟩ := k_parts_L (N := N) (B := B) (Y := Y) (s := 2) (n := L.length) (by decide) hL ((L.length + 3) / 4) 0 N c (zu R 5 (cpR (R 5) (R 4) (256 * 2) 0 0 256)) m3 (by omega) (by omega) hB.2.2.2.2.2.1 hB.2.2.2.2.2.2 (by omega) (by omega) (by omega)
  refine ⟨c + (L.length + 3) / 4, _, F', I', R', s1, ?_, ?_⟩
  · unfold f_ZoneNodesModel_takeFetch
    have t1' : L_ZoneNodesModel_takeFetch_48 N B (ni 2) (ni L.length) N (zR B Y (zu R 5 (cpR (R 5) (R 4) (256 * 2) 0 0 256))) 0 = some ((), zR B Y R') := t1
    have cc : L_ZoneNodesModel_takeFetch_11 N B (ni 2) (ni L.length) N (zR B Y R) 0 = some ((), zR B Y (zu R 5 (cpR (R 5) (R 4) (256 * 2) 0 0 256))) := k_copy_coming (by decide) _ 256 0 N R hB.1 (by omega) (by omega)
    rw [rck, zb1_some, hit, zb1_some, cc, zb2_some, t1', zb2_some]
  · have hall := ps_all ps 0 s4
    have hfs : ps.filter (ofS 2) = ps := filter_all ps fun m hm => by
      unfold ofS onS
      rw [(hall m hm).1, (hall m hm).2]
      decide
    have hfo : ps.filter (ofS 1) = [] := filter_none ps fun m hm => by
      unfold ofS onS
      rw [(hall m hm).1, (hall m hm).2]
      decide
    have hcp : ps.countP (fun m => !onS m) = 0 := countP_none ps fun m hm => by
      unfold onS
      rw [(hall m hm).1]
      decide
    have hSM : SimM F' I' w (c + (L.length + 3) / 4) (upd (M 6) 1 (ni (c + (L.length + 3) / 4))) (R' 0 24) (rlist R' (c + (L.length + 3) / 4)) := by
      refine simM_of h80 (upd_eq _ _ _) t2 m4 ?_ ?_
      · rw [s3, t4]
        have hr := ps_rel (Or.inr rfl) ps 0 s4
        rw [s2] at hr
        exact rel2_app _ _ (simM_rel hM) hr
      · rw [s3, List.countP_append, hcp]
        exact e2
    obtain ⟨b1, b2, b3⟩ := hB
    have hb5 : b01 (cpR (R 5) (R 4) (256 * 2) 0 0 256) 768 := cpR_b01 b2 b1 (by decide)
    have h1 : SimX s0 V n c jc pd (itM (w0M M wh) 0 (L.map cdP)) F I J G K w e (zu R 5 (cpR (R 5) (R 4) (256 * 2) 0 0 256)) := ⟨hA, hD, ⟨b1, hb5, b3⟩, hP, hJ, hV, hS1, hS2, hM⟩
    have h2 := SimX_msgs (M1 := zu (itM (w0M M wh) 0 (L.map cdP)) 6 (upd (itM (w0M M wh) 0 (L.map cdP) 6) 1 (ni (c + (L.length + 3) / 4)))) h1 (fun j hj => zu_ne _ hj) t3 hSM
    have g1 : R' 1 = R 1 := t3.1 1 (by decide) (by decide)
    have g5 : R' 5 = cpR (R 5) (R 4) (256 * 2) 0 0 256 := t3.1 5 (by decide) (by decide)
    have g6 : R' 6 = R 6 := t3.1 6 (by decide) (by decide)
    have hTs : SimT s0 V n 2 (M 207) (M 209) (M 211) (R' 1 0) (R' 6 2) (R' 5) ((mlist F' I' w (c + (L.length + 3) / 4)).filter (ofS 2)) := by
      rw [s3, List.filter_append, hS, hfs, List.nil_append, g1, g5, g6]
      by_cases hps : ps = []
      · exact Or.inl hps
      · refine Or.inr ⟨u0, u1, u9, u6, Or.inr ⟨0, n, wh, by rw [s2]; omega, Nat.le_refl n, hwh, hw7, fun q hq => ?_, ?_⟩⟩
        · show decide (cpR (R 5) (R 4) (256 * 2) 0 0 256 (256 * 2 + q) = 1) = V n q
          rw [cpR_in _ _ hq, Nat.zero_add]
          exact hP.2.2.2.2.2.2.2.2.2.2 q hq
        · rw [if_pos rfl, ← hsn]
          refine parts_of (P := fun j => L.getD j (0, 0)) (fun j hj => ?_) ps 0 _ s4 hps ?_
          · have hg : L[j]? = some (L[j]'hj) := List.getElem?_eq_getElem hj
            have hd : L.getD j (0, 0) = L[j]'hj := by rw [List.getD_eq_getElem?_getD, hg]; rfl
            obtain ⟨z1, z2⟩ := hok _ (List.getElem_mem hj)
            rw [hd]
            refine ⟨z1, z2, ?_⟩
            have hw := wr_get (L.map cdP) (M 201) 0 j (cdP (L[j]'hj)) (by rw [List.getElem?_map, hg]; rfl)
            rw [Nat.zero_add] at hw
            exact hw
          · have ha := appI_L (fun j => L.getD j (0, 0)) L 0 (if wh = 0 then cs (M 209) else fun _ => false) (fun j x hx => by
              show L.getD (0 + j) (0, 0) = x
              rw [Nat.zero_add, List.getD_eq_getElem?_getD, hx]
              rfl)
            show sEq (appI (fun j => L.getD j (0, 0)) 0 L.length _) (V n)
            rw [ha]
            exact hgo
    have hTo : SimT s0 V n 1 (M 202) (M 204) (M 206) (R' 1 0) (R' 6 1) (R' 5) ((mlist F' I' w (c + (L.length + 3) / 4)).filter (ofS 1)) := by
      rw [s3, List.filter_append, hfo, List.append_nil, g1, g5, g6]
      rcases To with z | ⟨z1, z2, z3, z4, z⟩
      · exact Or.inl z
      · refine Or.inr ⟨z1, z2, z3, z4, ?_⟩
        rcases z with z | ⟨k0, b, wh', y1, y2, y3, y4, y5, y6⟩
        · exact Or.inl z
        · refine Or.inr ⟨k0, b, wh', y1, y2, y3, y4, fun q hq => ?_, y6⟩
          show decide (cpR (R 5) (R 4) (256 * 2) 0 0 256 (256 * 1 + q) = 1) = V b q
          rw [cpR_out _ _ (by omega)]
          exact y5 q hq
    exact SimX_to h2 hTo hTs
/-- a FETCH of secondary 2 arrives -/
theorem Sim_fetch2 (h : SimX s0 V n c jc pd M F I J G K w e R) (hS : (mlist F I w c).filter (ofS 2) = []) (To : SimT s0 V n 1 (M 202) (M 204) (M 206) (R 1 0) (R 6 1) (R 5) ((mlist F I w c).filter (ofS 1)))
    (u0 : R 1 0 = 1) (u1 : M 207 6 = 1) (u9 : M 207 9 = 2) (u6 : R 6 2 = 2) (hn : n ≤ 60000) (hN : 300 < N) :
    ∃ M1 c' M' F' I' R', f_Primary_workOutItems N (zC A X M F I J G K w e) (A + 169) (M 207 7) (M 207 8) = some ((), zC A X M1 F I J G K w e) ∧ f_Wire_sendParts N (zC A X M1 F I J G K w e) (A + 6) (ni 2) (A + 169) = some ((), zC A X M' F' I' J G K w e) ∧ f_ZoneNodesModel_takeFetch N (zR B Y R) B (ni 2) (M 207 7) (M 207 8) = some ((), zR B Y R') ∧ Sim s0 V n c' jc pd M' F' I' J G K w e R' := by
  have hX := h
  obtain ⟨hA, hD, hB, hP, hJ, hV, hS1, hS2, hM⟩ := h
  obtain ⟨j1, j2, j3, j4, j5, j6, j7, j8, j9⟩ := hJ
  obtain ⟨c0, c1, c2, c3, c4, c5, c6, c7, c8, c9, c10, c11, c12, c13⟩ := hS2
  have hpd : pd = 0 := j5 u0
  subst hpd
  rw [Nat.add_zero] at j3 j4 hV
  have hcl : cnt (cs (M 171)) 0 256 = cnt (V n) 0 256 := sEq.cnt hP.2.2.2.2.2.2.2.2.2.1 (by decide)
  have hrl : cnt (rb (R 4)) 0 256 = cnt (V n) 0 256 := cnt_congr 256 0 fun q _ hq => hP.2.2.2.2.2.2.2.2.2.2 q (by omega)
  have h24 := (hV.1 n (Nat.le_refl n)).1
  have hwl : (lstP (cs (M 171)) 0 0 256).length = cnt (V n) 0 256 := by
    rw [← List.length_map (f := cdP), lstP_map, lst_len, hcl]
  have whole : (M 207 7 = 0 ∨ ∀ j, j < jc → R 12 j ≠ M 207 8) → f_Primary_workOutItems N (zC A X M F I J G K w e) (A + 169) (M 207 7) (M 207 8) = some ((), zC A X (itM (w0M M 1) 0 ((lstP (cs (M 171)) 0 0 256).map cdP)) F I J G K w e) → ∃ M1 c' M' F' I' R', f_Primary_workOutItems N (zC A X M F I J G K w e) (A + 169) (M 207 7) (M 207 8) = some ((), zC A X M1 F I J G K w e) ∧ f_Wire_sendParts N (zC A X M1 F I J G K w e) (A + 6) (ni 2) (A + 169) = some ((), zC A X M' F' I' J G K w e) ∧ f_ZoneNodesModel_takeFetch N (zR B Y R) B (ni 2) (M 207 7) (M 207 8) = some ((), zR B Y R') ∧ Sim s0 V n c' jc 0 M' F' I' J G K w e R' := by
    intro hno hwo
    have hit : f_ZoneNodesModel_itemsFor N (zR B Y R) B (M 207 7) (M 207 8) = some (ni (lstP (cs (M 171)) 0 0 256).length) := by
      rw [hwl, ← hrl]
      exact k_itemsW j7 (by omega) hB.1 hno hN
    obtain ⟨c', M', F', I', R', z1, z2, z3⟩ := Sim_answer2 (N := N) (A := A) (X := X) (B := B) (Y := Y) hX hS To u0 u1 u9 u6 (lstP (cs (M 171)) 0 0 256) (by omega) (lstP_ok _ (by decide) 256 0 (by decide)) (wh := 1) (Or.inr rfl) (fun z => absurd z n10) (by
      rw [if_neg n10]
      intro q hq
      rw [appL_comes, decide_eq_true (Nat.zero_le q), decide_eq_true (show q < 0 + 256 by omega)]
      show (false || (cs (M 171) q && (true && true))) = V n q
      rw [hP.2.2.2.2.2.2.2.2.2.1 q hq]
      cases V n q <;> rfl) hit hN
    exact ⟨_, c', M', F', I', R', hwo, z1, z2, z3⟩
  rcases c7 with c7 | c7
  · have z7 : M 207 7 = 0 := c6.trans c7
    refine whole (Or.inl z7) ?_
    rw [z7, s_workW (c := jc) j6 (by omega) (by omega), lstP_map]
  · have z7 : M 207 7 = 1 := c6.trans c7
    obtain ⟨a, a1, a2, a3, a4⟩ := c13 c7
    have z8 : M 207 8 = s0 + ni a := c8.trans a2
    by_cases hin : n - jc ≤ a ∧ a < n
    · obtain ⟨i1, i2⟩ := hin
      obtain ⟨k, rfl⟩ : ∃ k, a = n - jc + k := ⟨a - (n - jc), by omega⟩
      have hk : k < jc := by omega
      have hJ2 : ∀ i, i < jc → J (e i) 2 = s0 + ni (n - jc) + ni i := by
        intro i hi
        have := (j9 i hi).1.1
        rw [Nat.add_zero] at this
        rw [this, Int32.add_assoc, ni_add]
      have h12 : ∀ i, i < jc → R 12 i = s0 + ni (n - jc + i) := by
        intro i hi
        have := (j9 i hi).1.2.1
        rw [Nat.add_zero] at this
        exact this
      have hE : ∀ j, k ≤ j → j < k + (jc - k) → (∀ q, q < 256 → cs (G (e j)) q = (V (n - jc + j) q && !V (n - jc + j + 1) q) ∧ cs (K (e j)) q = (V (n - jc + j + 1) q && !V (n - jc + j) q)) ∧ cnt (V (n - jc + j)) 0 256 ≤ 24 ∧ cnt (fun q => V (n - jc + j + 1) q && !V (n - jc + j) q) 0 256 ≤ 4 := by
        intro j h1 h2
        have := (j9 j (by omega)).1.2.2.2.2.2.2
        rw [Nat.add_zero] at this
        refine ⟨fun q hq => ⟨(this q hq).1, (this q hq).2.1⟩, (hV.1 _ (by omega)).1, hV.2 _ (by omega)⟩
      obtain ⟨l1, l2⟩ := dlstP_len (V := V) (G := G) (K := K) (e := e) (b := n - jc) (jc - k) k hE
      have l3 : (dlstP G K e k (jc - k)).length ≤ 112 := by omega
      have hit : f_ZoneNodesModel_itemsFor N (zR B Y R) B (M 207 7) (M 207 8) = some (ni (dlstP G K e k (jc - k)).length) := by
        rw [l1, z7, z8]
        refine k_itemsD (c := jc) j7 (by omega) n10 hk (h12 k hk) (fun j hj hjk q => hjk ?_) (fun j hj => ?_) hN
        · rw [h12 j hj] at q
          have := serial_inj (s0 := s0) (by omega) (by omega) q
          omega
        · have := (j9 j hj).1.2.2.2.2.2.1
          rw [Nat.add_zero] at this
          exact this
      obtain ⟨c', M', F', I', R', y1, y2, y3⟩ := Sim_answer2 (N := N) (A := A) (X := X) (B := B) (Y := Y) hX hS To u0 u1 u9 u6 (dlstP G K e k (jc - k)) l3 (dlstP_ok G K e (jc - k) k) (wh := 0) (Or.inl rfl) (fun _ => z7) (by
        rw [if_pos rfl]
        have ha := dlstP_app (V := V) (G := G) (K := K) (e := e) (b := n - jc) (jc - k) k (cs (M 209)) (fun j h1 h2 => (hE j h1 h2).1) a3
        rw [show n - jc + (k + (jc - k)) = n by omega] at ha
        exact ha) hit hN
      refine ⟨_, c', M', F', I', R', ?_, y1, y2, y3⟩
      rw [dlstP_map, z7, z8, ← ni_add, ← Int32.add_assoc]
      refine s_workD (c := jc) (k := k) (b0 := s0 + ni (n - jc)) j6 (by omega) j8 (by omega) n10 hJ2 ?_ hk ?_
      · rw [hP.2.2.2.2.1, hP.2.2.2.2.2.1, Int32.add_assoc, ni_add, show n - jc + jc = n by omega]
      · rw [← dlstP_map, List.length_map]
        exact l3
    · have hno : ∀ j, j < jc → s0 + ni (n - jc + j) ≠ M 207 8 := by
        intro j hj q
        rw [z8] at q
        have := serial_inj (s0 := s0) (by omega) (by omega) q
        omega
      refine whole (Or.inr fun j hj q => ?_) ?_
      · have := (j9 j hj).1.2.1
        rw [Nat.add_zero] at this
        rw [this] at q
        exact hno j hj q
      · rw [s_workO (c := jc) (b := M 207 7) j6 (by omega) j8 (by omega) (by omega) (by rw [z7]; exact n10) (fun i hi q => ?_), lstP_map]
        have := (j9 i hi).1.1
        rw [Nat.add_zero] at this
        rw [this] at q
        exact hno i hi q
end ZSIMO
