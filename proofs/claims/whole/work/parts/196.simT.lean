/-! update -/
def rU (R : Nat → Nat → Int32) (g : Nat → Int32) : Nat → Nat → Int32 := zu (zu (zu R 16 g) 0 (upd (R 0) 14 0)) 0 (upd (upd (R 0) 14 0) 15 0)
section ZSIMT
variable {A B : Nat} {X Y : zh_T} {M F I J G K : Nat → Nat → Int32} {w e : Nat → Nat} {R : Nat → Nat → Int32} {N n c jc pd : Nat} {s0 : Int32} {V : Nat → Nat → Bool}
theorem C_total (hg : okS (M 173)) (hN : 100 < N) : f_Records_total N (zC A X M F I J G K w e) (A + 172) = some (ni (cnt (cs (M 173)) 0 256)) := by
  have hm : mC M F I J G K (172 + 1) = M 173 := mC_fix fx172
  rw [zC, s_total (M := mC M F I J G K) rec172 (by rw [hm]; exact hg) hN, hm]
theorem C_same (hN : 100 < N) : f_Records_sameAs N (zC A X M F I J G K w e) (A + 172) (A + 170) = some (pif (∀ j, j < 32 → M 173 j = M 171 j) 1 0) := by
  have hm : mC M F I J G K (172 + 1) = M 173 := mC_fix fx172
  have hm2 : mC M F I J G K (170 + 1) = M 171 := mC_fix fx170
  rw [zC, s_sameAs (M := mC M F I J G K) rec172 rec170 hN, hm, hm2]
theorem s_change_go {g : Nat → Int32} (hg : okS g) (hch : f_Draft_changeRecords N (zC A X (zu M 173 (zmix 0 (M 173) (M 171))) F I J G K w e) (A + 3) (A + 172) = some ((), zC A X (zu M 173 g) F I J G K w e)) (hN : 100 < N) :
    f_ZoneNodes_makeChanges N (zC A X M F I J G K w e) A = (if cnt (cs g) 0 256 ≤ 24 then pif (∀ j, j < 32 → g j = M 171 j) (some (0, zC A X (zu M 173 g) F I J G K w e)) (zb2 (f_Primary_writeNext N (zC A X (zu M 173 g) F I J G K w e) (A + 169)) fun v35 X36 => if v35 = 0 then zb1 (zck X36 A 8) fun _ => zb2 (f_ZoneNodes_takePrimaryDown N X36 A) fun _ X45 => some (-1, X45) else zb1 (zck X36 A 8) fun _ => zb2 (f_ZoneNodes_notifySecondaries N X36 A) fun _ X41 => some (0, X41)) else some (2, zC A X (zu M 173 g) F I J G K w e)) := by
  unfold f_ZoneNodes_makeChanges
  have h256 := cnt_le (cs g) 256 0
  simp only [cr0_4, zb1_some, cr169_1, cr169_0, ck172]
  rw [C_copy hN, zb2_some]
  simp only [cr0_2, zb1_some, ck3]
  rw [hch, zb2_some]
  simp only [ck172, zb1_some, cr0_4, cr169_0, ck169]
  rw [C_total (M := zu M 173 g) hg hN, zb1_some, C_same hN, zb1_some]
  rw [show zu M 173 g 173 = g from rfl, show zu M 173 g 171 = M 171 from rfl]
  by_cases h24 : cnt (cs g) 0 256 ≤ 24
  · rw [if_pos h24, if_pos (show ni (cnt (cs g) 0 256) ≤ 24 from (ni_le (a := cnt (cs g) 0 256) (b := 24) (by omega) (by decide)).mpr h24)]
    by_cases hs : ∀ j, j < 32 → g j = M 171 j
    · rw [pif_pos hs, pif_pos hs, if_neg n10]
    · rw [pif_neg hs, pif_neg hs, if_pos rfl]
  · rw [if_neg h24, if_neg (show ¬ ni (cnt (cs g) 0 256) ≤ 24 from fun q => h24 ((ni_le (a := cnt (cs g) 0 256) (b := 24) (by omega) (by decide)).mp q))]
theorem k_upd_refused {cc : Nat} {r k t sl : Int32} (hu : R 1 0 = 1) (hb4 : b01 (R 4) 768) (hr : f_ZoneNodesModel_refusal N (zR B Y R) B k t sl = some r) (hpos : ¬ r ≤ 0) (hcc : R 0 15 = ni cc) (hN : 300 < N) : f_ZoneNodesModel_update N (zR B Y R) B k t sl = some (r, zR B Y (rU R (cpR (R 16) (R 4) 0 0 0 256))) := by
  have h0 : zaz (zR B Y R) (B + 1) 0 = some (R 1 0) := ra1 (i := 0) (by decide)
  have cc1 : L_ZoneNodesModel_update_32 N B r (ni cc) 1 N (zR B Y R) 0 = some ((), zR B Y (zu R 16 (cpR (R 16) (R 4) 0 0 0 256))) := k_copy_work r (ni cc) 1 256 0 N R hb4 (by omega) (by omega)
  have hr0 : ¬ r = 0 := fun q => hpos (by rw [q]; exact Int32.le_refl 0)
  obtain ⟨f, hf⟩ : ∃ f, N = f + 1 := ⟨N - 1, by omega⟩
  have l63 : L_ZoneNodesModel_update_63 N B r (ni cc) 1 N (zR B Y (zu R 16 (cpR (R 16) (R 4) 0 0 0 256))) 0 = some ((), zR B Y (zu R 16 (cpR (R 16) (R 4) 0 0 0 256))) := by
    rw [show L_ZoneNodesModel_update_63 N B r (ni cc) 1 N = L_ZoneNodesModel_update_63 N B r (ni cc) 1 (f + 1) from by rw [← hf], L_ZoneNodesModel_update_63, if_neg hr0, ite_self]
  have ls := k_same_L (N := N) (B := B) (Y := Y) (R := rU R (cpR (R 16) (R 4) 0 0 0 256)) r 256 0 N 1 (Or.inr rfl) (by omega) (by omega)
  rw [show ni 0 = 0 from rfl] at ls
  unfold f_ZoneNodesModel_update
  rw [rr4, zb1_some, h0, zb1_some, hu, if_neg n10, rck, zb1_some, hr, zb1_some, rg15, zb1_some, hcc, cc1, zb2_some, l63, zb2_some, rq14, zb1_some, rq15, zb1_some]
  rw [show zu (zu (zu R 16 (cpR (R 16) (R 4) 0 0 0 256)) 0 (upd (zu R 16 (cpR (R 16) (R 4) 0 0 0 256) 0) 14 0)) 0 (upd (zu (zu R 16 (cpR (R 16) (R 4) 0 0 0 256)) 0 (upd (zu R 16 (cpR (R 16) (R 4) 0 0 0 256) 0) 14 0) 0) 15 0) = rU R (cpR (R 16) (R 4) 0 0 0 256) from rfl]
  rw [ls, zb1_some, if_neg hpos]
theorem k_upd_go {cc : Nat} {g : Nat → Int32} {k t sl : Int32} (hu : R 1 0 = 1) (hb4 : b01 (R 4) 768) (hr : f_ZoneNodesModel_refusal N (zR B Y R) B k t sl = some 0) (hcc : R 0 15 = ni cc) (hbg : b01 g 256) (l63 : L_ZoneNodesModel_update_63 N B 0 (ni cc) 1 N (zR B Y (zu R 16 (cpR (R 16) (R 4) 0 0 0 256))) 0 = some ((), zR B Y (zu R 16 g))) (hN : 300 < N) :
    f_ZoneNodesModel_update N (zR B Y R) B k t sl = (if cnt (rb g) 0 256 ≤ 24 then pif (∀ j, 0 ≤ j → j < 256 → g j = R 4 j) (some (0, zR B Y (rU R g))) (f_ZoneNodesModel_write N (zR B Y (rU R g)) B) else some (2, zR B Y (rU R g))) := by
  have h0 : zaz (zR B Y R) (B + 1) 0 = some (R 1 0) := ra1 (i := 0) (by decide)
  have cc1 : L_ZoneNodesModel_update_32 N B 0 (ni cc) 1 N (zR B Y R) 0 = some ((), zR B Y (zu R 16 (cpR (R 16) (R 4) 0 0 0 256))) := k_copy_work 0 (ni cc) 1 256 0 N R hb4 (by omega) (by omega)
  have ls : L_ZoneNodesModel_update_102 N (zR B Y (rU R g)) B 0 N 1 0 = some (pif ((1 : Int32) = 1 ∧ ∀ j, 0 ≤ j → j < 256 → g j = R 4 j) 1 0) := k_same_L (N := N) (B := B) (Y := Y) (R := rU R g) 0 256 0 N 1 (Or.inr rfl) (by omega) (by omega)
  have lw : f_ZoneNodesModel_works N (zR B Y (rU R g)) B 0 256 = some (ni (cnt (rb g) 0 256)) := k_works (N := N) (B := B) (Y := Y) (R := rU R g) (lo := 0) (hi := 256) (by decide) (by decide) hbg hN
  have h256 := cnt_le (rb g) 256 0
  unfold f_ZoneNodesModel_update
  rw [rr4, zb1_some, h0, zb1_some, hu, if_neg n10, rck, zb1_some, hr, zb1_some, rg15, zb1_some, hcc, cc1, zb2_some, l63, zb2_some, rq14, zb1_some, rq15, zb1_some]
  rw [show zu (zu (zu R 16 g) 0 (upd (zu R 16 g 0) 14 0)) 0 (upd (zu (zu R 16 g) 0 (upd (zu R 16 g 0) 14 0) 0) 15 0) = rU R g from rfl]
  rw [ls, zb1_some, if_pos (Int32.le_refl 0), rck, zb1_some, lw, zb1_some]
  by_cases h24 : cnt (rb g) 0 256 ≤ 24
  · rw [if_pos h24, if_pos (show ni (cnt (rb g) 0 256) ≤ 24 from (ni_le (a := cnt (rb g) 0 256) (b := 24) (by omega) (by decide)).mpr h24)]
    by_cases hs : ∀ j, 0 ≤ j → j < 256 → g j = R 4 j
    · rw [pif_pos hs, pif_pos ⟨rfl, hs⟩, if_neg n10]
    · rw [pif_neg hs, pif_neg (fun q => hs q.2), if_pos rfl, zb1_some]
      cases f_ZoneNodesModel_write N (zR B Y (rU R g)) B with
      | none => rfl
      | some z => rfl
  · rw [if_neg h24, if_neg (show ¬ ni (cnt (rb g) 0 256) ≤ 24 from fun q => h24 ((ni_le (a := cnt (rb g) 0 256) (b := 24) (by omega) (by decide)).mp q))]
theorem SimW_pre {g g' : Nat → Int32} (h : Sim s0 V n c jc pd M F I J G K w e R) (hg : okS g) (hb : b01 g' 256) : SimW s0 V n c jc pd (zu M 173 g) F I J G K w e (rU R g') := by
  obtain ⟨hA, hD, ⟨b1, b2, b3, b4, b5, b6, b7⟩, ⟨p1, p2, p3, p4, p5, p6, p7, p8, p9, p10, p11⟩, hJ, hV, hS1, hS2, hM, hT1, hT2⟩ := h
  exact ⟨hA, ⟨rfl, rfl⟩, ⟨b1, b2, b3, b4, hb, b6, b7⟩, ⟨p1, p2, p3, p4, p5, p6, p7, p8, hg, p10, p11⟩, hJ, hV, hS1, hS2, hM, hT1, hT2⟩
/-- all three steps -/
theorem SimW_w0 {new : Nat → Bool} (h : SimW s0 V n c jc 0 M F I J G K w e R) (ha : R 0 17 = 0) (hg : sEq (cs (M 173)) new) (hw : sEq (rb (R 16)) new) (h24 : cnt new 0 256 ≤ 24) (hal : ∀ a, a < 8 → cnt new (32 * a + 8) 8 ≤ 1) (h4 : cnt (fun q => new q && !V n q) 0 256 ≤ 4) (hN : 1100 < N) :
    ∃ c' jc' M' F' e' R', (zb2 (f_Primary_writeNext N (zC A X M F I J G K w e) (A + 169)) fun v35 X36 => if v35 = 0 then zb1 (zck X36 A 8) fun _ => zb2 (f_ZoneNodes_takePrimaryDown N X36 A) fun _ X45 => some ((-1 : Int32), X45) else zb1 (zck X36 A 8) fun _ => zb2 (f_ZoneNodes_notifySecondaries N X36 A) fun _ X41 => some (0, X41)) = some (0, zC A X M' F' I (w2J M J (e jc)) (w1G M G (e jc)) (w1K M K (e jc)) w e') ∧
      f_ZoneNodesModel_write N (zR B Y R) B = some (0, zR B Y R') ∧ SimW s0 (nextV V n new) (n + 1) c' jc' 0 M' F' I (w2J M J (e jc)) (w1G M G (e jc)) (w1K M K (e jc)) w e' R' := by
  obtain ⟨hA, hD, ⟨b1, b2, b3, b4, b5, b6, b7⟩, hP, hJ, hV, hS1, hS2, hM, hT1, hT2⟩ := h
  have hlo := nextV_lo V n new
  have hJ2 := SimJ_write hP hJ hg hw 1
  have hP2 := SimP_V hlo hP
  rw [Nat.add_zero] at hV
  have hV2 := SimV_next hV h24 hal h4
  have hb14 : b01 (cpR (R 14) (R 16) (256 * jc) 0 0 256) 1536 := cpR_b01 b4 b5 (by decide)
  have hj4 : jc ≤ 4 := hJ.2.2.2.1
  have hj18 : R 0 18 = ni jc := hJ.2.2.2.2.2.2.1
  have hj174 : M 174 1 = ni jc := hJ.2.2.2.2.2.1
  have hje : wperm e 5 := hJ.2.2.2.2.2.2.2.1
  have eJ : w2J M J (e jc) = zu J (e jc) (upd (upd (J (e jc)) 2 (M 169 6)) 3 1) := by
    unfold w2J
    rw [upd_upd]
  have e13 : wR2 R jc 13 = upd (R 13) jc 1 := by
    show upd (upd (R 13) jc 0) jc 1 = _
    rw [upd_upd]
  have e15 : wR2 R jc 15 = upd (R 15) jc (ni (0 + cnt (dfS (rb (R 16)) (rb (R 4))) 0 256)) := by
    show upd (upd (R 15) jc 0) jc (ni (0 + cnt (dfS (rb (R 16)) (rb (R 4))) 0 256)) = _
    rw [upd_upd]
  have hI : SimIW s0 (nextV V n new) n c (jc + 1) (w1M M jc) F I (w2J M J (e jc)) (w1G M G (e jc)) (w1K M K (e jc)) w e (wR2 R jc) := by
    unfold SimIW
    rw [eJ, e13, e15]
    refine ⟨hA, hD, ⟨b1, b2, b01_upd b3 (Or.inr rfl), hb14, b5, b6, b7⟩, hP2, hJ2, ?_, hV2, SimS_V hlo hS1, SimS_V hlo hS2, hM, SimT_V hlo hT1, SimT_V hlo hT2⟩
    rw [Nat.add_sub_cancel, upd_eq]
  obtain ⟨jc', R', i1, i2⟩ := WSim_inst (N := N) (B := B) (Y := Y) hI hN
  obtain ⟨c2, F2, M2, R2, n1, n2, -, -, n5⟩ := WSim_notify (N := N) (A := A) (X := X) (B := B) (Y := Y) i2 (by omega)
  refine ⟨c2, jc', M2, F2, inE e (jc + 1), R2, ?_, ?_, n5⟩
  · have ha' : M 169 7 = 0 := hP.2.2.1.trans ha
    have hw0 := s_write0 (N := N) (A := A) (X := X) (F := F) (I := I) (J := J) (G := G) (K := K) (w := w) (e := e) (M := M) ha' hj174 (show jc < 5 by omega) hje (by omega)
    have hst : f_Primary_writeNext N (zC A X M F I J G K w e) (A + 169) = some (1, zC A X (inM (w1M M jc) (w2J M J (e jc)) (w1G M G (e jc)) (w1K M K (e jc)) e (jc + 1)) F I (w2J M J (e jc)) (w1G M G (e jc)) (w1K M K (e jc)) w (inE e (jc + 1))) := by
      rw [hw0]
      unfold inM inE
      rw [Nat.add_sub_cancel]
      by_cases h4' : jc = 4
      · rw [if_pos h4', if_pos (by omega), if_pos (by omega)]
      · rw [if_neg h4', if_neg (by omega), if_neg (by omega)]
    rw [hst, zb2_some, if_neg n10, ck0, zb1_some, n1, zb2_some]
  · refine k_write_step (jc := jc) (by rw [ha]; decide) hj18 (by omega) b5 b1 (by omega) ?_
    rw [ha, if_neg (by decide), if_neg (by decide), i1, n2, zb2_some]
theorem o_update (h : Sim s0 V n c jc pd M F I J G K w e R) (k t sl : Int32) (hN : 1100 < N) : ∃ r V' n' c' jc' pd' M' F' J' G' K' w' e' R', n' ≤ n + 1 ∧ f_ZoneNodes_update N (zC A X M F I J G K w e) A k t sl = some (r, zC A X M' F' I J' G' K' w' e') ∧ f_ZoneNodesModel_update N (zR B Y R) B k t sl = some (r, zR B Y R') ∧ Sim s0 V' n' c' jc' pd' M' F' I J' G' K' w' e' R' := by
  have hP := sim_p h
  have hB := sim_b h
  have h0 : zaz (zR B Y R) (B + 1) 0 = some (R 1 0) := ra1 (i := 0) (by decide)
  by_cases hu0 : R 1 0 = 0
  · refine ⟨-1, V, n, c, jc, pd, M, F, J, G, K, w, e, R, by omega, ?_, ?_, h⟩
    · unfold f_ZoneNodes_update
      rw [cr0_4, zb1_some, cg169_8, zb1_some, hP.1, if_pos hu0]
    · unfold f_ZoneNodesModel_update
      rw [rr4, zb1_some, h0, zb1_some, if_pos hu0]
  · have hu : R 1 0 = 1 := hP.2.1.resolve_left hu0
    obtain ⟨r, r1, r2, r3⟩ := refusal_eq (N := N) (A := A) (X := X) (B := B) (Y := Y) h k t sl (by omega)
    have hJ : SimJ s0 V n jc pd (M 174) J G K e (R 1 0) (R 0 18) (R 12) (R 13) (R 14) (R 15) := h.2.2.2.2.1
    have hpd : pd = 0 := hJ.2.2.2.2.1 hu
    subst hpd
    have hh := h
    obtain ⟨-, ⟨nc, cc, Dn, Dc, d1, d2, d3, d4, d5, d6, d7, d8⟩, -⟩ := hh
    have hcl : ∀ (Z : Int32) (M' F' J' G' K' : Nat → Nat → Int32) (w' e' : Nat → Nat), f_ZoneNodes_makeChanges N (zC A X M F I J G K w e) A = some (Z, zC A X M' F' I J' G' K' w' e') → r = 0 → f_ZoneNodes_update N (zC A X M F I J G K w e) A k t sl = some (Z, zC A X (zu M' 3 (upd (upd (M' 3) 2 0) 3 0)) F' I J' G' K' w' e') := by
      intro Z M' F' J' G' K' w' e' hm hr
      unfold f_ZoneNodes_update
      rw [cr0_4, zb1_some, cg169_8, zb1_some, hP.1, if_neg hu0, ck0, zb1_some, r1, zb1_some, if_pos hr, zb1_some, hm, zb2_some, cr0_2, zb1_some, ck3, zb1_some, s_dempty, zb2_some]
    by_cases hr : r = 0
    · subst hr
      have okm : okS (zmix 0 (M 173) (M 171)) := okS_mix _ hP.2.2.2.2.2.2.2.1
      obtain ⟨g, g1, g2, g3⟩ := s_changeRecords (N := N) (A := A) (X := X) (F := F) (I := I) (J := J) (G := G) (K := K) (w := w) (e := e) (M := zu M 173 (zmix 0 (M 173) (M 171))) (D := Dc) d5 d2 (fun i hi => ⟨(d8 i hi).1, (d8 i hi).2.1⟩) okm (by omega)
      rw [zu_zu] at g1
      have hb16 : b01 (cpR (R 16) (R 4) 0 0 0 256) 256 := cpR_b01 hB.2.2.2.2.1 hB.1 (by decide)
      obtain ⟨gr, q1, q2, q3⟩ := k_chgs_L (N := N) (B := B) (Y := Y) (c := cc) (D := Dc) d2 1 (by omega) cc 0 N (zu R 16 (cpR (R 16) (R 4) 0 0 0 256)) (fun i hi => ⟨(d8 i hi).2.2, (d8 i hi).1⟩) hb16 (by omega) (by omega)
      rw [zu_zu] at q1
      have hdc : ∀ i, i < cc → dok 4 (Dc i) := fun i hi => (d8 i hi).1
      have hgn : sEq (cs g) (chgs Dc 0 cc (V n)) := fun q hq => (g3 q).trans (chgs_eq (c := cc) hdc cc 0 (by omega) (fun p hp => (cs_mix _ _ hp).trans (hP.2.2.2.2.2.2.2.2.2.1 p hp)) q hq)
      have hrn : sEq (rb gr) (chgs Dc 0 cc (V n)) := fun q hq => (q3 q hq).trans (chgs_eq (c := cc) hdc cc 0 (by omega) (fun p hp => by
        show decide (cpR (R 16) (R 4) 0 0 0 256 p = 1) = V n p
        have := cpR_in (R 16) (R 4) (o1 := 0) (o2 := 0) (n := 256) hp
        rw [Nat.zero_add] at this
        rw [this]
        exact hP.2.2.2.2.2.2.2.2.2.2 p hp) q hq)
      have hV0 := sim_v h
      rw [Nat.add_zero] at hV0
      have hal := chgs_alias (c := cc) hdc cc 0 (V n) (by omega) (hV0.1 n (Nat.le_refl n)).2
      have h4 : cnt (fun q => chgs Dc 0 cc (V n) q && !V n q) 0 256 ≤ 4 := Nat.le_trans (chgs_new Dc cc 0 (V n)) d2
      generalize chgs Dc 0 cc (V n) = new at hgn hrn hal h4
      have c1 : cnt (cs g) 0 256 = cnt new 0 256 := sEq.cnt hgn (by decide)
      have c2 : cnt (rb gr) 0 256 = cnt new 0 256 := sEq.cnt hrn (by decide)
      have i1 : (∀ j, j < 32 → g j = M 171 j) ↔ sEq new (V n) := by
        rw [row_same g2 hP.2.2.2.2.2.2.2.1]
        constructor
        · exact fun z q hq => (hgn q hq).symm.trans ((z q hq).trans (hP.2.2.2.2.2.2.2.2.2.1 q hq))
        · exact fun z q hq => (hgn q hq).trans ((z q hq).trans (hP.2.2.2.2.2.2.2.2.2.1 q hq).symm)
      have i2 : (∀ j, 0 ≤ j → j < 256 → gr j = R 4 j) ↔ sEq new (V n) := by
        rw [bit_same q2 hB.1 (by decide) (by decide)]
        constructor
        · exact fun z q hq => (hrn q hq).symm.trans ((z q hq).trans (hP.2.2.2.2.2.2.2.2.2.2 q hq))
        · exact fun z q hq => (hrn q hq).trans ((z q hq).trans (hP.2.2.2.2.2.2.2.2.2.2 q hq).symm)
      have hcm := s_change_go (N := N) (A := A) (X := X) (F := F) (I := I) (J := J) (G := G) (K := K) (w := w) (e := e) (M := M) g2 g1 (by omega)
      have hrm := k_upd_go (N := N) (B := B) (Y := Y) (k := k) (t := t) (sl := sl) hu hB.1 r2 d6 q2 q1 (by omega)
      rw [c1] at hcm
      rw [c2] at hrm
      have hW := SimW_pre h g2 q2
      by_cases h24 : cnt new 0 256 ≤ 24
      · rw [if_pos h24] at hcm hrm
        by_cases hs : sEq new (V n)
        · rw [pif_pos (i1.mpr hs)] at hcm
          rw [pif_pos (i2.mpr hs)] at hrm
          exact ⟨0, V, n, c, jc, 0, _, F, J, G, K, w, e, _, by omega, hcl _ _ _ _ _ _ _ _ hcm rfl, hrm, SimW_to hW⟩
        · rw [pif_neg (fun z => hs (i1.mp z))] at hcm
          rw [pif_neg (fun z => hs (i2.mp z))] at hrm
          have hj4 : jc ≤ 4 := hJ.2.2.2.1
          have hj18 : R 0 18 = ni jc := hJ.2.2.2.2.2.2.1
          have hj174 : M 174 1 = ni jc := hJ.2.2.2.2.2.1
          have hje : wperm e 5 := hJ.2.2.2.2.2.2.2.1
          have harm : M 169 7 = R 0 17 := hP.2.2.1
          rcases hP.2.2.2.1 with a | a | a | a
          · obtain ⟨c', jc', M', F', e', R', z1, z2, z3⟩ := SimW_w0 (N := N) (A := A) (X := X) (B := B) (Y := Y) hW a hgn hrn h24 hal h4 hN
            rw [z1] at hcm
            rw [z2] at hrm
            exact ⟨0, _, n + 1, c', jc', 0, _, F', _, _, _, w, e', R', by omega, hcl _ _ _ _ _ _ _ _ hcm rfl, hrm, SimW_to z3⟩
          · obtain ⟨c', M', w', R', z1, z2, z3⟩ := SimW_w1 (N := N) (A := A) (X := X) (B := B) (Y := Y) hW hu (by omega)
            rw [s_write1 (M := zu M 173 g) (harm.trans a) (by omega), zb2_some, if_pos rfl, ck0, zb1_some, z1, zb2_some] at hcm
            rw [k_write1 (R := rU R gr) a, z2, zb2_some] at hrm
            exact ⟨-1, V, n, c', jc, 0, _, F, J, G, K, w', e, R', by omega, hcl _ _ _ _ _ _ _ _ hcm rfl, hrm, SimW_to z3⟩
          · obtain ⟨c', M', w', R', z1, z2, z3⟩ := SimW_w23 (N := N) (A := A) (X := X) (B := B) (Y := Y) (mk := 0) (J' := w1J (zu M 173 g) J (e jc)) (R' := wR1 (rU R gr) jc) hW (Or.inl rfl) hu hgn hrn h24 hal h4 rfl rfl (fun k k0 k1 k2 k3 k4 => by
              show zu (zu (zu (wR0 (rU R gr) jc) 14 _) 15 _) 0 _ k = _
              rw [zu_ne _ k0, zu_ne _ k4, zu_ne _ k3]
              unfold wR0
              rw [zu_ne _ k4, zu_ne _ k2, zu_ne _ k1]) rfl rfl rfl (by
              show upd (upd (R 15) jc 0) jc (ni (0 + cnt (dfS (rb gr) (rb (R 4))) 0 256)) = _
              rw [upd_upd]
              rfl) (by omega)
            rw [s_write2 (M := zu M 173 g) (c := jc) (harm.trans a) hj174 (by omega) hje (by omega), zb2_some, if_pos rfl, ck0, zb1_some, z1, zb2_some] at hcm
            have hrw := k_write_step (N := N) (B := B) (Y := Y) (R := rU R gr) (jc := jc) (show R 0 17 ≠ 1 by rw [a]; decide) hj18 (by omega) q2 hB.1 (by omega) rfl
            rw [show rU R gr 0 17 = 2 from a, if_pos rfl, z2, zb2_some] at hrw
            rw [hrw] at hrm
            exact ⟨-1, _, n, c', jc + 1, 1, _, F, _, _, _, w', e, R', by omega, hcl _ _ _ _ _ _ _ _ hcm rfl, hrm, SimW_to z3⟩
          · obtain ⟨c', M', w', R', z1, z2, z3⟩ := SimW_w23 (N := N) (A := A) (X := X) (B := B) (Y := Y) (mk := 1) (J' := w2J (zu M 173 g) J (e jc)) (R' := wR2 (rU R gr) jc) hW (Or.inr rfl) hu hgn hrn h24 hal h4 (by unfold w2J; rw [upd_upd]) rfl (fun k k0 k1 k2 k3 k4 => by
              show zu (zu (zu (zu (wR0 (rU R gr) jc) 14 _) 15 _) 0 _) 13 _ k = _
              rw [zu_ne _ k2, zu_ne _ k0, zu_ne _ k4, zu_ne _ k3]
              unfold wR0
              rw [zu_ne _ k4, zu_ne _ k2, zu_ne _ k1]) rfl (by
              show upd (upd (R 13) jc 0) jc 1 = _
              rw [upd_upd]
              rfl) rfl (by
              show upd (upd (R 15) jc 0) jc (ni (0 + cnt (dfS (rb gr) (rb (R 4))) 0 256)) = _
              rw [upd_upd]
              rfl) (by omega)
            rw [s_write3 (M := zu M 173 g) (c := jc) (harm.trans a) hj174 (by omega) hje (by omega), zb2_some, if_pos rfl, ck0, zb1_some, z1, zb2_some] at hcm
            have hrw := k_write_step (N := N) (B := B) (Y := Y) (R := rU R gr) (jc := jc) (show R 0 17 ≠ 1 by rw [a]; decide) hj18 (by omega) q2 hB.1 (by omega) rfl
            rw [show rU R gr 0 17 = 3 from a, if_neg (by decide), if_pos rfl, z2, zb2_some] at hrw
            rw [hrw] at hrm
            exact ⟨-1, _, n, c', jc + 1, 1, _, F, _, _, _, w', e, R', by omega, hcl _ _ _ _ _ _ _ _ hcm rfl, hrm, SimW_to z3⟩
      · rw [if_neg h24] at hcm hrm
        exact ⟨2, V, n, c, jc, 0, _, F, J, G, K, w, e, _, by omega, hcl _ _ _ _ _ _ _ _ hcm rfl, hrm, SimW_to hW⟩
    · have hpos := r3.resolve_left hr
      have hb16 : b01 (cpR (R 16) (R 4) 0 0 0 256) 256 := cpR_b01 hB.2.2.2.2.1 hB.1 (by decide)
      have hW := SimW_pre h hP.2.2.2.2.2.2.2.2.1 hb16
      rw [zu_id] at hW
      refine ⟨r, V, n, c, jc, 0, _, F, J, G, K, w, e, _, by omega, ?_, k_upd_refused hu hB.1 r2 hpos d6 (by omega), SimW_to hW⟩
      unfold f_ZoneNodes_update
      rw [cr0_4, zb1_some, cg169_8, zb1_some, hP.1, if_neg hu0, ck0, zb1_some, r1, zb1_some, if_neg hr, cr0_2, zb1_some, ck3, zb1_some, s_dempty, zb2_some]
end ZSIMT
