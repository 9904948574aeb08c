/-! a version's third step, on both sides -/
def SimI (s0 : Int32) (V : Nat → Nat → Bool) (n c jc : Nat) (M F I J G K : Nat → Nat → Int32) (w e : Nat → Nat) (R : Nat → Nat → Int32) : Prop :=
  SimA (M 0) (M 1) (M 2) (R 0 3) (R 9) (R 10) ∧ SimD (M 3) (M 4) (M 5) (R 0 14) (R 0 15) (R 11) ∧ SimB (R 4) (R 5) (R 13) (R 14) (R 16) (R 22) (R 23) ∧
  SimP s0 V n (M 169) (M 171) (M 173) (R 1 0) (R 0 17) (R 3 0) (R 2 0) (R 4) ∧ SimJ s0 V n jc 1 (M 174) J G K e 0 (R 0 18) (R 12) (R 13) (R 14) (R 15) ∧ R 13 (jc - 1) = 1 ∧ SimV V (n + 1) ∧
  SimS s0 V n 1 (M 202) (M 204) (M 206) (R 0 0) (R 0 1) (R 0 2) (R 1) (R 2) (R 3) (R 4) (R 6) (R 7) (R 8) ∧ SimS s0 V n 2 (M 207) (M 209) (M 211) (R 0 0) (R 0 1) (R 0 2) (R 1) (R 2) (R 3) (R 4) (R 6) (R 7) (R 8) ∧
  SimM F I w c (M 6) (R 0 24) (rlist R c) ∧
  SimT s0 V n 1 (M 202) (M 204) (M 206) (R 1 0) (R 6 1) (R 5) ((mlist F I w c).filter (ofS 1)) ∧ SimT s0 V n 2 (M 207) (M 209) (M 211) (R 1 0) (R 6 2) (R 5) ((mlist F I w c).filter (ofS 2))
theorem SimS_next {s0 : Int32} {V : Nat → Nat → Bool} {n s : Nat} {f fr fi : Nat → Int32} {r0 r1 r2 : Int32} {R1 R2 R3 R4 R6 R7 R8 R3' R4' : Nat → Int32} (h : SimS s0 V n s f fr fi r0 r1 r2 R1 R2 R3 R4 R6 R7 R8) (h3 : R3' s = R3 s) (h4 : ∀ q, q < 256 → R4' (256 * s + q) = R4 (256 * s + q)) : SimS s0 V (n + 1) s f fr fi r0 r1 r2 R1 R2 R3' R4' R6 R7 R8 := by
  obtain ⟨c0, c1, c2, c3, c4, c5, c6, c7, c8, c9, c10, c11, c12, c13⟩ := h
  refine ⟨c0, c1, c2, c3, c4, c5, c6, c7, by rw [h3]; exact c8, c9, c10, c11, c12, fun z => ?_⟩
  obtain ⟨a, a1, a2, a3, a4⟩ := c13 z
  refine ⟨a, by omega, by rw [h3]; exact a2, a3, fun q hq => ?_⟩
  rw [← a4 q hq]
  unfold rb
  rw [h4 q hq]
theorem SimT_next {s0 : Int32} {V : Nat → Nat → Bool} {n s : Nat} {f fr fi : Nat → Int32} {up0 up6 : Int32} {R5 : Nat → Int32} {S : List zMsg} (h : SimT s0 V n s f fr fi up0 up6 R5 S) : SimT s0 V (n + 1) s f fr fi up0 up6 R5 S := by
  rcases h with q | ⟨q1, q2, q3, q4, q | ⟨k0, b, wh, z1, z2, z⟩⟩
  · exact Or.inl q
  · exact Or.inr ⟨q1, q2, q3, q4, Or.inl q⟩
  · exact Or.inr ⟨q1, q2, q3, q4, Or.inr ⟨k0, b, wh, z1, by omega, z⟩⟩
theorem cs_exch (g gg kk : Nat → Int32) (q : Nat) : cs (fun j => (g j &&& (gg j ^^^ (-1))) ||| kk j) q = ((cs g q && !cs gg q) || cs kk q) := by
  unfold cs
  rw [bt_or, bt_and, bt_not _ (by omega)]
theorem cs_diff (g gg : Nat → Int32) (q : Nat) : cs (fun j => g j &&& (gg j ^^^ (-1))) q = (cs g q && !cs gg q) := by
  unfold cs
  rw [bt_and, bt_not _ (by omega)]
theorem zb2_ret (o : Option (Unit × zh_T)) : (zb2 o fun _ X19 => some ((), X19)) = o := by
  cases o with
  | none => rfl
  | some z => rfl
def inR (R : Nat → Nat → Int32) (jc : Nat) : Nat → Nat → Int32 := zu (zu R 4 (cpR (R 4) (R 14) 0 (256 * (jc - 1)) 0 256)) 3 (upd (R 3) 0 (R 12 (jc - 1) + 1))
def inR5 (R : Nat → Nat → Int32) : Nat → Nat → Int32 := zu (R3 (zu (inR R 5) 0 (upd (R 0) 18 4)) 0) 14 (fun j => if 0 ≤ j ∧ j < 1024 then R 14 (j + 256) else R 14 j)
section ZSIMI
variable {A B : Nat} {X Y : zh_T} {M F I J G K : Nat → Nat → Int32} {w e : Nat → Nat} {R : Nat → Nat → Int32} {N n c jc pd : Nat} {s0 : Int32} {V : Nat → Nat → Bool}
theorem k_inst (hc : R 0 18 = ni jc) (h1 : 1 ≤ jc) (h5 : jc ≤ 5) (hb13 : b01 (R 13) 6) (hb14 : b01 (R 14) 1536) (hN : 1100 < N) : f_ZoneNodesModel_install N (zR B Y R) B = f_ZoneNodesModel_notifyBoth N (zR B Y (if jc = 5 then inR5 R else inR R jc)) B := by
  unfold f_ZoneNodesModel_install
  have hcp := k_copy_inst (N := N) (B := B) (Y := Y) (x := jc - 1) (by omega) 256 0 N R hb14 (by omega) (by omega)
  rw [rg18, zb1_some, hc, ni_pred h1, show (0 : Int32) = ni 0 from rfl, hcp, zb2_some, rr6, zb1_some, rr19, zb1_some, ra12 (i := jc - 1) (by omega), zb1_some, rs3 (i := 0) (by decide), zb1_some, rg18, zb1_some]
  rw [show (zu (zu R 4 (cpR (R 4) (R 14) 0 (256 * (jc - 1)) 0 256)) 3 (upd (zu R 4 (cpR (R 4) (R 14) 0 (256 * (jc - 1)) 0 256) 3) 0 (zu R 4 (cpR (R 4) (R 14) 0 (256 * (jc - 1)) 0 256) 12 (jc - 1) + 1))) = inR R jc from rfl]
  have h18 : inR R jc 0 18 = ni jc := hc
  rw [h18]
  by_cases hj : jc = 5
  · subst hj
    rw [if_pos (show ni 5 = 5 from rfl), if_pos rfl, rq18, zb1_some]
    have r0 : inR R 5 0 = R 0 := rfl
    rw [r0]
    have hs3 := k_shift3_L (N := N) (B := B) (Y := Y) 4 0 N (zu (inR R 5) 0 (upd (R 0) 18 4)) hb13 (by omega) (by omega)
    have hs4 := k_shift_after (N := N) (B := B) (Y := Y) 1024 0 N (R3 (zu (inR R 5) 0 (upd (R 0) 18 4)) 0) hb14 (by omega) (by omega)
    rw [hs3, zb2_some, hs4, zb2_some, rck, zb1_some, zb2_ret]
    rfl
  · rw [if_neg (show ¬ ni jc = 5 from fun q => hj ((ni_inj (a := jc) (b := 5) (by omega) (by decide)).mp q)), if_neg hj, rck, zb1_some, zb2_ret]
/-- the class's rows -/
def inM (M J G K : Nat → Nat → Int32) (e : Nat → Nat) (jc : Nat) : Nat → Nat → Int32 := if jc = 5 then zu (prL M J G K (e (jc - 1))) 174 (upd (M 174) 1 4) else prL M J G K (e (jc - 1))
def inE (e : Nat → Nat) (jc : Nat) : Nat → Nat := if jc = 5 then rot e 0 4 else e
theorem simP_inst {up arm ser kn : Int32} (hP : SimP s0 V n (M 169) (M 171) (M 173) up arm ser kn (R 4)) (hJ : SimJ s0 V n jc 1 (M 174) J G K e 0 (R 0 18) (R 12) (R 13) (R 14) (R 15)) : SimP s0 V (n + 1) (prL M J G K (e (jc - 1)) 169) (prL M J G K (e (jc - 1)) 171) (prL M J G K (e (jc - 1)) 173) up arm (R 12 (jc - 1) + 1) kn (cpR (R 4) (R 14) 0 (256 * (jc - 1)) 0 256) := by
  obtain ⟨p1, p2, p3, p4, p5, p6, p7, p8, p9, p10, p11⟩ := hP
  obtain ⟨-, j2, j3, j4, -, j6, j7, j8, j9⟩ := hJ
  obtain ⟨⟨e1, e2, e3, e4, e5, e6, e7⟩, -⟩ := j9 (jc - 1) (by omega)
  have hn : n + 1 - jc + (jc - 1) = n := by omega
  rw [hn] at e1 e2 e7
  have hser : R 12 (jc - 1) + 1 = s0 + ni (n + 1) := by
    rw [e2, Int32.add_assoc, ni_succ]
  refine ⟨p1, p2, p3, p4, ?_, hser, p7, ?_, p9, ?_, ?_⟩
  · show J (e (jc - 1)) 2 + 1 = R 12 (jc - 1) + 1
    rw [e1, e2]
  · show okS (zmix 0 (M 171) (fun j => (M 171 j &&& (G (e (jc - 1)) j ^^^ (-1))) ||| K (e (jc - 1)) j))
    exact okS_mix _ fun i hi => byt_or (byt_and _ (p8 i hi)) (e5 i hi)
  · intro q hq
    show cs (zmix 0 (M 171) (fun j => (M 171 j &&& (G (e (jc - 1)) j ^^^ (-1))) ||| K (e (jc - 1)) j)) q = V (n + 1) q
    rw [cs_mix _ _ hq, cs_exch, p10 q hq, (e7 q hq).1, (e7 q hq).2.1]
    cases V n q <;> cases V (n + 1) q <;> rfl
  · intro q hq
    have e8 := (e7 q hq).2.2
    unfold rb at e8 ⊢
    rw [← e8]
    have := cpR_in (R 4) (R 14) (o1 := 0) (o2 := 256 * (jc - 1)) (n := 256) hq
    rw [Nat.zero_add] at this
    rw [this]
theorem simJ_inst4 (hJ : SimJ s0 V n jc 1 (M 174) J G K e 0 (R 0 18) (R 12) (R 13) (R 14) (R 15)) (hm : R 13 (jc - 1) = 1) (h4 : jc ≤ 4) (up : Int32) : SimJ s0 V (n + 1) jc 0 (M 174) J G K e up (R 0 18) (R 12) (R 13) (R 14) (R 15) := by
  obtain ⟨-, j2, j3, j4, -, j6, j7, j8, j9⟩ := hJ
  refine ⟨by omega, by omega, by omega, by omega, fun _ => rfl, j6, j7, j8, fun i hi => ?_⟩
  obtain ⟨e1, e2⟩ := j9 i hi
  refine ⟨e1, fun _ => ?_⟩
  by_cases hl : i = jc - 1
  · rw [hl]
    exact hm
  · exact e2 (by omega)
theorem simJ_inst5 (hJ : SimJ s0 V n 5 1 (M 174) J G K e 0 (R 0 18) (R 12) (R 13) (R 14) (R 15)) (hm : R 13 4 = 1) (up : Int32) : SimJ s0 V (n + 1) 4 0 (upd (M 174) 1 4) J G K (rot e 0 4) up 4 (shI (R 12) 0 4) (shI (R 13) 0 4) (fun j => if 0 ≤ j ∧ j < 1024 then R 14 (j + 256) else R 14 j) (shI (R 15) 0 4) := by
  obtain ⟨-, j2, j3, j4, -, j6, j7, j8, j9⟩ := hJ
  refine ⟨by omega, by omega, by omega, by omega, fun _ => rfl, rfl, rfl, rot_perm j8 (by omega) (by omega), fun i hi => ?_⟩
  obtain ⟨e1, e2⟩ := j9 (i + 1) (by omega)
  have hr : rot e 0 4 i = e (i + 1) := by
    unfold rot va_up shf
    rw [if_neg (by omega), if_pos (by omega)]
  have s12 : shI (R 12) 0 4 i = R 12 (i + 1) := if_pos ⟨Nat.zero_le i, hi⟩
  have s13 : shI (R 13) 0 4 i = R 13 (i + 1) := if_pos ⟨Nat.zero_le i, hi⟩
  have s15 : shI (R 15) 0 4 i = R 15 (i + 1) := if_pos ⟨Nat.zero_le i, hi⟩
  have hb : n + 1 + 0 - 4 + i = n + 1 - 5 + (i + 1) := by omega
  rw [hr]
  refine ⟨?_, fun _ => ?_⟩
  · unfold SimE at e1 ⊢
    rw [s12, s13, s15, hb]
    obtain ⟨a1, a2, a3, a4, a5, a6, a7⟩ := e1
    refine ⟨a1, a2, a3, a4, a5, a6, fun q hq => ⟨(a7 q hq).1, (a7 q hq).2.1, ?_⟩⟩
    rw [← (a7 q hq).2.2]
    unfold rb
    have hx : (fun j => if 0 ≤ j ∧ j < 1024 then R 14 (j + 256) else R 14 j) (256 * i + q) = R 14 (256 * (i + 1) + q) := by
      show (if 0 ≤ 256 * i + q ∧ 256 * i + q < 1024 then R 14 (256 * i + q + 256) else R 14 (256 * i + q)) = _
      rw [if_pos (show 0 ≤ 256 * i + q ∧ 256 * i + q < 1024 by omega), show 256 * i + q + 256 = 256 * (i + 1) + q by omega]
    rw [hx]
  · rw [s13]
    by_cases hl : i = 3
    · rw [hl]
      exact hm
    · exact e2 (by omega)
theorem shI_b01 {g : Nat → Int32} (h : b01 g 6) : b01 (shI g 0 4) 6 := by
  intro i hi
  unfold shI
  split
  · exact h (i + 1) (by omega)
  · exact h i hi
/-- step 3 on both sides; NOTIFYs are still to come -/
theorem Sim_inst (h : SimI s0 V n c jc M F I J G K w e R) (hN : 1100 < N) : ∃ jc' R', f_ZoneNodesModel_install N (zR B Y R) B = f_ZoneNodesModel_notifyBoth N (zR B Y R') B ∧ Sim s0 V (n + 1) c jc' 0 (inM M J G K e jc) F I J G K w (inE e jc) R' := by
  obtain ⟨hA, hD, ⟨b1, b2, b3, b4, b5, b6, b7⟩, hP, hJ, hm, hV, hS1, hS2, hM, hT1, hT2⟩ := h
  have hJ' := hJ
  obtain ⟨-, j2, j3, j4, -, j6, j7, j8, j9⟩ := hJ'
  have hk := k_inst (N := N) (B := B) (Y := Y) j7 (by omega) (by omega) b3 b4 hN
  have hP' := simP_inst hP hJ
  have r4 : ∀ s, 1 ≤ s → ∀ q, q < 256 → cpR (R 4) (R 14) 0 (256 * (jc - 1)) 0 256 (256 * s + q) = R 4 (256 * s + q) := fun s hs q hq => cpR_out _ _ (Or.inr (by omega))
  have bb4 : b01 (cpR (R 4) (R 14) 0 (256 * (jc - 1)) 0 256) 768 := cpR_b01 b1 b4 (by omega)
  by_cases h5 : jc = 5
  · subst h5
    rw [if_pos rfl] at hk
    refine ⟨4, inR5 R, hk, ?_⟩
    have hJ5 := simJ_inst5 hJ hm (R 1 0)
    have eM : inM M J G K e 5 = zu (prL M J G K (e (5 - 1))) 174 (upd (M 174) 1 4) := if_pos rfl
    have eE : inE e 5 = rot e 0 4 := if_pos rfl
    rw [eM, eE]
    have bb14 : b01 (fun j => if 0 ≤ j ∧ j < 1024 then R 14 (j + 256) else R 14 j) 1536 := by
      intro i hi
      show (if 0 ≤ i ∧ i < 1024 then R 14 (i + 256) else R 14 i) = 0 ∨ (if 0 ≤ i ∧ i < 1024 then R 14 (i + 256) else R 14 i) = 1
      split
      · exact b4 (i + 256) (by omega)
      · exact b4 i hi
    exact ⟨hA, hD, ⟨bb4, b2, shI_b01 b3, bb14, b5, b6, b7⟩, hP', hJ5, hV, SimS_next hS1 rfl (r4 1 (by omega)), SimS_next hS2 rfl (r4 2 (by omega)), hM, SimT_next hT1, SimT_next hT2⟩
  · rw [if_neg h5] at hk
    refine ⟨jc, inR R jc, hk, ?_⟩
    have hJ4 := simJ_inst4 hJ hm (by omega) (R 1 0)
    have eM : inM M J G K e jc = prL M J G K (e (jc - 1)) := if_neg h5
    have eE : inE e jc = e := if_neg h5
    rw [eM, eE]
    exact ⟨hA, hD, ⟨bb4, b2, b3, b4, b5, b6, b7⟩, hP', hJ4, hV, SimS_next hS1 rfl (r4 1 (by omega)), SimS_next hS2 rfl (r4 2 (by omega)), hM, SimT_next hT1, SimT_next hT2⟩
end ZSIMI
