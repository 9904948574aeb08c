/-! class against reference: what holds between two calls. Ghosts: s0 the first serial, n how many versions there have been since, V k the records of version k. -/
def SimA (M0 M1 M2 : Nat → Int32) (clk : Int32) (R9 R10 : Nat → Int32) : Prop := M0 6 = clk ∧ ∀ k, k < 3 → M1 k = R10 k ∧ M2 k = R9 k ∧ (R9 k = 0 ∨ R9 k = 1)
def SimD (M3 M4 M5 : Nat → Int32) (rn rc : Int32) (R11 : Nat → Int32) : Prop := ∃ (nc cc : Nat) (Dn Dc : Nat → zD), nc ≤ 4 ∧ cc ≤ 4 ∧ M3 2 = ni nc ∧ rn = ni nc ∧ M3 3 = ni cc ∧ rc = ni cc ∧
  (∀ i, i < nc → dok 5 (Dn i) ∧ M4 i = cdd (Dn i) ∧ rdr (fun _ => R11) i (Dn i)) ∧ (∀ i, i < cc → dok 4 (Dc i) ∧ M5 i = cdd (Dc i) ∧ rdr (fun _ => R11) (4 + i) (Dc i))
def SimB (R4 R5 R13 R14 R16 R22 R23 : Nat → Int32) : Prop := b01 R4 768 ∧ b01 R5 768 ∧ b01 R13 6 ∧ b01 R14 1536 ∧ b01 R16 256 ∧ b01 R22 96 ∧ b01 R23 96
def SimP (s0 : Int32) (V : Nat → Nat → Bool) (n : Nat) (M169 M171 : Nat → Int32) (M173 : Nat → Int32) (up arm ser kn : Int32) (R4 : Nat → Int32) : Prop :=
  M169 8 = up ∧ (up = 0 ∨ up = 1) ∧ M169 7 = arm ∧ (arm = 0 ∨ arm = 1 ∨ arm = 2 ∨ arm = 3) ∧ M169 6 = ser ∧ ser = s0 + ni n ∧ kn = 1 ∧ okS M171 ∧ okS M173 ∧ sEq (cs M171) (V n) ∧ ∀ q, q < 256 → rb R4 q = V n q
/-- the journal: c entries from version b on; pd = 1: the last one's step 3 is not done -/
def SimE (s0 : Int32) (V : Nat → Nat → Bool) (b i : Nat) (Ji Gi Ki : Nat → Int32) (R12 R13 R14 R15 : Nat → Int32) : Prop :=
  Ji 2 = s0 + ni (b + i) ∧ R12 i = s0 + ni (b + i) ∧ Ji 3 = R13 i ∧ okS Gi ∧ okS Ki ∧ R15 i = ni (cnt (dfS (V (b + i + 1)) (V (b + i))) 0 256) ∧
  ∀ q, q < 256 → cs Gi q = (V (b + i) q && !V (b + i + 1) q) ∧ cs Ki q = (V (b + i + 1) q && !V (b + i) q) ∧ rb R14 (256 * i + q) = V (b + i + 1) q
def SimJ (s0 : Int32) (V : Nat → Nat → Bool) (n c pd : Nat) (M174 : Nat → Int32) (J G K : Nat → Nat → Int32) (e : Nat → Nat) (up re : Int32) (R12 R13 R14 R15 : Nat → Int32) : Prop :=
  pd ≤ 1 ∧ pd ≤ c ∧ c ≤ n + pd ∧ c ≤ 4 + pd ∧ (up = 1 → pd = 0) ∧ M174 1 = ni c ∧ re = ni c ∧ wperm e 5 ∧ ∀ i, i < c → SimE s0 V (n + pd - c) i (J (e i)) (G (e i)) (K (e i)) R12 R13 R14 R15 ∧ (i + 1 < c + (1 - pd) → R13 i = 1)
def SimV (V : Nat → Nat → Bool) (m : Nat) : Prop := (∀ k, k ≤ m → cnt (V k) 0 256 ≤ 24 ∧ ∀ a, a < 8 → cnt (V k) (32 * a + 8) 8 ≤ 1) ∧ ∀ k, k < m → cnt (fun q => V (k + 1) q && !V k q) 0 256 ≤ 4
/-- a secondary (its object's fields f, its records' and its incoming rows) against place s of the reference's rows; rx: refresh, retry, expire -/
def SimS (s0 : Int32) (V : Nat → Nat → Bool) (n s : Nat) (f fr fi : Nat → Int32) (r0 r1 r2 : Int32) (R1 R2 R3 R4 R6 R7 R8 : Nat → Int32) : Prop :=
  f 0 = ni s ∧ f 1 = r0 ∧ f 2 = r1 ∧ f 3 = r2 ∧ f 6 = R1 s ∧ (R1 s = 0 ∨ R1 s = 1) ∧ f 7 = R2 s ∧ (R2 s = 0 ∨ R2 s = 1) ∧ f 8 = R3 s ∧ f 12 = R8 s ∧
  (R1 s = 1 → f 9 = R6 s ∧ (R6 s = 0 → f 10 = R7 s) ∧ (R6 s = 1 → f 11 = R7 s)) ∧ okS fr ∧ okS fi ∧
  (R2 s = 1 → ∃ a, a ≤ n ∧ R3 s = s0 + ni a ∧ sEq (cs fr) (V a) ∧ ∀ q, q < 256 → rb R4 (256 * s + q) = V a q)
/-- a message of the class against one of the reference -/
def mrel (m : zMsg) (r : zRm) : Prop :=
  m.1 1 = r.1 ∧ m.1 2 = r.2.1 ∧ m.1 4 = r.2.2.1 ∧ (r.1 = 1 ∨ r.1 = 2 ∨ r.1 = 3 ∨ r.1 = 4 ∨ r.1 = 5) ∧ (r.2.1 = 1 ∨ r.2.1 = 2) ∧
  (r.1 = 4 → m.1 3 = r.2.2.2.2.2.1) ∧ (r.1 = 5 → m.1 5 = r.2.2.2.1 ∧ m.1 6 = r.2.2.2.2.1 ∧ m.1 9 = r.2.2.2.2.2.1 ∧ m.1 8 = r.2.2.2.2.2.2) ∧ (r.1 ≠ 5 → r.2.2.2.1 = 0 ∧ r.2.2.2.2.1 = 0)
/-- PARTs under way: number k0 first; from what is there (b) they lead to tgt -/
def partsOk (sr wh : Int32) (tgt : Nat → Bool) : List zMsg → Nat → (Nat → Bool) → Prop
  | [], _, _ => False
  | m :: r, k0, b => ∃ (l : Nat) (it : Nat → Nat × Nat), l ≤ 4 ∧ (∀ i, i < l → (it i).1 < 2 ∧ (it i).2 < 256 ∧ m.2 i = cod (it i).1 (it i).2) ∧ m.1 1 = 5 ∧ m.1 4 = sr ∧ m.1 5 = ni k0 ∧ m.1 6 = ni l ∧ m.1 7 = wh ∧
    ((r = [] ∧ m.1 8 = 1 ∧ sEq (appI it 0 l b) tgt) ∨ (r ≠ [] ∧ m.1 8 = 0 ∧ partsOk sr wh tgt r (k0 + 1) (appI it 0 l b)))
/-- the stream of secondary s: nothing, its FETCH, or the PARTs that answer it -/
def SimT (s0 : Int32) (V : Nat → Nat → Bool) (n s : Nat) (f fr fi : Nat → Int32) (up0 up6 : Int32) (R5 : Nat → Int32) (S : List zMsg) : Prop :=
  S = [] ∨ (up0 = 1 ∧ f 6 = 1 ∧ f 9 = 2 ∧ up6 = 2 ∧
    ((∃ m, S = [m] ∧ m.1 1 = 4 ∧ m.1 3 = f 7 ∧ m.1 4 = f 8) ∨
     ∃ (k0 b : Nat) (wh : Int32), k0 + S.length ≤ 28 ∧ b ≤ n ∧ (wh = 0 ∨ wh = 1) ∧ (wh = 0 → f 7 = 1) ∧ (∀ q, q < 256 → rb R5 (256 * s + q) = V b q) ∧
       partsOk (s0 + ni b) wh (V b) S k0 (if k0 = 0 then (if wh = 0 then cs fr else fun _ => false) else cs fi)))
def SimM (F I : Nat → Nat → Int32) (w : Nat → Nat) (c : Nat) (M6 : Nat → Int32) (rm : Int32) (L : List zRm) : Prop :=
  c ≤ 80 ∧ M6 1 = ni c ∧ rm = ni c ∧ wperm w 80 ∧ L.length = c ∧ (∀ (i : Nat) (m : zMsg) (r : zRm), (mlist F I w c)[i]? = some m → L[i]? = some r → mrel m r) ∧ (mlist F I w c).countP (fun m => !onS m) ≤ 24
/-- all of it -/
def Sim (s0 : Int32) (V : Nat → Nat → Bool) (n c jc pd : Nat) (M F I J G K : Nat → Nat → Int32) (w e : Nat → Nat) (R : Nat → Nat → Int32) : Prop :=
  SimA (M 0) (M 1) (M 2) (R 0 3) (R 9) (R 10) ∧ SimD (M 3) (M 4) (M 5) (R 0 14) (R 0 15) (R 11) ∧ SimB (R 4) (R 5) (R 13) (R 14) (R 16) (R 22) (R 23) ∧
  SimP s0 V n (M 169) (M 171) (M 173) (R 1 0) (R 0 17) (R 3 0) (R 2 0) (R 4) ∧ SimJ s0 V n jc pd (M 174) J G K e (R 1 0) (R 0 18) (R 12) (R 13) (R 14) (R 15) ∧ SimV V (n + pd) ∧
  SimS s0 V n 1 (M 202) (M 204) (M 206) (R 0 0) (R 0 1) (R 0 2) (R 1) (R 2) (R 3) (R 4) (R 6) (R 7) (R 8) ∧ SimS s0 V n 2 (M 207) (M 209) (M 211) (R 0 0) (R 0 1) (R 0 2) (R 1) (R 2) (R 3) (R 4) (R 6) (R 7) (R 8) ∧
  SimM F I w c (M 6) (R 0 24) (rlist R c) ∧
  SimT s0 V n 1 (M 202) (M 204) (M 206) (R 1 0) (R 6 1) (R 5) ((mlist F I w c).filter (ofS 1)) ∧ SimT s0 V n 2 (M 207) (M 209) (M 211) (R 1 0) (R 6 2) (R 5) ((mlist F I w c).filter (ofS 2))
section ZSIM
variable {A B : Nat} {X Y : zh_T} {M F I J G K : Nat → Nat → Int32} {w e : Nat → Nat} {R : Nat → Nat → Int32} {N n c jc pd : Nat} {s0 : Int32} {V : Nat → Nat → Bool}
/-! key -/
theorem o_key (h : Sim s0 V n c jc pd M F I J G K w e R) (k x : Int32) : ∃ r M' R', f_ZoneNodes_key N (zC A X M F I J G K w e) A k x = some (r, zC A X M' F I J G K w e) ∧ f_ZoneNodesModel_key N (zR B Y R) B k x = some (r, zR B Y R') ∧ Sim s0 V n c jc pd M' F I J G K w e R' := by
  unfold f_ZoneNodes_key f_ZoneNodesModel_key
  rw [s_within, zb1_some]
  by_cases h1 : 0 ≤ k
  · by_cases h2 : k ≤ 2
    · have hk := ni_of h1
      have hl : k.toNatClampNeg < 3 := by
        rw [hk] at h2
        have := (ni_le (a := k.toNatClampNeg) (b := 2) (Int32.toNatClampNeg_lt k) (by decide)).mp h2
        omega
      have hc : 0 ≤ k ∧ k ≤ 2 := ⟨h1, h2⟩
      rw [if_pos hc, if_neg (by decide), if_neg (Int32.not_lt.mpr h1), if_pos h2]
      generalize k.toNatClampNeg = kk at hk hl
      subst hk
      rw [cr0_0, zb1_some, C_si (k := 1) (len := 3) (by decide) ⟨by decide, by decide⟩ rfl hl (by decide), zb1_some, cr0_1, zb1_some, C_sz (k := 2) (len := 3) (by decide) ⟨by decide, by decide⟩ rfl hl (by decide) (Or.inr rfl), zb1_some]
      rw [rr12, zb1_some, rs9 hl (Or.inr rfl), zb1_some, rr13, zb1_some, rs10 hl, zb1_some]
      refine ⟨1, _, _, rfl, rfl, ?_⟩
      obtain ⟨hA, hrest⟩ := h
      refine ⟨⟨hA.1, fun j hj => ?_⟩, hrest⟩
      show upd (M 1) kk x j = upd (R 10) kk x j ∧ upd (M 2) kk 1 j = upd (R 9) kk 1 j ∧ (upd (R 9) kk 1 j = 0 ∨ upd (R 9) kk 1 j = 1)
      obtain ⟨a1, a2, a3⟩ := hA.2 j hj
      unfold upd
      by_cases ej : j = kk
      · rw [if_pos ej, if_pos ej, if_pos ej, if_pos ej]
        exact ⟨rfl, rfl, Or.inr rfl⟩
      · rw [if_neg ej, if_neg ej, if_neg ej, if_neg ej]
        exact ⟨a1, a2, a3⟩
    · have hc : ¬ (0 ≤ k ∧ k ≤ 2) := fun q => h2 q.2
      rw [if_neg hc, if_pos rfl, if_neg (Int32.not_lt.mpr h1), if_neg h2]
      exact ⟨0, M, R, rfl, rfl, h⟩
  · have hc : ¬ (0 ≤ k ∧ k ≤ 2) := fun q => h1 q.1
    rw [if_neg hc, if_pos rfl, if_pos (Int32.not_le.mp h1)]
    exact ⟨0, M, R, rfl, rfl, h⟩
end ZSIM
