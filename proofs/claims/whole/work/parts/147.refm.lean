/-! the reference's methods: its messages -/
abbrev zRm : Type := Int32 × Int32 × Int32 × Int32 × Int32 × Int32 × Int32
def rmsg (R : Nat → Nat → Int32) (i : Nat) : zRm := (R 17 i, R 18 i, R 19 i, R 20 i, R 21 i, R 22 i, R 23 i)
def rlist (R : Nat → Nat → Int32) (c : Nat) : List zRm := (List.range c).map (rmsg R)
theorem rlist_len (R : Nat → Nat → Int32) (c : Nat) : (rlist R c).length = c := by simp [rlist]
theorem rlist_get (R : Nat → Nat → Int32) {c i : Nat} (h : i < c) : (rlist R c)[i]? = some (rmsg R i) := by simp [rlist, h]
theorem rlist_out (R : Nat → Nat → Int32) {c i : Nat} (h : c ≤ i) : (rlist R c)[i]? = none := by simp [rlist, h]
/-- flags are 0 or 1 -/
def b01 (g : Nat → Int32) (n : Nat) : Prop := ∀ i, i < n → g i = 0 ∨ g i = 1
theorem b01_upd {g : Nat → Int32} {n i : Nat} {v : Int32} (h : b01 g n) (hv : v = 0 ∨ v = 1) : b01 (upd g i v) n := by
  intro j hj
  unfold upd
  split
  · exact hv
  · exact h j hj
/-- rows 17 .. 23 with place a taken out -/
def shI (g : Nat → Int32) (a b : Nat) : Nat → Int32 := fun q => if a ≤ q ∧ q < b then g (q + 1) else g q
def R7 (R : Nat → Nat → Int32) (a b : Nat) : Nat → Nat → Int32 := fun k => if 17 ≤ k ∧ k ≤ 23 then shI (R k) a b else R k
def R7s (R : Nat → Nat → Int32) (j : Nat) : Nat → Nat → Int32 := fun k => if 17 ≤ k ∧ k ≤ 23 then upd (R k) j (R k (j + 1)) else R k
theorem R7s_chain (R : Nat → Nat → Int32) (j : Nat) : zu (zu (zu (zu (zu (zu (zu R 17 (upd (R 17) j (R 17 (j + 1)))) 18 (upd (R 18) j (R 18 (j + 1)))) 19 (upd (R 19) j (R 19 (j + 1)))) 20 (upd (R 20) j (R 20 (j + 1)))) 21 (upd (R 21) j (R 21 (j + 1)))) 22 (upd (R 22) j (R 22 (j + 1)))) 23 (upd (R 23) j (R 23 (j + 1))) = R7s R j := by
  funext k
  unfold zu R7s
  by_cases h1 : k = 23
  · subst h1; rfl
  by_cases h2 : k = 22
  · subst h2; rfl
  by_cases h3 : k = 21
  · subst h3; rfl
  by_cases h4 : k = 20
  · subst h4; rfl
  by_cases h5 : k = 19
  · subst h5; rfl
  by_cases h6 : k = 18
  · subst h6; rfl
  by_cases h7 : k = 17
  · subst h7; rfl
  rw [if_neg h1, if_neg h2, if_neg h3, if_neg h4, if_neg h5, if_neg h6, if_neg h7, if_neg (by omega)]
theorem R7_nil (R : Nat → Nat → Int32) {a b : Nat} (h : b ≤ a) : R7 R a b = R := by
  funext k
  unfold R7
  split
  · funext q
    exact if_neg (by omega)
  · rfl
theorem R7_step (R : Nat → Nat → Int32) {j b : Nat} (h : j < b) : R7 (R7s R j) (j + 1) b = R7 R j b := by
  funext k
  unfold R7 R7s
  by_cases hk : 17 ≤ k ∧ k ≤ 23
  · rw [if_pos hk, if_pos hk, if_pos hk]
    funext q
    unfold shI upd
    by_cases e1 : q = j
    · subst e1
      rw [if_neg (by omega), if_pos rfl, if_pos ⟨Nat.le_refl q, h⟩]
    · by_cases e2 : j + 1 ≤ q ∧ q < b
      · rw [if_pos e2, if_neg (by omega), if_pos (by omega)]
      · rw [if_neg e2, if_neg e1, if_neg (by omega)]
  · rw [if_neg hk, if_neg hk, if_neg hk]
section ZREFM
variable {B : Nat} {Y : zh_T} {R : Nat → Nat → Int32} {N : Nat}
theorem k_place {X : zh_T} {a t v : Nat} (h : 1 ≤ t) : f_ZoneNodesModel_place N X (ni a) (ni t) (ni v) = some (ni (pl a t v)) := by
  unfold f_ZoneNodesModel_place pl
  rw [show (32 : Int32) = ni 32 from rfl, show (8 : Int32) = ni 8 from rfl, ni_pred h, ni_mul, ni_mul, ni_add, ni_add]
theorem k_rest {s : Nat} (hs : s < 3) (v : Int32) : f_ZoneNodesModel_rest N (zR B Y R) B (ni s) v = some ((), zR B Y (zu (zu R 6 (upd (R 6) s 0)) 7 (upd (R 7) s (R 0 3 + v)))) := by
  unfold f_ZoneNodesModel_rest
  rw [rr9, zb1_some, rs6 hs, zb1_some, rr10, zb1_some, rg3, zb1_some, rs7 hs, zb1_some, zu_ne _ (by decide : (0 : Nat) ≠ 6), zu_ne _ (by decide : (7 : Nat) ≠ 6)]
theorem k_refreshed {s : Nat} (hs : s < 3) : f_ZoneNodesModel_refreshed N (zR B Y R) B (ni s) = some ((), zR B Y (zu (zu (zu R 6 (upd (R 6) s 0)) 7 (upd (R 7) s (R 0 3 + R 0 0))) 8 (upd (R 8) s (R 0 3 + R 0 2)))) := by
  unfold f_ZoneNodesModel_refreshed
  rw [rg0, zb1_some, rck, zb1_some, k_rest hs, zb2_some, rr11, zb1_some, rg3, zb1_some, rg2, zb1_some, rs8 hs, zb1_some]
  rfl
theorem k_isMessage {c : Nat} (hc : R 0 24 = ni c) (hc96 : c ≤ 96) (i : Int32) : f_ZoneNodesModel_isMessage N (zR B Y R) B i = some (if 0 ≤ i ∧ i.toNatClampNeg < c then 1 else 0) := by
  unfold f_ZoneNodesModel_isMessage
  by_cases h0 : 0 ≤ i
  · have hi := ni_of h0
    have hl := Int32.toNatClampNeg_lt i
    have hle : (ni c ≤ i) ↔ c ≤ i.toNatClampNeg := by
      have h2 := ni_le (a := c) (b := i.toNatClampNeg) (by omega) (by omega)
      rwa [← hi] at h2
    rw [if_neg (Int32.not_lt.mpr h0), rg24, zb1_some, hc]
    by_cases h1 : i.toNatClampNeg < c
    · have h5 : 0 ≤ i ∧ i.toNatClampNeg < c := ⟨h0, h1⟩
      have h6 : ¬ ni c ≤ i := fun q => absurd (hle.mp q) (by omega)
      rw [if_neg h6, if_pos h5]
    · have h5 : ¬ (0 ≤ i ∧ i.toNatClampNeg < c) := fun q => h1 q.2
      rw [if_pos (hle.mpr (by omega)), if_neg h5]
  · have h5 : ¬ (0 ≤ i ∧ i.toNatClampNeg < c) := fun q => h0 q.1
    rw [if_pos (Int32.not_le.mp h0), if_neg h5]
/-- a message behind the others -/
def Rapp (R : Nat → Nat → Int32) (c : Nat) (m : zRm) : Nat → Nat → Int32 :=
  zu (zu (zu (zu (zu (zu (zu (zu R 17 (upd (R 17) c m.1)) 18 (upd (R 18) c m.2.1)) 19 (upd (R 19) c m.2.2.1)) 20 (upd (R 20) c m.2.2.2.1)) 21 (upd (R 21) c m.2.2.2.2.1)) 22 (upd (R 22) c m.2.2.2.2.2.1)) 23 (upd (R 23) c m.2.2.2.2.2.2)) 0 (upd (R 0) 24 (ni (c + 1)))
theorem k_append {c : Nat} (hc : R 0 24 = ni c) (hc96 : c < 96) (a b d n z f l : Int32) (hf : f = 0 ∨ f = 1) (hl : l = 0 ∨ l = 1) : f_ZoneNodesModel_append N (zR B Y R) B a b d n z f l = some ((), zR B Y (Rapp R c (a, b, d, n, z, f, l))) := by
  unfold f_ZoneNodesModel_append
  rw [rr25, zb1_some, rg24, zb1_some, hc, rs17 hc96, zb1_some]
  rw [rr26, zb1_some, rg24, zb1_some, zu_ne _ (by decide : (0 : Nat) ≠ 17), hc, rs18 hc96, zb1_some]
  rw [rr27, zb1_some, rg24, zb1_some, zu_ne _ (by decide : (0 : Nat) ≠ 18), zu_ne _ (by decide : (0 : Nat) ≠ 17), hc, rs19 hc96, zb1_some]
  rw [rr28, zb1_some, rg24, zb1_some, zu_ne _ (by decide : (0 : Nat) ≠ 19), zu_ne _ (by decide : (0 : Nat) ≠ 18), zu_ne _ (by decide : (0 : Nat) ≠ 17), hc, rs20 hc96, zb1_some]
  rw [rr29, zb1_some, rg24, zb1_some, zu_ne _ (by decide : (0 : Nat) ≠ 20), zu_ne _ (by decide : (0 : Nat) ≠ 19), zu_ne _ (by decide : (0 : Nat) ≠ 18), zu_ne _ (by decide : (0 : Nat) ≠ 17), hc, rs21 hc96, zb1_some]
  rw [rr30, zb1_some, rg24, zb1_some, zu_ne _ (by decide : (0 : Nat) ≠ 21), zu_ne _ (by decide : (0 : Nat) ≠ 20), zu_ne _ (by decide : (0 : Nat) ≠ 19), zu_ne _ (by decide : (0 : Nat) ≠ 18), zu_ne _ (by decide : (0 : Nat) ≠ 17), hc, rs22 hc96 hf, zb1_some]
  rw [rr31, zb1_some, rg24, zb1_some, zu_ne _ (by decide : (0 : Nat) ≠ 22), zu_ne _ (by decide : (0 : Nat) ≠ 21), zu_ne _ (by decide : (0 : Nat) ≠ 20), zu_ne _ (by decide : (0 : Nat) ≠ 19), zu_ne _ (by decide : (0 : Nat) ≠ 18), zu_ne _ (by decide : (0 : Nat) ≠ 17), hc, rs23 hc96 hl, zb1_some]
  rw [rg24, zb1_some, zu_ne _ (by decide : (0 : Nat) ≠ 23), zu_ne _ (by decide : (0 : Nat) ≠ 22), zu_ne _ (by decide : (0 : Nat) ≠ 21), zu_ne _ (by decide : (0 : Nat) ≠ 20), zu_ne _ (by decide : (0 : Nat) ≠ 19), zu_ne _ (by decide : (0 : Nat) ≠ 18), zu_ne _ (by decide : (0 : Nat) ≠ 17), hc, ni_succ, rq24, zb1_some]
  rfl
theorem Rapp_list {c : Nat} (R : Nat → Nat → Int32) (m : zRm) : rlist (Rapp R c m) (c + 1) = rlist R c ++ [m] := by
  apply List.ext_getElem?
  intro i
  by_cases h : i < c
  · rw [rlist_get _ (by omega), List.getElem?_append_left (by rw [rlist_len]; exact h), rlist_get _ h]
    have hne : i ≠ c := by omega
    unfold rmsg Rapp
    simp [zu, upd, hne]
  · by_cases h2 : i = c
    · subst h2
      rw [rlist_get _ (by omega), List.getElem?_append_right (by rw [rlist_len]; exact Nat.le_refl i), rlist_len, Nat.sub_self]
      unfold rmsg Rapp
      simp [zu, upd]
    · rw [rlist_out _ (by omega), List.getElem?_eq_none]
      rw [List.length_append, rlist_len]
      simp
      omega
theorem k_remove_L {c : Nat} : ∀ (m j f : Nat) (R : Nat → Nat → Int32), R 0 24 = ni c → c < 96 → b01 (R 22) 96 → b01 (R 23) 96 → j + m = c → m < f →
    L_ZoneNodesModel_remove_12 N B f (zR B Y R) (ni j) = some ((), zR B Y (R7 R j c)) := by
  intro m
  induction m with
  | zero =>
    intro j f R hc hc96 hb1 hb2 h3 h4
    obtain ⟨g, rfl⟩ : ∃ g, f = g + 1 := ⟨f - 1, by omega⟩
    rw [L_ZoneNodesModel_remove_12, rg24, zb1_some, hc, if_pos ((zle (i := j) (m := c) (by omega) (by omega)).mpr (by omega)), R7_nil R (by omega)]
  | succ m ih =>
    intro j f R hc hc96 hb1 hb2 h3 h4
    obtain ⟨g, rfl⟩ : ∃ g, f = g + 1 := ⟨f - 1, by omega⟩
    have j1 : j + 1 < 96 := by omega
    have j0 : j < 96 := by omega
    rw [L_ZoneNodesModel_remove_12, rg24, zb1_some, hc, if_neg (fun q => absurd ((zle (i := j) (m := c) (by omega) (by omega)).mp q) (by omega)), ni_succ]
    rw [rr25, zb1_some, zb1_some, ra17 j1, zb1_some, rs17 j0, zb1_some]
    rw [rr26, zb1_some, zb1_some, ra18 j1, zb1_some, rs18 j0, zb1_some]
    rw [rr27, zb1_some, zb1_some, ra19 j1, zb1_some, rs19 j0, zb1_some]
    rw [rr28, zb1_some, zb1_some, ra20 j1, zb1_some, rs20 j0, zb1_some]
    rw [rr29, zb1_some, zb1_some, ra21 j1, zb1_some, rs21 j0, zb1_some]
    rw [rr30, zb1_some, zb1_some, ra22 j1, zb1_some, rs22 j0 (show _ from ?h22), zb1_some]
    rw [rr31, zb1_some, zb1_some, ra23 j1, zb1_some, rs23 j0 (show _ from ?h23), zb1_some]
    case h22 => exact hb1 (j + 1) j1
    case h23 => exact hb2 (j + 1) j1
    have e := ih (j + 1) g (R7s R j) hc hc96 (by
      intro i hi
      show upd (R 22) j (R 22 (j + 1)) i = 0 ∨ upd (R 22) j (R 22 (j + 1)) i = 1
      exact b01_upd hb1 (hb1 (j + 1) j1) i hi) (by
      intro i hi
      show upd (R 23) j (R 23 (j + 1)) i = 0 ∨ upd (R 23) j (R 23 (j + 1)) i = 1
      exact b01_upd hb2 (hb2 (j + 1) j1) i hi) (by omega) (by omega)
    rw [R7_step R (by omega), ← R7s_chain] at e
    exact e
end ZREFM
