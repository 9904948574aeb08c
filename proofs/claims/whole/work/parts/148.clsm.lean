/-! the class's small methods -/
section ZCLSM
variable {A : Nat} {X : zh_T} {M F I J G K : Nat → Nat → Int32} {w e : Nat → Nat} {N k : Nat}
abbrev flS (k : Nat) : List (Option Nat) := [none, none, none, none, some (k + 1), some (k + 3), none, none, none, none, none, none, none]
theorem shC_S (h : k = 202 ∨ k = 207) : k < 212 ∧ fixd k ∧ shC k = .inl (6, flS k) := by
  rcases h with rfl | rfl
  · exact ⟨by decide, ⟨by decide, by decide⟩, rfl⟩
  · exact ⟨by decide, ⟨by decide, by decide⟩, rfl⟩
theorem shC_R1 (h : k = 202 ∨ k = 207) : zrec shC 212 (k + 1) ∧ fixd (k + 1 + 1) := by
  rcases h with rfl | rfl
  · exact ⟨rec203, fx203⟩
  · exact ⟨rec208, fx208⟩
theorem shC_R3 (h : k = 202 ∨ k = 207) : zrec shC 212 (k + 3) ∧ fixd (k + 3 + 1) := by
  rcases h with rfl | rfl
  · exact ⟨rec205, fx205⟩
  · exact ⟨rec210, fx210⟩
theorem x_gi {j : Nat} (h : k = 202 ∨ k = 207) (hj : (flS k)[j]? = some none) : zgi (zC A X M F I J G K w e) (A + k) 6 j = some (M k j) := C_gi (shC_S h).1 (shC_S h).2.1 (shC_S h).2.2 hj
theorem x_p {j : Nat} {v : Int32} (h : k = 202 ∨ k = 207) (hj : (flS k)[j]? = some none) : zp (zC A X M F I J G K w e) (A + k) 6 j (.int v) = some (zC A X (zu M k (upd (M k) j v)) F I J G K w e) := C_p (shC_S h).1 (shC_S h).2.1 (shC_S h).2.2 hj
theorem x_pz {j : Nat} {v : Int32} (h : k = 202 ∨ k = 207) (hj : (flS k)[j]? = some none) (hv : v = 0 ∨ v = 1) : zpz (zC A X M F I J G K w e) (A + k) 6 j v = some (zC A X (zu M k (upd (M k) j v)) F I J G K w e) := C_pz (shC_S h).1 (shC_S h).2.1 (shC_S h).2.2 hj hv
theorem x_ck (h : k = 202 ∨ k = 207) : zck (zC A X M F I J G K w e) (A + k) 6 = some () := zl_ck (shC_S h).1 (shC_S h).2.2
theorem x_g4 (h : k = 202 ∨ k = 207) : zgr (zC A X M F I J G K w e) (A + k) 6 4 = some (A + (k + 1)) := zl_gr (shC_S h).1 (shC_S h).2.2 rfl
theorem x_g5 (h : k = 202 ∨ k = 207) : zgr (zC A X M F I J G K w e) (A + k) 6 5 = some (A + (k + 3)) := zl_gr (shC_S h).1 (shC_S h).2.2 rfl
def secRest (f : Nat → Int32) (u : Int32) : Nat → Int32 := upd (upd f 9 0) 10 u
def secUp (f : Nat → Int32) (now : Int32) : Nat → Int32 := upd (secRest (upd f 6 1) (now + 1)) 12 (now + f 3)
def secRefr (f : Nat → Int32) (now : Int32) : Nat → Int32 := upd (secRest f (now + f 1)) 12 (now + f 3)
theorem s_rest (h : k = 202 ∨ k = 207) (u : Int32) : f_Secondary_rest N (zC A X M F I J G K w e) (A + k) u = some ((), zC A X (zu M k (secRest (M k) u)) F I J G K w e) := by
  unfold f_Secondary_rest secRest
  rw [x_p h (j := 9) rfl, zb1_some, x_p h (j := 10) rfl, zb1_some, zu_zu, zu_same]
theorem s_comeUp (h : k = 202 ∨ k = 207) (now : Int32) : f_Secondary_comeUp N (zC A X M F I J G K w e) (A + k) now = some ((), zC A X (zu M k (secUp (M k) now)) F I J G K w e) := by
  unfold f_Secondary_comeUp secUp
  rw [x_pz h (j := 6) rfl (Or.inr rfl), zb1_some, x_ck h, zb1_some, s_rest h, zb2_some, x_gi h (j := 3) rfl, zb1_some, x_p h (j := 12) rfl, zb1_some, zu_zu, zu_zu, zu_same, zu_same]
  rfl
theorem s_refreshed (h : k = 202 ∨ k = 207) (now : Int32) : f_Secondary_becomeRefreshed N (zC A X M F I J G K w e) (A + k) now = some ((), zC A X (zu M k (secRefr (M k) now)) F I J G K w e) := by
  unfold f_Secondary_becomeRefreshed secRefr
  rw [x_gi h (j := 1) rfl, zb1_some, x_ck h, zb1_some, s_rest h, zb2_some, x_gi h (j := 3) rfl, zb1_some, x_p h (j := 12) rfl, zb1_some, zu_zu, zu_same]
  rfl
theorem s_expired (h : k = 202 ∨ k = 207) (now : Int32) : f_Secondary_isExpired N (zC A X M F I J G K w e) (A + k) now = some (if now < M k 12 then 0 else 1) := by
  unfold f_Secondary_isExpired
  rw [x_gi h (j := 12) rfl, zb1_some]
  by_cases h1 : now < M k 12
  · rw [if_pos h1, if_pos h1]
  · rw [if_neg h1, if_neg h1]
theorem s_lacks (h : k = 202 ∨ k = 207) (told : Int32) : f_Secondary_lacks N (zC A X M F I J G K w e) (A + k) told = some (if M k 7 = 0 ∨ ¬ told - M k 8 ≤ 0 then 1 else 0) := by
  unfold f_Secondary_lacks f_ZoneNodes_isLater
  rw [x_gi h (j := 7) rfl, zb1_some, x_gi h (j := 8) rfl, zb1_some]
  by_cases h1 : M k 7 = 0
  · rw [if_pos h1, if_pos (Or.inl h1)]
  · rw [if_neg h1]
    by_cases h2 : told - M k 8 ≤ 0
    · rw [if_pos h2, zb1_some, if_pos rfl, if_neg (fun q => q.elim h1 (fun z => z h2))]
    · rw [if_neg h2, zb1_some, if_neg (by decide), if_pos (Or.inr h2)]
theorem s_loseStream (h : k = 202 ∨ k = 207) (now : Int32) : f_Secondary_loseStream N (zC A X M F I J G K w e) (A + k) now = some ((), zC A X (if M k 9 = 2 then zu M k (secRest (M k) (now + M k 2)) else M) F I J G K w e) := by
  unfold f_Secondary_loseStream
  rw [x_gi h (j := 9) rfl, zb1_some]
  by_cases h1 : M k 9 = 2
  · rw [if_pos h1, if_pos h1, x_gi h (j := 2) rfl, zb1_some, x_ck h, zb1_some, s_rest h, zb2_some]
  · rw [if_neg h1, if_neg h1]
theorem s_sendLossy {c : Nat} (hc : M 6 1 = ni c) (hc80 : c ≤ 80) (hw : wperm w 80) (hN : 100 < N) (kd s r : Int32) (hroom : (mlist F I w c).countP (fun m => !onS m) < 24 → c < 80) : f_Wire_sendLossy N (zC A X M F I J G K w e) (A + 6) kd s r =
    some ((), if (mlist F I w c).countP (fun m => !onS m) < 24 then zC A X (zu M 6 (upd (M 6) 1 (ni (c + 1)))) (zu F (w c) (putM (F (w c)) kd s r)) I J G K w e else zC A X M F I J G K w e) := by
  unfold f_Wire_sendLossy
  have hcl : (mlist F I w c).countP (fun m => !onS m) ≤ 80 := Nat.le_trans List.countP_le_length (by rw [mlist_len]; exact hc80)
  rw [ck6, zb1_some, s_countLossy hc hc80 hw hN, zb1_some]
  by_cases h1 : (mlist F I w c).countP (fun m => !onS m) < 24
  · rw [if_neg (show ¬ (24 : Int32) ≤ ni ((mlist F I w c).countP fun m => !onS m) from fun q => absurd ((ni_le (a := 24) (by decide) (b := (mlist F I w c).countP fun m => !onS m) (by omega)).mp q) (by omega)), zb1_some, s_put_w hc (hroom h1) hw, zb2_some, if_pos h1]
  · rw [if_pos (show (24 : Int32) ≤ ni ((mlist F I w c).countP fun m => !onS m) from (ni_le (a := 24) (by decide) (b := (mlist F I w c).countP fun m => !onS m) (by omega)).mpr (by omega)), if_neg h1]
theorem s_sendFetch {c : Nat} (hc : M 6 1 = ni c) (hc80 : c < 80) (hw : wperm w 80) (s hs r : Int32) (h01 : hs = 0 ∨ hs = 1) : f_Wire_sendFetch N (zC A X M F I J G K w e) (A + 6) s hs r =
    some ((), zC A X (zu M 6 (upd (M 6) 1 (ni (c + 1)))) (zu F (w c) (upd (putM (F (w c)) 4 s r) 3 hs)) I J G K w e) := by
  unfold f_Wire_sendFetch
  rw [ck6, zb1_some, s_put_w hc hc80 hw, zb2_some, zbo_some, m_pz (hw.1 c hc80) (j := 3) rfl h01, zb1_some, zu_zu, zu_same]
/-! the draft -/
theorem s_addNeed {c : Nat} (hc : M 3 2 = ni c) (hc4 : c ≤ 4) (x : Int32) : f_Draft_addNeed N (zC A X M F I J G K w e) (A + 3) x = if c < 4 then some (1, zC A X (zu (zu M 4 (upd (M 4) c x)) 3 (upd (M 3) 2 (ni (c + 1)))) F I J G K w e) else some (0, zC A X M F I J G K w e) := by
  unfold f_Draft_addNeed
  rw [cg3_2, zb1_some, hc]
  by_cases h : c < 4
  · rw [if_pos (show ni c < 4 from (ni_lt (a := c) (by omega) (b := 4) (by decide)).mpr h), if_pos h, cr3_0, zb1_some, zb1_some, C_si (k := 4) (len := 4) (by decide) ⟨by decide, by decide⟩ rfl h (by decide), zb1_some, cg3_2, zb1_some, cp3_2, zb1_some, zu_ne _ (by decide : (3 : Nat) ≠ 4), hc, ni_succ]
  · rw [if_neg (show ¬ ni c < 4 from fun q => h ((ni_lt (a := c) (by omega) (b := 4) (by decide)).mp q)), if_neg h]
theorem s_addChange {c : Nat} (hc : M 3 3 = ni c) (hc4 : c ≤ 4) (x : Int32) : f_Draft_addChange N (zC A X M F I J G K w e) (A + 3) x = if c < 4 then some (1, zC A X (zu (zu M 5 (upd (M 5) c x)) 3 (upd (M 3) 3 (ni (c + 1)))) F I J G K w e) else some (0, zC A X M F I J G K w e) := by
  unfold f_Draft_addChange
  rw [cg3_3, zb1_some, hc]
  by_cases h : c < 4
  · rw [if_pos (show ni c < 4 from (ni_lt (a := c) (by omega) (b := 4) (by decide)).mpr h), if_pos h, cr3_1, zb1_some, zb1_some, C_si (k := 5) (len := 4) (by decide) ⟨by decide, by decide⟩ rfl h (by decide), zb1_some, cg3_3, zb1_some, cp3_3, zb1_some, zu_ne _ (by decide : (3 : Nat) ≠ 5), hc, ni_succ]
  · rw [if_neg (show ¬ ni c < 4 from fun q => h ((ni_lt (a := c) (by omega) (b := 4) (by decide)).mp q)), if_neg h]
theorem s_dempty : f_Draft_empty N (zC A X M F I J G K w e) (A + 3) = some ((), zC A X (zu M 3 (upd (upd (M 3) 2 0) 3 0)) F I J G K w e) := by
  unfold f_Draft_empty
  rw [cp3_2, zb1_some, cp3_3, zb1_some, zu_zu, zu_same]
/-- what the seal makes of a number -/
def mixz (h x : Int32) : Int32 := ((h ^^^ x) * 16777619) ^^^ (zi_ushr ((h ^^^ x) * 16777619) 15)
def mixn (mx : Int32 → Int32 → Int32) (g : Nat → Int32) : Nat → Nat → Int32 → Int32
  | _, 0, h => h
  | i, m + 1, h => mixn mx g (i + 1) m (mx h (g i))
theorem s_mixed (Y : zh_T) (h x : Int32) : f_Draft_mixed N Y h x = some (mixz h x) := rfl
theorem s_seal_L1 {c : Nat} (hc : M 3 2 = ni c) (hc4 : c ≤ 4) (t : Int32) : ∀ (m i f : Nat) (h : Int32), i + m = c → m < f → L_Draft_sealWith_12 N (zC A X M F I J G K w e) (A + 3) t f h (ni i) = some (mixn mixz (M 4) i m h) := by
  intro m
  induction m with
  | zero =>
    intro i f h h3 h4
    obtain ⟨g, rfl⟩ : ∃ g, f = g + 1 := ⟨f - 1, by omega⟩
    rw [L_Draft_sealWith_12, cg3_2, zb1_some, hc, if_pos ((zle (i := i) (m := c) (by omega) (by omega)).mpr (by omega)), mixn]
  | succ m ih =>
    intro i f h h3 h4
    obtain ⟨g, rfl⟩ : ∃ g, f = g + 1 := ⟨f - 1, by omega⟩
    rw [L_Draft_sealWith_12, cg3_2, zb1_some, hc, if_neg (fun q => absurd ((zle (i := i) (m := c) (by omega) (by omega)).mp q) (by omega)), cr3_0, zb1_some, C_ai (k := 4) (len := 4) (i := i) (by decide) ⟨by decide, by decide⟩ rfl (by omega) (by decide), zb1_some, s_mixed, zb1_some, ni_succ, ih (i + 1) g _ (by omega) (by omega), mixn]
theorem s_seal_L2 {c : Nat} (hc : M 3 3 = ni c) (hc4 : c ≤ 4) (t : Int32) : ∀ (m i f : Nat) (h : Int32), i + m = c → m < f → L_Draft_sealWith_51 N (zC A X M F I J G K w e) (A + 3) t f h (ni i) = some (mixn mixz (M 5) i m h) := by
  intro m
  induction m with
  | zero =>
    intro i f h h3 h4
    obtain ⟨g, rfl⟩ : ∃ g, f = g + 1 := ⟨f - 1, by omega⟩
    rw [L_Draft_sealWith_51, cg3_3, zb1_some, hc, if_pos ((zle (i := i) (m := c) (by omega) (by omega)).mpr (by omega)), mixn]
  | succ m ih =>
    intro i f h h3 h4
    obtain ⟨g, rfl⟩ : ∃ g, f = g + 1 := ⟨f - 1, by omega⟩
    rw [L_Draft_sealWith_51, cg3_3, zb1_some, hc, if_neg (fun q => absurd ((zle (i := i) (m := c) (by omega) (by omega)).mp q) (by omega)), cr3_1, zb1_some, C_ai (k := 5) (len := 4) (i := i) (by decide) ⟨by decide, by decide⟩ rfl (by omega) (by decide), zb1_some, s_mixed, zb1_some, ni_succ, ih (i + 1) g _ (by omega) (by omega), mixn]
theorem s_sealWith {c d : Nat} (hc : M 3 2 = ni c) (hc4 : c ≤ 4) (hd : M 3 3 = ni d) (hd4 : d ≤ 4) (hN : 100 < N) (x t : Int32) : f_Draft_sealWith N (zC A X M F I J G K w e) (A + 3) x t = some (mixz (mixn mixz (M 5) 0 d (mixz (mixn mixz (M 4) 0 c (mixz x (ni c))) (ni d))) t) := by
  unfold f_Draft_sealWith
  rw [cg3_2, zb1_some, s_mixed, zb1_some, hc, show (0 : Int32) = ni 0 from rfl, s_seal_L1 hc hc4 t c 0 N _ (by omega) (by omega), zb1_some, cg3_3, zb1_some, s_mixed, zb1_some, hd, s_seal_L2 hd hd4 t d 0 N _ (by omega) (by omega), zb1_some, s_mixed, zb1_some]
end ZCLSM
